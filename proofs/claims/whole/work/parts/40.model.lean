/-! the model's cells, and how they tell the same state -/
def mO (ln um km sn sp : Int32) : sm_E := .inr (.inr (7, [.int ln, .ref 23, .ref 24, .ref 25, .ref 26, .ref 27, .ref 28, .ref 29, .ref 30, .ref 31, .ref 32, .ref 33, .int um, .ref 34, .int km, .int sn, .ref 35, .ref 36, .int sp, .ref 37, .ref 38, .ref 39, .ref 40]))
def mC (wd : sm_W) (ln um km sn sp : Int32) (f : Nat → List Int32) : Prop := wd[22]? = some (mO ln um km sn sp) ∧ ∀ k, 23 ≤ k → k ≤ 40 → wd[k]? = some (.inl (0, f k))
def fu (f : Nat → List Int32) (k : Nat) (l : List Int32) : Nat → List Int32 := fun j => if j = k then l else f j
theorem fu_s (f : Nat → List Int32) (k : Nat) (l : List Int32) : fu f k l k = l := if_pos rfl
theorem fu_n {f : Nat → List Int32} {k j : Nat} {l : List Int32} (h : j ≠ k) : fu f k l j = f j := if_neg h
section MC
variable {wd w2 : sm_W} {ln um km sn sp : Int32} {f : Nat → List Int32}
theorem mC.st {k : Nat} {l : List Int32} (h : mC wd ln um km sn sp f) (h1 : 23 ≤ k) (h2 : k ≤ 40) : mC (wd.set k (.inl (0, l))) ln um km sn sp (fu f k l) := by
  refine ⟨sm_gn (by omega) h.1, fun i hi hj => ?_⟩
  by_cases e : i = k
  · subst e
    rw [fu_s]
    exact sm_gs (h.2 i h1 h2)
  · rw [fu_n e]
    exact sm_gn (Ne.symm e) (h.2 i hi hj)
theorem mC.ob {ln2 um2 km2 sn2 sp2 : Int32} (h : mC wd ln um km sn sp f) : mC (wd.set 22 (mO ln2 um2 km2 sn2 sp2)) ln2 um2 km2 sn2 sp2 f :=
  ⟨sm_gs h.1, fun i hi hj => sm_gn (by omega) (h.2 i hi hj)⟩
theorem mC.of (h : mC wd ln um km sn sp f) (h1 : ∀ k, 22 ≤ k → k ≤ 40 → w2[k]? = wd[k]?) : mC w2 ln um km sn sp f :=
  ⟨(h1 22 (by omega) (by omega)).trans h.1, fun i hi hj => (h1 i (by omega) hj).trans (h.2 i hi hj)⟩
end MC
/-- a row of what can change tells the standing w -/
def rowR (I : sm_Is) (w : Nat) (g : Nat → Option Int32) : Prop := (∀ i, i < iN I → g i = some (nI (sLean w i)) ∧ g (8 + i) = some (nI (sMind w i))) ∧ (∀ b, b < 5 → g (16 + b) = some (b2i ((sHeld w).testBit b))) ∧ g 21 = some (b2i (sStorm w)) ∧ g 22 = some (b2i (sIce w))
theorem rowR.cg {I : sm_Is} {w : Nat} {g g2 : Nat → Option Int32} (hn : iN I ≤ 8) (h : rowR I w g) (h2 : ∀ k, k < 24 → g2 k = g k) : rowR I w g2 :=
  ⟨fun i hi => ⟨(h2 i (by omega)).trans (h.1 i hi).1, (h2 _ (by omega)).trans (h.1 i hi).2⟩, fun b hb => (h2 _ (by omega)).trans (h.2.1 b hb), (h2 21 (by omega)).trans h.2.2.1, (h2 22 (by omega)).trans h.2.2.2⟩
/-- the laid island and the standing now -/
def mR (I : sm_Is) (w : Nat) (f : Nat → List Int32) : Prop := ((f 24)[0]? = some (nI (iN I)) ∧ (f 29)[0]? = some (nI (iB I)) ∧ (∀ i, i < iN I → (f 25)[i]? = some (nI ((iK I).getD i 0)) ∧ (f 28)[i]? = some (nI ((iC I).getD i 0))) ∧ (∀ b, b < iB I → (f 30)[b]? = some (nI ((iS I).getD b 0))) ∧ (f 31)[0]? = some (nI (iBd I)) ∧ (f 31)[1]? = some (nI (iM I)) ∧ (f 31)[2]? = some (nI (iP I)) ∧ (f 31)[3]? = some (nI (iX I))) ∧ rowR I w (fun k => (f 32)[k]?)
/-- the rows' lengths -/
def mL (f : Nat → List Int32) : Prop := (f 23).length = 200 ∧ (f 24).length = 2 ∧ (f 25).length = 16 ∧ (f 26).length = 16 ∧ (f 27).length = 16 ∧ (f 28).length = 16 ∧ (f 29).length = 2 ∧ (f 30).length = 10 ∧ (f 31).length = 8 ∧ (f 32).length = 24 ∧ (f 33).length = 192 ∧ (f 34).length = 48 ∧ (f 35).length = 8 ∧ (f 36).length = 8 ∧ (f 37).length = 4 ∧ (f 38).length = 8 ∧ (f 39).length = 5 ∧ (f 40).length = 5
theorem mL.up {f : Nat → List Int32} {k : Nat} {l : List Int32} (h : mL f) (hl : l.length = (f k).length) : mL (fu f k l) := by
  have h1 : ∀ j, (fu f k l j).length = (f j).length := fun j => by
    by_cases e : j = k
    · subst e; rw [fu_s]; exact hl
    · rw [fu_n e]
  unfold mL
  simp only [h1]
  exact h
theorem mL.st {f : Nat → List Int32} {k i : Nat} {x : Int32} (h : mL f) : mL (fu f k ((f k).set i x)) := h.up (by rw [List.length_set])
theorem sm_ixG {l : List Int32} {i : Nat} {x : Int32} (h : l[i]? = some x) (h2 : i < 2147483648) : sm_ix l (nI i) = some x := by
  rw [sm_ixN h2]; exact h
