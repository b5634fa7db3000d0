/-! the model's cells, and how they tell the same state -/
def mO (ln um km sn sp : Int32) : sm_E := .inr (.inr (7, [.int ln, .ref 23, .ref 24, .ref 25, .ref 26, .ref 27, .ref 28, .ref 29, .ref 30, .ref 31, .ref 32, .ref 33, .int um, .ref 34, .int km, .int sn, .ref 35, .ref 36, .int sp, .ref 37, .ref 38, .ref 39, .ref 40]))
def mC (wd : sm_W) (ln um km sn sp : Int32) (f : Nat → List Int32) : Prop := wd[22]? = some (mO ln um km sn sp) ∧ ∀ k, 23 ≤ k → k ≤ 40 → wd[k]? = some (.inl (0, f k))
def fu (f : Nat → List Int32) (k : Nat) (l : List Int32) : Nat → List Int32 := fun j => if j = k then l else f j
theorem fu_s (f : Nat → List Int32) (k : Nat) (l : List Int32) : fu f k l k = l := if_pos rfl
theorem fu_n {f : Nat → List Int32} {k j : Nat} {l : List Int32} (h : j ≠ k) : fu f k l j = f j := if_neg h
section MC
variable {wd w2 : sm_W} {ln um km sn sp : Int32} {f : Nat → List Int32}
theorem mC.st {k : Nat} {l : List Int32} (h : mC wd ln um km sn sp f) (h1 : 23 ≤ k) (h2 : k ≤ 40) : mC (wd.set k (.inl (0, l))) ln um km sn sp (fu f k l) := by
  refine ⟨sm_gn (by omega) h.1, fun i hi hj => ?_⟩
  by_cases e : i = k
  · subst e
    rw [fu_s]
    exact sm_gs (h.2 i h1 h2)
  · rw [fu_n e]
    exact sm_gn (Ne.symm e) (h.2 i hi hj)
theorem mC.ob {ln2 um2 km2 sn2 sp2 : Int32} (h : mC wd ln um km sn sp f) : mC (wd.set 22 (mO ln2 um2 km2 sn2 sp2)) ln2 um2 km2 sn2 sp2 f :=
  ⟨sm_gs h.1, fun i hi hj => sm_gn (by omega) (h.2 i hi hj)⟩
theorem mC.of (h : mC wd ln um km sn sp f) (h1 : ∀ k, 22 ≤ k → k ≤ 40 → w2[k]? = wd[k]?) : mC w2 ln um km sn sp f :=
  ⟨(h1 22 (by omega) (by omega)).trans h.1, fun i hi hj => (h1 i (by omega) hj).trans (h.2 i hi hj)⟩
end MC
/-- a row of what can change tells the standing w -/
def rowR (I : sm_Is) (w : Nat) (g : Nat → Option Int32) : Prop := (∀ i, i < iN I → g i = some (nI (sLean w i)) ∧ g (8 + i) = some (nI (sMind w i))) ∧ (∀ b, b < 5 → g (16 + b) = some (b2i ((sHeld w).testBit b))) ∧ g 21 = some (b2i (sStorm w)) ∧ g 22 = some (b2i (sIce w))
theorem rowR.cg {I : sm_Is} {w : Nat} {g g2 : Nat → Option Int32} (hn : iN I ≤ 8) (h : rowR I w g) (h2 : ∀ k, k < 24 → g2 k = g k) : rowR I w g2 :=
  ⟨fun i hi => ⟨(h2 i (by omega)).trans (h.1 i hi).1, (h2 _ (by omega)).trans (h.1 i hi).2⟩, fun b hb => (h2 _ (by omega)).trans (h.2.1 b hb), (h2 21 (by omega)).trans h.2.2.1, (h2 22 (by omega)).trans h.2.2.2⟩
/-- the laid island and the standing now -/
def mR (I : sm_Is) (w : Nat) (f : Nat → List Int32) : Prop := ((f 24)[0]? = some (nI (iN I)) ∧ (f 29)[0]? = some (nI (iB I)) ∧ (∀ i, i < iN I → (f 25)[i]? = some (nI ((iK I).getD i 0)) ∧ (f 28)[i]? = some (nI ((iC I).getD i 0))) ∧ (∀ b, b < iB I → (f 30)[b]? = some (nI ((iS I).getD b 0))) ∧ (f 31)[0]? = some (nI (iBd I)) ∧ (f 31)[1]? = some (nI (iM I)) ∧ (f 31)[2]? = some (nI (iP I)) ∧ (f 31)[3]? = some (nI (iX I))) ∧ rowR I w (fun k => (f 32)[k]?)
/-- the rows' lengths -/
def lenM (k : Nat) : Nat := [200, 2, 16, 16, 16, 16, 2, 10, 8, 24, 192, 48, 8, 8, 4, 8, 5, 5].getD (k - 23) 0
def mL (f : Nat → List Int32) : Prop := ∀ k, 23 ≤ k → k ≤ 40 → (f k).length = lenM k
theorem mL.up {f : Nat → List Int32} {k : Nat} {l : List Int32} (h : mL f) (hl : l.length = (f k).length) : mL (fu f k l) := fun j h1 h2 => by
  by_cases e : j = k
  · subst e; rw [fu_s, hl]; exact h j h1 h2
  · rw [fu_n e]; exact h j h1 h2
theorem mL.st {f : Nat → List Int32} {k i : Nat} {x : Int32} (h : mL f) : mL (fu f k ((f k).set i x)) := h.up (by rw [List.length_set])
def smk (k : Nat) : Bool := k == 23 || k == 26 || k == 27 || decide (33 ≤ k)
theorem mR.up {I : sm_Is} {w k : Nat} {f : Nat → List Int32} {l : List Int32} (h : mR I w f) (hk : smk k = true) : mR I w (fu f k l) := by
  have e : ∀ j, (j = 24 ∨ j = 25 ∨ j = 28 ∨ j = 29 ∨ j = 30 ∨ j = 31 ∨ j = 32) → fu f k l j = f j := fun j hj => fu_n (by
    rintro rfl
    rcases hj with rfl | rfl | rfl | rfl | rfl | rfl | rfl <;> simp [smk] at hk)
  unfold mR
  rw [e 24 (by omega), e 25 (by omega), e 28 (by omega), e 29 (by omega), e 30 (by omega), e 31 (by omega), e 32 (by omega)]
  exact h
theorem sm_ixG {l : List Int32} {i : Nat} {x : Int32} (h : l[i]? = some x) (h2 : i < 2147483648) : sm_ix l (nI i) = some x := by
  rw [sm_ixN h2]; exact h
section RM
variable {xs : List Int32} {d j pc : Nat} {L : sm_L} {st : List Value} {wd : sm_W} {Q : Option Value → sm_W → Prop} {a b c : Nat} {ln um km sn sp : Int32} {f : Nat → List Int32}
theorem R_mst {k0 i : Nat} {x : Int32} (h : sm_ic j pc = some (.iastore, a, b, c)) (hC : mC wd ln um km sn sp f) (hL : mL f) (h1 : 23 ≤ k0) (h2 : k0 ≤ 40) (hi : i < lenM k0) (hl : lenM k0 < 2147483648) (k : ∀ w2 f2, mC w2 ln um km sn sp f2 → mL f2 → f2 = fu f k0 ((f k0).set i x) → frm 22 40 wd w2 → RT xs d j (pc + 1) L st w2 Q) : RT xs d j pc L (.int x :: .int (nI i) :: .ref k0 :: st) wd Q :=
  R_iastN h (hC.2 k0 h1 h2) (by rw [hL k0 h1 h2]; exact hi) (by rw [hL k0 h1 h2]; exact hl) (k _ _ (hC.st h1 h2) hL.st rfl (frm.rf.st ⟨by omega, h2⟩))
theorem sm_rvM {j n : Nat} {st : List Value} (hk : sm_kd j = 1) (hc : sm_ci j = 7) (hst : st[n - 1]? = some (.ref 22)) (hC : mC wd ln um km sn sp f) : sm_recv j n st wd = true := sm_rv1 hk hst (by rw [hc]; exact hC.1)
theorem R_mp_ln {i : Nat} {x : Int32} (h : sm_ic j pc = some (.putfield i, 7, 0, c)) (hC : mC wd ln um km sn sp f) (hn : narrow (sm_ty 7 0) (.int x) = .int x) (hf : fits (sm_ty 7 0) (.int x) = true) (k : ∀ w2, mC w2 x um km sn sp f → frm 22 40 wd w2 → RT xs d j (pc + 3) L st w2 Q) : RT xs d j pc L (.int x :: .ref 22 :: st) wd Q :=
  R_putf h hC.1 (Nat.le_of_ble_eq_true rfl) hn hf (k _ (hC.ob (ln2 := x) (um2 := um) (km2 := km) (sn2 := sn) (sp2 := sp)) (frm.rf.st (by decide)))
theorem R_mp_um {i : Nat} {x : Int32} (h : sm_ic j pc = some (.putfield i, 7, 12, c)) (hC : mC wd ln um km sn sp f) (hn : narrow (sm_ty 7 12) (.int x) = .int x) (hf : fits (sm_ty 7 12) (.int x) = true) (k : ∀ w2, mC w2 ln x km sn sp f → frm 22 40 wd w2 → RT xs d j (pc + 3) L st w2 Q) : RT xs d j pc L (.int x :: .ref 22 :: st) wd Q :=
  R_putf h hC.1 (Nat.le_of_ble_eq_true rfl) hn hf (k _ (hC.ob (ln2 := ln) (um2 := x) (km2 := km) (sn2 := sn) (sp2 := sp)) (frm.rf.st (by decide)))
theorem R_mp_km {i : Nat} {x : Int32} (h : sm_ic j pc = some (.putfield i, 7, 14, c)) (hC : mC wd ln um km sn sp f) (hn : narrow (sm_ty 7 14) (.int x) = .int x) (hf : fits (sm_ty 7 14) (.int x) = true) (k : ∀ w2, mC w2 ln um x sn sp f → frm 22 40 wd w2 → RT xs d j (pc + 3) L st w2 Q) : RT xs d j pc L (.int x :: .ref 22 :: st) wd Q :=
  R_putf h hC.1 (Nat.le_of_ble_eq_true rfl) hn hf (k _ (hC.ob (ln2 := ln) (um2 := um) (km2 := x) (sn2 := sn) (sp2 := sp)) (frm.rf.st (by decide)))
theorem R_mp_sn {i : Nat} {x : Int32} (h : sm_ic j pc = some (.putfield i, 7, 15, c)) (hC : mC wd ln um km sn sp f) (hn : narrow (sm_ty 7 15) (.int x) = .int x) (hf : fits (sm_ty 7 15) (.int x) = true) (k : ∀ w2, mC w2 ln um km x sp f → frm 22 40 wd w2 → RT xs d j (pc + 3) L st w2 Q) : RT xs d j pc L (.int x :: .ref 22 :: st) wd Q :=
  R_putf h hC.1 (Nat.le_of_ble_eq_true rfl) hn hf (k _ (hC.ob (ln2 := ln) (um2 := um) (km2 := km) (sn2 := x) (sp2 := sp)) (frm.rf.st (by decide)))
theorem R_mp_sp {i : Nat} {x : Int32} (h : sm_ic j pc = some (.putfield i, 7, 18, c)) (hC : mC wd ln um km sn sp f) (hn : narrow (sm_ty 7 18) (.int x) = .int x) (hf : fits (sm_ty 7 18) (.int x) = true) (k : ∀ w2, mC w2 ln um km sn x f → frm 22 40 wd w2 → RT xs d j (pc + 3) L st w2 Q) : RT xs d j pc L (.int x :: .ref 22 :: st) wd Q :=
  R_putf h hC.1 (Nat.le_of_ble_eq_true rfl) hn hf (k _ (hC.ob (ln2 := ln) (um2 := um) (km2 := km) (sn2 := sn) (sp2 := x)) (frm.rf.st (by decide)))
section MRD
variable {I : sm_Is} {w : Nat}
theorem mR.rI (h : mR I w f) : sm_ix (f 24) (nI 0) = some (nI (iN I)) := sm_ixG h.1.1 (by decide)
theorem mR.rB (h : mR I w f) : sm_ix (f 29) (nI 0) = some (nI (iB I)) := sm_ixG h.1.2.1 (by decide)
theorem mR.rK (h : mR I w f) {i : Nat} (hi : i < iN I) (h8 : iN I ≤ 8) : sm_ix (f 25) (nI i) = some (nI ((iK I).getD i 0)) := sm_ixG (h.1.2.2.1 i hi).1 (by omega)
theorem mR.rC (h : mR I w f) {i : Nat} (hi : i < iN I) (h8 : iN I ≤ 8) : sm_ix (f 28) (nI i) = some (nI ((iC I).getD i 0)) := sm_ixG (h.1.2.2.1 i hi).2 (by omega)
theorem mR.rS (h : mR I w f) {i : Nat} (hi : i < iB I) (h8 : iB I ≤ 5) : sm_ix (f 30) (nI i) = some (nI ((iS I).getD i 0)) := sm_ixG (h.1.2.2.2.1 i hi) (by omega)
theorem mR.l0 (h : mR I w f) : sm_ix (f 31) (nI 0) = some (nI (iBd I)) := sm_ixG h.1.2.2.2.2.1 (by decide)
theorem mR.l1 (h : mR I w f) : sm_ix (f 31) (nI 1) = some (nI (iM I)) := sm_ixG h.1.2.2.2.2.2.1 (by decide)
theorem mR.l2 (h : mR I w f) : sm_ix (f 31) (nI 2) = some (nI (iP I)) := sm_ixG h.1.2.2.2.2.2.2.1 (by decide)
theorem mR.l3 (h : mR I w f) : sm_ix (f 31) (nI 3) = some (nI (iX I)) := sm_ixG h.1.2.2.2.2.2.2.2 (by decide)
theorem mR.nl (h : mR I w f) {i : Nat} (hi : i < iN I) (h8 : iN I ≤ 8) : sm_ix (f 32) (nI i) = some (nI (sLean w i)) := sm_ixG (h.2.1 i hi).1 (by omega)
theorem mR.nm (h : mR I w f) {i : Nat} (hi : i < iN I) (h8 : iN I ≤ 8) : sm_ix (f 32) (nI (8 + i)) = some (nI (sMind w i)) := sm_ixG (h.2.1 i hi).2 (by omega)
theorem mR.nh (h : mR I w f) {b : Nat} (hb : b < 5) : sm_ix (f 32) (nI (16 + b)) = some (b2i ((sHeld w).testBit b)) := sm_ixG (h.2.2.1 b hb) (by omega)
theorem mR.ns (h : mR I w f) : sm_ix (f 32) (nI 21) = some (b2i (sStorm w)) := sm_ixG h.2.2.2.1 (by decide)
theorem mR.ni (h : mR I w f) : sm_ix (f 32) (nI 22) = some (b2i (sIce w)) := sm_ixG h.2.2.2.2 (by decide)
end MRD
end RM
/-- such standings as calls can make: everyone goes by an islander, nobody but islanders leans, no boat held but those there -/
def wfW (I : sm_Is) (w : Nat) : Prop := w < 18446744073709551616 ∧ (∀ i, i < iN I → sMind w i < iN I) ∧ (∀ i, iN I ≤ i → i < 8 → sLean w i = 0) ∧ sHeld w < 2 ^ iB I

