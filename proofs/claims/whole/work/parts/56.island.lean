/-! the class reads the text: islands are written -/
def isJ (wd : sm_W) (a : Nat) (n b d m p x : Int32) (F : Int64) (l1 l2 l3 : List Int32) : Prop := wd[a]? = some (.inr (.inr (1, [.ref (a + 1), .ref (a + 2), .ref (a + 3), .int n, .int b, .int d, .int m, .int p, .int x, .long F]))) ∧ wd[a + 1]? = some (.inl (0, l1)) ∧ wd[a + 2]? = some (.inl (0, l2)) ∧ wd[a + 3]? = some (.inl (0, l3)) ∧ l1.length = 8 ∧ l2.length = 8 ∧ l3.length = 5
theorem isI.toJ {wd : sm_W} {a : Nat} {I : sm_Is} (h : isI wd a I) (hW : iWF I) : isJ wd a (nI (iN I)) (nI (iB I)) (nI (iBd I)) (nI (iM I)) (nI (iP I)) (nI (iX I)) (lN (iF I)) ((iK I).map nI) ((iC I).map nI) ((iS I).map nI) := ⟨h.1, h.2.1, h.2.2.1, h.2.2.2.1, by rw [List.length_map]; exact hW.1, by rw [List.length_map]; exact hW.2.1, by rw [List.length_map]; exact hW.2.2.1⟩
theorem isJ.toI {wd : sm_W} {a : Nat} {I : sm_Is} (ha : a < 1000) (h : isJ wd a (nI (iN I)) (nI (iB I)) (nI (iBd I)) (nI (iM I)) (nI (iP I)) (nI (iX I)) (lN (iF I)) ((iK I).map nI) ((iC I).map nI) ((iS I).map nI)) : isI wd a I := ⟨h.1, h.2.1, h.2.2.1, h.2.2.2.1, ha⟩
section RJ
variable {xs : List Int32} {d0 j pc : Nat} {L : sm_L} {st : List Value} {wd : sm_W} {Q : Option Value → sm_W → Prop} {a0 b0 c0 : Nat} {a : Nat} {n b d m p x : Int32} {F : Int64} {l1 l2 l3 : List Int32}
theorem R_jst1 {i : Nat} {v : Int32} (h : sm_ic j pc = some (.iastore, a0, b0, c0)) (hJ : isJ wd a n b d m p x F l1 l2 l3) (hi : i < 8) (k : ∀ w2, isJ w2 a n b d m p x F (l1.set i v) l2 l3 → frm a (a + 3) wd w2 → RT xs d0 j (pc + 1) L st w2 Q) : RT xs d0 j pc L (.int v :: .int (nI i) :: .ref (a + 1) :: st) wd Q :=
  R_iastN h hJ.2.1 (by rw [hJ.2.2.2.2.1]; exact hi) (by rw [hJ.2.2.2.2.1]; decide) (k _ ⟨sm_gn (by omega) hJ.1, sm_gs hJ.2.1, sm_gn (by omega) hJ.2.2.1, sm_gn (by omega) hJ.2.2.2.1, by rw [List.length_set]; exact hJ.2.2.2.2.1, hJ.2.2.2.2.2⟩ (frm.rf.st ⟨by omega, by omega⟩))
theorem R_jst2 {i : Nat} {v : Int32} (h : sm_ic j pc = some (.iastore, a0, b0, c0)) (hJ : isJ wd a n b d m p x F l1 l2 l3) (hi : i < 8) (k : ∀ w2, isJ w2 a n b d m p x F l1 (l2.set i v) l3 → frm a (a + 3) wd w2 → RT xs d0 j (pc + 1) L st w2 Q) : RT xs d0 j pc L (.int v :: .int (nI i) :: .ref (a + 2) :: st) wd Q :=
  R_iastN h hJ.2.2.1 (by rw [hJ.2.2.2.2.2.1]; exact hi) (by rw [hJ.2.2.2.2.2.1]; decide) (k _ ⟨sm_gn (by omega) hJ.1, sm_gn (by omega) hJ.2.1, sm_gs hJ.2.2.1, sm_gn (by omega) hJ.2.2.2.1, hJ.2.2.2.2.1, by rw [List.length_set]; exact hJ.2.2.2.2.2.1, hJ.2.2.2.2.2.2⟩ (frm.rf.st ⟨by omega, by omega⟩))
theorem R_jst3 {i : Nat} {v : Int32} (h : sm_ic j pc = some (.iastore, a0, b0, c0)) (hJ : isJ wd a n b d m p x F l1 l2 l3) (hi : i < 5) (k : ∀ w2, isJ w2 a n b d m p x F l1 l2 (l3.set i v) → frm a (a + 3) wd w2 → RT xs d0 j (pc + 1) L st w2 Q) : RT xs d0 j pc L (.int v :: .int (nI i) :: .ref (a + 3) :: st) wd Q :=
  R_iastN h hJ.2.2.2.1 (by rw [hJ.2.2.2.2.2.2]; exact hi) (by rw [hJ.2.2.2.2.2.2]; decide) (k _ ⟨sm_gn (by omega) hJ.1, sm_gn (by omega) hJ.2.1, sm_gn (by omega) hJ.2.2.1, sm_gs hJ.2.2.2.1, hJ.2.2.2.2.1, hJ.2.2.2.2.2.1, by rw [List.length_set]; exact hJ.2.2.2.2.2.2⟩ (frm.rf.st ⟨by omega, by omega⟩))
theorem R_jp_n {i : Nat} {v : Int32} (h : sm_ic j pc = some (.putfield i, 1, 3, c0)) (hJ : isJ wd a n b d m p x F l1 l2 l3) (hn : narrow (sm_ty 1 3) (.int v) = .int v) (hf : fits (sm_ty 1 3) (.int v) = true) (k : ∀ w2, isJ w2 a v b d m p x F l1 l2 l3 → frm a (a + 3) wd w2 → RT xs d0 j (pc + 3) L st w2 Q) : RT xs d0 j pc L (.int v :: .ref a :: st) wd Q :=
  R_putf h hJ.1 (Nat.le_of_ble_eq_true rfl) hn hf (k _ ⟨sm_gs hJ.1, sm_gn (by omega) hJ.2.1, sm_gn (by omega) hJ.2.2.1, sm_gn (by omega) hJ.2.2.2.1, hJ.2.2.2.2⟩ (frm.rf.st ⟨by omega, by omega⟩))
theorem R_jp_b {i : Nat} {v : Int32} (h : sm_ic j pc = some (.putfield i, 1, 4, c0)) (hJ : isJ wd a n b d m p x F l1 l2 l3) (hn : narrow (sm_ty 1 4) (.int v) = .int v) (hf : fits (sm_ty 1 4) (.int v) = true) (k : ∀ w2, isJ w2 a n v d m p x F l1 l2 l3 → frm a (a + 3) wd w2 → RT xs d0 j (pc + 3) L st w2 Q) : RT xs d0 j pc L (.int v :: .ref a :: st) wd Q :=
  R_putf h hJ.1 (Nat.le_of_ble_eq_true rfl) hn hf (k _ ⟨sm_gs hJ.1, sm_gn (by omega) hJ.2.1, sm_gn (by omega) hJ.2.2.1, sm_gn (by omega) hJ.2.2.2.1, hJ.2.2.2.2⟩ (frm.rf.st ⟨by omega, by omega⟩))
theorem R_jp_d {i : Nat} {v : Int32} (h : sm_ic j pc = some (.putfield i, 1, 5, c0)) (hJ : isJ wd a n b d m p x F l1 l2 l3) (hn : narrow (sm_ty 1 5) (.int v) = .int v) (hf : fits (sm_ty 1 5) (.int v) = true) (k : ∀ w2, isJ w2 a n b v m p x F l1 l2 l3 → frm a (a + 3) wd w2 → RT xs d0 j (pc + 3) L st w2 Q) : RT xs d0 j pc L (.int v :: .ref a :: st) wd Q :=
  R_putf h hJ.1 (Nat.le_of_ble_eq_true rfl) hn hf (k _ ⟨sm_gs hJ.1, sm_gn (by omega) hJ.2.1, sm_gn (by omega) hJ.2.2.1, sm_gn (by omega) hJ.2.2.2.1, hJ.2.2.2.2⟩ (frm.rf.st ⟨by omega, by omega⟩))
theorem R_jp_m {i : Nat} {v : Int32} (h : sm_ic j pc = some (.putfield i, 1, 6, c0)) (hJ : isJ wd a n b d m p x F l1 l2 l3) (hn : narrow (sm_ty 1 6) (.int v) = .int v) (hf : fits (sm_ty 1 6) (.int v) = true) (k : ∀ w2, isJ w2 a n b d v p x F l1 l2 l3 → frm a (a + 3) wd w2 → RT xs d0 j (pc + 3) L st w2 Q) : RT xs d0 j pc L (.int v :: .ref a :: st) wd Q :=
  R_putf h hJ.1 (Nat.le_of_ble_eq_true rfl) hn hf (k _ ⟨sm_gs hJ.1, sm_gn (by omega) hJ.2.1, sm_gn (by omega) hJ.2.2.1, sm_gn (by omega) hJ.2.2.2.1, hJ.2.2.2.2⟩ (frm.rf.st ⟨by omega, by omega⟩))
theorem R_jp_p {i : Nat} {v : Int32} (h : sm_ic j pc = some (.putfield i, 1, 7, c0)) (hJ : isJ wd a n b d m p x F l1 l2 l3) (hn : narrow (sm_ty 1 7) (.int v) = .int v) (hf : fits (sm_ty 1 7) (.int v) = true) (k : ∀ w2, isJ w2 a n b d m v x F l1 l2 l3 → frm a (a + 3) wd w2 → RT xs d0 j (pc + 3) L st w2 Q) : RT xs d0 j pc L (.int v :: .ref a :: st) wd Q :=
  R_putf h hJ.1 (Nat.le_of_ble_eq_true rfl) hn hf (k _ ⟨sm_gs hJ.1, sm_gn (by omega) hJ.2.1, sm_gn (by omega) hJ.2.2.1, sm_gn (by omega) hJ.2.2.2.1, hJ.2.2.2.2⟩ (frm.rf.st ⟨by omega, by omega⟩))
theorem R_jp_x {i : Nat} {v : Int32} (h : sm_ic j pc = some (.putfield i, 1, 8, c0)) (hJ : isJ wd a n b d m p x F l1 l2 l3) (hn : narrow (sm_ty 1 8) (.int v) = .int v) (hf : fits (sm_ty 1 8) (.int v) = true) (k : ∀ w2, isJ w2 a n b d m p v F l1 l2 l3 → frm a (a + 3) wd w2 → RT xs d0 j (pc + 3) L st w2 Q) : RT xs d0 j pc L (.int v :: .ref a :: st) wd Q :=
  R_putf h hJ.1 (Nat.le_of_ble_eq_true rfl) hn hf (k _ ⟨sm_gs hJ.1, sm_gn (by omega) hJ.2.1, sm_gn (by omega) hJ.2.2.1, sm_gn (by omega) hJ.2.2.2.1, hJ.2.2.2.2⟩ (frm.rf.st ⟨by omega, by omega⟩))
theorem R_jp_F {i : Nat} {v : Int64} (h : sm_ic j pc = some (.putfield i, 1, 9, c0)) (hJ : isJ wd a n b d m p x F l1 l2 l3) (hn : narrow (sm_ty 1 9) (.long v) = .long v) (hf : fits (sm_ty 1 9) (.long v) = true) (k : ∀ w2, isJ w2 a n b d m p x v l1 l2 l3 → frm a (a + 3) wd w2 → RT xs d0 j (pc + 3) L st w2 Q) : RT xs d0 j pc L (.long v :: .ref a :: st) wd Q :=
  R_putf h hJ.1 (Nat.le_of_ble_eq_true rfl) hn hf (k _ ⟨sm_gs hJ.1, sm_gn (by omega) hJ.2.1, sm_gn (by omega) hJ.2.2.1, sm_gn (by omega) hJ.2.2.2.1, hJ.2.2.2.2⟩ (frm.rf.st ⟨by omega, by omega⟩))
theorem sm_rvJ {j n0 : Nat} {st : List Value} (hk : sm_kd j = 1) (hc : sm_ci j = 1) (hst : st[n0 - 1]? = some (.ref a)) (hJ : isJ wd a n b d m p x F l1 l2 l3) : sm_recv j n0 st wd = true := sm_rv1 hk hst (by rw [hc]; exact hJ.1)
end RJ
def I0 : sm_Is := (List.replicate 8 0, List.replicate 8 0, List.replicate 5 0, (0, 0), (4, 0, 5, 3), 0)
theorem rep_get (n i : Nat) : (List.replicate n 0).getD i 0 = 0 := by
  rw [List.getD_eq_getElem?_getD, List.getElem?_replicate]
  split <;> rfl
theorem I0_wf : iWF I0 := ⟨rfl, rfl, rfl, by decide, by decide, fun i => by show (List.replicate 8 0).getD i 0 < 4; rw [rep_get]; decide, fun i => by show (List.replicate 8 0).getD i 0 ≤ 9; rw [rep_get]; decide, fun i => by show (List.replicate 5 0).getD i 0 ≤ 8; rw [rep_get]; decide, fun i _ => ⟨rep_get 8 i, rep_get 8 i⟩, fun i _ => rep_get 5 i, by decide, by decide, by decide, by decide, by decide⟩
/-- an island's first standing: nothing held, no storm, no ice, nobody beyond the last leans -/
def wfD (I : sm_Is) : Prop := iWF I ∧ (∀ i, iN I ≤ i → i < 8 → sLean (iF I) i = 0) ∧ sHeld (iF I) = 0 ∧ sStorm (iF I) = false ∧ sIce (iF I) = false
theorem spart_0 (p k : Nat) : spart 0 p k = 0 := by unfold spart; rw [Nat.zero_shiftRight, Nat.zero_mod]
theorem I0_wfD : wfD I0 := ⟨I0_wf, fun i _ _ => by show sLean 0 i = 0; unfold sLean; rw [spart_0, spart_0], spart_0 40 5, by unfold sStorm; rw [show iF I0 = 0 from rfl, spart_0]; rfl, by unfold sIce; rw [show iF I0 = 0 from rfl, spart_0]; rfl⟩
def tkIs (I : sm_Is) (k l j c : Nat) : sm_Is := ((iK I).set (iN I) k, (iC I).set (iN I) c, iS I, (iN I + 1, iB I), (iBd I, iM I, iP I, iX I), wMind (wLean (iF I) (iN I) l) (iN I) j)
def tkB (I : sm_Is) (s : Nat) : sm_Is := (iK I, iC I, (iS I).set (iB I) s, (iN I, iB I + 1), (iBd I, iM I, iP I, iX I), iF I)
def tkI (I : sm_Is) (c : Nat) (ns : List Nat) : Option sm_Is :=
  if c = 105 then (if iN I < 8 then some (tkIs I (ns.getD 0 0) (ns.getD 1 0) (ns.getD 2 0) (ns.getD 3 0)) else none)
  else if c = 98 then (if iB I < 5 then some (tkB I (ns.getD 0 0)) else none)
  else if c = 100 then some (iK I, iC I, iS I, (iN I, iB I), (ns.getD 0 0, iM I, iP I, iX I), iF I)
  else if c = 109 then some (iK I, iC I, iS I, (iN I, iB I), (iBd I, ns.getD 0 0, iP I, iX I), iF I)
  else if c = 104 then some (iK I, iC I, iS I, (iN I, iB I), (iBd I, iM I, ns.getD 0 0, iX I), iF I)
  else if c = 115 then some (iK I, iC I, iS I, (iN I, iB I), (iBd I, iM I, iP I, ns.getD 0 0), iF I)
  else none
theorem set_get {l : List Nat} {i v t : Nat} (hi : i < l.length) : (l.set i v).getD t 0 = if t = i then v else l.getD t 0 := by
  rw [List.getD_eq_getElem?_getD, List.getElem?_set]
  by_cases e : i = t
  · subst e; rw [if_pos rfl, if_pos hi, if_pos rfl]; rfl
  · rw [if_neg e, if_neg (Ne.symm e), List.getD_eq_getElem?_getD]
theorem tkIs_wf {I : sm_Is} {k l j c : Nat} (h : wfD I) (hn : iN I < 8) (hk : k < 4) (hl : l < 4) (hj : j < 8) (hc : c ≤ 9) : wfD (tkIs I k l j c) := by
  obtain ⟨⟨hW1, hW2, hW3, hW4, hW5, hW6, hW7, hW8, hW9, hW10, hW11, hW12, hW13, hW14, hW15⟩, h2, h3, h4, h5⟩ := h
  refine ⟨⟨by show ((iK I).set _ _).length = 8; rw [List.length_set]; exact hW1, by show ((iC I).set _ _).length = 8; rw [List.length_set]; exact hW2, hW3, by show iN I + 1 ≤ 8; omega, hW5, fun i => ?_, fun i => ?_, hW8, fun i hi => ⟨?_, ?_⟩, hW10, hW11, hW12, hW13, hW14, wMind_lt (wLean_lt hW15 hn) hn⟩, fun i h6 h7 => ?_, ?_, ?_, ?_⟩
  · show ((iK I).set (iN I) k).getD i 0 < 4
    rw [set_get (by omega)]; split; exact hk; exact hW6 i
  · show ((iC I).set (iN I) c).getD i 0 ≤ 9
    rw [set_get (by omega)]; split; exact hc; exact hW7 i
  · show ((iK I).set (iN I) k).getD i 0 = 0
    have hi2 : iN I + 1 ≤ i := hi
    rw [set_get (by omega), if_neg (by omega)]; exact (hW9 i (by omega)).1
  · show ((iC I).set (iN I) c).getD i 0 = 0
    have hi2 : iN I + 1 ≤ i := hi
    rw [set_get (by omega), if_neg (by omega)]; exact (hW9 i (by omega)).2
  · show sLean (wMind (wLean (iF I) (iN I) l) (iN I) j) i = 0
    have hi2 : iN I + 1 ≤ i := h6
    rw [sLean_wMind hn h7, sLean_wLean hn h7 hl, if_neg (by omega)]
    exact h2 i (by omega) h7
  · show sHeld (wMind (wLean (iF I) (iN I) l) (iN I) j) = 0
    rw [sHeld_wMind hn, sHeld_wLean hn]; exact h3
  · show sStorm (wMind (wLean (iF I) (iN I) l) (iN I) j) = false
    rw [sStorm_wMind hn, sStorm_wLean hn]; exact h4
  · show sIce (wMind (wLean (iF I) (iN I) l) (iN I) j) = false
    rw [sIce_wMind hn, sIce_wLean hn]; exact h5
theorem tkB_wf {I : sm_Is} {s : Nat} (h : wfD I) (hn : iB I < 5) (hs : s ≤ 8) : wfD (tkB I s) := by
  obtain ⟨⟨hW1, hW2, hW3, hW4, hW5, hW6, hW7, hW8, hW9, hW10, hW11, hW12, hW13, hW14, hW15⟩, h2, h3, h4, h5⟩ := h
  refine ⟨⟨hW1, hW2, by show ((iS I).set _ _).length = 5; rw [List.length_set]; exact hW3, hW4, by show iB I + 1 ≤ 5; omega, hW6, hW7, fun i => ?_, hW9, fun i hi => ?_, hW11, hW12, hW13, hW14, hW15⟩, h2, h3, h4, h5⟩
  · show ((iS I).set (iB I) s).getD i 0 ≤ 8
    rw [set_get (by omega)]; split; exact hs; exact hW8 i
  · show ((iS I).set (iB I) s).getD i 0 = 0
    have hi2 : iB I + 1 ≤ i := hi
    rw [set_get (by omega), if_neg (by omega)]; exact hW10 i (by omega)
theorem tkI_wf {I I2 : sm_Is} {c : Nat} {ns : List Nat} (h : wfD I) (hr : ∀ t, t < noN c → lsN c ≤ ns.getD t 0 ∧ ns.getD t 0 ≤ msN c t) (h2 : tkI I c ns = some I2) : wfD I2 := by
  have h' := h
  obtain ⟨⟨hW1, hW2, hW3, hW4, hW5, hW6, hW7, hW8, hW9, hW10, hW11, hW12, hW13, hW14, hW15⟩, h3, h4, h5, h6⟩ := h
  unfold tkI at h2
  split at h2
  · rename_i e; subst e
    split at h2
    · cases h2
      have r0 := hr 0 (by decide)
      have r1 := hr 1 (by decide)
      have r2 := hr 2 (by decide)
      have r3 := hr 3 (by decide)
      have m0 : msN 105 0 = 3 := rfl
      have m1 : msN 105 1 = 3 := rfl
      have m2 : msN 105 2 = 7 := rfl
      have m3 : msN 105 3 = 9 := rfl
      exact tkIs_wf h' (by assumption) (by omega) (by omega) (by omega) (by omega)
    · cases h2
  · split at h2
    · rename_i e; subst e
      split at h2
      · cases h2
        have r0 := hr 0 (by decide)
        have m0 : msN 98 0 = 8 := rfl
        exact tkB_wf h' (by assumption) (by omega)
      · cases h2
    · split at h2
      · rename_i e; subst e
        cases h2
        have r0 := hr 0 (by decide)
        have m0 : msN 100 0 = 9 := rfl
        exact ⟨⟨hW1, hW2, hW3, hW4, hW5, hW6, hW7, hW8, hW9, hW10, by show ns.getD 0 0 ≤ 9; omega, hW12, hW13, hW14, hW15⟩, h3, h4, h5, h6⟩
      · split at h2
        · rename_i e; subst e
          cases h2
          have r0 := hr 0 (by decide)
          have m0 : msN 109 0 = 40 := rfl
          exact ⟨⟨hW1, hW2, hW3, hW4, hW5, hW6, hW7, hW8, hW9, hW10, hW11, by show ns.getD 0 0 ≤ 40; omega, hW13, hW14, hW15⟩, h3, h4, h5, h6⟩
        · split at h2
          · rename_i e; subst e
            cases h2
            have r0 := hr 0 (by decide)
            have m0 : msN 104 0 = 9 := rfl
            have m1 : lsN 104 = 1 := rfl
            exact ⟨⟨hW1, hW2, hW3, hW4, hW5, hW6, hW7, hW8, hW9, hW10, hW11, hW12, by show 1 ≤ ns.getD 0 0 ∧ ns.getD 0 0 ≤ 9; omega, hW14, hW15⟩, h3, h4, h5, h6⟩
          · split at h2
            · rename_i e; subst e
              cases h2
              have r0 := hr 0 (by decide)
              have m0 : msN 115 0 = 10 := rfl
              exact ⟨⟨hW1, hW2, hW3, hW4, hW5, hW6, hW7, hW8, hW9, hW10, hW11, hW12, hW13, by show ns.getD 0 0 ≤ 10; omega, hW15⟩, h3, h4, h5, h6⟩
            · cases h2
theorem rdC_ok {tx : List Nat} {c n : Nat} : ∀ (r k p : Nat) (l : List Nat) (e : Nat), rdC tx c n r k p = some (l, e) → l.length = r ∧ e ≤ p + 3 * r ∧ p + r ≤ e ∧ ∀ t, t < r → lsN c ≤ l.getD t 0 ∧ l.getD t 0 ≤ msN c (k + t)
  | 0, k, p, l, e, h => by
    cases h
    exact ⟨rfl, Nat.le_refl _, Nat.le_refl _, fun t ht => absurd ht (Nat.not_lt_zero t)⟩
  | r + 1, k, p, l, e, h => by
    by_cases hz : fgV tx p = 0 ∨ nmV tx p < lsN c ∨ msN c k < nmV tx p ∨ ltA tx (p + fgV tx p) ≠ (if k + 1 < n then 44 else 59)
    · rw [rdC_n hz] at h; cases h
    · rw [rdC_s hz] at h
      obtain ⟨q, h1, h2⟩ := Option.map_eq_some_iff.mp h
      cases h2
      obtain ⟨h3, h4, h5, h6⟩ := rdC_ok r (k + 1) _ q.1 q.2 h1
      have hfg := fgV_le tx p
      refine ⟨by rw [List.length_cons, h3], by omega, by omega, fun t ht => ?_⟩
      match t, ht with
      | 0, _ =>
        show lsN c ≤ nmV tx p ∧ nmV tx p ≤ msN c (k + 0)
        rw [Nat.add_zero]
        omega
      | t + 1, ht =>
        have h9 := h6 t (Nat.lt_of_succ_lt_succ ht)
        rw [show k + (t + 1) = k + 1 + t by omega]
        exact h9
theorem itC_ok {tx : List Nat} {p : Nat} {l : List Nat} {e : Nat} (h : itC tx p = some (l, e)) : noN (ltA tx p) ≠ 0 ∧ l.length = noN (ltA tx p) ∧ e ≤ p + 13 ∧ p < e ∧ ∀ t, t < noN (ltA tx p) → lsN (ltA tx p) ≤ l.getD t 0 ∧ l.getD t 0 ≤ msN (ltA tx p) t := by
  unfold itC at h
  split at h
  · cases h
  · rename_i h0
    obtain ⟨h3, h4, h5, h6⟩ := rdC_ok _ _ _ _ _ h
    have := noN_le (ltA tx p)
    exact ⟨h0, h3, by omega, by omega, fun t ht => by have h9 := h6 t ht; rw [Nat.zero_add] at h9; exact h9⟩
def rdL (tx : List Nat) : Nat → Nat → sm_Is → Nat × sm_Is
  | 0, _, I => (999, I)
  | k + 1, p, I => if p < tx.length then (match itC tx p with
      | none => (p, I)
      | some q => match tkI I (ltA tx p) q.1 with
        | none => (p, I)
        | some I2 => rdL tx k q.2 I2) else (999, I)
theorem rdL_0 {tx : List Nat} {k p : Nat} {I : sm_Is} (h : tx.length ≤ p) : rdL tx (k + 1) p I = (999, I) := by rw [rdL, if_neg (by omega)]
theorem rdL_1 {tx : List Nat} {k p : Nat} {I : sm_Is} (h : p < tx.length) (h2 : itC tx p = none) : rdL tx (k + 1) p I = (p, I) := by rw [rdL, if_pos h, h2]
theorem rdL_2 {tx : List Nat} {k p : Nat} {I : sm_Is} {l : List Nat} {e : Nat} (h : p < tx.length) (h2 : itC tx p = some (l, e)) (h3 : tkI I (ltA tx p) l = none) : rdL tx (k + 1) p I = (p, I) := by
  rw [rdL, if_pos h, h2]; dsimp only; rw [h3]
theorem rdL_3 {tx : List Nat} {k p : Nat} {I I2 : sm_Is} {l : List Nat} {e : Nat} (h : p < tx.length) (h2 : itC tx p = some (l, e)) (h3 : tkI I (ltA tx p) l = some I2) : rdL tx (k + 1) p I = rdL tx k e I2 := by
  rw [rdL, if_pos h, h2]; dsimp only; rw [h3]
theorem rdL_wf {tx : List Nat} : ∀ (k p : Nat) (I : sm_Is), wfD I → wfD (rdL tx k p I).2
  | 0, _, _, h => h
  | k + 1, p, I, h => by
    by_cases h1 : p < tx.length
    · cases h2 : itC tx p with
      | none => rw [rdL_1 h1 h2]; exact h
      | some q =>
        obtain ⟨l, e⟩ := q
        cases h3 : tkI I (ltA tx p) l with
        | none => rw [rdL_2 h1 h2 h3]; exact h
        | some I2 => rw [rdL_3 h1 h2 h3]; exact rdL_wf k e I2 (tkI_wf h (itC_ok h2).2.2.2.2 h3)
    · rw [rdL_0 (by omega)]; exact h
theorem c_putI5 {xs : List Int32} {d : Nat} {wd : sm_W} {Q : Option Value → sm_W → Prop} {n b dd m p x : Int32} {F : Int64} {l1 l2 l3 : List Int32} (hJ : isJ wd 5 n b dd m p x F l1 l2 l3) {i : Nat} (hi : i < 8) {v1 v2 : Int32} (hQ : ∀ w2, isJ w2 5 n b dd m p x F (l1.set i v1) (l2.set i v2) l3 → frm 5 8 wd w2 → Q none w2) : Ct xs (d) 18 [.ref 5, .int (nI i), .int v1, .int v2] wd Q := by
  unfold Ct
  show RT xs (d) 18 0 [some (.ref 5), some (.int (nI i)), some (.int v1), some (.int v2)] [] wd Q
  refine R_iload_n r_18_0 rfl ?_
  refine R_if_lt_N r_18_1 (by decide) (by omega) ?_
  refine R_iload_n r_18_4 rfl ?_
  refine R_aload_n r_18_5 rfl (by decide) ?_
  refine R_getf r_18_6 (by decide) hJ.1 rfl ?_
  refine R_alenIm r_18_9 ⟨(by decide), (by decide)⟩ hJ.2.1 (m := 8) hJ.2.2.2.2.1 ?_
  refine R_icmp_ge_N r_18_10 (by decide) (by omega) (by omega) (fun h_1 => ?_) (fun h_1 => ?_)
  · refine R_vret r_18_36 rfl ?_
    exfalso; omega
  · refine R_iload_n r_18_13 rfl ?_
    refine R_aload_n r_18_14 rfl (by decide) ?_
    refine R_getf r_18_15 (by decide) hJ.1 rfl ?_
    refine R_alenIm r_18_18 ⟨(by decide), (by decide)⟩ hJ.2.2.1 (m := 8) hJ.2.2.2.2.2.1 ?_
    refine R_icmp_ge_N r_18_19 (by decide) (by omega) (by omega) (fun h_2 => ?_) (fun h_2 => ?_)
    · refine R_vret r_18_36 rfl ?_
      exfalso; omega
    · refine R_aload_n r_18_22 rfl (by decide) ?_
      refine R_getf r_18_23 (by decide) hJ.1 rfl ?_
      refine R_iload_n r_18_26 rfl ?_
      refine R_iload_n r_18_27 rfl ?_
      refine R_jst1 r_18_28 hJ (by omega) (fun w_q_3 hJ_q_3 hf_q_3 => ?_)
      refine R_aload_n r_18_29 rfl (by decide) ?_
      refine R_getf r_18_30 (by decide) hJ_q_3.1 rfl ?_
      refine R_iload_n r_18_33 rfl ?_
      refine R_iload_n r_18_34 rfl ?_
      refine R_jst2 r_18_35 hJ_q_3 (by omega) (fun w_q_4 hJ_q_4 hf_q_4 => ?_)
      refine R_vret r_18_36 rfl ?_
      first | (exfalso; omega) | exact hQ _ hJ_q_4 (frm.tr hf_q_3 hf_q_4)
theorem c_putB5 {xs : List Int32} {d : Nat} {wd : sm_W} {Q : Option Value → sm_W → Prop} {n b dd m p x : Int32} {F : Int64} {l1 l2 l3 : List Int32} (hJ : isJ wd 5 n b dd m p x F l1 l2 l3) {i : Nat} (hi : i < 5) {v1 : Int32} (hQ : ∀ w2, isJ w2 5 n b dd m p x F l1 l2 (l3.set i v1) → frm 5 8 wd w2 → Q none w2) : Ct xs (d) 19 [.ref 5, .int (nI i), .int v1] wd Q := by
  unfold Ct
  show RT xs (d) 19 0 [some (.ref 5), some (.int (nI i)), some (.int v1)] [] wd Q
  refine R_iload_n r_19_0 rfl ?_
  refine R_if_lt_N r_19_1 (by decide) (by omega) ?_
  refine R_iload_n r_19_4 rfl ?_
  refine R_aload_n r_19_5 rfl (by decide) ?_
  refine R_getf r_19_6 (by decide) hJ.1 rfl ?_
  refine R_alenIm r_19_9 ⟨(by decide), (by decide)⟩ hJ.2.2.2.1 (m := 5) hJ.2.2.2.2.2.2 ?_
  refine R_icmp_ge_N r_19_10 (by decide) (by omega) (by omega) (fun h_1 => ?_) (fun h_1 => ?_)
  · refine R_vret r_19_20 rfl ?_
    exfalso; omega
  · refine R_aload_n r_19_13 rfl (by decide) ?_
    refine R_getf r_19_14 (by decide) hJ.1 rfl ?_
    refine R_iload_n r_19_17 rfl ?_
    refine R_iload_n r_19_18 rfl ?_
    refine R_jst3 r_19_19 hJ (by omega) (fun w_q_2 hJ_q_2 hf_q_2 => ?_)
    refine R_vret r_19_20 rfl ?_
    exact hQ _ hJ_q_2 hf_q_2
theorem c_putI9 {xs : List Int32} {d : Nat} {wd : sm_W} {Q : Option Value → sm_W → Prop} {n b dd m p x : Int32} {F : Int64} {l1 l2 l3 : List Int32} (hJ : isJ wd 9 n b dd m p x F l1 l2 l3) {i : Nat} (hi : i < 8) {v1 v2 : Int32} (hQ : ∀ w2, isJ w2 9 n b dd m p x F (l1.set i v1) (l2.set i v2) l3 → frm 9 12 wd w2 → Q none w2) : Ct xs (d) 18 [.ref 9, .int (nI i), .int v1, .int v2] wd Q := by
  unfold Ct
  show RT xs (d) 18 0 [some (.ref 9), some (.int (nI i)), some (.int v1), some (.int v2)] [] wd Q
  refine R_iload_n r_18_0 rfl ?_
  refine R_if_lt_N r_18_1 (by decide) (by omega) ?_
  refine R_iload_n r_18_4 rfl ?_
  refine R_aload_n r_18_5 rfl (by decide) ?_
  refine R_getf r_18_6 (by decide) hJ.1 rfl ?_
  refine R_alenIm r_18_9 ⟨(by decide), (by decide)⟩ hJ.2.1 (m := 8) hJ.2.2.2.2.1 ?_
  refine R_icmp_ge_N r_18_10 (by decide) (by omega) (by omega) (fun h_1 => ?_) (fun h_1 => ?_)
  · refine R_vret r_18_36 rfl ?_
    exfalso; omega
  · refine R_iload_n r_18_13 rfl ?_
    refine R_aload_n r_18_14 rfl (by decide) ?_
    refine R_getf r_18_15 (by decide) hJ.1 rfl ?_
    refine R_alenIm r_18_18 ⟨(by decide), (by decide)⟩ hJ.2.2.1 (m := 8) hJ.2.2.2.2.2.1 ?_
    refine R_icmp_ge_N r_18_19 (by decide) (by omega) (by omega) (fun h_2 => ?_) (fun h_2 => ?_)
    · refine R_vret r_18_36 rfl ?_
      exfalso; omega
    · refine R_aload_n r_18_22 rfl (by decide) ?_
      refine R_getf r_18_23 (by decide) hJ.1 rfl ?_
      refine R_iload_n r_18_26 rfl ?_
      refine R_iload_n r_18_27 rfl ?_
      refine R_jst1 r_18_28 hJ (by omega) (fun w_q_3 hJ_q_3 hf_q_3 => ?_)
      refine R_aload_n r_18_29 rfl (by decide) ?_
      refine R_getf r_18_30 (by decide) hJ_q_3.1 rfl ?_
      refine R_iload_n r_18_33 rfl ?_
      refine R_iload_n r_18_34 rfl ?_
      refine R_jst2 r_18_35 hJ_q_3 (by omega) (fun w_q_4 hJ_q_4 hf_q_4 => ?_)
      refine R_vret r_18_36 rfl ?_
      first | (exfalso; omega) | exact hQ _ hJ_q_4 (frm.tr hf_q_3 hf_q_4)
theorem c_putB9 {xs : List Int32} {d : Nat} {wd : sm_W} {Q : Option Value → sm_W → Prop} {n b dd m p x : Int32} {F : Int64} {l1 l2 l3 : List Int32} (hJ : isJ wd 9 n b dd m p x F l1 l2 l3) {i : Nat} (hi : i < 5) {v1 : Int32} (hQ : ∀ w2, isJ w2 9 n b dd m p x F l1 l2 (l3.set i v1) → frm 9 12 wd w2 → Q none w2) : Ct xs (d) 19 [.ref 9, .int (nI i), .int v1] wd Q := by
  unfold Ct
  show RT xs (d) 19 0 [some (.ref 9), some (.int (nI i)), some (.int v1)] [] wd Q
  refine R_iload_n r_19_0 rfl ?_
  refine R_if_lt_N r_19_1 (by decide) (by omega) ?_
  refine R_iload_n r_19_4 rfl ?_
  refine R_aload_n r_19_5 rfl (by decide) ?_
  refine R_getf r_19_6 (by decide) hJ.1 rfl ?_
  refine R_alenIm r_19_9 ⟨(by decide), (by decide)⟩ hJ.2.2.2.1 (m := 5) hJ.2.2.2.2.2.2 ?_
  refine R_icmp_ge_N r_19_10 (by decide) (by omega) (by omega) (fun h_1 => ?_) (fun h_1 => ?_)
  · refine R_vret r_19_20 rfl ?_
    exfalso; omega
  · refine R_aload_n r_19_13 rfl (by decide) ?_
    refine R_getf r_19_14 (by decide) hJ.1 rfl ?_
    refine R_iload_n r_19_17 rfl ?_
    refine R_iload_n r_19_18 rfl ?_
    refine R_jst3 r_19_19 hJ (by omega) (fun w_q_2 hJ_q_2 hf_q_2 => ?_)
    refine R_vret r_19_20 rfl ?_
    exact hQ _ hJ_q_2 hf_q_2
