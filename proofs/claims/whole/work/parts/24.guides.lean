/-! whom one goes by in the end: the class's walk -/
def crF (kd mn : Nat → Nat) (i : Nat) : Nat → Nat → Bool
  | 0, _ => false
  | k + 1, t => if mn t = i then true else if kd (mn t) = 2 then crF kd mn i k (mn t) else false
def gdF (kd mn : Nat → Nat) : Nat → Nat → Nat
  | 0, t => t
  | k + 1, t => if kd t ≠ 2 then t else if crF kd mn t 8 t = true then t else gdF kd mn k (mn t)
theorem crF_t {kd mn : Nat → Nat} {i k t : Nat} (h : mn t = i) : crF kd mn i (k + 1) t = true := by unfold crF; rw [if_pos h]
theorem crF_f {kd mn : Nat → Nat} {i k t : Nat} (h : mn t ≠ i) (h2 : kd (mn t) ≠ 2) : crF kd mn i (k + 1) t = false := by unfold crF; rw [if_neg h, if_neg h2]
theorem crF_s {kd mn : Nat → Nat} {i k t : Nat} (h : mn t ≠ i) (h2 : kd (mn t) = 2) : crF kd mn i (k + 1) t = crF kd mn i k (mn t) := by rw [crF, if_neg h, if_pos h2]
theorem gdF_1 {kd mn : Nat → Nat} {k t : Nat} (h : kd t ≠ 2) : gdF kd mn (k + 1) t = t := by unfold gdF; rw [if_pos h]
theorem gdF_2 {kd mn : Nat → Nat} {k t : Nat} (h : kd t = 2) (h2 : crF kd mn t 8 t = true) : gdF kd mn (k + 1) t = t := by rw [gdF, if_neg (by omega), if_pos h2]
theorem gdF_3 {kd mn : Nat → Nat} {k t : Nat} (h : kd t = 2) (h2 : crF kd mn t 8 t = false) : gdF kd mn (k + 1) t = gdF kd mn k (mn t) := by rw [gdF, if_neg (by omega), if_neg (by rw [h2]; decide)]
abbrev iKd (I : sm_Is) : Nat → Nat := fun i => (iK I).getD i 0
theorem sMind_lt (n i : Nat) : sMind n i < 8 := spart_lt n _ 3
theorem gdF_lt {kd mn : Nat → Nat} (hm : ∀ i, mn i < 8) : ∀ k t, t < 8 → gdF kd mn k t < 8
  | 0, t, h => h
  | k + 1, t, h => by
    unfold gdF
    split
    · exact h
    · split
      · exact h
      · exact gdF_lt hm k _ (hm t)
theorem lp_comesRound {xs : List Int32} {d : Nat} {wd : sm_W} {Q : Option Value → sm_W → Prop} {a : Nat} {I : sm_Is} (hI : isI wd a I) (hW : iWF I) {w : Nat} (hw : w < 18446744073709551616) {i : Nat} (hi : i < 8) : ∀ (k : Nat) (t0 st0 : Nat), (st0 + k = 8) → (t0 < 8) → (Q (some (.int (b2i (crF (iKd I) (sMind w) i k t0)))) wd) → RT xs (d + 2) 66 6 [some (.ref a), some (.long (lN w)), none, some (.int (nI i)), some (.int (nI t0)), some (.int (nI st0))] [] wd Q := by
  intro k
  induction k with
  | zero =>
    intro t0 st0 hk ht hq
    obtain ⟨hI1, hI2, hI3, hI4, ha⟩ := id hI
    obtain ⟨hW1, hW2, hW3, hW4, hW5, hW6, hW7, hW8, hW9, hW10, hW11, hW12, hW13, hW14, hW15⟩ := id hW
    refine R_iload r_66_6 rfl ?_
    refine R_bipush r_66_8 (v := nI 8) rfl ?_
    refine R_icmp_ge_N r_66_10 (by decide) (by omega) (by omega) (fun h_1 => ?_) (fun h_1 => ?_)
    · refine R_iconst r_66_47 (v := nI 0) rfl ?_
      refine R_iret r_66_48 (ty := .boolean) rfl (by decide) (by decide) ?_
      exact hq
    · exfalso; omega
  | succ k ih =>
    intro t0 st0 hk ht hq
    obtain ⟨hI1, hI2, hI3, hI4, ha⟩ := id hI
    obtain ⟨hW1, hW2, hW3, hW4, hW5, hW6, hW7, hW8, hW9, hW10, hW11, hW12, hW13, hW14, hW15⟩ := id hW
    have hkk := hW6 (sMind w t0)
    have hmm := sMind_lt w t0
    refine R_iload r_66_6 rfl ?_
    refine R_bipush r_66_8 (v := nI 8) rfl ?_
    refine R_icmp_ge_N r_66_10 (by decide) (by omega) (by omega) (fun h_1 => ?_) (fun h_1 => ?_)
    · exfalso; omega
    · refine R_lload_n r_66_13 rfl ?_
      refine R_iload r_66_14 rfl ?_
      refine R_call2 r_66_16 rfl rfl (Nat.le_of_ble_eq_true rfl) (Nat.le_of_ble_eq_true rfl) ?_
      refine c_minded hw (by omega) ?_
      refine R_istore r_66_19 rfl ?_
      refine R_iload r_66_21 rfl ?_
      refine R_iload_n r_66_23 rfl ?_
      refine R_icmp_ne_N r_66_24 (by decide) (by omega) (by omega) (fun h_2 => ?_) (fun h_2 => ?_)
      · refine R_aload_n r_66_29 rfl (by omega) ?_
        refine R_iload r_66_30 rfl ?_
        refine R_call2 r_66_32 rfl (sm_rv1 rfl rfl hI.1) (Nat.le_of_ble_eq_true rfl) (Nat.le_of_ble_eq_true rfl) ?_
        refine c_kind hI hW (by have := sMind_lt w t0; omega) ?_
        refine R_iconst r_66_35 (v := nI 2) rfl ?_
        refine R_icmp_eq_N r_66_36 (by decide) (by omega) (by omega) (fun h_3 => ?_) (fun h_3 => ?_)
        · refine R_iinc1 r_66_41 rfl rfl ?_
          refine R_goto r_66_44 (by decide) ?_
          rw [crF_s (by assumption) (by assumption)] at hq
          exact ih _ (st0 + 1) (by omega) (sMind_lt w _) hq
        · refine R_iconst r_66_39 (v := nI 0) rfl ?_
          refine R_iret r_66_40 (ty := .boolean) rfl (by decide) (by decide) ?_
          rw [crF_f (by assumption) (by assumption)] at hq
          exact hq
      · refine R_iconst r_66_27 (v := nI 1) rfl ?_
        refine R_iret r_66_28 (ty := .boolean) rfl (by decide) (by decide) ?_
        rw [crF_t (by assumption)] at hq
        exact hq
theorem c_comesRound {xs : List Int32} {d : Nat} {wd : sm_W} {Q : Option Value → sm_W → Prop} {a : Nat} {I : sm_Is} (hI : isI wd a I) (hW : iWF I) {w : Nat} (hw : w < 18446744073709551616) {i : Nat} (hi : i < 8) (hQ : Q (some (.int (b2i (crF (iKd I) (sMind w) i 8 i)))) wd) : Ct xs (d + 2) 66 [.ref a, .long (lN w), .int (nI i)] wd Q := by
  unfold Ct
  show RT xs (d + 2) 66 0 [some (.ref a), some (.long (lN w)), none, some (.int (nI i)), none, none] [] wd Q
  refine R_iload_n r_66_0 rfl ?_
  refine R_istore r_66_1 rfl ?_
  refine R_iconst r_66_3 (v := nI 0) rfl ?_
  refine R_istore r_66_4 rfl ?_
  exact lp_comesRound hI hW hw hi 8 i 0 (by omega) hi hQ
theorem lp_guideOf {xs : List Int32} {d : Nat} {wd : sm_W} {Q : Option Value → sm_W → Prop} {i : Nat} {a : Nat} {I : sm_Is} (hI : isI wd a I) (hW : iWF I) {w : Nat} (hw : w < 18446744073709551616) : ∀ (k : Nat) (t0 st0 : Nat), (st0 + k = 8) → (t0 < 8) → (Q (some (.int (nI (gdF (iKd I) (sMind w) k t0)))) wd) → RT xs (d + 3) 65 6 [some (.ref a), some (.long (lN w)), none, some (.int (nI i)), some (.int (nI t0)), some (.int (nI st0))] [] wd Q := by
  intro k
  induction k with
  | zero =>
    intro t0 st0 hk ht hq
    obtain ⟨hI1, hI2, hI3, hI4, ha⟩ := id hI
    obtain ⟨hW1, hW2, hW3, hW4, hW5, hW6, hW7, hW8, hW9, hW10, hW11, hW12, hW13, hW14, hW15⟩ := id hW
    refine R_iload r_65_6 rfl ?_
    refine R_bipush r_65_8 (v := nI 8) rfl ?_
    refine R_icmp_ge_N r_65_10 (by decide) (by omega) (by omega) (fun h_1 => ?_) (fun h_1 => ?_)
    · refine R_iload r_65_50 rfl ?_
      refine R_iret r_65_52 (ty := .int) rfl rfl (by decide) ?_
      exact hq
    · exfalso; omega
  | succ k ih =>
    intro t0 st0 hk ht hq
    obtain ⟨hI1, hI2, hI3, hI4, ha⟩ := id hI
    obtain ⟨hW1, hW2, hW3, hW4, hW5, hW6, hW7, hW8, hW9, hW10, hW11, hW12, hW13, hW14, hW15⟩ := id hW
    have hkk := hW6 t0
    have hmm := sMind_lt w t0
    refine R_iload r_65_6 rfl ?_
    refine R_bipush r_65_8 (v := nI 8) rfl ?_
    refine R_icmp_ge_N r_65_10 (by decide) (by omega) (by omega) (fun h_1 => ?_) (fun h_1 => ?_)
    · exfalso; omega
    · refine R_aload_n r_65_13 rfl (by omega) ?_
      refine R_iload r_65_14 rfl ?_
      refine R_call2 r_65_16 rfl (sm_rv1 rfl rfl hI.1) (Nat.le_of_ble_eq_true rfl) (Nat.le_of_ble_eq_true rfl) ?_
      refine c_kind hI hW (by omega) ?_
      refine R_iconst r_65_19 (v := nI 2) rfl ?_
      refine R_icmp_ne_N r_65_20 (by decide) (by omega) (by omega) (fun h_2 => ?_) (fun h_2 => ?_)
      · refine R_iload r_65_33 rfl ?_
        refine R_iret r_65_35 (ty := .int) rfl rfl (by decide) ?_
        first | rw [gdF_1 (by assumption)] at hq | rw [gdF_2 (by assumption) (by assumption)] at hq
        exact hq
      · refine R_aload_n r_65_23 rfl (by omega) ?_
        refine R_lload_n r_65_24 rfl ?_
        refine R_iload r_65_25 rfl ?_
        refine R_call3 r_65_27 rfl rfl (Nat.le_of_ble_eq_true rfl) (Nat.le_of_ble_eq_true rfl) ?_
        refine c_comesRound hI hW hw (by omega) ?_
        refine R_if_eq_b r_65_30 (by decide) (fun h_3 => ?_) (fun h_3 => ?_)
        · refine R_lload_n r_65_36 rfl ?_
          refine R_iload r_65_37 rfl ?_
          refine R_call2 r_65_39 rfl rfl (Nat.le_of_ble_eq_true rfl) (Nat.le_of_ble_eq_true rfl) ?_
          refine c_minded hw (by omega) ?_
          refine R_istore r_65_42 rfl ?_
          refine R_iinc1 r_65_44 rfl rfl ?_
          refine R_goto r_65_47 (by decide) ?_
          rw [gdF_3 (by assumption) (by assumption)] at hq
          exact ih _ (st0 + 1) (by omega) (sMind_lt w _) hq
        · refine R_iload r_65_33 rfl ?_
          refine R_iret r_65_35 (ty := .int) rfl rfl (by decide) ?_
          first | rw [gdF_1 (by assumption)] at hq | rw [gdF_2 (by assumption) (by assumption)] at hq
          exact hq
theorem c_guideOf {xs : List Int32} {d : Nat} {wd : sm_W} {Q : Option Value → sm_W → Prop} {a : Nat} {I : sm_Is} (hI : isI wd a I) (hW : iWF I) {w : Nat} (hw : w < 18446744073709551616) {i : Nat} (hi : i < 8) (hQ : Q (some (.int (nI (gdF (iKd I) (sMind w) 8 i)))) wd) : Ct xs (d + 3) 65 [.ref a, .long (lN w), .int (nI i)] wd Q := by
  unfold Ct
  show RT xs (d + 3) 65 0 [some (.ref a), some (.long (lN w)), none, some (.int (nI i)), none, none] [] wd Q
  refine R_iload_n r_65_0 rfl ?_
  refine R_istore r_65_1 rfl ?_
  refine R_iconst r_65_3 (v := nI 0) rfl ?_
  refine R_istore r_65_4 rfl ?_
  exact lp_guideOf hI hW hw 8 i 0 (by omega) hi hQ
