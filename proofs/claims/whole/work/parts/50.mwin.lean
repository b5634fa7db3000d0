/-! the model: decides, win, fill, beds, help -/
theorem noI_neg {r : Nat} (h : r = 999 ∨ r < 256) : noI r < 0 ↔ r = 999 := by
  rcases h with h | h
  · subst h; exact ⟨fun _ => rfl, fun _ => by decide⟩
  · rw [noI_n (by omega)]
    exact ⟨fun z => absurd z (nI_pos (by omega)), fun z => by omega⟩
theorem one_shl_lt {b n : Nat} (h : b < n) : 1 <<< b < 2 ^ n := by rw [Nat.one_shiftLeft]; exact Nat.pow_lt_pow_right (by decide) h
theorem all_shl (I : sm_Is) : allOf I + 1 = 1 <<< iN I := by unfold allOf; have := shl_pos (iN I); omega
theorem all_shl2 (I : sm_Is) : allOf I + 1 = 2 ^ iN I := by rw [all_shl, Nat.one_shiftLeft]
theorem lp_mdec {xs : List Int32} {d : Nat} {Q : Option Value → sm_W → Prop} {I : sm_Is} {w : Nat} (hW : iWF I) (hw : wfW I w) {ln um km sn sp : Int32} {q : Nat} (hq : q < 2) {wd0 : sm_W} {f0 : Nat → List Int32} (hQ : ∀ wd f, mC wd ln um km sn sp f → mL f → mR I w f → fk f0 f → frm 22 40 wd0 wd → Q (some (.int (nI (decS I w q (iN I))))) wd)  : ∀ (k : Nat) (b : Nat) (wd : sm_W) (f : Nat → List Int32), (b + k = iN I) → (mC wd ln um km sn sp f) → (mL f) → (mR I w f) → (fk f0 f) → (frm 22 40 wd0 wd) → RT xs (d + 7) 170 13 [some (.ref 22), some (.int (nI q)), some (.int (nI (decS I w q b))), some (.int (nI b))] [] wd Q := by
  intro k
  induction k with
  | zero =>
    intro b wd f hk hC hL hR hfk hf
    obtain ⟨hW1, hW2, hW3, hW4, hW5, hW6, hW7, hW8, hW9, hW10, hW11, hW12, hW13, hW14, hW15⟩ := id hW
    have hal := all_lt hW
    have has := all_shl I
    have has2 := all_shl2 I
    refine R_iload_n r_170_13 rfl ?_
    refine R_aload_n r_170_14 rfl (by decide) ?_
    refine R_getf r_170_15 (by decide) hC.1 rfl ?_
    refine R_iconst r_170_18 (v := nI 0) rfl ?_
    refine R_iald r_170_19 (by decide) (hC.2 24 (by decide) (by decide)) hR.rI ?_
    refine R_icmp_ge_N r_170_20 (by decide) (by omega) (by omega) (fun h_1 => ?_) (fun h_1 => ?_)
    · refine R_iload_n r_170_55 rfl ?_
      refine R_iret r_170_56 (ty := .int) rfl rfl (by decide) ?_
      obtain rfl : b = iN I := by omega
      exact hQ _ _ hC hL hR hfk hf
    · exfalso; omega
  | succ k ih =>
    intro b wd f hk hC hL hR hfk hf
    obtain ⟨hW1, hW2, hW3, hW4, hW5, hW6, hW7, hW8, hW9, hW10, hW11, hW12, hW13, hW14, hW15⟩ := id hW
    have hal := all_lt hW
    have has := all_shl I
    have has2 := all_shl2 I
    refine R_iload_n r_170_13 rfl ?_
    refine R_aload_n r_170_14 rfl (by decide) ?_
    refine R_getf r_170_15 (by decide) hC.1 rfl ?_
    refine R_iconst r_170_18 (v := nI 0) rfl ?_
    refine R_iald r_170_19 (by decide) (hC.2 24 (by decide) (by decide)) hR.rI ?_
    refine R_icmp_ge_N r_170_20 (by decide) (by omega) (by omega) (fun h_1 => ?_) (fun h_1 => ?_)
    · exfalso; omega
    · refine R_iload_n r_170_23 rfl ?_
      refine R_aload_n r_170_24 rfl (by decide) ?_
      refine R_iload_n r_170_25 rfl ?_
      refine R_iconst r_170_26 (v := nI 1) rfl ?_
      refine R_iload_n r_170_27 rfl ?_
      refine R_ishlN r_170_28 (by omega) ?_
      refine R_call3 r_170_29 rfl (sm_rvM rfl rfl rfl hC) (Nat.le_of_ble_eq_true rfl) (Nat.le_of_ble_eq_true rfl) ?_
      refine m_fallsBut hC hR hL hW hw hq (one_shl_lt (by omega)) (fun w_q_2 f_q_2 hC_q_2 hL_q_2 hR_q_2 hk_q_2 hf_q_2 => ?_)
      refine R_aload_n r_170_32 rfl (by decide) ?_
      refine R_iload_n r_170_33 rfl ?_
      refine R_call2 r_170_34 rfl (sm_rvM rfl rfl rfl hC_q_2) (Nat.le_of_ble_eq_true rfl) (Nat.le_of_ble_eq_true rfl) ?_
      refine m_doesFall hC_q_2 hR_q_2 hL_q_2 hW hw hq (fun w_q_3 f_q_3 hC_q_3 hL_q_3 hR_q_3 hfs_q_3 hf_q_3 => ?_)
      refine R_icmp_eq_bb r_170_37 (by decide) (fun h_4 => ?_) (fun h_4 => ?_)
      · refine R_iconst r_170_46 (v := nI 0) rfl ?_
        refine R_iorN r_170_47 ?_
        refine R_istore_n r_170_48 rfl ?_
        refine R_iinc1 r_170_49 rfl rfl ?_
        refine R_goto r_170_52 (by decide) ?_
        have h9 := ih (b + 1) _ _ (by omega) hC_q_3 hL_q_3 hR_q_3 (fk.tr hfk (fk.tr hk_q_2 hfs_q_3.fk)) (frm.tr (frm.tr hf hf_q_2) hf_q_3)
        first | (rw [decS_t (by assumption)] at h9; exact h9) | (rw [decS_f (by assumption)] at h9; rw [Nat.or_zero]; exact h9)
      · refine R_iconst r_170_40 (v := nI 1) rfl ?_
        refine R_iload_n r_170_41 rfl ?_
        refine R_ishlN r_170_42 (by omega) ?_
        refine R_goto r_170_43 (by decide) ?_
        refine R_iorN r_170_47 ?_
        refine R_istore_n r_170_48 rfl ?_
        refine R_iinc1 r_170_49 rfl rfl ?_
        refine R_goto r_170_52 (by decide) ?_
        have h9 := ih (b + 1) _ _ (by omega) hC_q_3 hL_q_3 hR_q_3 (fk.tr hfk (fk.tr hk_q_2 hfs_q_3.fk)) (frm.tr (frm.tr hf hf_q_2) hf_q_3)
        first | (rw [decS_t (by assumption)] at h9; exact h9) | (rw [decS_f (by assumption)] at h9; rw [Nat.or_zero]; exact h9)
theorem m_decides {xs : List Int32} {d : Nat} {wd : sm_W} {Q : Option Value → sm_W → Prop} {tx : List Nat} {I : sm_Is} {w : Nat} {pa sh : List Nat} {sn : List (Nat × Nat)} (hX : mX wd tx I w pa sh sn) (hW : iWF I) (hw : wfW I w) {x1 : Int32} (hB : inR x1 2 = false → Q (some (.int (-1))) wd) (hQ : ∀ q, q < 2 → x1 = nI q → ∀ w2, mX w2 tx I w pa sh sn → frm 22 40 wd w2 → Q (some (.int (nI (decS I w q (iN I))))) w2) : Ct xs (d + 7) 170 [.ref 22, .int x1] wd Q := by
  unfold Ct
  show RT xs (d + 7) 170 0 [some (.ref 22), some (.int x1), none, none] [] wd Q
  obtain ⟨sp, f, hC, hL, hR, hT⟩ := id hX
  obtain ⟨hW1, hW2, hW3, hW4, hW5, hW6, hW7, hW8, hW9, hW10, hW11, hW12, hW13, hW14, hW15⟩ := id hW
  obtain ⟨hT1, hT2, hT3, hT4⟩ := id hT
  refine R_iload_n r_170_0 rfl ?_
  refine R_call1 r_170_1 rfl rfl (Nat.le_of_ble_eq_true rfl) (Nat.le_of_ble_eq_true rfl) ?_
  refine m_isQuestion ?_
  refine R_if_ne_b r_170_4 (by decide) (fun h_1 => ?_) (fun h_1 => ?_)
  · obtain ⟨q, hq, rfl⟩ := inR_of (x := x1) (by assumption) (by decide)
    refine R_iconst r_170_9 (v := nI 0) rfl ?_
    refine R_istore_n r_170_10 rfl ?_
    refine R_iconst r_170_11 (v := nI 0) rfl ?_
    refine R_istore_n r_170_12 rfl ?_
    exact lp_mdec hW hw hq (f0 := f) (wd0 := wd) (fun wd2 f2 hC2 hL2 hR2 hk2 hf2 => hQ q hq rfl _ ⟨_, _, hC2, hL2, hR2, hT.fk hk2⟩ hf2) (iN I) 0 _ _ (by omega) hC hL hR fk.rf frm.rf
  · refine R_iconst r_170_7 (v := (-1)) rfl ?_
    refine R_iret r_170_8 (ty := .int) rfl rfl (by decide) ?_
    exact hB (by assumption)
theorem win_inv (I : sm_Is) (w q : Nat) : ∀ n, n ≤ 255 → ((winS I w q n).1 = 999 ∧ (winS I w q n).2 = 9) ∨ ((winS I w q n).1 < 256 ∧ (winS I w q n).2 = pc8 (winS I w q n).1)
  | 0, _ => Or.inl ⟨rfl, rfl⟩
  | n + 1, h => by
    have ih := win_inv I w q n (by omega)
    by_cases h2 : pc8 (n + 1) < (winS I w q n).2 ∧ fallA I w (sAg w q ^^^ (n + 1)) ≠ fallN I w q
    · rw [winS_t h2.1 h2.2]; exact Or.inr ⟨by show n + 1 < 256; omega, rfl⟩
    · rw [show winS I w q (n + 1) = winS I w q n from by rw [winS, if_neg h2]]; exact ih
theorem lp_mwin {xs : List Int32} {d : Nat} {Q : Option Value → sm_W → Prop} {I : sm_Is} {w : Nat} (hW : iWF I) (hw : wfW I w) {ln um km sn sp : Int32} {q : Nat} (hq : q < 2) {wd0 : sm_W} {f0 : Nat → List Int32} (hQ : ∀ wd f, mC wd ln um km sn sp f → mL f → mR I w f → fk f0 f → frm 22 40 wd0 wd → Q (some (.int (noI (winS I w q (allOf I)).1))) wd)  : ∀ (k : Nat) (n : Nat) (h5 : Option Value) (wd : sm_W) (f : Nat → List Int32), (n + k = allOf I) → (mC wd ln um km sn sp f) → (mL f) → (mR I w f) → (fk f0 f) → (frm 22 40 wd0 wd) → RT xs (d + 7) 172 21 [some (.ref 22), some (.int (nI q)), some (.int (b2i (fallN I w q))), some (.int (noI (winS I w q n).1)), some (.int (nI (n + 1))), h5] [] wd Q := by
  intro k
  induction k with
  | zero =>
    intro n h5 wd f hk hC hL hR hfk hf
    obtain ⟨hW1, hW2, hW3, hW4, hW5, hW6, hW7, hW8, hW9, hW10, hW11, hW12, hW13, hW14, hW15⟩ := id hW
    have hal := all_lt hW
    have has := all_shl I
    have has2 := all_shl2 I
    refine R_iload r_172_21 rfl ?_
    refine R_iconst r_172_23 (v := nI 1) rfl ?_
    refine R_aload_n r_172_24 rfl (by decide) ?_
    refine R_getf r_172_25 (by decide) hC.1 rfl ?_
    refine R_iconst r_172_28 (v := nI 0) rfl ?_
    refine R_iald r_172_29 (by decide) (hC.2 24 (by decide) (by decide)) hR.rI ?_
    refine R_ishlN r_172_30 (by omega) ?_
    refine R_icmp_ge_N r_172_31 (by decide) (by omega) (by omega) (fun h_1 => ?_) (fun h_1 => ?_)
    · refine R_iload_n r_172_86 rfl ?_
      refine R_iret r_172_87 (ty := .int) rfl rfl (by decide) ?_
      obtain rfl : n = allOf I := by omega
      exact hQ _ _ hC hL hR hfk hf
    · exfalso; omega
  | succ k ih =>
    intro n h5 wd f hk hC hL hR hfk hf
    obtain ⟨hW1, hW2, hW3, hW4, hW5, hW6, hW7, hW8, hW9, hW10, hW11, hW12, hW13, hW14, hW15⟩ := id hW
    have hal := all_lt hW
    have has := all_shl I
    have has2 := all_shl2 I
    have hwi := win_inv I w q n (by omega)
    have hrr : (winS I w q n).1 = 999 ∨ (winS I w q n).1 < 256 := by omega
    have hp8 : pc8 (n + 1) ≤ 8 := pcUp_le _ 8
    have hpb : pc8 (winS I w q n).1 ≤ 8 := pcUp_le _ 8
    have hng := noI_neg hrr
    refine R_iload r_172_21 rfl ?_
    refine R_iconst r_172_23 (v := nI 1) rfl ?_
    refine R_aload_n r_172_24 rfl (by decide) ?_
    refine R_getf r_172_25 (by decide) hC.1 rfl ?_
    refine R_iconst r_172_28 (v := nI 0) rfl ?_
    refine R_iald r_172_29 (by decide) (hC.2 24 (by decide) (by decide)) hR.rI ?_
    refine R_ishlN r_172_30 (by omega) ?_
    refine R_icmp_ge_N r_172_31 (by decide) (by omega) (by omega) (fun h_1 => ?_) (fun h_1 => ?_)
    · exfalso; omega
    · refine R_iload_n r_172_34 rfl ?_
      refine R_if_lt r_172_35 (by decide) (fun h_2 => ?_) (fun h_2 => ?_)
      · try have h999 := hng.mp (by assumption)
        refine R_iconst r_172_50 (v := nI 1) rfl ?_
        refine R_goto r_172_51 (by decide) ?_
        refine R_istore r_172_55 rfl ?_
        refine R_iload r_172_57 rfl ?_
        refine R_ifF r_172_59 (by decide) (by decide) ?_
        refine R_aload_n r_172_62 rfl (by decide) ?_
        refine R_iload_n r_172_63 rfl ?_
        refine R_iload r_172_64 rfl ?_
        refine R_call3 r_172_66 rfl (sm_rvM rfl rfl rfl hC) (Nat.le_of_ble_eq_true rfl) (Nat.le_of_ble_eq_true rfl) ?_
        refine m_fallsBut hC hR hL hW hw hq (by omega) (fun w_q_3 f_q_3 hC_q_3 hL_q_3 hR_q_3 hk_q_3 hf_q_3 => ?_)
        refine R_iload_n r_172_69 rfl ?_
        refine R_icmp_eq_bb r_172_70 (by decide) (fun h_4 => ?_) (fun h_4 => ?_)
        · refine R_iload_n r_172_78 rfl ?_
          refine R_istore_n r_172_79 rfl ?_
          refine R_iinc1 r_172_80 rfl rfl ?_
          refine R_goto r_172_83 (by decide) ?_
          have h9 := fun h5 => ih (n + 1) h5 _ _ (by omega) hC_q_3 hL_q_3 hR_q_3 (fk.tr hfk hk_q_3) (frm.tr hf hf_q_3)
          first | (rw [winS_2 (by assumption)] at h9; exact h9 _) | (rw [winS_2 (by assumption), noI_n (by omega)] at h9; exact h9 _) | (rw [winS_1 (I := I) (w := w) (q := q) (n := n) (by omega)] at h9; exact h9 _) | (rw [winS_1 (I := I) (w := w) (q := q) (n := n) (by omega), noI_n (by omega)] at h9; exact h9 _) | (rw [winS_t (I := I) (w := w) (q := q) (n := n) (by omega) (by assumption), noI_n (by omega)] at h9; exact h9 _)
        · refine R_iload r_172_73 rfl ?_
          refine R_goto r_172_75 (by decide) ?_
          refine R_istore_n r_172_79 rfl ?_
          refine R_iinc1 r_172_80 rfl rfl ?_
          refine R_goto r_172_83 (by decide) ?_
          have h9 := fun h5 => ih (n + 1) h5 _ _ (by omega) hC_q_3 hL_q_3 hR_q_3 (fk.tr hfk hk_q_3) (frm.tr hf hf_q_3)
          first | (rw [winS_2 (by assumption)] at h9; exact h9 _) | (rw [winS_2 (by assumption), noI_n (by omega)] at h9; exact h9 _) | (rw [winS_1 (I := I) (w := w) (q := q) (n := n) (by omega)] at h9; exact h9 _) | (rw [winS_1 (I := I) (w := w) (q := q) (n := n) (by omega), noI_n (by omega)] at h9; exact h9 _) | (rw [winS_t (I := I) (w := w) (q := q) (n := n) (by omega) (by assumption), noI_n (by omega)] at h9; exact h9 _)
      · have hlt9 : (winS I w q n).1 < 256 := by have := mt hng.mpr (by assumption); omega
        refine R_iload r_172_38 rfl ?_
        refine R_call1 r_172_40 rfl rfl (Nat.le_of_ble_eq_true rfl) (Nat.le_of_ble_eq_true rfl) ?_
        refine m_bits (by omega) ?_
        refine R_iload_n r_172_43 rfl ?_
        rw [noI_n (r := (winS I w q n).1) (by omega)]
        refine R_call1 r_172_44 rfl rfl (Nat.le_of_ble_eq_true rfl) (Nat.le_of_ble_eq_true rfl) ?_
        refine m_bits (by omega) ?_
        refine R_icmp_ge_N r_172_47 (by decide) (by omega) (by omega) (fun h_5 => ?_) (fun h_5 => ?_)
        · refine R_iconst r_172_54 (v := nI 0) rfl ?_
          refine R_istore r_172_55 rfl ?_
          refine R_iload r_172_57 rfl ?_
          refine R_ifT r_172_59 (by decide) (by decide) ?_
          refine R_iload_n r_172_78 rfl ?_
          refine R_istore_n r_172_79 rfl ?_
          refine R_iinc1 r_172_80 rfl rfl ?_
          refine R_goto r_172_83 (by decide) ?_
          have h9 := fun h5 => ih (n + 1) h5 _ _ (by omega) hC hL hR hfk hf
          first | (rw [winS_2 (by assumption)] at h9; exact h9 _) | (rw [winS_2 (by assumption), noI_n (by omega)] at h9; exact h9 _) | (rw [winS_1 (I := I) (w := w) (q := q) (n := n) (by omega)] at h9; exact h9 _) | (rw [winS_1 (I := I) (w := w) (q := q) (n := n) (by omega), noI_n (by omega)] at h9; exact h9 _) | (rw [winS_t (I := I) (w := w) (q := q) (n := n) (by omega) (by assumption), noI_n (by omega)] at h9; exact h9 _)
        · try have h999 := hng.mp (by assumption)
          refine R_iconst r_172_50 (v := nI 1) rfl ?_
          refine R_goto r_172_51 (by decide) ?_
          refine R_istore r_172_55 rfl ?_
          refine R_iload r_172_57 rfl ?_
          refine R_ifF r_172_59 (by decide) (by decide) ?_
          refine R_aload_n r_172_62 rfl (by decide) ?_
          refine R_iload_n r_172_63 rfl ?_
          refine R_iload r_172_64 rfl ?_
          refine R_call3 r_172_66 rfl (sm_rvM rfl rfl rfl hC) (Nat.le_of_ble_eq_true rfl) (Nat.le_of_ble_eq_true rfl) ?_
          refine m_fallsBut hC hR hL hW hw hq (by omega) (fun w_q_6 f_q_6 hC_q_6 hL_q_6 hR_q_6 hk_q_6 hf_q_6 => ?_)
          refine R_iload_n r_172_69 rfl ?_
          refine R_icmp_eq_bb r_172_70 (by decide) (fun h_7 => ?_) (fun h_7 => ?_)
          · refine R_iload_n r_172_78 rfl ?_
            refine R_istore_n r_172_79 rfl ?_
            refine R_iinc1 r_172_80 rfl rfl ?_
            refine R_goto r_172_83 (by decide) ?_
            have h9 := fun h5 => ih (n + 1) h5 _ _ (by omega) hC_q_6 hL_q_6 hR_q_6 (fk.tr hfk hk_q_6) (frm.tr hf hf_q_6)
            first | (rw [winS_2 (by assumption)] at h9; exact h9 _) | (rw [winS_2 (by assumption), noI_n (by omega)] at h9; exact h9 _) | (rw [winS_1 (I := I) (w := w) (q := q) (n := n) (by omega)] at h9; exact h9 _) | (rw [winS_1 (I := I) (w := w) (q := q) (n := n) (by omega), noI_n (by omega)] at h9; exact h9 _) | (rw [winS_t (I := I) (w := w) (q := q) (n := n) (by omega) (by assumption), noI_n (by omega)] at h9; exact h9 _)
          · refine R_iload r_172_73 rfl ?_
            refine R_goto r_172_75 (by decide) ?_
            refine R_istore_n r_172_79 rfl ?_
            refine R_iinc1 r_172_80 rfl rfl ?_
            refine R_goto r_172_83 (by decide) ?_
            have h9 := fun h5 => ih (n + 1) h5 _ _ (by omega) hC_q_6 hL_q_6 hR_q_6 (fk.tr hfk hk_q_6) (frm.tr hf hf_q_6)
            first | (rw [winS_2 (by assumption)] at h9; exact h9 _) | (rw [winS_2 (by assumption), noI_n (by omega)] at h9; exact h9 _) | (rw [winS_1 (I := I) (w := w) (q := q) (n := n) (by omega)] at h9; exact h9 _) | (rw [winS_1 (I := I) (w := w) (q := q) (n := n) (by omega), noI_n (by omega)] at h9; exact h9 _) | (rw [winS_t (I := I) (w := w) (q := q) (n := n) (by omega) (by assumption), noI_n (by omega)] at h9; exact h9 _)
theorem m_win {xs : List Int32} {d : Nat} {wd : sm_W} {Q : Option Value → sm_W → Prop} {tx : List Nat} {I : sm_Is} {w : Nat} {pa sh : List Nat} {sn : List (Nat × Nat)} (hX : mX wd tx I w pa sh sn) (hW : iWF I) (hw : wfW I w) {x1 : Int32} (hB : inR x1 2 = false → Q (some (.int (-1))) wd) (hQ : ∀ q, q < 2 → x1 = nI q → ∀ w2, mX w2 tx I w pa sh sn → frm 22 40 wd w2 → Q (some (.int (noI (winS I w q (allOf I)).1))) w2) : Ct xs (d + 7) 172 [.ref 22, .int x1] wd Q := by
  unfold Ct
  show RT xs (d + 7) 172 0 [some (.ref 22), some (.int x1), none, none, none, none] [] wd Q
  obtain ⟨sp, f, hC, hL, hR, hT⟩ := id hX
  obtain ⟨hW1, hW2, hW3, hW4, hW5, hW6, hW7, hW8, hW9, hW10, hW11, hW12, hW13, hW14, hW15⟩ := id hW
  obtain ⟨hT1, hT2, hT3, hT4⟩ := id hT
  refine R_iload_n r_172_0 rfl ?_
  refine R_call1 r_172_1 rfl rfl (Nat.le_of_ble_eq_true rfl) (Nat.le_of_ble_eq_true rfl) ?_
  refine m_isQuestion ?_
  refine R_if_ne_b r_172_4 (by decide) (fun h_1 => ?_) (fun h_1 => ?_)
  · obtain ⟨q, hq, rfl⟩ := inR_of (x := x1) (by assumption) (by decide)
    refine R_aload_n r_172_9 rfl (by decide) ?_
    refine R_iload_n r_172_10 rfl ?_
    refine R_call2 r_172_11 rfl (sm_rvM rfl rfl rfl hC) (Nat.le_of_ble_eq_true rfl) (Nat.le_of_ble_eq_true rfl) ?_
    refine m_doesFall hC hR hL hW hw hq (fun w_q_2 f_q_2 hC_q_2 hL_q_2 hR_q_2 hfs_q_2 hf_q_2 => ?_)
    refine R_istore_n r_172_14 rfl ?_
    refine R_bipush r_172_15 (v := (-4)) rfl ?_
    refine R_istore_n r_172_17 rfl ?_
    refine R_iconst r_172_18 (v := nI 1) rfl ?_
    refine R_istore r_172_19 rfl ?_
    exact lp_mwin hW hw hq (f0 := f) (wd0 := wd) (fun wd2 f2 hC2 hL2 hR2 hk2 hf2 => hQ q hq rfl _ ⟨_, _, hC2, hL2, hR2, hT.fk hk2⟩ hf2) (allOf I) 0 _ _ _ (by omega) hC_q_2 hL_q_2 hR_q_2 hfs_q_2.fk hf_q_2
  · refine R_iconst r_172_7 (v := (-1)) rfl ?_
    refine R_iret r_172_8 (ty := .int) rfl rfl (by decide) ?_
    exact hB (by assumption)
