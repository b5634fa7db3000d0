/-! the model: fill, beds, help -/
def lmU (I : sm_Is) (ic : Bool) (k : Nat) : Nat := if ic = true then 0 else kindUp (iK I) 3 k
theorem lm_t {I : sm_Is} {ic : Bool} {k : Nat} (h : (iK I).getD k 0 = 3) (hi : ic = false) : lmU I ic (k + 1) = lmU I ic k ||| 1 <<< k := by
  subst hi; unfold lmU; rw [if_neg (by decide), if_neg (by decide), kindUp, if_pos h]
theorem lm_f {I : sm_Is} {ic : Bool} {k : Nat} (h : (iK I).getD k 0 ≠ 3) : lmU I ic (k + 1) = lmU I ic k ||| 0 := by
  unfold lmU
  cases ic
  · rw [if_neg (by decide), if_neg (by decide), kindUp, if_neg h, Nat.or_zero]
  · rw [if_pos rfl, if_pos rfl, Nat.or_zero]
theorem lm_i {I : sm_Is} {ic : Bool} {k : Nat} (h : ic = true) : lmU I ic (k + 1) = lmU I ic k ||| 0 := by subst h; unfold lmU; rw [if_pos rfl, if_pos rfl, Nat.or_zero]
theorem lm_all (I : sm_Is) (w : Nat) : lmU I (sIce w) (iN I) = ntV I w := rfl
theorem cum_s {fr : Nat → Nat} {b v : Nat} (h : v = fr b) : cumF fr (b + 1) = cumF fr b + v := by subst h; rfl
theorem cum_iB {I : sm_Is} {w : Nat} {x : Int32} : ∀ k, cumF (frX I w x) (iB I + k) = cumF (frX I w x) (iB I)
  | 0 => rfl
  | k + 1 => by
    show cumF (frX I w x) (iB I + k) + frX I w x (iB I + k) = _
    rw [cum_iB k]
    unfold frX
    rw [if_neg (fun z => by omega)]
    rfl
/-- room on the boats, beds -/
theorem filR_le {I : sm_Is} {w : Nat} (hW : iWF I) : filR I w ≤ iBd I ∧ (sIce w = true → filR I w = min 8 (iBd I)) ∧ (sIce w = false → filR I w = min (cumF (frX I w (-1)) (iB I)) (iBd I)) := by
  have h5 := hW.2.2.2.2.1
  have h0 : seX I w (-1) = stIn I w 31 := seX_m1 hW
  have h1 : cumF (frX I w (-1)) (iB I) = cumF (frX I w (-1)) 5 := by
    have := cum_iB (I := I) (w := w) (x := -1) (5 - iB I)
    rw [show iB I + (5 - iB I) = 5 by omega] at this
    exact this.symm
  unfold filR
  rw [← h0]
  refine ⟨Nat.min_le_right _ _, fun h => by rw [seX_i h], fun h => by rw [seX_n h, h1]⟩
theorem fil_inv (I : sm_Is) (r b : Nat) : ∀ n, n ≤ 256 → ((filS I r b n).1 = 999 ∧ (filS I r b n).2 = r + 1) ∨ ((filS I r b n).1 < 256 ∧ (filS I r b n).2 = pc8 (filS I r b n).1 ∧ (filS I r b n).2 ≤ r)
  | 0, _ => Or.inl ⟨rfl, rfl⟩
  | n + 1, h => by
    have ih := fil_inv I r b n (by omega)
    by_cases h2 : pc8 n < (filS I r b n).2 ∧ n &&& b = 0 ∧ lawF I (pc8 n) = true ∧ iM I ≤ cowW I n
    · rw [filS_t h2]; exact Or.inr ⟨by show n < 256; omega, rfl, by show pc8 n ≤ r; omega⟩
    · rw [filS_f h2]; exact ih
theorem cum40 {I : sm_Is} {w : Nat} {x : Int32} (hW : iWF I) : ∀ {b : Nat}, b ≤ 5 → cumF (frX I w x) b ≤ 40 := by
  have key : ∀ b, cumF (frX I w x) b ≤ 8 * b := by
    intro b
    induction b with
    | zero => exact Nat.zero_le _
    | succ b ih =>
      have := frX_le hW w x b
      show _ + frX I w x b ≤ _
      omega
  intro b hb
  have := key b
  omega
theorem lp_mfil1 {xs : List Int32} {d : Nat} {wd : sm_W} {Q : Option Value → sm_W → Prop} {ln um km sn sp : Int32} {f : Nat → List Int32} (hC : mC wd ln um km sn sp f) {I : sm_Is} {w : Nat} (hR : mR I w f) (hL : mL f) (hW : iWF I) {v1 : Int32} {l5 l6 l7 : Option Value} (hQ : RT xs (d + 2) 173 68 [some (.ref 22), some (.int v1), some (.int (nI (cumF (frX I w (-1)) (iB I)))), some (.int (nI (0))), some (.int (nI (iB I))), l5, l6, l7] [] wd Q)  : ∀ (k : Nat) (b : Nat), (b + k = iB I) → RT xs (d + 2) 173 24 [some (.ref 22), some (.int v1), some (.int (nI (cumF (frX I w (-1)) b))), some (.int (nI (0))), some (.int (nI b)), l5, l6, l7] [] wd Q := by
  intro k
  induction k with
  | zero =>
    intro b hk
    obtain ⟨hW1, hW2, hW3, hW4, hW5, hW6, hW7, hW8, hW9, hW10, hW11, hW12, hW13, hW14, hW15⟩ := id hW
    have hal := all_lt hW
    have has := all_shl I
    have has2 := all_shl2 I
    refine R_iload r_173_24 rfl ?_
    refine R_aload_n r_173_26 rfl (by decide) ?_
    refine R_getf r_173_27 (by decide) hC.1 rfl ?_
    refine R_iconst r_173_30 (v := nI 0) rfl ?_
    refine R_iald r_173_31 (by decide) (hC.2 29 (by decide) (by decide)) hR.rB ?_
    refine R_icmp_ge_N r_173_32 (by decide) (by omega) (by omega) (fun h_1 => ?_) (fun h_1 => ?_)
    · have eb : iB I = b := by omega
      rw [eb] at hQ; exact hQ
    · exfalso; omega
  | succ k ih =>
    intro b hk
    obtain ⟨hW1, hW2, hW3, hW4, hW5, hW6, hW7, hW8, hW9, hW10, hW11, hW12, hW13, hW14, hW15⟩ := id hW
    have hal := all_lt hW
    have has := all_shl I
    have has2 := all_shl2 I
    refine R_iload r_173_24 rfl ?_
    refine R_aload_n r_173_26 rfl (by decide) ?_
    refine R_getf r_173_27 (by decide) hC.1 rfl ?_
    refine R_iconst r_173_30 (v := nI 0) rfl ?_
    refine R_iald r_173_31 (by decide) (hC.2 29 (by decide) (by decide)) hR.rB ?_
    refine R_icmp_ge_N r_173_32 (by decide) (by omega) (by omega) (fun h_1 => ?_) (fun h_1 => ?_)
    · exfalso; omega
    · refine R_iload_n r_173_35 rfl ?_
      refine R_aload_n r_173_36 rfl (by decide) ?_
      refine R_getf r_173_37 (by decide) hC.1 rfl ?_
      refine R_bipush r_173_40 (v := nI 16) rfl ?_
      refine R_iload r_173_42 rfl ?_
      refine R_iaddN r_173_44 ?_
      refine R_iald r_173_45 (by decide) (hC.2 32 (by decide) (by decide)) (hR.nh (by omega)) ?_
      refine R_if_ne_b r_173_46 (by decide) (fun h_2 => ?_) (fun h_2 => ?_)
      · refine R_iconst r_173_59 (v := nI 0) rfl ?_
        refine R_iaddN r_173_60 ?_
        refine R_istore_n r_173_61 rfl ?_
        refine R_iinc1 r_173_62 rfl rfl ?_
        refine R_goto r_173_65 (by decide) ?_
        have h9 := ih (b + 1) (by omega)
        first | (rw [cum_s (ev_t (by omega) (by assumption) (Or.inl (by decide)))] at h9; exact h9) | (rw [cum_s (ev_2 (by assumption))] at h9; exact h9)
      · refine R_aload_n r_173_49 rfl (by decide) ?_
        refine R_getf r_173_50 (by decide) hC.1 rfl ?_
        refine R_iload r_173_53 rfl ?_
        refine R_iald r_173_55 (by decide) (hC.2 30 (by decide) (by decide)) (hR.rS (by omega) hW5) ?_
        refine R_goto r_173_56 (by decide) ?_
        refine R_iaddN r_173_60 ?_
        refine R_istore_n r_173_61 rfl ?_
        refine R_iinc1 r_173_62 rfl rfl ?_
        refine R_goto r_173_65 (by decide) ?_
        have h9 := ih (b + 1) (by omega)
        first | (rw [cum_s (ev_t (by omega) (by assumption) (Or.inl (by decide)))] at h9; exact h9) | (rw [cum_s (ev_2 (by assumption))] at h9; exact h9)
theorem lp_mfil2 {xs : List Int32} {d : Nat} {wd : sm_W} {Q : Option Value → sm_W → Prop} {ln um km sn sp : Int32} {f : Nat → List Int32} (hC : mC wd ln um km sn sp f) {I : sm_Is} {w : Nat} (hR : mR I w f) (hL : mL f) (hW : iWF I) {rm : Nat} {l5 l6 l7 : Option Value} (hQ : RT xs (d + 2) 173 114 [some (.ref 22), some (.int (b2i (sIce w))), some (.int (nI rm)), some (.int (nI (ntV I w))), some (.int (nI (iN I))), l5, l6, l7] [] wd Q)  : ∀ (k : Nat) (b : Nat), (b + k = iN I) → RT xs (d + 2) 173 71 [some (.ref 22), some (.int (b2i (sIce w))), some (.int (nI rm)), some (.int (nI (lmU I (sIce w) b))), some (.int (nI b)), l5, l6, l7] [] wd Q := by
  intro k
  induction k with
  | zero =>
    intro b hk
    obtain ⟨hW1, hW2, hW3, hW4, hW5, hW6, hW7, hW8, hW9, hW10, hW11, hW12, hW13, hW14, hW15⟩ := id hW
    have hal := all_lt hW
    have has := all_shl I
    have has2 := all_shl2 I
    refine R_iload r_173_71 rfl ?_
    refine R_aload_n r_173_73 rfl (by decide) ?_
    refine R_getf r_173_74 (by decide) hC.1 rfl ?_
    refine R_iconst r_173_77 (v := nI 0) rfl ?_
    refine R_iald r_173_78 (by decide) (hC.2 24 (by decide) (by decide)) hR.rI ?_
    refine R_icmp_ge_N r_173_79 (by decide) (by omega) (by omega) (fun h_1 => ?_) (fun h_1 => ?_)
    · have eb : iN I = b := by omega
      rw [← lm_all, eb] at hQ; exact hQ
    · exfalso; omega
  | succ k ih =>
    intro b hk
    obtain ⟨hW1, hW2, hW3, hW4, hW5, hW6, hW7, hW8, hW9, hW10, hW11, hW12, hW13, hW14, hW15⟩ := id hW
    have hal := all_lt hW
    have has := all_shl I
    have has2 := all_shl2 I
    refine R_iload r_173_71 rfl ?_
    refine R_aload_n r_173_73 rfl (by decide) ?_
    refine R_getf r_173_74 (by decide) hC.1 rfl ?_
    refine R_iconst r_173_77 (v := nI 0) rfl ?_
    refine R_iald r_173_78 (by decide) (hC.2 24 (by decide) (by decide)) hR.rI ?_
    refine R_icmp_ge_N r_173_79 (by decide) (by omega) (by omega) (fun h_1 => ?_) (fun h_1 => ?_)
    · exfalso; omega
    · refine R_iload_n r_173_82 rfl ?_
      refine R_aload_n r_173_83 rfl (by decide) ?_
      refine R_getf r_173_84 (by decide) hC.1 rfl ?_
      refine R_iload r_173_87 rfl ?_
      refine R_iald r_173_89 (by decide) (hC.2 25 (by decide) (by decide)) (hR.rK (by omega) hW4) ?_
      refine R_iconst r_173_90 (v := nI 3) rfl ?_
      refine R_icmp_ne_N r_173_91 (by decide) (by have := hW6 b; omega) (by omega) (fun h_2 => ?_) (fun h_2 => ?_)
      · refine R_iconst r_173_105 (v := nI 0) rfl ?_
        refine R_iorN r_173_106 ?_
        refine R_istore_n r_173_107 rfl ?_
        refine R_iinc1 r_173_108 rfl rfl ?_
        refine R_goto r_173_111 (by decide) ?_
        have h9 := ih (b + 1) (by omega)
        first | (rw [lm_f (by assumption)] at h9; exact h9) | (rw [lm_i (by assumption)] at h9; exact h9) | (rw [lm_t (by assumption) (by assumption)] at h9; exact h9)
      · refine R_iload_n r_173_94 rfl ?_
        refine R_if_ne_b r_173_95 (by decide) (fun h_3 => ?_) (fun h_3 => ?_)
        · refine R_iconst r_173_105 (v := nI 0) rfl ?_
          refine R_iorN r_173_106 ?_
          refine R_istore_n r_173_107 rfl ?_
          refine R_iinc1 r_173_108 rfl rfl ?_
          refine R_goto r_173_111 (by decide) ?_
          have h9 := ih (b + 1) (by omega)
          first | (rw [lm_f (by assumption)] at h9; exact h9) | (rw [lm_i (by assumption)] at h9; exact h9) | (rw [lm_t (by assumption) (by assumption)] at h9; exact h9)
        · refine R_iconst r_173_98 (v := nI 1) rfl ?_
          refine R_iload r_173_99 rfl ?_
          refine R_ishlN r_173_101 (by omega) ?_
          refine R_goto r_173_102 (by decide) ?_
          refine R_iorN r_173_106 ?_
          refine R_istore_n r_173_107 rfl ?_
          refine R_iinc1 r_173_108 rfl rfl ?_
          refine R_goto r_173_111 (by decide) ?_
          have h9 := ih (b + 1) (by omega)
          first | (rw [lm_f (by assumption)] at h9; exact h9) | (rw [lm_i (by assumption)] at h9; exact h9) | (rw [lm_t (by assumption) (by assumption)] at h9; exact h9)
theorem fil_st (I : sm_Is) {r b n : Nat} {c : Bool} (h : decide (pc8 n < (filS I r b n).2 ∧ n &&& b = 0 ∧ lawF I (pc8 n) = true ∧ iM I ≤ cowW I n) = c) : filS I r b (n + 1) = if c = true then (n, pc8 n) else filS I r b n := by
  cases c
  · rw [filS_f (of_decide_eq_false h)]; rfl
  · rw [filS_t (of_decide_eq_true h)]; rfl
theorem lp_mfil3 {xs : List Int32} {d : Nat} {wd : sm_W} {Q : Option Value → sm_W → Prop} {ln um km sn sp : Int32} {f : Nat → List Int32} (hC : mC wd ln um km sn sp f) {I : sm_Is} {w : Nat} (hR : mR I w f) (hL : mL f) (hW : iWF I) (hQ : Q (some (.int (noI (filS I (filR I w) (ntV I w) (allOf I + 1)).1))) wd)  : ∀ (k : Nat) (n : Nat) (h6 h7 : Option Value), (n + k = allOf I + 1) → RT xs (d + 2) 173 121 [some (.ref 22), some (.int (b2i (sIce w))), some (.int (nI (cumF (frX I w (-1)) (iB I)))), some (.int (nI (ntV I w))), some (.int (noI (filS I (filR I w) (ntV I w) n).1)), some (.int (nI n)), h6, h7] [] wd Q := by
  intro k
  induction k with
  | zero =>
    intro n h6 h7 hk
    obtain ⟨hW1, hW2, hW3, hW4, hW5, hW6, hW7, hW8, hW9, hW10, hW11, hW12, hW13, hW14, hW15⟩ := id hW
    have hal := all_lt hW
    have has := all_shl I
    have has2 := all_shl2 I
    refine R_iload r_173_121 rfl ?_
    refine R_iconst r_173_123 (v := nI 1) rfl ?_
    refine R_aload_n r_173_124 rfl (by decide) ?_
    refine R_getf r_173_125 (by decide) hC.1 rfl ?_
    refine R_iconst r_173_128 (v := nI 0) rfl ?_
    refine R_iald r_173_129 (by decide) (hC.2 24 (by decide) (by decide)) hR.rI ?_
    refine R_ishlN r_173_130 (by omega) ?_
    refine R_icmp_ge_N r_173_131 (by decide) (by omega) (by omega) (fun h_1 => ?_) (fun h_1 => ?_)
    · refine R_iload r_173_235 rfl ?_
      refine R_iret r_173_237 (ty := .int) rfl rfl (by decide) ?_
      obtain rfl : n = allOf I + 1 := by omega
      exact hQ
    · exfalso; omega
  | succ k ih =>
    intro n h6 h7 hk
    obtain ⟨hW1, hW2, hW3, hW4, hW5, hW6, hW7, hW8, hW9, hW10, hW11, hW12, hW13, hW14, hW15⟩ := id hW
    have hal := all_lt hW
    have has := all_shl I
    have has2 := all_shl2 I
    have hfi := fil_inv I (filR I w) (ntV I w) n (by omega)
    have hrr : (filS I (filR I w) (ntV I w) n).1 = 999 ∨ (filS I (filR I w) (ntV I w) n).1 < 256 := by omega
    have hng := noI_neg hrr
    have hp8 : pc8 n ≤ 8 := pcUp_le _ 8
    have hpb : pc8 (filS I (filR I w) (ntV I w) n).1 ≤ 8 := pcUp_le _ 8
    obtain ⟨hr1, hr2, hr3⟩ := filR_le (w := w) hW
    have hc40 : cumF (frX I w (-1)) (iB I) ≤ 40 := cum40 hW hW5
    have hcw := cowW_le hW n
    have hnb : n &&& ntV I w ≤ n := Nat.and_le_left
    refine R_iload r_173_121 rfl ?_
    refine R_iconst r_173_123 (v := nI 1) rfl ?_
    refine R_aload_n r_173_124 rfl (by decide) ?_
    refine R_getf r_173_125 (by decide) hC.1 rfl ?_
    refine R_iconst r_173_128 (v := nI 0) rfl ?_
    refine R_iald r_173_129 (by decide) (hC.2 24 (by decide) (by decide)) hR.rI ?_
    refine R_ishlN r_173_130 (by omega) ?_
    refine R_icmp_ge_N r_173_131 (by decide) (by omega) (by omega) (fun h_1 => ?_) (fun h_1 => ?_)
    · exfalso; omega
    · refine R_iload r_173_134 rfl ?_
      refine R_call1 r_173_136 rfl rfl (Nat.le_of_ble_eq_true rfl) (Nat.le_of_ble_eq_true rfl) ?_
      refine m_bits (by omega) ?_
      refine R_istore r_173_139 rfl ?_
      refine R_iload r_173_141 rfl ?_
      refine R_iload_n r_173_143 rfl ?_
      refine R_iandN r_173_144 ?_
      refine R_if_ne_N r_173_145 (by decide) (by omega) (fun h_2 => ?_) (fun h_2 => ?_)
      · refine R_iconst r_173_197 (v := nI 0) rfl ?_
        refine R_istore r_173_198 rfl ?_
        refine R_iload r_173_200 rfl ?_
        refine R_ifT r_173_202 (by decide) (by decide) ?_
        refine R_iload r_173_225 rfl ?_
        refine R_istore r_173_227 rfl ?_
        refine R_iinc1 r_173_229 rfl rfl ?_
        refine R_goto r_173_232 (by decide) ?_
        have h9 := fun h6 h7 => ih (n + 1) h6 h7 (by omega)
        first | (rw [filS_t ⟨by omega, by assumption, by assumption, by omega⟩, noI_n (by omega)] at h9; exact h9 _ _) | (rw [filS_f (fun z => by have z1 := z.1; have z2 := z.2.1; have z3 := z.2.2.1; have z4 := z.2.2.2; first | omega | exact Bool.noConfusion (z3.symm.trans (by assumption : lawF I (pc8 n) = false)))] at h9; exact h9 _ _) | (rw [filS_f (fun z => by have z1 := z.1; omega), noI_n (by omega)] at h9; exact h9 _ _)
      · refine R_iload r_173_148 rfl ?_
        refine R_aload_n r_173_150 rfl (by decide) ?_
        refine R_getf r_173_151 (by decide) hC.1 rfl ?_
        refine R_iconst r_173_154 (v := nI 0) rfl ?_
        refine R_iald r_173_155 (by decide) (hC.2 31 (by decide) (by decide)) hR.l0 ?_
        refine R_icmp_gt_N r_173_156 (by decide) (by omega) (by omega) (fun h_3 => ?_) (fun h_3 => ?_)
        · refine R_iconst r_173_197 (v := nI 0) rfl ?_
          refine R_istore r_173_198 rfl ?_
          refine R_iload r_173_200 rfl ?_
          refine R_ifT r_173_202 (by decide) (by decide) ?_
          refine R_iload r_173_225 rfl ?_
          refine R_istore r_173_227 rfl ?_
          refine R_iinc1 r_173_229 rfl rfl ?_
          refine R_goto r_173_232 (by decide) ?_
          have h9 := fun h6 h7 => ih (n + 1) h6 h7 (by omega)
          first | (rw [filS_t ⟨by omega, by assumption, by assumption, by omega⟩, noI_n (by omega)] at h9; exact h9 _ _) | (rw [filS_f (fun z => by have z1 := z.1; have z2 := z.2.1; have z3 := z.2.2.1; have z4 := z.2.2.2; first | omega | exact Bool.noConfusion (z3.symm.trans (by assumption : lawF I (pc8 n) = false)))] at h9; exact h9 _ _) | (rw [filS_f (fun z => by have z1 := z.1; omega), noI_n (by omega)] at h9; exact h9 _ _)
        · refine R_iload_n r_173_159 rfl ?_
          refine R_if_ne_b r_173_160 (by decide) (fun h_4 => ?_) (fun h_4 => ?_)
          · have hnR : pc8 n ≤ filR I w := by first | (have hr5 := hr2 (by assumption); omega) | omega
            refine R_aload_n r_173_169 rfl (by decide) ?_
            refine R_iload r_173_170 rfl ?_
            refine R_call2 r_173_172 rfl (sm_rvM rfl rfl rfl hC) (Nat.le_of_ble_eq_true rfl) (Nat.le_of_ble_eq_true rfl) ?_
            refine m_isFall hC hR hL hW hp8 ?_
            refine R_if_eq_b r_173_175 (by decide) (fun h_5 => ?_) (fun h_5 => ?_)
            · refine R_iconst r_173_197 (v := nI 0) rfl ?_
              refine R_istore r_173_198 rfl ?_
              refine R_iload r_173_200 rfl ?_
              refine R_ifT r_173_202 (by decide) (by decide) ?_
              refine R_iload r_173_225 rfl ?_
              refine R_istore r_173_227 rfl ?_
              refine R_iinc1 r_173_229 rfl rfl ?_
              refine R_goto r_173_232 (by decide) ?_
              have h9 := fun h6 h7 => ih (n + 1) h6 h7 (by omega)
              first | (rw [filS_t ⟨by omega, by assumption, by assumption, by omega⟩, noI_n (by omega)] at h9; exact h9 _ _) | (rw [filS_f (fun z => by have z1 := z.1; have z2 := z.2.1; have z3 := z.2.2.1; have z4 := z.2.2.2; first | omega | exact Bool.noConfusion (z3.symm.trans (by assumption : lawF I (pc8 n) = false)))] at h9; exact h9 _ _) | (rw [filS_f (fun z => by have z1 := z.1; omega), noI_n (by omega)] at h9; exact h9 _ _)
            · refine R_aload_n r_173_178 rfl (by decide) ?_
              refine R_iload r_173_179 rfl ?_
              refine R_call2 r_173_181 rfl (sm_rvM rfl rfl rfl hC) (Nat.le_of_ble_eq_true rfl) (Nat.le_of_ble_eq_true rfl) ?_
              refine m_cowsWithout hC hR hL hW (by omega) ?_
              refine R_aload_n r_173_184 rfl (by decide) ?_
              refine R_getf r_173_185 (by decide) hC.1 rfl ?_
              refine R_iconst r_173_188 (v := nI 1) rfl ?_
              refine R_iald r_173_189 (by decide) (hC.2 31 (by decide) (by decide)) hR.l1 ?_
              refine R_icmp_lt_N r_173_190 (by decide) (by omega) (by omega) (fun h_6 => ?_) (fun h_6 => ?_)
              · refine R_iconst r_173_197 (v := nI 0) rfl ?_
                refine R_istore r_173_198 rfl ?_
                refine R_iload r_173_200 rfl ?_
                refine R_ifT r_173_202 (by decide) (by decide) ?_
                refine R_iload r_173_225 rfl ?_
                refine R_istore r_173_227 rfl ?_
                refine R_iinc1 r_173_229 rfl rfl ?_
                refine R_goto r_173_232 (by decide) ?_
                have h9 := fun h6 h7 => ih (n + 1) h6 h7 (by omega)
                first | (rw [filS_t ⟨by omega, by assumption, by assumption, by omega⟩, noI_n (by omega)] at h9; exact h9 _ _) | (rw [filS_f (fun z => by have z1 := z.1; have z2 := z.2.1; have z3 := z.2.2.1; have z4 := z.2.2.2; first | omega | exact Bool.noConfusion (z3.symm.trans (by assumption : lawF I (pc8 n) = false)))] at h9; exact h9 _ _) | (rw [filS_f (fun z => by have z1 := z.1; omega), noI_n (by omega)] at h9; exact h9 _ _)
              · refine R_iconst r_173_193 (v := nI 1) rfl ?_
                refine R_goto r_173_194 (by decide) ?_
                refine R_istore r_173_198 rfl ?_
                refine R_iload r_173_200 rfl ?_
                refine R_ifF r_173_202 (by decide) (by decide) ?_
                refine R_iload r_173_205 rfl ?_
                refine R_if_lt r_173_207 (by decide) (fun h_7 => ?_) (fun h_7 => ?_)
                · try have h999 := hng.mp (by assumption)
                  refine R_iload r_173_220 rfl ?_
                  refine R_goto r_173_222 (by decide) ?_
                  refine R_istore r_173_227 rfl ?_
                  refine R_iinc1 r_173_229 rfl rfl ?_
                  refine R_goto r_173_232 (by decide) ?_
                  have h9 := fun h6 h7 => ih (n + 1) h6 h7 (by omega)
                  first | (rw [filS_t ⟨by omega, by assumption, by assumption, by omega⟩, noI_n (by omega)] at h9; exact h9 _ _) | (rw [filS_f (fun z => by have z1 := z.1; have z2 := z.2.1; have z3 := z.2.2.1; have z4 := z.2.2.2; first | omega | exact Bool.noConfusion (z3.symm.trans (by assumption : lawF I (pc8 n) = false)))] at h9; exact h9 _ _) | (rw [filS_f (fun z => by have z1 := z.1; omega), noI_n (by omega)] at h9; exact h9 _ _)
                · have hlt9 : (filS I (filR I w) (ntV I w) n).1 < 256 := by have := mt hng.mpr (by assumption); omega
                  refine R_iload r_173_210 rfl ?_
                  refine R_iload r_173_212 rfl ?_
                  rw [noI_n (r := (filS I (filR I w) (ntV I w) n).1) (by omega)]
                  refine R_call1 r_173_214 rfl rfl (Nat.le_of_ble_eq_true rfl) (Nat.le_of_ble_eq_true rfl) ?_
                  refine m_bits (by omega) ?_
                  refine R_icmp_ge_N r_173_217 (by decide) (by omega) (by omega) (fun h_8 => ?_) (fun h_8 => ?_)
                  · refine R_iload r_173_225 rfl ?_
                    refine R_istore r_173_227 rfl ?_
                    refine R_iinc1 r_173_229 rfl rfl ?_
                    refine R_goto r_173_232 (by decide) ?_
                    have h9 := fun h6 h7 => ih (n + 1) h6 h7 (by omega)
                    first | (rw [filS_t ⟨by omega, by assumption, by assumption, by omega⟩, noI_n (by omega)] at h9; exact h9 _ _) | (rw [filS_f (fun z => by have z1 := z.1; have z2 := z.2.1; have z3 := z.2.2.1; have z4 := z.2.2.2; first | omega | exact Bool.noConfusion (z3.symm.trans (by assumption : lawF I (pc8 n) = false)))] at h9; exact h9 _ _) | (rw [filS_f (fun z => by have z1 := z.1; omega), noI_n (by omega)] at h9; exact h9 _ _)
                  · try have h999 := hng.mp (by assumption)
                    refine R_iload r_173_220 rfl ?_
                    refine R_goto r_173_222 (by decide) ?_
                    refine R_istore r_173_227 rfl ?_
                    refine R_iinc1 r_173_229 rfl rfl ?_
                    refine R_goto r_173_232 (by decide) ?_
                    have h9 := fun h6 h7 => ih (n + 1) h6 h7 (by omega)
                    first | (rw [filS_t ⟨by omega, by assumption, by assumption, by omega⟩, noI_n (by omega)] at h9; exact h9 _ _) | (rw [filS_f (fun z => by have z1 := z.1; have z2 := z.2.1; have z3 := z.2.2.1; have z4 := z.2.2.2; first | omega | exact Bool.noConfusion (z3.symm.trans (by assumption : lawF I (pc8 n) = false)))] at h9; exact h9 _ _) | (rw [filS_f (fun z => by have z1 := z.1; omega), noI_n (by omega)] at h9; exact h9 _ _)
          · have hr4 := hr3 (by assumption)
            refine R_iload r_173_163 rfl ?_
            refine R_iload_n r_173_165 rfl ?_
            refine R_icmp_gt_N r_173_166 (by decide) (by omega) (by omega) (fun h_9 => ?_) (fun h_9 => ?_)
            · refine R_iconst r_173_197 (v := nI 0) rfl ?_
              refine R_istore r_173_198 rfl ?_
              refine R_iload r_173_200 rfl ?_
              refine R_ifT r_173_202 (by decide) (by decide) ?_
              refine R_iload r_173_225 rfl ?_
              refine R_istore r_173_227 rfl ?_
              refine R_iinc1 r_173_229 rfl rfl ?_
              refine R_goto r_173_232 (by decide) ?_
              have h9 := fun h6 h7 => ih (n + 1) h6 h7 (by omega)
              first | (rw [filS_t ⟨by omega, by assumption, by assumption, by omega⟩, noI_n (by omega)] at h9; exact h9 _ _) | (rw [filS_f (fun z => by have z1 := z.1; have z2 := z.2.1; have z3 := z.2.2.1; have z4 := z.2.2.2; first | omega | exact Bool.noConfusion (z3.symm.trans (by assumption : lawF I (pc8 n) = false)))] at h9; exact h9 _ _) | (rw [filS_f (fun z => by have z1 := z.1; omega), noI_n (by omega)] at h9; exact h9 _ _)
            · have hnR : pc8 n ≤ filR I w := by first | (have hr5 := hr2 (by assumption); omega) | omega
              refine R_aload_n r_173_169 rfl (by decide) ?_
              refine R_iload r_173_170 rfl ?_
              refine R_call2 r_173_172 rfl (sm_rvM rfl rfl rfl hC) (Nat.le_of_ble_eq_true rfl) (Nat.le_of_ble_eq_true rfl) ?_
              refine m_isFall hC hR hL hW hp8 ?_
              refine R_if_eq_b r_173_175 (by decide) (fun h_10 => ?_) (fun h_10 => ?_)
              · refine R_iconst r_173_197 (v := nI 0) rfl ?_
                refine R_istore r_173_198 rfl ?_
                refine R_iload r_173_200 rfl ?_
                refine R_ifT r_173_202 (by decide) (by decide) ?_
                refine R_iload r_173_225 rfl ?_
                refine R_istore r_173_227 rfl ?_
                refine R_iinc1 r_173_229 rfl rfl ?_
                refine R_goto r_173_232 (by decide) ?_
                have h9 := fun h6 h7 => ih (n + 1) h6 h7 (by omega)
                first | (rw [filS_t ⟨by omega, by assumption, by assumption, by omega⟩, noI_n (by omega)] at h9; exact h9 _ _) | (rw [filS_f (fun z => by have z1 := z.1; have z2 := z.2.1; have z3 := z.2.2.1; have z4 := z.2.2.2; first | omega | exact Bool.noConfusion (z3.symm.trans (by assumption : lawF I (pc8 n) = false)))] at h9; exact h9 _ _) | (rw [filS_f (fun z => by have z1 := z.1; omega), noI_n (by omega)] at h9; exact h9 _ _)
              · refine R_aload_n r_173_178 rfl (by decide) ?_
                refine R_iload r_173_179 rfl ?_
                refine R_call2 r_173_181 rfl (sm_rvM rfl rfl rfl hC) (Nat.le_of_ble_eq_true rfl) (Nat.le_of_ble_eq_true rfl) ?_
                refine m_cowsWithout hC hR hL hW (by omega) ?_
                refine R_aload_n r_173_184 rfl (by decide) ?_
                refine R_getf r_173_185 (by decide) hC.1 rfl ?_
                refine R_iconst r_173_188 (v := nI 1) rfl ?_
                refine R_iald r_173_189 (by decide) (hC.2 31 (by decide) (by decide)) hR.l1 ?_
                refine R_icmp_lt_N r_173_190 (by decide) (by omega) (by omega) (fun h_11 => ?_) (fun h_11 => ?_)
                · refine R_iconst r_173_197 (v := nI 0) rfl ?_
                  refine R_istore r_173_198 rfl ?_
                  refine R_iload r_173_200 rfl ?_
                  refine R_ifT r_173_202 (by decide) (by decide) ?_
                  refine R_iload r_173_225 rfl ?_
                  refine R_istore r_173_227 rfl ?_
                  refine R_iinc1 r_173_229 rfl rfl ?_
                  refine R_goto r_173_232 (by decide) ?_
                  have h9 := fun h6 h7 => ih (n + 1) h6 h7 (by omega)
                  first | (rw [filS_t ⟨by omega, by assumption, by assumption, by omega⟩, noI_n (by omega)] at h9; exact h9 _ _) | (rw [filS_f (fun z => by have z1 := z.1; have z2 := z.2.1; have z3 := z.2.2.1; have z4 := z.2.2.2; first | omega | exact Bool.noConfusion (z3.symm.trans (by assumption : lawF I (pc8 n) = false)))] at h9; exact h9 _ _) | (rw [filS_f (fun z => by have z1 := z.1; omega), noI_n (by omega)] at h9; exact h9 _ _)
                · refine R_iconst r_173_193 (v := nI 1) rfl ?_
                  refine R_goto r_173_194 (by decide) ?_
                  refine R_istore r_173_198 rfl ?_
                  refine R_iload r_173_200 rfl ?_
                  refine R_ifF r_173_202 (by decide) (by decide) ?_
                  refine R_iload r_173_205 rfl ?_
                  refine R_if_lt r_173_207 (by decide) (fun h_12 => ?_) (fun h_12 => ?_)
                  · try have h999 := hng.mp (by assumption)
                    refine R_iload r_173_220 rfl ?_
                    refine R_goto r_173_222 (by decide) ?_
                    refine R_istore r_173_227 rfl ?_
                    refine R_iinc1 r_173_229 rfl rfl ?_
                    refine R_goto r_173_232 (by decide) ?_
                    have h9 := fun h6 h7 => ih (n + 1) h6 h7 (by omega)
                    first | (rw [filS_t ⟨by omega, by assumption, by assumption, by omega⟩, noI_n (by omega)] at h9; exact h9 _ _) | (rw [filS_f (fun z => by have z1 := z.1; have z2 := z.2.1; have z3 := z.2.2.1; have z4 := z.2.2.2; first | omega | exact Bool.noConfusion (z3.symm.trans (by assumption : lawF I (pc8 n) = false)))] at h9; exact h9 _ _) | (rw [filS_f (fun z => by have z1 := z.1; omega), noI_n (by omega)] at h9; exact h9 _ _)
                  · have hlt9 : (filS I (filR I w) (ntV I w) n).1 < 256 := by have := mt hng.mpr (by assumption); omega
                    refine R_iload r_173_210 rfl ?_
                    refine R_iload r_173_212 rfl ?_
                    rw [noI_n (r := (filS I (filR I w) (ntV I w) n).1) (by omega)]
                    refine R_call1 r_173_214 rfl rfl (Nat.le_of_ble_eq_true rfl) (Nat.le_of_ble_eq_true rfl) ?_
                    refine m_bits (by omega) ?_
                    refine R_icmp_ge_N r_173_217 (by decide) (by omega) (by omega) (fun h_13 => ?_) (fun h_13 => ?_)
                    · refine R_iload r_173_225 rfl ?_
                      refine R_istore r_173_227 rfl ?_
                      refine R_iinc1 r_173_229 rfl rfl ?_
                      refine R_goto r_173_232 (by decide) ?_
                      have h9 := fun h6 h7 => ih (n + 1) h6 h7 (by omega)
                      first | (rw [filS_t ⟨by omega, by assumption, by assumption, by omega⟩, noI_n (by omega)] at h9; exact h9 _ _) | (rw [filS_f (fun z => by have z1 := z.1; have z2 := z.2.1; have z3 := z.2.2.1; have z4 := z.2.2.2; first | omega | exact Bool.noConfusion (z3.symm.trans (by assumption : lawF I (pc8 n) = false)))] at h9; exact h9 _ _) | (rw [filS_f (fun z => by have z1 := z.1; omega), noI_n (by omega)] at h9; exact h9 _ _)
                    · try have h999 := hng.mp (by assumption)
                      refine R_iload r_173_220 rfl ?_
                      refine R_goto r_173_222 (by decide) ?_
                      refine R_istore r_173_227 rfl ?_
                      refine R_iinc1 r_173_229 rfl rfl ?_
                      refine R_goto r_173_232 (by decide) ?_
                      have h9 := fun h6 h7 => ih (n + 1) h6 h7 (by omega)
                      first | (rw [filS_t ⟨by omega, by assumption, by assumption, by omega⟩, noI_n (by omega)] at h9; exact h9 _ _) | (rw [filS_f (fun z => by have z1 := z.1; have z2 := z.2.1; have z3 := z.2.2.1; have z4 := z.2.2.2; first | omega | exact Bool.noConfusion (z3.symm.trans (by assumption : lawF I (pc8 n) = false)))] at h9; exact h9 _ _) | (rw [filS_f (fun z => by have z1 := z.1; omega), noI_n (by omega)] at h9; exact h9 _ _)
theorem m_fill {xs : List Int32} {d : Nat} {wd : sm_W} {Q : Option Value → sm_W → Prop} {tx : List Nat} {I : sm_Is} {w : Nat} {pa sh : List Nat} {sn : List (Nat × Nat)} (hX : mX wd tx I w pa sh sn) (hW : iWF I) (hw : wfW I w) (hQ : ∀ w2, mX w2 tx I w pa sh sn → frm 22 40 wd w2 → Q (some (.int (noI (filS I (filR I w) (ntV I w) (allOf I + 1)).1))) w2) : Ct xs (d + 2) 173 [.ref 22] wd Q := by
  unfold Ct
  show RT xs (d + 2) 173 0 [some (.ref 22), none, none, none, none, none, none, none] [] wd Q
  obtain ⟨sp, f, hC, hL, hR, hT⟩ := id hX
  obtain ⟨hW1, hW2, hW3, hW4, hW5, hW6, hW7, hW8, hW9, hW10, hW11, hW12, hW13, hW14, hW15⟩ := id hW
  obtain ⟨hT1, hT2, hT3, hT4⟩ := id hT
  refine R_aload_n r_173_0 rfl (by decide) ?_
  refine R_getf r_173_1 (by decide) hC.1 rfl ?_
  refine R_bipush r_173_4 (v := nI 22) rfl ?_
  refine R_iald r_173_6 (by decide) (hC.2 32 (by decide) (by decide)) hR.ni ?_
  refine R_iconst r_173_7 (v := nI 1) rfl ?_
  refine R_icmp_ne_b1 r_173_8 (by decide) (fun h_1 => ?_) (fun h_1 => ?_)
  · refine R_iconst r_173_15 (v := nI 0) rfl ?_
    refine R_istore_n r_173_16 rfl ?_
    refine R_iconst r_173_17 (v := nI 0) rfl ?_
    refine R_istore_n r_173_18 rfl ?_
    refine R_iconst r_173_19 (v := nI 0) rfl ?_
    refine R_istore_n r_173_20 rfl ?_
    refine R_iconst r_173_21 (v := nI 0) rfl ?_
    refine R_istore r_173_22 rfl ?_
    refine lp_mfil1 hC hR hL hW ?_ (iB I) 0 (by omega)
    refine R_iconst r_173_68 (v := nI 0) rfl ?_
    refine R_istore r_173_69 rfl ?_
    have e1 : some (Option.some (Value.int (nI 0))) = some (some (.int (b2i (sIce w)))) := by rw [show sIce w = false from by assumption]; rfl
    have hl0 : lmU I (sIce w) 0 = 0 := by unfold lmU; split <;> rfl
    have h9 : RT xs (d + 2) 173 71 [some (.ref 22), some (.int (b2i (sIce w))), some (.int (nI (cumF (frX I w (-1)) (iB I)))), some (.int (nI (lmU I (sIce w) 0))), some (.int (nI 0)), none, none, none] [] wd Q := by
      refine lp_mfil2 hC hR hL hW ?_ (iN I) 0 (by omega)
      refine R_bipush r_173_114 (v := (-4)) rfl ?_
      refine R_istore r_173_116 rfl ?_
      refine R_iconst r_173_118 (v := nI 0) rfl ?_
      refine R_istore r_173_119 rfl ?_
      exact lp_mfil3 hC hR hL hW (hQ _ hX frm.rf) (allOf I + 1) 0 _ _ (by omega)
    rw [hl0, show sIce w = false from by assumption] at h9
    exact h9
  · refine R_iconst r_173_11 (v := nI 1) rfl ?_
    refine R_goto r_173_12 (by decide) ?_
    refine R_istore_n r_173_16 rfl ?_
    refine R_iconst r_173_17 (v := nI 0) rfl ?_
    refine R_istore_n r_173_18 rfl ?_
    refine R_iconst r_173_19 (v := nI 0) rfl ?_
    refine R_istore_n r_173_20 rfl ?_
    refine R_iconst r_173_21 (v := nI 0) rfl ?_
    refine R_istore r_173_22 rfl ?_
    refine lp_mfil1 hC hR hL hW ?_ (iB I) 0 (by omega)
    refine R_iconst r_173_68 (v := nI 0) rfl ?_
    refine R_istore r_173_69 rfl ?_
    have e1 : some (Option.some (Value.int (nI 1))) = some (some (.int (b2i (sIce w)))) := by rw [show sIce w = true from by assumption]; rfl
    have hl0 : lmU I (sIce w) 0 = 0 := by unfold lmU; split <;> rfl
    have h9 : RT xs (d + 2) 173 71 [some (.ref 22), some (.int (b2i (sIce w))), some (.int (nI (cumF (frX I w (-1)) (iB I)))), some (.int (nI (lmU I (sIce w) 0))), some (.int (nI 0)), none, none, none] [] wd Q := by
      refine lp_mfil2 hC hR hL hW ?_ (iN I) 0 (by omega)
      refine R_bipush r_173_114 (v := (-4)) rfl ?_
      refine R_istore r_173_116 rfl ?_
      refine R_iconst r_173_118 (v := nI 0) rfl ?_
      refine R_istore r_173_119 rfl ?_
      exact lp_mfil3 hC hR hL hW (hQ _ hX frm.rf) (allOf I + 1) 0 _ _ (by omega)
    rw [hl0, show sIce w = true from by assumption] at h9
    exact h9
def bdI (I : sm_Is) (n : Nat) : sm_Is := (iK I, iC I, iS I, (iN I, iB I), (n, iM I, iP I, iX I), iF I)
theorem bdI_wf {I : sm_Is} {n : Nat} (h : iWF I) (hn : n ≤ 9) : iWF (bdI I n) := by
  obtain ⟨hW1, hW2, hW3, hW4, hW5, hW6, hW7, hW8, hW9, hW10, hW11, hW12, hW13, hW14, hW15⟩ := h
  exact ⟨hW1, hW2, hW3, hW4, hW5, hW6, hW7, hW8, hW9, hW10, hn, hW12, hW13, hW14, hW15⟩
theorem mR.beds {I : sm_Is} {w m n : Nat} {f : Nat → List Int32} (hL : mL f) (h : mR (bdI I m) w f) : mR (bdI I n) w (fu f 31 ((f 31).set 0 (nI n))) := by
  have hl : (f 31).length = 8 := hL 31 (by decide) (by decide)
  obtain ⟨⟨h1, h2, h3, h4, h5, h6, h7, h8⟩, h9⟩ := h
  unfold mR
  rw [fu_n (by decide : (24 : Nat) ≠ 31), fu_n (by decide : (25 : Nat) ≠ 31), fu_n (by decide : (28 : Nat) ≠ 31), fu_n (by decide : (29 : Nat) ≠ 31), fu_n (by decide : (30 : Nat) ≠ 31), fu_n (by decide : (32 : Nat) ≠ 31), fu_s]
  refine ⟨⟨h1, h2, h3, h4, ?_, ?_, ?_, ?_⟩, h9⟩
  · exact List.getElem?_set_self (by omega)
  · rw [List.getElem?_set_ne (by decide)]; exact h6
  · rw [List.getElem?_set_ne (by decide)]; exact h7
  · rw [List.getElem?_set_ne (by decide)]; exact h8
theorem fall_bd {I : sm_Is} {w q n : Nat} : fallN (bdI I n) w q = lawF I (pc8 (lowUp (wntq I w q) (min (ntS I w) n) 8).1) := rfl
theorem lp_bend {xs : List Int32} {d : Nat} {wd : sm_W} {Q : Option Value → sm_W → Prop} {I : sm_Is} {w mm : Nat} {ln um km sn sp : Int32} {f : Nat → List Int32} {v r : Int32} {h4 : Option Value} {wd0 : sm_W} {f0 : Nat → List Int32} (hC : mC wd ln um km sn sp f) (hL : mL f) (hR : mR (bdI I mm) w f) (hfk : fk f0 f) (hf : frm 22 40 wd0 wd) (hQ : ∀ wd f, mC wd ln um km sn sp f → mL f → mR I w f → fk f0 f → frm 22 40 wd0 wd → Q (some (.int r)) wd) : RT xs (d + 5) 174 63 [some (.ref 22), some (.int v), some (.int (nI (iBd I))), some (.int r), h4] [] wd Q := by
  refine R_aload_n r_174_63 rfl (by decide) ?_
  refine R_getf r_174_64 (by decide) hC.1 rfl ?_
  refine R_iconst r_174_67 (v := nI 0) rfl ?_
  refine R_iload_n r_174_68 rfl ?_
  refine R_mst r_174_69 hC hL (by decide) (by decide) (by show _ < (8 : Nat); omega) (by decide) (fun w_q_1 f_q_1 hC_q_1 hL_q_1 e_q_1 hf_q_1 => ?_)
  have hR_q_1 : mR (bdI I (iBd I)) w f_q_1 := by rw [e_q_1]; exact (hR).beds hL
  refine R_iload_n r_174_70 rfl ?_
  refine R_iret r_174_71 (ty := .int) rfl rfl (by decide) ?_
  exact hQ _ _ hC_q_1 hL_q_1 hR_q_1 (by rw [e_q_1]; exact hfk.up (by decide)) (frm.tr hf hf_q_1)
theorem lp_bfnd {xs : List Int32} {d : Nat} {wd : sm_W} {Q : Option Value → sm_W → Prop} {I : sm_Is} {w mm : Nat} {ln um km sn sp : Int32} {f : Nat → List Int32} {v : Int32} {b : Nat} (hb : b < 10) {wd0 : sm_W} {f0 : Nat → List Int32} (hC : mC wd ln um km sn sp f) (hL : mL f) (hR : mR (bdI I mm) w f) (hfk : fk f0 f) (hf : frm 22 40 wd0 wd) (hQ : ∀ wd f, mC wd ln um km sn sp f → mL f → mR I w f → fk f0 f → frm 22 40 wd0 wd → Q (some (.int (nI b))) wd) : RT xs (d + 5) 174 22 [some (.ref 22), some (.int v), some (.int (nI (iBd I))), some (.int (nI b)), some (.int (nI (b + 1)))] [] wd Q := by
  refine R_iload r_174_22 rfl ?_
  refine R_bipush r_174_24 (v := nI 10) rfl ?_
  refine R_icmp_ge_N r_174_26 (by decide) (by omega) (by omega) (fun h_1 => ?_) (fun h_1 => ?_)
  · exact lp_bend hC hL hR hfk hf hQ
  · refine R_iload_n r_174_29 rfl ?_
    refine R_if_ge_N r_174_30 (by decide) (by omega) ?_
    exact lp_bend hC hL hR hfk hf hQ
theorem lp_mbeds {xs : List Int32} {d : Nat} {Q : Option Value → sm_W → Prop} {I : sm_Is} {w : Nat} (hW : iWF I) (hw : wfW I w) {ln um km sn sp : Int32} {q : Nat} (hq2 : q < 2) {wd0 : sm_W} {f0 : Nat → List Int32}  : ∀ (k : Nat) (b mm : Nat) (wd : sm_W) (f : Nat → List Int32), (b + k = 10) → (mC wd ln um km sn sp f) → (mL f) → (mR (bdI I mm) w f) → (fk f0 f) → (frm 22 40 wd0 wd) → ((∀ wd f, mC wd ln um km sn sp f → mL f → mR I w f → fk f0 f → frm 22 40 wd0 wd → Q (some (.int (bosI (bdF I (wntq I w q) (ntS I w) k b)))) wd)) → RT xs (d + 5) 174 22 [some (.ref 22), some (.int (nI q)), some (.int (nI (iBd I))), some (.int (-4)), some (.int (nI b))] [] wd Q := by
  intro k
  induction k with
  | zero =>
    intro b mm wd f hk hC hL hR hfk hf hq
    refine R_iload r_174_22 rfl ?_
    refine R_bipush r_174_24 (v := nI 10) rfl ?_
    refine R_icmp_ge_N r_174_26 (by decide) (by omega) (by omega) (fun h_1 => ?_) (fun h_1 => ?_)
    · exact lp_bend hC hL hR hfk hf hq
    · exfalso; omega
  | succ k ih =>
    intro b mm wd f hk hC hL hR hfk hf hq
    refine R_iload r_174_22 rfl ?_
    refine R_bipush r_174_24 (v := nI 10) rfl ?_
    refine R_icmp_ge_N r_174_26 (by decide) (by omega) (by omega) (fun h_1 => ?_) (fun h_1 => ?_)
    · exfalso; omega
    · refine R_iload_n r_174_29 rfl ?_
      refine R_ifF r_174_30 (by decide) (by decide) ?_
      refine R_aload_n r_174_33 rfl (by decide) ?_
      refine R_getf r_174_34 (by decide) hC.1 rfl ?_
      refine R_iconst r_174_37 (v := nI 0) rfl ?_
      refine R_iload r_174_38 rfl ?_
      refine R_mst r_174_40 hC hL (by decide) (by decide) (by show _ < (8 : Nat); omega) (by decide) (fun w_q_2 f_q_2 hC_q_2 hL_q_2 e_q_2 hf_q_2 => ?_)
      have hR_q_2 : mR (bdI I (b)) w f_q_2 := by rw [e_q_2]; exact (hR).beds hL
      refine R_aload_n r_174_41 rfl (by decide) ?_
      refine R_iload_n r_174_42 rfl ?_
      refine R_call2 r_174_43 rfl (sm_rvM rfl rfl rfl hC_q_2) (Nat.le_of_ble_eq_true rfl) (Nat.le_of_ble_eq_true rfl) ?_
      refine m_doesFall hC_q_2 hR_q_2 hL_q_2 (bdI_wf hW (by omega)) hw hq2 (fun w_q_3 f_q_3 hC_q_3 hL_q_3 hR_q_3 hfs_q_3 hf_q_3 => ?_)
      rw [fall_bd]
      refine R_if_eq_b r_174_46 (by decide) (fun h_4 => ?_) (fun h_4 => ?_)
      · refine R_bipush r_174_54 (v := (-4)) rfl ?_
        refine R_istore_n r_174_56 rfl ?_
        refine R_iinc1 r_174_57 rfl rfl ?_
        refine R_goto r_174_60 (by decide) ?_
        rw [bdF_f (by assumption)] at hq
        exact ih (b + 1) _ _ _ (by omega) hC_q_3 hL_q_3 hR_q_3 (fk.tr hfk (fk.tr (by rw [e_q_2]; exact fk.rf.up (by decide)) hfs_q_3.fk)) (frm.tr (frm.tr hf hf_q_2) hf_q_3) hq
      · refine R_iload r_174_49 rfl ?_
        refine R_goto r_174_51 (by decide) ?_
        refine R_istore_n r_174_56 rfl ?_
        refine R_iinc1 r_174_57 rfl rfl ?_
        refine R_goto r_174_60 (by decide) ?_
        rw [bdF_t (by assumption)] at hq
        unfold bosI at hq; rw [if_neg (by omega)] at hq
        exact lp_bfnd (by omega) hC_q_3 hL_q_3 hR_q_3 (fk.tr hfk (fk.tr (by rw [e_q_2]; exact fk.rf.up (by decide)) hfs_q_3.fk)) (frm.tr (frm.tr hf hf_q_2) hf_q_3) hq
theorem m_beds {xs : List Int32} {d : Nat} {wd : sm_W} {Q : Option Value → sm_W → Prop} {tx : List Nat} {I : sm_Is} {w : Nat} {pa sh : List Nat} {sn : List (Nat × Nat)} (hX : mX wd tx I w pa sh sn) (hW : iWF I) (hw : wfW I w) {x1 : Int32} (hB : inR x1 2 = false → Q (some (.int (-1))) wd) (hQ : ∀ q, q < 2 → x1 = nI q → ∀ w2, mX w2 tx I w pa sh sn → frm 22 40 wd w2 → Q (some (.int (bosI (bdF I (wntq I w q) (ntS I w) 10 0)))) w2) : Ct xs (d + 5) 174 [.ref 22, .int x1] wd Q := by
  unfold Ct
  show RT xs (d + 5) 174 0 [some (.ref 22), some (.int x1), none, none, none] [] wd Q
  obtain ⟨sp, f, hC, hL, hR, hT⟩ := id hX
  obtain ⟨hW1, hW2, hW3, hW4, hW5, hW6, hW7, hW8, hW9, hW10, hW11, hW12, hW13, hW14, hW15⟩ := id hW
  obtain ⟨hT1, hT2, hT3, hT4⟩ := id hT
  refine R_iload_n r_174_0 rfl ?_
  refine R_call1 r_174_1 rfl rfl (Nat.le_of_ble_eq_true rfl) (Nat.le_of_ble_eq_true rfl) ?_
  refine m_isQuestion ?_
  refine R_if_ne_b r_174_4 (by decide) (fun h_1 => ?_) (fun h_1 => ?_)
  · obtain ⟨q, hq, rfl⟩ := inR_of (x := x1) (by assumption) (by decide)
    refine R_aload_n r_174_9 rfl (by decide) ?_
    refine R_getf r_174_10 (by decide) hC.1 rfl ?_
    refine R_iconst r_174_13 (v := nI 0) rfl ?_
    refine R_iald r_174_14 (by decide) (hC.2 31 (by decide) (by decide)) hR.l0 ?_
    refine R_istore_n r_174_15 rfl ?_
    refine R_bipush r_174_16 (v := (-4)) rfl ?_
    refine R_istore_n r_174_18 rfl ?_
    refine R_iconst r_174_19 (v := nI 0) rfl ?_
    refine R_istore r_174_20 rfl ?_
    exact lp_mbeds hW hw hq (f0 := f) (wd0 := wd) 10 0 (iBd I) _ _ (by omega) hC hL hR fk.rf frm.rf (fun wd2 f2 hC2 hL2 hR2 hk2 hf2 => hQ q hq rfl _ ⟨_, _, hC2, hL2, hR2, hT.fk hk2⟩ hf2)
  · refine R_iconst r_174_7 (v := (-1)) rfl ?_
    refine R_iret r_174_8 (ty := .int) rfl rfl (by decide) ?_
    exact hB (by assumption)
