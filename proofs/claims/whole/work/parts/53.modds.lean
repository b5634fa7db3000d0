/-! the model: odds, months -/
theorem wnt_bit (gs : List Nat) (wl : Nat) : ∀ k t, (wntUp gs wl k).testBit t = (decide (t < k) && wl.testBit (gs.getD t 0))
  | 0, t => by show (0 : Nat).testBit t = _; rw [Nat.zero_testBit]; simp
  | k + 1, t => by
    unfold wntUp
    rw [Nat.testBit_or, wnt_bit gs wl k t]
    by_cases e : t = k
    · subst e
      cases h : wl.testBit (gs.getD t 0)
      · simp
      · rw [show true.toNat <<< t = 1 <<< t from rfl, bit1]; simp
    · have h1 : ((wl.testBit (gs.getD k 0)).toNat <<< k).testBit t = false := by
        cases h : wl.testBit (gs.getD k 0)
        · show (0 <<< k).testBit t = false
          rw [Nat.zero_shiftLeft, Nat.zero_testBit]
        · show (1 <<< k).testBit t = false
          rw [bit1, decide_eq_false (Ne.symm e)]
      rw [h1, Bool.or_false, show decide (t < k + 1) = decide (t < k) from decide_eq_decide.mpr (by omega)]
theorem wntq_bit {I : sm_Is} {w q t : Nat} (ht : t < 8) : (wntq I w q).testBit t = dwF I w q t 0 := by
  unfold wntq wnt dwF
  rw [wnt_bit, decide_eq_true ht, Bool.true_and]
def qsU (I : sm_Is) (w q k : Nat) : Nat := wntq I w q &&& kindUp (iK I) 1 k
theorem qsU_bit (I : sm_Is) (w q k t : Nat) : (qsU I w q k).testBit t = ((wntq I w q).testBit t && (decide (t < k) && decide ((iK I).getD t 0 = 1))) := by unfold qsU; rw [Nat.testBit_and, kindUp_bit]
theorem qsU_f {I : sm_Is} {w q k : Nat} (h : (iK I).getD k 0 ≠ 1 ∨ (wntq I w q).testBit k = false) : qsU I w q (k + 1) = qsU I w q k := by
  apply Nat.eq_of_testBit_eq
  intro t
  rw [qsU_bit, qsU_bit]
  by_cases e : t = k
  · subst e
    rcases h with h | h
    · rw [decide_eq_false h]; simp
    · rw [h]; rfl
  · rw [show decide (t < k + 1) = decide (t < k) from decide_eq_decide.mpr (by omega)]
theorem qsU_t {I : sm_Is} {w q k : Nat} (h : (iK I).getD k 0 = 1) (h2 : (wntq I w q).testBit k = true) : qsU I w q (k + 1) = qsU I w q k ||| 1 <<< k := by
  apply Nat.eq_of_testBit_eq
  intro t
  rw [or_bit, qsU_bit, qsU_bit]
  by_cases e : t = k
  · subst e
    rw [decide_eq_true h, h2]; simp
  · rw [show decide (t < k + 1) = decide (t < k) from decide_eq_decide.mpr (by omega), decide_eq_false (Ne.symm e), Bool.or_false]
theorem qsU_lt (I : sm_Is) (w q k : Nat) : qsU I w q k < 256 := Nat.lt_of_le_of_lt Nat.and_le_left (wnt_lt _ _ _ _ _)
theorem qsU_0 (I : sm_Is) (w q k : Nat) : (qsU I w q k).testBit k = false := by rw [qsU_bit]; simp
theorem qsU_pc {I : sm_Is} {w q k : Nat} (hk : k < 8) : 10 ^ pc8 (qsU I w q k ||| 1 <<< k) = 10 ^ pc8 (qsU I w q k) * 10 := by
  rw [pc_or _ (qsU_lt I w q k) k hk (qsU_0 I w q k)]
  exact Nat.pow_succ 10 _
theorem wtU_1 {x qs n k : Nat} (h : qs.testBit k = false) (hn : n &&& (qs ^^^ 4294967295) = 0) (hk : k < 8) : wtU x qs n (k + 1) = wtU x qs n k * 1 := by
  have h0 : n.testBit k = false := by
    cases hb : n.testBit k
    · rfl
    · exact Bool.noConfusion (h.symm.trans (sub_bits hn (by omega) hb))
  rw [wtU_s, h, h0]; rfl
theorem wtU_2 {x qs n k : Nat} (h : qs.testBit k = true) (h0 : n.testBit k = true) : wtU x qs n (k + 1) = wtU x qs n k * x := by rw [wtU_s, h, h0]; rfl
theorem wtU_3 {x qs n k : Nat} (h : qs.testBit k = true) (h0 : n.testBit k = false) : wtU x qs n (k + 1) = wtU x qs n k * (10 - x) := by rw [wtU_s, h, h0]; rfl
theorem sub_le {n qs : Nat} (hn : n < 256) (h : n &&& (qs ^^^ 4294967295) = 0) : n ≤ qs := by
  have e : n &&& qs = n := by
    apply Nat.eq_of_testBit_eq
    intro t
    rw [Nat.testBit_and]
    cases ht : n.testBit t
    · rfl
    · by_cases h32 : t < 32
      · rw [sub_bits h h32 ht]; rfl
      · rw [big_bit hn (by omega)] at ht
        exact Bool.noConfusion ht
  have := Nat.and_le_right (n := n) (m := qs)
  omega
theorem odS_hi {I : sm_Is} {w q qs : Nat} : ∀ k, qs + 1 + k ≤ 256 → odS I w q qs (qs + 1 + k) = odS I w q qs (qs + 1)
  | 0, _ => rfl
  | k + 1, h8 => by
    rw [show qs + 1 + (k + 1) = (qs + 1 + k) + 1 by omega, odS_f (fun z => by have := sub_le (by omega) z.1; omega)]
    exact odS_hi k (by omega)
theorem odS_256 {I : sm_Is} {w q qs : Nat} (h : qs < 256) : odS I w q qs 256 = odA I w q qs := by
  have := odS_hi (I := I) (w := w) (q := q) (qs := qs) (255 - qs) (by omega)
  rw [show qs + 1 + (255 - qs) = 256 by omega] at this
  exact this
theorem lp_mgcd {xs : List Int32} {d : Nat} {wd : sm_W} {Q : Option Value → sm_W → Prop} {x1 x2 : Int32} : ∀ (n x y : Nat) (h4 : Option Value), y ≤ n → x < 2147483648 → y < 2147483648 → Q (some (.int (nI (Nat.gcd x y)))) wd → RT xs (d) 181 4 [some (.int x1), some (.int x2), some (.int (nI x)), some (.int (nI y)), h4] [] wd Q := by
  intro n
  induction n with
  | zero =>
    intro x y h4 hy hx hy2 hq
    obtain rfl : y = 0 := by omega
    refine R_iload_n r_181_4 rfl ?_
    refine R_if_eq_N r_181_5 (by decide) (by omega) (fun h_1 => ?_) (fun h_1 => ?_)
    · refine R_iload_n r_181_21 rfl ?_
      refine R_iret r_181_22 (ty := .int) rfl rfl (by decide) ?_
      rw [Nat.gcd_zero_right] at hq; exact hq
    · exact absurd rfl h_1
  | succ n ih =>
    intro x y h4 hy hx hy2 hq
    refine R_iload_n r_181_4 rfl ?_
    refine R_if_eq_N r_181_5 (by decide) (by omega) (fun h_1 => ?_) (fun h_1 => ?_)
    · refine R_iload_n r_181_21 rfl ?_
      refine R_iret r_181_22 (ty := .int) rfl rfl (by decide) ?_
      rw [show y = 0 by omega, Nat.gcd_zero_right] at hq; exact hq
    · refine R_iload_n r_181_8 rfl ?_
      refine R_iload_n r_181_9 rfl ?_
      refine R_iremN r_181_10 (by omega) (by omega) (by omega) ?_
      refine R_istore r_181_11 rfl ?_
      refine R_iload_n r_181_13 rfl ?_
      refine R_istore_n r_181_14 rfl ?_
      refine R_iload r_181_15 rfl ?_
      refine R_istore_n r_181_17 rfl ?_
      refine R_goto r_181_18 (by decide) ?_
      have hmod : x % y < y := Nat.mod_lt x (by omega)
      refine ih y (x % y) _ (by omega) hy2 (by omega) ?_
      rw [Nat.gcd_comm y (x % y), ← Nat.gcd_rec y x, Nat.gcd_comm y x]; exact hq
theorem m_common {xs : List Int32} {d : Nat} {wd : sm_W} {Q : Option Value → sm_W → Prop} {a b : Nat} (ha : a < 2147483648) (hb : b < 2147483648) (hQ : Q (some (.int (nI (Nat.gcd a b)))) wd) : Ct xs (d) 181 [.int (nI a), .int (nI b)] wd Q := by
  unfold Ct
  show RT xs (d) 181 0 [some (.int (nI a)), some (.int (nI b)), none, none, none] [] wd Q
  refine R_iload_n r_181_0 rfl ?_
  refine R_istore_n r_181_1 rfl ?_
  refine R_iload_n r_181_2 rfl ?_
  refine R_istore_n r_181_3 rfl ?_
  exact lp_mgcd b a b _ (Nat.le_refl _) ha hb hQ
theorem lp_mod1 {xs : List Int32} {d : Nat} {wd : sm_W} {Q : Option Value → sm_W → Prop} {ln um km sn sp : Int32} {f : Nat → List Int32} (hC : mC wd ln um km sn sp f) {I : sm_Is} {w : Nat} (hR : mR I w f) (hL : mL f) (hW : iWF I) (hw : wfW I w) {q : Nat} (hq : q < 2) {x2 : Int32} {l6 l7 l8 : Option Value} (hQ : RT xs (d + 3) 180 80 [some (.ref 22), some (.int (nI q)), some (.int x2), some (.int (nI (qsU I w q (iN I)))), some (.int (nI (10 ^ pc8 (qsU I w q (iN I))))), some (.int (nI (iN I))), l6, l7, l8] [] wd Q)  : ∀ (k : Nat) (b : Nat), (b + k = iN I) → RT xs (d + 3) 180 27 [some (.ref 22), some (.int (nI q)), some (.int x2), some (.int (nI (qsU I w q (b)))), some (.int (nI (10 ^ pc8 (qsU I w q (b))))), some (.int (nI (b))), l6, l7, l8] [] wd Q := by
  intro k
  induction k with
  | zero =>
    intro b hk
    obtain ⟨hW1, hW2, hW3, hW4, hW5, hW6, hW7, hW8, hW9, hW10, hW11, hW12, hW13, hW14, hW15⟩ := id hW
    have hal := all_lt hW
    have has := all_shl I
    have has2 := all_shl2 I
    have hk4 := hW6 b
    refine R_iload r_180_27 rfl ?_
    refine R_aload_n r_180_29 rfl (by decide) ?_
    refine R_getf r_180_30 (by decide) hC.1 rfl ?_
    refine R_iconst r_180_33 (v := nI 0) rfl ?_
    refine R_iald r_180_34 (by decide) (hC.2 24 (by decide) (by decide)) hR.rI ?_
    refine R_icmp_ge_N r_180_35 (by decide) (by omega) (by omega) (fun h_1 => ?_) (fun h_1 => ?_)
    · rw [show iN I = b by omega] at hQ; exact hQ
    · exfalso; omega
  | succ k ih =>
    intro b hk
    obtain ⟨hW1, hW2, hW3, hW4, hW5, hW6, hW7, hW8, hW9, hW10, hW11, hW12, hW13, hW14, hW15⟩ := id hW
    have hal := all_lt hW
    have has := all_shl I
    have has2 := all_shl2 I
    have hk4 := hW6 b
    refine R_iload r_180_27 rfl ?_
    refine R_aload_n r_180_29 rfl (by decide) ?_
    refine R_getf r_180_30 (by decide) hC.1 rfl ?_
    refine R_iconst r_180_33 (v := nI 0) rfl ?_
    refine R_iald r_180_34 (by decide) (hC.2 24 (by decide) (by decide)) hR.rI ?_
    refine R_icmp_ge_N r_180_35 (by decide) (by omega) (by omega) (fun h_1 => ?_) (fun h_1 => ?_)
    · exfalso; omega
    · refine R_aload_n r_180_38 rfl (by decide) ?_
      refine R_getf r_180_39 (by decide) hC.1 rfl ?_
      refine R_iload r_180_42 rfl ?_
      refine R_iald r_180_44 (by decide) (hC.2 25 (by decide) (by decide)) (hR.rK (by omega) hW4) ?_
      refine R_iconst r_180_45 (v := nI 1) rfl ?_
      refine R_icmp_ne_N r_180_46 (by decide) (by omega) (by omega) (fun h_2 => ?_) (fun h_2 => ?_)
      · refine R_iinc1 r_180_74 rfl rfl ?_
        refine R_goto r_180_77 (by decide) ?_
        have h9 := ih (b + 1) (by omega)
        first | (rw [qsU_f (Or.inl (by assumption))] at h9; exact h9) | (rw [qsU_f (Or.inr (by rw [wntq_bit (by omega)]; assumption))] at h9; exact h9) | (rw [qsU_t (by assumption) (by rw [wntq_bit (by omega)]; assumption), qsU_pc (by omega)] at h9; exact h9)
      · refine R_aload_n r_180_49 rfl (by decide) ?_
        refine R_iload_n r_180_50 rfl ?_
        refine R_iload r_180_51 rfl ?_
        refine R_iconst r_180_53 (v := nI 0) rfl ?_
        refine R_call4 r_180_54 rfl (sm_rvM rfl rfl rfl hC) (Nat.le_of_ble_eq_true rfl) (Nat.le_of_ble_eq_true rfl) ?_
        refine m_doesWant hC hR hL hW hw hq (by omega) (by decide) ?_
        refine R_if_eq_b r_180_57 (by decide) (fun h_3 => ?_) (fun h_3 => ?_)
        · refine R_iinc1 r_180_74 rfl rfl ?_
          refine R_goto r_180_77 (by decide) ?_
          have h9 := ih (b + 1) (by omega)
          first | (rw [qsU_f (Or.inl (by assumption))] at h9; exact h9) | (rw [qsU_f (Or.inr (by rw [wntq_bit (by omega)]; assumption))] at h9; exact h9) | (rw [qsU_t (by assumption) (by rw [wntq_bit (by omega)]; assumption), qsU_pc (by omega)] at h9; exact h9)
        · refine R_iload_n r_180_60 rfl ?_
          refine R_iconst r_180_61 (v := nI 1) rfl ?_
          refine R_iload r_180_62 rfl ?_
          refine R_ishlN r_180_64 (by omega) ?_
          refine R_iorN r_180_65 ?_
          refine R_istore_n r_180_66 rfl ?_
          refine R_iload r_180_67 rfl ?_
          refine R_bipush r_180_69 (v := nI 10) rfl ?_
          refine R_imulN r_180_71 ?_
          refine R_istore r_180_72 rfl ?_
          refine R_iinc1 r_180_74 rfl rfl ?_
          refine R_goto r_180_77 (by decide) ?_
          have h9 := ih (b + 1) (by omega)
          first | (rw [qsU_f (Or.inl (by assumption))] at h9; exact h9) | (rw [qsU_f (Or.inr (by rw [wntq_bit (by omega)]; assumption))] at h9; exact h9) | (rw [qsU_t (by assumption) (by rw [wntq_bit (by omega)]; assumption), qsU_pc (by omega)] at h9; exact h9)
theorem lp_mod2 {xs : List Int32} {d : Nat} {wd : sm_W} {Q : Option Value → sm_W → Prop} {ln um km sn sp : Int32} {f : Nat → List Int32} (hC : mC wd ln um km sn sp f) {I : sm_Is} {w : Nat} (hR : mR I w f) (hL : mL f) (hW : iWF I) {q qs n : Nat} (hqs : qs < 256) (hn : n < 256) (hsub : n &&& (qs ^^^ 4294967295) = 0) {x2 v4 v5 : Int32} (hQ : RT xs (d + 3) 180 168 [some (.ref 22), some (.int (nI q)), some (.int x2), some (.int (nI qs)), some (.int v4), some (.int v5), some (.int (nI n)), some (.int (nI (wtU (iX I) qs n (8)))), some (.int (nI (8)))] [] wd Q)  : ∀ (k : Nat) (i : Nat), (i + k = 8) → RT xs (d + 3) 180 109 [some (.ref 22), some (.int (nI q)), some (.int x2), some (.int (nI qs)), some (.int v4), some (.int v5), some (.int (nI n)), some (.int (nI (wtU (iX I) qs n (i)))), some (.int (nI (i)))] [] wd Q := by
  intro k
  induction k with
  | zero =>
    intro i hk
    obtain ⟨hW1, hW2, hW3, hW4, hW5, hW6, hW7, hW8, hW9, hW10, hW11, hW12, hW13, hW14, hW15⟩ := id hW
    have hal := all_lt hW
    have has := all_shl I
    have has2 := all_shl2 I
    refine R_iload r_180_109 rfl ?_
    refine R_bipush r_180_111 (v := nI 8) rfl ?_
    refine R_icmp_ge_N r_180_113 (by decide) (by omega) (by omega) (fun h_1 => ?_) (fun h_1 => ?_)
    · obtain rfl : i = 8 := by omega
      exact hQ
    · exfalso; omega
  | succ k ih =>
    intro i hk
    obtain ⟨hW1, hW2, hW3, hW4, hW5, hW6, hW7, hW8, hW9, hW10, hW11, hW12, hW13, hW14, hW15⟩ := id hW
    have hal := all_lt hW
    have has := all_shl I
    have has2 := all_shl2 I
    refine R_iload r_180_109 rfl ?_
    refine R_bipush r_180_111 (v := nI 8) rfl ?_
    refine R_icmp_ge_N r_180_113 (by decide) (by omega) (by omega) (fun h_1 => ?_) (fun h_1 => ?_)
    · exfalso; omega
    · refine R_iload r_180_116 rfl ?_
      refine R_iload_n r_180_118 rfl ?_
      refine R_iload r_180_119 rfl ?_
      refine R_call2 r_180_121 rfl rfl (Nat.le_of_ble_eq_true rfl) (Nat.le_of_ble_eq_true rfl) ?_
      refine m_has (by omega) (by omega) ?_
      refine R_if_ne_b r_180_124 (by decide) (fun h_2 => ?_) (fun h_2 => ?_)
      · refine R_iload r_180_131 rfl ?_
        refine R_iload r_180_133 rfl ?_
        refine R_call2 r_180_135 rfl rfl (Nat.le_of_ble_eq_true rfl) (Nat.le_of_ble_eq_true rfl) ?_
        refine m_has (by omega) (by omega) ?_
        refine R_if_eq_b r_180_138 (by decide) (fun h_3 => ?_) (fun h_3 => ?_)
        · refine R_bipush r_180_150 (v := nI 10) rfl ?_
          refine R_aload_n r_180_152 rfl (by decide) ?_
          refine R_getf r_180_153 (by decide) hC.1 rfl ?_
          refine R_iconst r_180_156 (v := nI 3) rfl ?_
          refine R_iald r_180_157 (by decide) (hC.2 31 (by decide) (by decide)) hR.l3 ?_
          refine R_isubN r_180_158 (by omega) ?_
          refine R_imulN r_180_159 ?_
          refine R_istore r_180_160 rfl ?_
          refine R_iinc1 r_180_162 rfl rfl ?_
          refine R_goto r_180_165 (by decide) ?_
          have h9 := ih (i + 1) (by omega)
          first | (rw [wtU_1 (by assumption) hsub (by omega)] at h9; exact h9) | (rw [wtU_2 (by assumption) (by assumption)] at h9; exact h9) | (rw [wtU_3 (by assumption) (by assumption)] at h9; exact h9)
        · refine R_aload_n r_180_141 rfl (by decide) ?_
          refine R_getf r_180_142 (by decide) hC.1 rfl ?_
          refine R_iconst r_180_145 (v := nI 3) rfl ?_
          refine R_iald r_180_146 (by decide) (hC.2 31 (by decide) (by decide)) hR.l3 ?_
          refine R_goto r_180_147 (by decide) ?_
          refine R_imulN r_180_159 ?_
          refine R_istore r_180_160 rfl ?_
          refine R_iinc1 r_180_162 rfl rfl ?_
          refine R_goto r_180_165 (by decide) ?_
          have h9 := ih (i + 1) (by omega)
          first | (rw [wtU_1 (by assumption) hsub (by omega)] at h9; exact h9) | (rw [wtU_2 (by assumption) (by assumption)] at h9; exact h9) | (rw [wtU_3 (by assumption) (by assumption)] at h9; exact h9)
      · refine R_iconst r_180_127 (v := nI 1) rfl ?_
        refine R_goto r_180_128 (by decide) ?_
        refine R_imulN r_180_159 ?_
        refine R_istore r_180_160 rfl ?_
        refine R_iinc1 r_180_162 rfl rfl ?_
        refine R_goto r_180_165 (by decide) ?_
        have h9 := ih (i + 1) (by omega)
        first | (rw [wtU_1 (by assumption) hsub (by omega)] at h9; exact h9) | (rw [wtU_2 (by assumption) (by assumption)] at h9; exact h9) | (rw [wtU_3 (by assumption) (by assumption)] at h9; exact h9)
theorem lp_mod3 {xs : List Int32} {d : Nat} {Q : Option Value → sm_W → Prop} {I : sm_Is} {w : Nat} (hW : iWF I) (hw : wfW I w) {ln um km sn sp : Int32} {q qs : Nat} (hq : q < 2) (hqs : qs < 256) {x2 : Int32} {wd0 : sm_W} {f0 : Nat → List Int32} (hQ : ∀ wd f, mC wd ln um km sn sp f → mL f → mR I w f → fk f0 f → frm 22 40 wd0 wd → Q (some (.int (if x2 = 0 then nI (odA I w q qs / odG I w q qs) else nI (10 ^ pc8 qs / odG I w q qs)))) wd)  : ∀ (k : Nat) (n : Nat) (h7 h8 : Option Value) (wd : sm_W) (f : Nat → List Int32), (n + k = 256) → (mC wd ln um km sn sp f) → (mL f) → (mR I w f) → (fk f0 f) → (frm 22 40 wd0 wd) → RT xs (d + 3) 180 86 [some (.ref 22), some (.int (nI q)), some (.int x2), some (.int (nI qs)), some (.int (nI (10 ^ pc8 qs))), some (.int (nI (odS I w q qs n))), some (.int (nI n)), h7, h8] [] wd Q := by
  intro k
  induction k with
  | zero =>
    intro n h7 h8 wd f hk hC hL hR hfk hf
    obtain ⟨hW1, hW2, hW3, hW4, hW5, hW6, hW7, hW8, hW9, hW10, hW11, hW12, hW13, hW14, hW15⟩ := id hW
    have hal := all_lt hW
    have has := all_shl I
    have has2 := all_shl2 I
    have hod := odS_lt (I := I) (w := w) (q := q) (qs := qs) hW14 (n := n) (by omega)
    have hp10 := p10_le qs
    have hnq : n &&& (qs ^^^ 4294967295) ≤ n := Nat.and_le_left
    have hgp := odG_pos I w q qs
    have hgl := odG_le I w q qs
    refine R_iload r_180_86 rfl ?_
    refine R_sipush r_180_88 (v := nI 256) rfl ?_
    refine R_icmp_ge_N r_180_91 (by decide) (by omega) (by omega) (fun h_1 => ?_) (fun h_1 => ?_)
    · obtain rfl : n = 256 := by omega
      have e256 := odS_256 (I := I) (w := w) (q := q) hqs
      rw [e256] at hod ⊢
      refine R_iload r_180_220 rfl ?_
      refine R_iload r_180_222 rfl ?_
      refine R_call2 r_180_224 rfl rfl (Nat.le_of_ble_eq_true rfl) (Nat.le_of_ble_eq_true rfl) ?_
      refine m_common (by omega) (by omega) ?_
      rw [Nat.gcd_comm, show Nat.gcd (10 ^ pc8 qs) (odA I w q qs) = odG I w q qs from rfl]
      refine R_istore r_180_227 rfl ?_
      refine R_iload_n r_180_229 rfl ?_
      refine R_if_ne r_180_230 (by decide) (fun h_2 => ?_) (fun h_2 => ?_)
      · refine R_iload r_180_241 rfl ?_
        refine R_iload r_180_243 rfl ?_
        refine R_idivN r_180_245 (by omega) (by omega) (by omega) ?_
        refine R_iret r_180_246 (ty := .int) rfl rfl (by decide) ?_
        have h9 := hQ _ _ hC hL hR hfk hf; first | (rw [if_pos (by assumption)] at h9; exact h9) | (rw [if_neg (by assumption)] at h9; exact h9)
      · refine R_iload r_180_233 rfl ?_
        refine R_iload r_180_235 rfl ?_
        refine R_idivN r_180_237 (by omega) (by omega) (by omega) ?_
        refine R_goto r_180_238 (by decide) ?_
        refine R_iret r_180_246 (ty := .int) rfl rfl (by decide) ?_
        have h9 := hQ _ _ hC hL hR hfk hf; first | (rw [if_pos (by assumption)] at h9; exact h9) | (rw [if_neg (by assumption)] at h9; exact h9)
    · exfalso; omega
  | succ k ih =>
    intro n h7 h8 wd f hk hC hL hR hfk hf
    obtain ⟨hW1, hW2, hW3, hW4, hW5, hW6, hW7, hW8, hW9, hW10, hW11, hW12, hW13, hW14, hW15⟩ := id hW
    have hal := all_lt hW
    have has := all_shl I
    have has2 := all_shl2 I
    have hod := odS_lt (I := I) (w := w) (q := q) (qs := qs) hW14 (n := n) (by omega)
    have hp10 := p10_le qs
    have hnq : n &&& (qs ^^^ 4294967295) ≤ n := Nat.and_le_left
    have hgp := odG_pos I w q qs
    have hgl := odG_le I w q qs
    refine R_iload r_180_86 rfl ?_
    refine R_sipush r_180_88 (v := nI 256) rfl ?_
    refine R_icmp_ge_N r_180_91 (by decide) (by omega) (by omega) (fun h_1 => ?_) (fun h_1 => ?_)
    · exfalso; omega
    · refine R_iload r_180_94 rfl ?_
      refine R_iload_n r_180_96 rfl ?_
      refine R_iconst r_180_97 (v := (-1)) rfl ?_
      refine R_ixorM r_180_98 ?_
      refine R_iandN r_180_99 ?_
      refine R_if_ne_N r_180_100 (by decide) (by omega) (fun h_2 => ?_) (fun h_2 => ?_)
      · refine R_iinc1 r_180_214 rfl rfl ?_
        refine R_goto r_180_217 (by decide) ?_
        have h9 := fun h7 h8 => ih (n + 1) h7 h8 _ _ (by omega) hC hL hR hfk hf
        rw [odS_f (fun z => (by assumption : ¬ _ = 0) z.1)] at h9; exact h9 _ _
      · refine R_iconst r_180_103 (v := nI 1) rfl ?_
        refine R_istore r_180_104 rfl ?_
        refine R_iconst r_180_106 (v := nI 0) rfl ?_
        refine R_istore r_180_107 rfl ?_
        refine lp_mod2 hC hR hL hW hqs (by omega) (by assumption) ?_ 8 0 (by omega)
        rw [← wgt_wtU (I := I) (by assumption)]
        refine R_aload_n r_180_168 rfl (by decide) ?_
        refine R_aload_n r_180_169 rfl (by decide) ?_
        refine R_iload_n r_180_170 rfl ?_
        refine R_iload r_180_171 rfl ?_
        refine R_call3 r_180_173 rfl (sm_rvM rfl rfl rfl hC) (Nat.le_of_ble_eq_true rfl) (Nat.le_of_ble_eq_true rfl) ?_
        refine m_wanting hC hR hL hW hw hq (by omega) ?_
        refine R_iconst r_180_176 (v := (-1)) rfl ?_
        refine R_call3 r_180_177 rfl (sm_rvM rfl rfl rfl hC) (Nat.le_of_ble_eq_true rfl) (Nat.le_of_ble_eq_true rfl) ?_
        refine m_seated hC hR hL hW (wnt_lt _ _ _ _ _) (fun w_q_41 f_q_41 hC_q_41 hL_q_41 hR_q_41 hfs_q_41 hf_q_41 hbo_q_41 => ?_)
        refine R_aload_n r_180_180 rfl (by decide) ?_
        refine R_getf r_180_181 (by decide) hC_q_41.1 rfl ?_
        refine R_iconst r_180_184 (v := nI 0) rfl ?_
        refine R_iald r_180_185 (by decide) (hC_q_41.2 31 (by decide) (by decide)) hR_q_41.l0 ?_
        refine R_call2 r_180_186 rfl rfl (Nat.le_of_ble_eq_true rfl) (Nat.le_of_ble_eq_true rfl) ?_
        refine m_bedded (Nat.lt_trans (lowUp_lt _ _ 8) (by decide)) (by omega) ?_
        rw [lvK_low hW]
        refine R_istore r_180_189 rfl ?_
        refine R_iload r_180_191 rfl ?_
        refine R_aload_n r_180_193 rfl (by decide) ?_
        refine R_iload r_180_194 rfl ?_
        refine R_call1 r_180_196 rfl rfl (Nat.le_of_ble_eq_true rfl) (Nat.le_of_ble_eq_true rfl) ?_
        refine m_bits (Nat.lt_trans (lowUp_lt _ _ 8) (by decide)) ?_
        refine R_call2 r_180_199 rfl (sm_rvM rfl rfl rfl hC_q_41) (Nat.le_of_ble_eq_true rfl) (Nat.le_of_ble_eq_true rfl) ?_
        refine m_isFall hC_q_41 hR_q_41 hL_q_41 hW (pcUp_le _ 8) ?_
        refine R_if_eq_b r_180_202 (by decide) (fun h_42 => ?_) (fun h_42 => ?_)
        · refine R_iconst r_180_210 (v := nI 0) rfl ?_
          refine R_iaddN r_180_211 ?_
          refine R_istore r_180_212 rfl ?_
          refine R_iinc1 r_180_214 rfl rfl ?_
          refine R_goto r_180_217 (by decide) ?_
          have h9 := fun h7 h8 => ih (n + 1) h7 h8 _ _ (by omega) hC_q_41 hL_q_41 hR_q_41 (fk.tr hfk hfs_q_41.fk) (frm.tr hf hf_q_41)
          first | (rw [odS_t ⟨by assumption, by assumption⟩] at h9; exact h9 _ _) | (rw [odS_f (fun z => Bool.noConfusion (z.2.symm.trans (by assumption : lawF I (pc8 (lvK I w q n)) = false)))] at h9; exact h9 _ _)
        · refine R_iload r_180_205 rfl ?_
          refine R_goto r_180_207 (by decide) ?_
          refine R_iaddN r_180_211 ?_
          refine R_istore r_180_212 rfl ?_
          refine R_iinc1 r_180_214 rfl rfl ?_
          refine R_goto r_180_217 (by decide) ?_
          have h9 := fun h7 h8 => ih (n + 1) h7 h8 _ _ (by omega) hC_q_41 hL_q_41 hR_q_41 (fk.tr hfk hfs_q_41.fk) (frm.tr hf hf_q_41)
          first | (rw [odS_t ⟨by assumption, by assumption⟩] at h9; exact h9 _ _) | (rw [odS_f (fun z => Bool.noConfusion (z.2.symm.trans (by assumption : lawF I (pc8 (lvK I w q n)) = false)))] at h9; exact h9 _ _)
theorem m_odds {xs : List Int32} {d : Nat} {wd : sm_W} {Q : Option Value → sm_W → Prop} {tx : List Nat} {I : sm_Is} {w : Nat} {pa sh : List Nat} {sn : List (Nat × Nat)} (hX : mX wd tx I w pa sh sn) (hW : iWF I) (hw : wfW I w) {x1 x2 : Int32} (hB : (inR x1 2 && inR x2 2) = false → Q (some (.int (-1))) wd) (hQ : ∀ q, q < 2 → x1 = nI q → inR x2 2 = true → ∀ w2, mX w2 tx I w pa sh sn → frm 22 40 wd w2 → Q (some (.int (if x2 = 0 then nI (odA I w q (qsF I w q) / odG I w q (qsF I w q)) else nI (10 ^ pc8 (qsF I w q) / odG I w q (qsF I w q))))) w2) : Ct xs (d + 3) 180 [.ref 22, .int x1, .int x2] wd Q := by
  unfold Ct
  show RT xs (d + 3) 180 0 [some (.ref 22), some (.int x1), some (.int x2), none, none, none, none, none, none] [] wd Q
  obtain ⟨sp, f, hC, hL, hR, hT⟩ := id hX
  obtain ⟨hW1, hW2, hW3, hW4, hW5, hW6, hW7, hW8, hW9, hW10, hW11, hW12, hW13, hW14, hW15⟩ := id hW
  obtain ⟨hT1, hT2, hT3, hT4⟩ := id hT
  refine R_iload_n r_180_0 rfl ?_
  refine R_call1 r_180_1 rfl rfl (Nat.le_of_ble_eq_true rfl) (Nat.le_of_ble_eq_true rfl) ?_
  refine m_isQuestion ?_
  refine R_if_eq_b r_180_4 (by decide) (fun h_1 => ?_) (fun h_1 => ?_)
  · refine R_iconst r_180_17 (v := (-1)) rfl ?_
    refine R_iret r_180_18 (ty := .int) rfl rfl (by decide) ?_
    exact hB (by simp [*])
  · refine R_iload_n r_180_7 rfl ?_
    refine R_i2l r_180_8 ?_
    refine R_lconst r_180_9 (v := lN 0) rfl ?_
    refine R_lconst r_180_10 (v := lN 1) rfl ?_
    refine R_call3 r_180_11 rfl rfl (Nat.le_of_ble_eq_true rfl) (Nat.le_of_ble_eq_true rfl) ?_
    refine m_in (c := inR x2 2) (in_q (by decide)) ?_
    refine R_if_ne_b r_180_14 (by decide) (fun h_2 => ?_) (fun h_2 => ?_)
    · obtain ⟨q, hq, rfl⟩ := inR_of (x := x1) (by assumption) (by decide)
      refine R_iconst r_180_19 (v := nI 0) rfl ?_
      refine R_istore_n r_180_20 rfl ?_
      refine R_iconst r_180_21 (v := nI 1) rfl ?_
      refine R_istore r_180_22 rfl ?_
      refine R_iconst r_180_24 (v := nI 0) rfl ?_
      refine R_istore r_180_25 rfl ?_
      have eq0 : qsU I w q 0 = 0 := Nat.and_zero _
      have h27 : RT xs (d + 3) 180 27 [some (.ref 22), some (.int (nI q)), some (.int x2), some (.int (nI (qsU I w q 0))), some (.int (nI (10 ^ pc8 (qsU I w q 0)))), some (.int (nI 0)), none, none, none] [] wd Q := by
        refine lp_mod1 hC hR hL hW hw hq ?_ (iN I) 0 (by omega)
        refine R_iconst r_180_80 (v := nI 0) rfl ?_
        refine R_istore r_180_81 rfl ?_
        refine R_iconst r_180_83 (v := nI 0) rfl ?_
        refine R_istore r_180_84 rfl ?_
        exact lp_mod3 hW hw hq (qsF_lt I w q) (f0 := f) (wd0 := wd) (fun wd2 f2 hC2 hL2 hR2 hk2 hf2 => hQ q hq rfl (by assumption) _ ⟨_, _, hC2, hL2, hR2, hT.fk hk2⟩ hf2) 256 0 _ _ _ _ (by omega) hC hL hR fk.rf frm.rf
      rw [eq0] at h27
      exact h27
    · refine R_iconst r_180_17 (v := (-1)) rfl ?_
      refine R_iret r_180_18 (ty := .int) rfl rfl (by decide) ?_
      exact hB (by simp [*])
