/-! the model: who leaves, whether a law falls, cows -/
theorem low_bit (s m : Nat) : ∀ k t, (lowUp s m k).1.testBit t = (decide (t < k) && (s.testBit t && decide ((lowUp s m t).2 < m)))
  | 0, t => by show (0 : Nat).testBit t = _; rw [Nat.zero_testBit]; simp
  | k + 1, t => by
    have ih := low_bit s m k t
    by_cases h : (lowUp s m k).2 < m ∧ s.testBit k = true
    · rw [lowUp_t h.1 h.2]
      show ((lowUp s m k).1 ||| 1 <<< k).testBit t = _
      rw [or_bit, ih]
      by_cases e : k = t
      · subst e; simp [h.1, h.2]
      · rw [decide_eq_false e, Bool.or_false]
        congr 1
        exact decide_eq_decide.mpr (by omega)
    · rw [show lowUp s m (k + 1) = lowUp s m k from by rw [lowUp, if_neg h], ih]
      by_cases e : t = k
      · subst e
        have : (s.testBit t && decide ((lowUp s m t).2 < m)) = false := by
          cases hb : s.testBit t
          · rfl
          · rw [Bool.true_and, decide_eq_false_iff_not]; exact fun z => h ⟨z, hb⟩
        rw [this]; simp
      · congr 1
        exact decide_eq_decide.mpr (by omega)
theorem low_cnt (s m : Nat) : ∀ k, (lowUp s m k).2 = min m (pcUp s k)
  | 0 => (Nat.min_zero m).symm
  | k + 1 => by
    have ih := low_cnt s m k
    show _ = min m (pcUp s k + (s.testBit k).toNat)
    cases hb : s.testBit k with
    | false => rw [lowUp_f hb, ih]; rfl
    | true =>
      by_cases h : (lowUp s m k).2 < m
      · rw [lowUp_t h hb]
        show (lowUp s m k).2 + 1 = min m (pcUp s k + 1)
        omega
      · rw [lowUp_g (by omega)]
        show _ = min m (pcUp s k + 1)
        omega
theorem low_pc (s m : Nat) : ∀ k, k ≤ 8 → pcUp (lowUp s m 8).1 k = (lowUp s m k).2
  | 0, _ => rfl
  | k + 1, hk => by
    show pcUp (lowUp s m 8).1 k + ((lowUp s m 8).1.testBit k).toNat = _
    rw [low_pc s m k (by omega), low_bit, decide_eq_true (by omega : k < 8), Bool.true_and]
    cases hb : s.testBit k with
    | false => rw [lowUp_f hb]; rfl
    | true =>
      by_cases h : (lowUp s m k).2 < m
      · rw [lowUp_t h hb, decide_eq_true h]; rfl
      · rw [lowUp_g (by omega), decide_eq_false h]; rfl
theorem low_low (s a b : Nat) : (lowUp (lowUp s a 8).1 b 8).1 = (lowUp s (min a b) 8).1 := by
  apply Nat.eq_of_testBit_eq
  intro t
  rw [low_bit, low_bit, low_bit]
  by_cases h8 : t < 8
  · rw [low_cnt, low_cnt, low_cnt, low_pc s a t (by omega), low_cnt]
    cases s.testBit t
    · simp
    · simp only [decide_eq_true h8, Bool.true_and]
      rw [← Bool.decide_and]
      exact decide_eq_decide.mpr (by omega)
  · simp [h8]
theorem seX_st {I : sm_Is} {w m : Nat} {x : Int32} (hW : iWF I) (hm : ∀ b, b < 5 → m.testBit b = grX x b) : seX I w x = stIn I w m := by
  unfold seX stIn
  split
  · rfl
  · have key : ∀ k, k ≤ 5 → cumF (frX I w x) k = sumUp (iS I) (m &&& (sHeld w ^^^ 4294967295)) k := by
      intro k
      induction k with
      | zero => exact fun _ => rfl
      | succ k ih =>
        intro hk
        show cumF (frX I w x) k + frX I w x k = sumUp (iS I) _ k + _
        rw [ih (by omega), Nat.testBit_and, not_bit (by omega), hm k (by omega)]
        congr 1
        unfold frX
        by_cases h1 : k < iB I
        · cases h2 : (sHeld w).testBit k <;> cases h3 : grX x k <;> simp [h1]
        · have h4 := hW.2.2.2.2.2.2.2.2.2.1 k (by omega)
          rw [h4]; simp
    exact key 5 (by decide)
theorem seX_m1 {I : sm_Is} {w : Nat} (hW : iWF I) : seX I w (-1) = ntS I w := seX_st (m := 31) hW (by decide)
theorem seX_0 {I : sm_Is} {w : Nat} (hW : iWF I) : seX I w (nI 0) = stIn I w 21 := seX_st hW (by decide)
theorem seX_1 {I : sm_Is} {w : Nat} (hW : iWF I) : seX I w (nI 1) = stIn I w 10 := seX_st hW (by decide)
def cwU (I : sm_Is) (s : Nat) : Nat → Nat
  | 0 => 0
  | k + 1 => cwU I s k + if s.testBit k = true then 0 else (iC I).getD k 0
theorem cwU_t {I : sm_Is} {s k : Nat} (h : s.testBit k = true) : cwU I s (k + 1) = cwU I s k + 0 := by rw [cwU, if_pos h]
theorem cwU_f {I : sm_Is} {s k : Nat} (h : s.testBit k = false) : cwU I s (k + 1) = cwU I s k + (iC I).getD k 0 := by rw [cwU, if_neg (by rw [h]; decide)]
theorem all_bit (I : sm_Is) (t : Nat) : (allOf I).testBit t = decide (t < iN I) := by unfold allOf; rw [Nat.one_shiftLeft, Nat.testBit_two_pow_sub_one]
theorem cwU_eq {I : sm_Is} (hW : iWF I) (s : Nat) : cwU I s (iN I) = cowW I s := by
  have key : ∀ k, k ≤ 8 → sumUp (iC I) (allOf I &&& (s ^^^ 4294967295)) k = cwU I s (min k (iN I)) := by
    intro k
    induction k with
    | zero => exact fun _ => by rw [Nat.zero_min]; rfl
    | succ k ih =>
      intro hk
      show sumUp (iC I) _ k + _ = _
      rw [ih (by omega), Nat.testBit_and, not_bit (by omega), all_bit]
      by_cases h : k < iN I
      · rw [decide_eq_true h, show min k (iN I) = k by omega, show min (k + 1) (iN I) = k + 1 by omega]
        cases hb : s.testBit k
        · rw [cwU_f hb]; rfl
        · rw [cwU_t hb]; rfl
      · rw [decide_eq_false h, show min k (iN I) = iN I by omega, show min (k + 1) (iN I) = iN I by omega]
        rfl
  have h8 := hW.2.2.2.1
  unfold cowW
  rw [key 8 (by decide), show min 8 (iN I) = iN I by omega]
theorem lvs_low {I : sm_Is} {w q : Nat} (hW : iWF I) : (lowUp (lowUp (wntq I w q) (seX I w (-1)) 8).1 (iBd I) 8).1 = lvs I w q := by rw [low_low, seX_m1 hW]; rfl
theorem lvK_low {I : sm_Is} {w q s : Nat} (hW : iWF I) : (lowUp (lowUp (wnt (ntG I w) (ntB w) (ntV I w) (sAg w q) s) (seX I w (-1)) 8).1 (iBd I) 8).1 = lvK I w q s := by rw [low_low, seX_m1 hW]; rfl
theorem law_f {I : sm_Is} {m : Nat} (h : 10 * m < iP I * iN I) : lawF I m = false := decide_eq_false (by omega)
theorem law_t {I : sm_Is} {m : Nat} (h : iP I * iN I ≤ 10 * m) : lawF I m = true := decide_eq_true h
theorem lp_mbed {xs : List Int32} {d : Nat} {wd : sm_W} {Q : Option Value → sm_W → Prop} {s m : Nat} (hs : s < 2147483648) (hm : m < 2147483648) (hQ : Q (some (.int (nI (lowUp s m 8).1))) wd)  : ∀ (k : Nat) (i : Nat), (i + k = 8) → RT xs (d + 1) 155 7 [some (.int (nI s)), some (.int (nI m)), some (.int (nI (lowUp s m i).1)), some (.int (nI (lowUp s m i).2)), some (.int (nI i))] [] wd Q := by
  intro k
  induction k with
  | zero =>
    intro i hk
    refine R_iload r_155_7 rfl ?_
    refine R_bipush r_155_9 (v := nI 8) rfl ?_
    refine R_icmp_ge_N r_155_11 (by decide) (by omega) (by omega) (fun h_1 => ?_) (fun h_1 => ?_)
    · refine R_iload_n r_155_44 rfl ?_
      refine R_iret r_155_45 (ty := .int) rfl rfl (by decide) ?_
      obtain rfl : i = 8 := by omega
      exact hQ
    · exfalso; omega
  | succ k ih =>
    intro i hk
    have hl2 := lowUp_2 s m i
    refine R_iload r_155_7 rfl ?_
    refine R_bipush r_155_9 (v := nI 8) rfl ?_
    refine R_icmp_ge_N r_155_11 (by decide) (by omega) (by omega) (fun h_1 => ?_) (fun h_1 => ?_)
    · exfalso; omega
    · refine R_iload_n r_155_14 rfl ?_
      refine R_iload r_155_15 rfl ?_
      refine R_call2 r_155_17 rfl rfl (Nat.le_of_ble_eq_true rfl) (Nat.le_of_ble_eq_true rfl) ?_
      refine m_has (by omega) (by omega) ?_
      refine R_if_eq_b r_155_20 (by decide) (fun h_2 => ?_) (fun h_2 => ?_)
      · refine R_iinc1 r_155_38 rfl rfl ?_
        refine R_goto r_155_41 (by decide) ?_
        have h9 := ih (i + 1) (by omega)
        first | (rw [lowUp_f (by assumption)] at h9; exact h9) | (rw [lowUp_g (by assumption)] at h9; exact h9) | (rw [lowUp_t (by assumption) (by assumption)] at h9; exact h9)
      · refine R_iload_n r_155_23 rfl ?_
        refine R_iload_n r_155_24 rfl ?_
        refine R_icmp_ge_N r_155_25 (by decide) (by omega) (by omega) (fun h_3 => ?_) (fun h_3 => ?_)
        · refine R_iinc1 r_155_38 rfl rfl ?_
          refine R_goto r_155_41 (by decide) ?_
          have h9 := ih (i + 1) (by omega)
          first | (rw [lowUp_f (by assumption)] at h9; exact h9) | (rw [lowUp_g (by assumption)] at h9; exact h9) | (rw [lowUp_t (by assumption) (by assumption)] at h9; exact h9)
        · refine R_iload_n r_155_28 rfl ?_
          refine R_iconst r_155_29 (v := nI 1) rfl ?_
          refine R_iload r_155_30 rfl ?_
          refine R_ishlN r_155_32 (by omega) ?_
          refine R_iorN r_155_33 ?_
          refine R_istore_n r_155_34 rfl ?_
          refine R_iinc1 r_155_35 rfl rfl ?_
          refine R_iinc1 r_155_38 rfl rfl ?_
          refine R_goto r_155_41 (by decide) ?_
          have h9 := ih (i + 1) (by omega)
          first | (rw [lowUp_f (by assumption)] at h9; exact h9) | (rw [lowUp_g (by assumption)] at h9; exact h9) | (rw [lowUp_t (by assumption) (by assumption)] at h9; exact h9)
theorem m_bedded {xs : List Int32} {d : Nat} {wd : sm_W} {Q : Option Value → sm_W → Prop} {s m : Nat} (hs : s < 2147483648) (hm : m < 2147483648) (hQ : Q (some (.int (nI (lowUp s m 8).1))) wd) : Ct xs (d + 1) 155 [.int (nI s), .int (nI m)] wd Q := by
  unfold Ct
  show RT xs (d + 1) 155 0 [some (.int (nI s)), some (.int (nI m)), none, none, none] [] wd Q
  refine R_iconst r_155_0 (v := nI 0) rfl ?_
  refine R_istore_n r_155_1 rfl ?_
  refine R_iconst r_155_2 (v := nI 0) rfl ?_
  refine R_istore_n r_155_3 rfl ?_
  refine R_iconst r_155_4 (v := nI 0) rfl ?_
  refine R_istore r_155_5 rfl ?_
  exact lp_mbed hs hm hQ 8 0 (by omega)
theorem m_isFall {xs : List Int32} {d : Nat} {wd : sm_W} {Q : Option Value → sm_W → Prop} {ln um km sn sp : Int32} {f : Nat → List Int32} (hC : mC wd ln um km sn sp f) {I : sm_Is} {w : Nat} (hR : mR I w f) (hL : mL f) (hW : iWF I) {n : Nat} (hn : n ≤ 8) (hQ : Q (some (.int (b2i (lawF I n)))) wd) : Ct xs (d) 160 [.ref 22, .int (nI n)] wd Q := by
  unfold Ct
  show RT xs (d) 160 0 [some (.ref 22), some (.int (nI n))] [] wd Q
  obtain ⟨hW1, hW2, hW3, hW4, hW5, hW6, hW7, hW8, hW9, hW10, hW11, hW12, hW13, hW14, hW15⟩ := id hW
  have hpn : iP I * iN I ≤ 9 * 8 := Nat.mul_le_mul hW13.2 hW4
  refine R_bipush r_160_0 (v := nI 10) rfl ?_
  refine R_iload_n r_160_2 rfl ?_
  refine R_imulN r_160_3 ?_
  refine R_aload_n r_160_4 rfl (by decide) ?_
  refine R_getf r_160_5 (by decide) hC.1 rfl ?_
  refine R_iconst r_160_8 (v := nI 2) rfl ?_
  refine R_iald r_160_9 (by decide) (hC.2 31 (by decide) (by decide)) hR.l2 ?_
  refine R_aload_n r_160_10 rfl (by decide) ?_
  refine R_getf r_160_11 (by decide) hC.1 rfl ?_
  refine R_iconst r_160_14 (v := nI 0) rfl ?_
  refine R_iald r_160_15 (by decide) (hC.2 24 (by decide) (by decide)) hR.rI ?_
  refine R_imulN r_160_16 ?_
  refine R_icmp_lt_N r_160_17 (by decide) (by omega) (by omega) (fun h_1 => ?_) (fun h_1 => ?_)
  · refine R_iconst r_160_24 (v := nI 0) rfl ?_
    refine R_iret r_160_25 (ty := .boolean) rfl (by decide) (by decide) ?_
    rw [law_f (by assumption)] at hQ; exact hQ
  · refine R_iconst r_160_20 (v := nI 1) rfl ?_
    refine R_goto r_160_21 (by decide) ?_
    refine R_iret r_160_25 (ty := .boolean) rfl (by decide) (by decide) ?_
    rw [law_t (by assumption)] at hQ; exact hQ
theorem m_leaving {xs : List Int32} {d : Nat} {wd : sm_W} {Q : Option Value → sm_W → Prop} {ln um km sn sp : Int32} {f : Nat → List Int32} (hC : mC wd ln um km sn sp f) {I : sm_Is} {w : Nat} (hR : mR I w f) (hL : mL f) (hW : iWF I) (hw : wfW I w) {q : Nat} (hq : q < 2) (hQ : ∀ wd2 f2, mC wd2 ln um km sn sp f2 → mL f2 → mR I w f2 → fs f f2 → frm 22 40 wd wd2 → (∀ t, t < 8 → (f2 38)[t]? = some (boX (frX I w (-1)) (seX I w (-1)) (sIce w) (wntq I w q) t)) → Q (some (.int (nI (lvs I w q)))) wd2) : Ct xs (d + 3) 153 [.ref 22, .int (nI q)] wd Q := by
  unfold Ct
  show RT xs (d + 3) 153 0 [some (.ref 22), some (.int (nI q))] [] wd Q
  obtain ⟨hW1, hW2, hW3, hW4, hW5, hW6, hW7, hW8, hW9, hW10, hW11, hW12, hW13, hW14, hW15⟩ := id hW
  refine R_aload_n r_153_0 rfl (by decide) ?_
  refine R_aload_n r_153_1 rfl (by decide) ?_
  refine R_iload_n r_153_2 rfl ?_
  refine R_iconst r_153_3 (v := nI 0) rfl ?_
  refine R_call3 r_153_4 rfl (sm_rvM rfl rfl rfl hC) (Nat.le_of_ble_eq_true rfl) (Nat.le_of_ble_eq_true rfl) ?_
  refine m_wanting hC hR hL hW hw hq (by decide) ?_
  refine R_iconst r_153_7 (v := (-1)) rfl ?_
  refine R_call3 r_153_8 rfl (sm_rvM rfl rfl rfl hC) (Nat.le_of_ble_eq_true rfl) (Nat.le_of_ble_eq_true rfl) ?_
  refine m_seated hC hR hL hW (wnt_lt _ _ _ _ _) (fun w_q_1 f_q_1 hC_q_1 hL_q_1 hR_q_1 hfs_q_1 hf_q_1 hbo_q_1 => ?_)
  refine R_aload_n r_153_11 rfl (by decide) ?_
  refine R_getf r_153_12 (by decide) hC_q_1.1 rfl ?_
  refine R_iconst r_153_15 (v := nI 0) rfl ?_
  refine R_iald r_153_16 (by decide) (hC_q_1.2 31 (by decide) (by decide)) hR_q_1.l0 ?_
  refine R_call2 r_153_17 rfl rfl (Nat.le_of_ble_eq_true rfl) (Nat.le_of_ble_eq_true rfl) ?_
  refine m_bedded (Nat.lt_trans (lowUp_lt _ _ 8) (by decide)) (by omega) ?_
  refine R_iret r_153_20 (ty := .int) rfl rfl (by decide) ?_
  have h9 := hQ _ _ hC_q_1 hL_q_1 hR_q_1 hfs_q_1 hf_q_1 hbo_q_1; rw [← lvs_low hW] at h9; exact h9
theorem m_doesFall {xs : List Int32} {d : Nat} {wd : sm_W} {Q : Option Value → sm_W → Prop} {ln um km sn sp : Int32} {f : Nat → List Int32} (hC : mC wd ln um km sn sp f) {I : sm_Is} {w : Nat} (hR : mR I w f) (hL : mL f) (hW : iWF I) (hw : wfW I w) {q : Nat} (hq : q < 2) (hQ : ∀ wd2 f2, mC wd2 ln um km sn sp f2 → mL f2 → mR I w f2 → fs f f2 → frm 22 40 wd wd2 → Q (some (.int (b2i (fallN I w q)))) wd2) : Ct xs (d + 4) 158 [.ref 22, .int (nI q)] wd Q := by
  unfold Ct
  show RT xs (d + 4) 158 0 [some (.ref 22), some (.int (nI q))] [] wd Q
  obtain ⟨hW1, hW2, hW3, hW4, hW5, hW6, hW7, hW8, hW9, hW10, hW11, hW12, hW13, hW14, hW15⟩ := id hW
  refine R_aload_n r_158_0 rfl (by decide) ?_
  refine R_aload_n r_158_1 rfl (by decide) ?_
  refine R_iload_n r_158_2 rfl ?_
  refine R_call2 r_158_3 rfl (sm_rvM rfl rfl rfl hC) (Nat.le_of_ble_eq_true rfl) (Nat.le_of_ble_eq_true rfl) ?_
  refine m_leaving hC hR hL hW hw hq (fun w_q_1 f_q_1 hC_q_1 hL_q_1 hR_q_1 hfs_q_1 hf_q_1 hbo_q_1 => ?_)
  refine R_call1 r_158_6 rfl rfl (Nat.le_of_ble_eq_true rfl) (Nat.le_of_ble_eq_true rfl) ?_
  refine m_bits (Nat.lt_trans (lowUp_lt _ _ 8) (by decide)) ?_
  refine R_call2 r_158_9 rfl (sm_rvM rfl rfl rfl hC_q_1) (Nat.le_of_ble_eq_true rfl) (Nat.le_of_ble_eq_true rfl) ?_
  refine m_isFall hC_q_1 hR_q_1 hL_q_1 hW (pcUp_le _ 8) ?_
  refine R_iret r_158_12 (ty := .boolean) rfl (sm_nb _) (by decide) ?_
  exact hQ _ _ hC_q_1 hL_q_1 hR_q_1 hfs_q_1 hf_q_1
theorem lp_mcow {xs : List Int32} {d : Nat} {wd : sm_W} {Q : Option Value → sm_W → Prop} {ln um km sn sp : Int32} {f : Nat → List Int32} (hC : mC wd ln um km sn sp f) {I : sm_Is} {w : Nat} (hR : mR I w f) (hL : mL f) (hW : iWF I) {s : Nat} (hs : s < 2147483648) (hQ : Q (some (.int (nI (cowW I s)))) wd)  : ∀ (k : Nat) (i : Nat), (i + k = iN I) → RT xs (d + 1) 162 4 [some (.ref 22), some (.int (nI s)), some (.int (nI (cwU I s i))), some (.int (nI i))] [] wd Q := by
  intro k
  induction k with
  | zero =>
    intro i hk
    obtain ⟨hW1, hW2, hW3, hW4, hW5, hW6, hW7, hW8, hW9, hW10, hW11, hW12, hW13, hW14, hW15⟩ := id hW
    refine R_iload_n r_162_4 rfl ?_
    refine R_aload_n r_162_5 rfl (by decide) ?_
    refine R_getf r_162_6 (by decide) hC.1 rfl ?_
    refine R_iconst r_162_9 (v := nI 0) rfl ?_
    refine R_iald r_162_10 (by decide) (hC.2 24 (by decide) (by decide)) hR.rI ?_
    refine R_icmp_ge_N r_162_11 (by decide) (by omega) (by omega) (fun h_1 => ?_) (fun h_1 => ?_)
    · refine R_iload_n r_162_41 rfl ?_
      refine R_iret r_162_42 (ty := .int) rfl rfl (by decide) ?_
      rw [← cwU_eq hW, show iN I = i by omega] at hQ; exact hQ
    · exfalso; omega
  | succ k ih =>
    intro i hk
    obtain ⟨hW1, hW2, hW3, hW4, hW5, hW6, hW7, hW8, hW9, hW10, hW11, hW12, hW13, hW14, hW15⟩ := id hW
    refine R_iload_n r_162_4 rfl ?_
    refine R_aload_n r_162_5 rfl (by decide) ?_
    refine R_getf r_162_6 (by decide) hC.1 rfl ?_
    refine R_iconst r_162_9 (v := nI 0) rfl ?_
    refine R_iald r_162_10 (by decide) (hC.2 24 (by decide) (by decide)) hR.rI ?_
    refine R_icmp_ge_N r_162_11 (by decide) (by omega) (by omega) (fun h_1 => ?_) (fun h_1 => ?_)
    · exfalso; omega
    · refine R_iload_n r_162_14 rfl ?_
      refine R_iload_n r_162_15 rfl ?_
      refine R_iload_n r_162_16 rfl ?_
      refine R_call2 r_162_17 rfl rfl (Nat.le_of_ble_eq_true rfl) (Nat.le_of_ble_eq_true rfl) ?_
      refine m_has (by omega) (by omega) ?_
      refine R_if_eq_b r_162_20 (by decide) (fun h_2 => ?_) (fun h_2 => ?_)
      · refine R_aload_n r_162_27 rfl (by decide) ?_
        refine R_getf r_162_28 (by decide) hC.1 rfl ?_
        refine R_iload_n r_162_31 rfl ?_
        refine R_iald r_162_32 (by decide) (hC.2 28 (by decide) (by decide)) (hR.rC (by omega) hW4) ?_
        refine R_iaddN r_162_33 ?_
        refine R_istore_n r_162_34 rfl ?_
        refine R_iinc1 r_162_35 rfl rfl ?_
        refine R_goto r_162_38 (by decide) ?_
        have h9 := ih (i + 1) (by omega); first | (rw [cwU_t (by assumption)] at h9; exact h9) | (rw [cwU_f (by assumption)] at h9; exact h9)
      · refine R_iconst r_162_23 (v := nI 0) rfl ?_
        refine R_goto r_162_24 (by decide) ?_
        refine R_iaddN r_162_33 ?_
        refine R_istore_n r_162_34 rfl ?_
        refine R_iinc1 r_162_35 rfl rfl ?_
        refine R_goto r_162_38 (by decide) ?_
        have h9 := ih (i + 1) (by omega); first | (rw [cwU_t (by assumption)] at h9; exact h9) | (rw [cwU_f (by assumption)] at h9; exact h9)
theorem m_cowsWithout {xs : List Int32} {d : Nat} {wd : sm_W} {Q : Option Value → sm_W → Prop} {ln um km sn sp : Int32} {f : Nat → List Int32} (hC : mC wd ln um km sn sp f) {I : sm_Is} {w : Nat} (hR : mR I w f) (hL : mL f) (hW : iWF I) {s : Nat} (hs : s < 2147483648) (hQ : Q (some (.int (nI (cowW I s)))) wd) : Ct xs (d + 1) 162 [.ref 22, .int (nI s)] wd Q := by
  unfold Ct
  show RT xs (d + 1) 162 0 [some (.ref 22), some (.int (nI s)), none, none] [] wd Q
  obtain ⟨hW1, hW2, hW3, hW4, hW5, hW6, hW7, hW8, hW9, hW10, hW11, hW12, hW13, hW14, hW15⟩ := id hW
  refine R_iconst r_162_0 (v := nI 0) rfl ?_
  refine R_istore_n r_162_1 rfl ?_
  refine R_iconst r_162_2 (v := nI 0) rfl ?_
  refine R_istore_n r_162_3 rfl ?_
  exact lp_mcow hC hR hL hW hs hQ (iN I) 0 (by omega)
