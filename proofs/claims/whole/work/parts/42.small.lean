/-! the model's small methods, who wants to leave in it -/
theorem in_x {x : Int32} {a b : Nat} (ha : a < 2147483648) (hb : b < 2147483648) : (decide (lN a ≤ x.toInt64) && decide (x.toInt64 ≤ lN b)) = (decide (nI a ≤ x) && decide (x ≤ nI b)) := by
  rw [← nI_l ha, ← nI_l hb]
  simp only [fa_wide_le]
theorem lN_leI {a b : Nat} (ha : a < 2147483648) (hb : b < 2147483648) : lN a ≤ lN b ↔ a ≤ b := by
  rw [← nI_l ha, ← nI_l hb, fa_wide_le]
  exact nI_leI ha hb
theorem in_n {v a b : Nat} (hv : v < 2147483648) (ha : a < 2147483648) (hb : b < 2147483648) : (decide (lN a ≤ lN v) && decide (lN v ≤ lN b)) = (decide (a ≤ v) && decide (v ≤ b)) := by
  simp only [lN_leI ha hv, lN_leI hv hb]
theorem inR_le {x : Int32} {n : Nat} (hn : n + 1 < 2147483648) : (decide (nI 0 ≤ x) && decide (x ≤ nI n)) = inR x (n + 1) := by
  unfold inR
  have e : x ≤ nI n ↔ x < nI (n + 1) := by
    rw [fa_le, fa_lt, nI_toInt (by omega), nI_toInt (by omega)]
    omega
  simp only [e, Bool.decide_and]
  rfl
theorem in_q {x : Int32} {n : Nat} (hn : n + 1 < 2147483648) : (decide (lN 0 ≤ x.toInt64) && decide (x.toInt64 ≤ lN n)) = inR x (n + 1) := (in_x (by decide) (by omega)).trans (inR_le hn)
theorem in_s {x : Int32} {n : Nat} (hn : n < 2147483648) : (decide (lN 0 ≤ x.toInt64) && decide (x.toInt64 ≤ (nI n - nI 1).toInt64)) = inR x n := by
  cases n with
  | zero =>
    rw [show (nI 0 - nI 1 : Int32) = -1 from by decide, show lN 0 = (nI 0).toInt64 from by decide]
    simp only [fa_wide_le]
    unfold inR
    rw [← Bool.decide_and]
    refine decide_eq_decide.mpr ⟨fun h => ?_, fun h => ?_⟩
    · have h1 := (fa_le _ _).mp h.1
      have h2 := (fa_le _ _).mp h.2
      rw [nI_toInt (by decide)] at h1
      have : (-1 : Int32).toInt = -1 := by decide
      omega
    · have h1 := (fa_le _ _).mp h.1
      have h2 := (fa_lt _ _).mp h.2
      rw [nI_toInt (by decide)] at h2
      have : (0 : Int32).toInt = 0 := by decide
      omega
  | succ n => rw [pk_sub (by omega), nI_l (by omega)]; exact in_q hn
theorem lcl {x y : Int64} (h : lg_cmp x y < 0) : decide (y ≤ x) = false := decide_eq_false (fun z => by rw [lg_cmp_lt] at h; rw [fa_lt64] at h; rw [fa_le64] at z; omega)
theorem lcn {x y : Int64} (h : ¬ lg_cmp x y < 0) : decide (y ≤ x) = true := decide_eq_true (by rw [lg_cmp_lt] at h; rw [fa_lt64] at h; rw [fa_le64]; omega)
theorem lcg {x y : Int64} (h : 0 < lg_cmp x y) : decide (x ≤ y) = false := decide_eq_false (fun z => by rw [lg_cmp_gt] at h; rw [fa_lt64] at h; rw [fa_le64] at z; omega)
theorem lcm {x y : Int64} (h : ¬ 0 < lg_cmp x y) : decide (x ≤ y) = true := decide_eq_true (by rw [lg_cmp_gt] at h; rw [fa_lt64] at h; rw [fa_le64]; omega)
theorem m_in {xs : List Int32} {d : Nat} {wd : sm_W} {Q : Option Value → sm_W → Prop} {v lo hi : Int64} {c : Bool} (hc : (decide (lo ≤ v) && decide (v ≤ hi)) = c) (hQ : Q (some (.int (b2i c))) wd) : Ct xs (d) 133 [.long v, .long lo, .long hi] wd Q := by
  unfold Ct
  show RT xs (d) 133 0 [some (.long v), none, some (.long lo), none, some (.long hi), none] [] wd Q
  refine R_lload_n r_133_0 rfl ?_
  refine R_lload_n r_133_1 rfl ?_
  refine R_lcmp r_133_2 ?_
  refine R_if_lt r_133_3 (by decide) (fun h_1 => ?_) (fun h_1 => ?_)
  · refine R_iconst r_133_17 (v := nI 0) rfl ?_
    refine R_iret r_133_18 (ty := .boolean) rfl (by decide) (by decide) ?_
    first | (rw [lcl (by assumption)] at hc; subst hc; exact hQ) | (rw [lcn (by assumption), lcg (by assumption)] at hc; subst hc; exact hQ) | (rw [lcn (by assumption), lcm (by assumption)] at hc; subst hc; exact hQ)
  · refine R_lload_n r_133_6 rfl ?_
    refine R_lload r_133_7 rfl ?_
    refine R_lcmp r_133_9 ?_
    refine R_if_gt r_133_10 (by decide) (fun h_2 => ?_) (fun h_2 => ?_)
    · refine R_iconst r_133_17 (v := nI 0) rfl ?_
      refine R_iret r_133_18 (ty := .boolean) rfl (by decide) (by decide) ?_
      first | (rw [lcl (by assumption)] at hc; subst hc; exact hQ) | (rw [lcn (by assumption), lcg (by assumption)] at hc; subst hc; exact hQ) | (rw [lcn (by assumption), lcm (by assumption)] at hc; subst hc; exact hQ)
    · refine R_iconst r_133_13 (v := nI 1) rfl ?_
      refine R_goto r_133_14 (by decide) ?_
      refine R_iret r_133_18 (ty := .boolean) rfl (by decide) (by decide) ?_
      first | (rw [lcl (by assumption)] at hc; subst hc; exact hQ) | (rw [lcn (by assumption), lcg (by assumption)] at hc; subst hc; exact hQ) | (rw [lcn (by assumption), lcm (by assumption)] at hc; subst hc; exact hQ)
theorem m_isQuestion {xs : List Int32} {d : Nat} {wd : sm_W} {Q : Option Value → sm_W → Prop} {x : Int32} (hQ : Q (some (.int (b2i (inR x 2)))) wd) : Ct xs (d + 1) 148 [.int x] wd Q := by
  unfold Ct
  show RT xs (d + 1) 148 0 [some (.int x)] [] wd Q
  refine R_iload_n r_148_0 rfl ?_
  refine R_i2l r_148_1 ?_
  refine R_lconst r_148_2 (v := lN 0) rfl ?_
  refine R_lconst r_148_3 (v := lN 1) rfl ?_
  refine R_call3 r_148_4 rfl rfl (Nat.le_of_ble_eq_true rfl) (Nat.le_of_ble_eq_true rfl) ?_
  refine m_in (c := inR x 2) (in_q (by decide)) ?_
  refine R_iret r_148_7 (ty := .boolean) rfl (sm_nb _) (by decide) ?_
  exact hQ
theorem m_isIslander {xs : List Int32} {d : Nat} {wd : sm_W} {Q : Option Value → sm_W → Prop} {ln um km sn sp : Int32} {f : Nat → List Int32} (hC : mC wd ln um km sn sp f) {I : sm_Is} {w : Nat} (hR : mR I w f) (hW : iWF I) {x : Int32} (hQ : Q (some (.int (b2i (inR x (iN I))))) wd) : Ct xs (d + 1) 144 [.ref 22, .int x] wd Q := by
  unfold Ct
  show RT xs (d + 1) 144 0 [some (.ref 22), some (.int x)] [] wd Q
  obtain ⟨hW1, hW2, hW3, hW4, hW5, hW6, hW7, hW8, hW9, hW10, hW11, hW12, hW13, hW14, hW15⟩ := id hW
  refine R_iload_n r_144_0 rfl ?_
  refine R_i2l r_144_1 ?_
  refine R_lconst r_144_2 (v := lN 0) rfl ?_
  refine R_aload_n r_144_3 rfl (by decide) ?_
  refine R_getf r_144_4 (by decide) hC.1 rfl ?_
  refine R_iconst r_144_7 (v := nI 0) rfl ?_
  refine R_iald r_144_8 (by decide) (hC.2 24 (by decide) (by decide)) hR.rI ?_
  refine R_iconst r_144_9 (v := nI 1) rfl ?_
  refine R_isub r_144_10 ?_
  refine R_i2l r_144_11 ?_
  refine R_call3 r_144_12 rfl rfl (Nat.le_of_ble_eq_true rfl) (Nat.le_of_ble_eq_true rfl) ?_
  refine m_in (c := inR x (iN I)) (in_s (by omega)) ?_
  refine R_iret r_144_15 (ty := .boolean) rfl (sm_nb _) (by decide) ?_
  exact hQ
theorem m_isBoat {xs : List Int32} {d : Nat} {wd : sm_W} {Q : Option Value → sm_W → Prop} {ln um km sn sp : Int32} {f : Nat → List Int32} (hC : mC wd ln um km sn sp f) {I : sm_Is} {w : Nat} (hR : mR I w f) (hW : iWF I) {x : Int32} (hQ : Q (some (.int (b2i (inR x (iB I))))) wd) : Ct xs (d + 1) 146 [.ref 22, .int x] wd Q := by
  unfold Ct
  show RT xs (d + 1) 146 0 [some (.ref 22), some (.int x)] [] wd Q
  obtain ⟨hW1, hW2, hW3, hW4, hW5, hW6, hW7, hW8, hW9, hW10, hW11, hW12, hW13, hW14, hW15⟩ := id hW
  refine R_iload_n r_146_0 rfl ?_
  refine R_i2l r_146_1 ?_
  refine R_lconst r_146_2 (v := lN 0) rfl ?_
  refine R_aload_n r_146_3 rfl (by decide) ?_
  refine R_getf r_146_4 (by decide) hC.1 rfl ?_
  refine R_iconst r_146_7 (v := nI 0) rfl ?_
  refine R_iald r_146_8 (by decide) (hC.2 29 (by decide) (by decide)) hR.rB ?_
  refine R_iconst r_146_9 (v := nI 1) rfl ?_
  refine R_isub r_146_10 ?_
  refine R_i2l r_146_11 ?_
  refine R_call3 r_146_12 rfl rfl (Nat.le_of_ble_eq_true rfl) (Nat.le_of_ble_eq_true rfl) ?_
  refine m_in (c := inR x (iB I)) (in_s (by omega)) ?_
  refine R_iret r_146_15 (ty := .boolean) rfl (sm_nb _) (by decide) ?_
  exact hQ
theorem m_has {xs : List Int32} {d : Nat} {wd : sm_W} {Q : Option Value → sm_W → Prop} {s i : Nat} (hs : s < 2147483648) (hi : i < 32) (hQ : Q (some (.int (b2i (s.testBit i)))) wd) : Ct xs (d) 151 [.int (nI s), .int (nI i)] wd Q := by
  unfold Ct
  show RT xs (d) 151 0 [some (.int (nI s)), some (.int (nI i))] [] wd Q
  refine R_iload_n r_151_0 rfl ?_
  refine R_iload_n r_151_1 rfl ?_
  refine R_ishrN r_151_2 (by omega) (by omega) ?_
  refine R_iconst r_151_3 (v := nI 1) rfl ?_
  refine R_iandBit r_151_4 ?_
  refine R_iconst r_151_5 (v := nI 1) rfl ?_
  refine R_icmp_ne_b1 r_151_6 (by decide) (fun h_1 => ?_) (fun h_1 => ?_)
  · refine R_iconst r_151_13 (v := nI 0) rfl ?_
    refine R_iret r_151_14 (ty := .boolean) rfl (by decide) (by decide) ?_
    first | (rw [(by assumption : s.testBit i = true)] at hQ; exact hQ) | (rw [(by assumption : s.testBit i = false)] at hQ; exact hQ)
  · refine R_iconst r_151_9 (v := nI 1) rfl ?_
    refine R_goto r_151_10 (by decide) ?_
    refine R_iret r_151_14 (ty := .boolean) rfl (by decide) (by decide) ?_
    first | (rw [(by assumption : s.testBit i = true)] at hQ; exact hQ) | (rw [(by assumption : s.testBit i = false)] at hQ; exact hQ)
theorem lp_mbits {xs : List Int32} {d : Nat} {wd : sm_W} {Q : Option Value → sm_W → Prop} {s : Nat} (hs : s < 2147483648) (hQ : Q (some (.int (nI (pc8 s)))) wd) : ∀ (k i : Nat), i + k = 8 → RT xs (d) 159 4 [some (.int (nI s)), some (.int (nI (pcUp s i))), some (.int (nI i))] [] wd Q := by
  intro k
  induction k with
  | zero =>
    intro i hk 
    refine R_iload_n r_159_4 rfl ?_
    refine R_bipush r_159_5 (v := nI 8) rfl ?_
    refine R_icmp_ge_N r_159_7 (by decide) (by omega) (by omega) (fun h_1 => ?_) (fun h_1 => ?_)
    · refine R_iload_n r_159_24 rfl ?_
      refine R_iret r_159_25 (ty := .int) rfl rfl (by decide) ?_
      have e : i = 8 := by omega
      subst e; exact hQ
    · exfalso; omega
  | succ k ih =>
    intro i hk 
    refine R_iload_n r_159_4 rfl ?_
    refine R_bipush r_159_5 (v := nI 8) rfl ?_
    refine R_icmp_ge_N r_159_7 (by decide) (by omega) (by omega) (fun h_1 => ?_) (fun h_1 => ?_)
    · exfalso; omega
    · refine R_iload_n r_159_10 rfl ?_
      refine R_iload_n r_159_11 rfl ?_
      refine R_iload_n r_159_12 rfl ?_
      refine R_ishrN r_159_13 (by omega) (by omega) ?_
      refine R_iconst r_159_14 (v := nI 1) rfl ?_
      refine R_iandBit r_159_15 ?_
      refine R_iaddN r_159_16 ?_
      refine R_istore_n r_159_17 rfl ?_
      refine R_iinc1 r_159_18 rfl rfl ?_
      refine R_goto r_159_21 (by decide) ?_
      exact ih (i + 1) (by omega)
theorem m_bits {xs : List Int32} {d : Nat} {wd : sm_W} {Q : Option Value → sm_W → Prop} {s : Nat} (hs : s < 2147483648) (hQ : Q (some (.int (nI (pc8 s)))) wd) : Ct xs (d) 159 [.int (nI s)] wd Q := by
  unfold Ct
  show RT xs (d) 159 0 [some (.int (nI s)), none, none] [] wd Q
  refine R_iconst r_159_0 (v := nI 0) rfl ?_
  refine R_istore_n r_159_1 rfl ?_
  refine R_iconst r_159_2 (v := nI 0) rfl ?_
  refine R_istore_n r_159_3 rfl ?_
  exact lp_mbits hs hQ 8 0 (by omega)
