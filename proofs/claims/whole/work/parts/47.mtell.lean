/-! the model's whole state; its methods that tell -/
def mT (I : sm_Is) (tx pa sh : List Nat) (sn : List (Nat × Nat)) (f : Nat → List Int32) : Prop :=
  (tx.length ≤ 200 ∧ ∀ t, t < tx.length → (f 23)[t]? = some (nI (tx.getD t 0)))
  ∧ (pa.length ≤ 8 ∧ ∀ t, t < pa.length → rowR I (pa.getD t 0) (fun k => (f 33)[24 * t + k]?))
  ∧ (sh.length ≤ 2 ∧ ∀ t, t < sh.length → rowR I (sh.getD t 0) (fun k => (f 34)[24 * t + k]?))
  ∧ (sn.length ≤ 8 ∧ ∀ t, t < sn.length → (f 35)[t]? = some (nI (sn.getD t (0, 0)).1) ∧ (f 36)[t]? = some (nI (sn.getD t (0, 0)).2))
def fk (f f2 : Nat → List Int32) : Prop := ∀ k, (k = 23 ∨ (33 ≤ k ∧ k ≤ 36)) → f2 k = f k
theorem fs.fk {f f2 : Nat → List Int32} (h : fs f f2) : fk f f2 := fun k hk => h k (by omega) (by omega)
theorem fk.rf {f : Nat → List Int32} : fk f f := fun _ _ => rfl
theorem fk.tr {f g h : Nat → List Int32} (a : fk f g) (b : fk g h) : fk f h := fun k hk => (b k hk).trans (a k hk)
theorem fk.up {f g : Nat → List Int32} {j : Nat} {l : List Int32} (a : fk f g) (hj : ¬ (j = 23 ∨ (33 ≤ j ∧ j ≤ 36))) : fk f (fu g j l) := fun k hk => (fu_n (fun (z : k = j) => hj (z ▸ hk))).trans (a k hk)
theorem mT.fk {I : sm_Is} {tx pa sh : List Nat} {sn : List (Nat × Nat)} {f f2 : Nat → List Int32} (h : mT I tx pa sh sn f) (hf : fk f f2) : mT I tx pa sh sn f2 := by
  unfold mT
  rw [hf 23 (by omega), hf 33 (by omega), hf 34 (by omega), hf 35 (by omega), hf 36 (by omega)]
  exact h
theorem mT.fs {I : sm_Is} {tx pa sh : List Nat} {sn : List (Nat × Nat)} {f f2 : Nat → List Int32} (h : mT I tx pa sh sn f) (hf : fs f f2) : mT I tx pa sh sn f2 := h.fk hf.fk
/-- the model's state -/
def mX (wd : sm_W) (tx : List Nat) (I : sm_Is) (w : Nat) (pa sh : List Nat) (sn : List (Nat × Nat)) : Prop := ∃ (sp : Int32) (f : Nat → List Int32), mC wd (nI tx.length) (nI pa.length) (nI sh.length) (nI sn.length) sp f ∧ mL f ∧ mR I w f ∧ mT I tx pa sh sn f
theorem m_wants {xs : List Int32} {d : Nat} {wd : sm_W} {Q : Option Value → sm_W → Prop} {tx : List Nat} {I : sm_Is} {w : Nat} {pa sh : List Nat} {sn : List (Nat × Nat)} (hX : mX wd tx I w pa sh sn) (hW : iWF I) (hw : wfW I w) {x1 : Int32} (hB : inR x1 2 = false → Q (some (.int (-1))) wd) (hQ : ∀ q, q < 2 → x1 = nI q → ∀ w2, mX w2 tx I w pa sh sn → frm 22 40 wd w2 → Q (some (.int (nI (wntq I w q)))) w2) : Ct xs (d + 3) 147 [.ref 22, .int x1] wd Q := by
  unfold Ct
  show RT xs (d + 3) 147 0 [some (.ref 22), some (.int x1)] [] wd Q
  obtain ⟨sp, f, hC, hL, hR, hT⟩ := id hX
  obtain ⟨hW1, hW2, hW3, hW4, hW5, hW6, hW7, hW8, hW9, hW10, hW11, hW12, hW13, hW14, hW15⟩ := id hW
  obtain ⟨hT1, hT2, hT3, hT4⟩ := id hT
  refine R_iload_n r_147_0 rfl ?_
  refine R_call1 r_147_1 rfl rfl (Nat.le_of_ble_eq_true rfl) (Nat.le_of_ble_eq_true rfl) ?_
  refine m_isQuestion ?_
  refine R_if_eq_b r_147_4 (by decide) (fun h_1 => ?_) (fun h_1 => ?_)
  · refine R_iconst r_147_16 (v := (-1)) rfl ?_
    refine R_iret r_147_17 (ty := .int) rfl rfl (by decide) ?_
    exact hB (by assumption)
  · obtain ⟨q, hq, rfl⟩ := inR_of (x := x1) (by assumption) (by decide)
    refine R_aload_n r_147_7 rfl (by decide) ?_
    refine R_iload_n r_147_8 rfl ?_
    refine R_iconst r_147_9 (v := nI 0) rfl ?_
    refine R_call3 r_147_10 rfl (sm_rvM rfl rfl rfl hC) (Nat.le_of_ble_eq_true rfl) (Nat.le_of_ble_eq_true rfl) ?_
    refine m_wanting hC hR hL hW hw hq (by decide) ?_
    refine R_goto r_147_13 (by decide) ?_
    refine R_iret r_147_17 (ty := .int) rfl rfl (by decide) ?_
    exact hQ q hq rfl _ ⟨_, _, hC, hL, hR, hT.fs fs.rf⟩ frm.rf
theorem m_leave {xs : List Int32} {d : Nat} {wd : sm_W} {Q : Option Value → sm_W → Prop} {tx : List Nat} {I : sm_Is} {w : Nat} {pa sh : List Nat} {sn : List (Nat × Nat)} (hX : mX wd tx I w pa sh sn) (hW : iWF I) (hw : wfW I w) {x1 : Int32} (hB : inR x1 2 = false → Q (some (.int (-1))) wd) (hQ : ∀ q, q < 2 → x1 = nI q → ∀ w2, mX w2 tx I w pa sh sn → frm 22 40 wd w2 → Q (some (.int (nI (lvs I w q)))) w2) : Ct xs (d + 4) 152 [.ref 22, .int x1] wd Q := by
  unfold Ct
  show RT xs (d + 4) 152 0 [some (.ref 22), some (.int x1)] [] wd Q
  obtain ⟨sp, f, hC, hL, hR, hT⟩ := id hX
  obtain ⟨hW1, hW2, hW3, hW4, hW5, hW6, hW7, hW8, hW9, hW10, hW11, hW12, hW13, hW14, hW15⟩ := id hW
  obtain ⟨hT1, hT2, hT3, hT4⟩ := id hT
  refine R_iload_n r_152_0 rfl ?_
  refine R_call1 r_152_1 rfl rfl (Nat.le_of_ble_eq_true rfl) (Nat.le_of_ble_eq_true rfl) ?_
  refine m_isQuestion ?_
  refine R_if_eq_b r_152_4 (by decide) (fun h_1 => ?_) (fun h_1 => ?_)
  · refine R_iconst r_152_15 (v := (-1)) rfl ?_
    refine R_iret r_152_16 (ty := .int) rfl rfl (by decide) ?_
    exact hB (by assumption)
  · obtain ⟨q, hq, rfl⟩ := inR_of (x := x1) (by assumption) (by decide)
    refine R_aload_n r_152_7 rfl (by decide) ?_
    refine R_iload_n r_152_8 rfl ?_
    refine R_call2 r_152_9 rfl (sm_rvM rfl rfl rfl hC) (Nat.le_of_ble_eq_true rfl) (Nat.le_of_ble_eq_true rfl) ?_
    refine m_leaving hC hR hL hW hw hq (fun w_q_2 f_q_2 hC_q_2 hL_q_2 hR_q_2 hfs_q_2 hf_q_2 hbo_q_2 => ?_)
    refine R_goto r_152_12 (by decide) ?_
    refine R_iret r_152_16 (ty := .int) rfl rfl (by decide) ?_
    exact hQ q hq rfl _ ⟨_, _, hC_q_2, hL_q_2, hR_q_2, hT.fs hfs_q_2⟩ hf_q_2
theorem m_falls {xs : List Int32} {d : Nat} {wd : sm_W} {Q : Option Value → sm_W → Prop} {tx : List Nat} {I : sm_Is} {w : Nat} {pa sh : List Nat} {sn : List (Nat × Nat)} (hX : mX wd tx I w pa sh sn) (hW : iWF I) (hw : wfW I w) {x1 : Int32} (hB : inR x1 2 = false → Q (some (.int (-1))) wd) (hQ : ∀ q, q < 2 → x1 = nI q → ∀ w2, mX w2 tx I w pa sh sn → frm 22 40 wd w2 → Q (some (.int (b2i (fallN I w q)))) w2) : Ct xs (d + 5) 157 [.ref 22, .int x1] wd Q := by
  unfold Ct
  show RT xs (d + 5) 157 0 [some (.ref 22), some (.int x1)] [] wd Q
  obtain ⟨sp, f, hC, hL, hR, hT⟩ := id hX
  obtain ⟨hW1, hW2, hW3, hW4, hW5, hW6, hW7, hW8, hW9, hW10, hW11, hW12, hW13, hW14, hW15⟩ := id hW
  obtain ⟨hT1, hT2, hT3, hT4⟩ := id hT
  refine R_iload_n r_157_0 rfl ?_
  refine R_call1 r_157_1 rfl rfl (Nat.le_of_ble_eq_true rfl) (Nat.le_of_ble_eq_true rfl) ?_
  refine m_isQuestion ?_
  refine R_if_ne_b r_157_4 (by decide) (fun h_1 => ?_) (fun h_1 => ?_)
  · obtain ⟨q, hq, rfl⟩ := inR_of (x := x1) (by assumption) (by decide)
    refine R_aload_n r_157_11 rfl (by decide) ?_
    refine R_iload_n r_157_12 rfl ?_
    refine R_call2 r_157_13 rfl (sm_rvM rfl rfl rfl hC) (Nat.le_of_ble_eq_true rfl) (Nat.le_of_ble_eq_true rfl) ?_
    refine m_doesFall hC hR hL hW hw hq (fun w_q_2 f_q_2 hC_q_2 hL_q_2 hR_q_2 hfs_q_2 hf_q_2 => ?_)
    refine R_if_eq_b r_157_16 (by decide) (fun h_3 => ?_) (fun h_3 => ?_)
    · refine R_iconst r_157_23 (v := nI 0) rfl ?_
      refine R_iret r_157_24 (ty := .int) rfl rfl (by decide) ?_
      have h9 := hQ q hq rfl _ ⟨_, _, hC_q_2, hL_q_2, hR_q_2, hT.fs hfs_q_2⟩ hf_q_2; first | (rw [show fallN I w q = true from by assumption] at h9; exact h9) | (rw [show fallN I w q = false from by assumption] at h9; exact h9)
    · refine R_iconst r_157_19 (v := nI 1) rfl ?_
      refine R_goto r_157_20 (by decide) ?_
      refine R_iret r_157_24 (ty := .int) rfl rfl (by decide) ?_
      have h9 := hQ q hq rfl _ ⟨_, _, hC_q_2, hL_q_2, hR_q_2, hT.fs hfs_q_2⟩ hf_q_2; first | (rw [show fallN I w q = true from by assumption] at h9; exact h9) | (rw [show fallN I w q = false from by assumption] at h9; exact h9)
  · refine R_iconst r_157_7 (v := (-1)) rfl ?_
    refine R_goto r_157_8 (by decide) ?_
    refine R_iret r_157_24 (ty := .int) rfl rfl (by decide) ?_
    exact hB (by assumption)
theorem cum_find (fr : Nat → Nat) (n : Nat) : ∀ k, n < cumF fr k → ∃ b, b < k ∧ cumF fr b ≤ n ∧ n < cumF fr (b + 1)
  | 0, h => absurd h (Nat.not_lt_zero _)
  | k + 1, h => by
    by_cases h2 : n < cumF fr k
    · obtain ⟨b, h3, h4⟩ := cum_find fr n k h2
      exact ⟨b, by omega, h4⟩
    · exact ⟨k, by omega, by omega, h⟩
theorem cum_congr {f g : Nat → Nat} : ∀ k, (∀ b, b < k → f b = g b) → cumF f k = cumF g k
  | 0, _ => rfl
  | k + 1, h => by
    unfold cumF
    rw [cum_congr k (fun b hb => h b (by omega)), h k (by omega)]
theorem fr_eq {I : sm_Is} {w : Nat} (hW : iWF I) (b : Nat) : frX I w (-1) b = frF I (sHeld w) b := by
  unfold frX frF
  by_cases h1 : b < iB I
  · cases h2 : (sHeld w).testBit b
    · rw [if_pos ⟨h1, rfl, by unfold grX; simp⟩, if_neg (by decide)]
    · rw [if_neg (fun z => Bool.noConfusion z.2.1), if_pos rfl]
  · rw [if_neg (fun z => h1 z.1), hW.2.2.2.2.2.2.2.2.2.1 b (by omega)]
    split <;> rfl
theorem pc_below {s i : Nat} (hi : i ≤ 8) : pc8 (s &&& (1 <<< i - 1)) = pcUp s i := by
  have key : ∀ k, k ≤ 8 → pcUp (s &&& (1 <<< i - 1)) k = pcUp s (min k i) := by
    intro k
    induction k with
    | zero => exact fun _ => by rw [Nat.zero_min]; rfl
    | succ k ih =>
      intro hk
      show pcUp _ k + _ = _
      rw [ih (by omega), Nat.testBit_and, Nat.one_shiftLeft, Nat.testBit_two_pow_sub_one]
      by_cases h : k < i
      · rw [decide_eq_true h, Bool.and_true, show min k i = k by omega, show min (k + 1) i = k + 1 by omega]; rfl
      · rw [decide_eq_false h, Bool.and_false, show min k i = i by omega, show min (k + 1) i = i by omega]; rfl
  rw [show pc8 (s &&& (1 <<< i - 1)) = pcUp (s &&& (1 <<< i - 1)) 8 from rfl, key 8 (by decide), show min 8 i = i by omega]
theorem by_eq {I : sm_Is} {w q i : Nat} (hW : iWF I) (hi : i < 8) (h : (lvs I w q).testBit i = true) : boX (frX I w (-1)) (seX I w (-1)) (sIce w) (wntq I w q) i = byV I w q i := by
  unfold byV
  cases hic : sIce w with
  | true => rw [if_pos (Or.inr rfl)]; unfold boX; rw [if_neg (fun z => Bool.noConfusion z.1)]
  | false =>
    rw [if_neg (by rw [h]; rintro (z | z) <;> exact Bool.noConfusion z)]
    have hs := seX_m1 (I := I) (w := w) hW
    have hsn := seX_n (I := I) (w := w) (x := -1) hic
    have h2 := h
    unfold lvs at h2
    rw [low_bit, Bool.and_eq_true, Bool.and_eq_true, decide_eq_true_iff, decide_eq_true_iff] at h2
    have h3 := h2.2.2
    have h4 := low_cnt (wnt (ntG I w) (ntB w) (ntV I w) (sAg w q) 0) (min (ntS I w) (iBd I)) i
    have h5 := low_cnt (wntq I w q) (seX I w (-1)) i
    have h6 : pcUp (wntq I w q) i = pcUp (wnt (ntG I w) (ntB w) (ntV I w) (sAg w q) 0) i := rfl
    have h7 : pc8 (lvs I w q &&& (1 <<< i - 1)) = pcUp (wntq I w q) i := by
      rw [pc_below (by omega)]
      unfold lvs
      rw [low_pc _ _ i (by omega), h4]
      omega
    have h8 : (lowUp (wntq I w q) (seX I w (-1)) i).2 = pcUp (wntq I w q) i := by rw [h5]; omega
    have h9 : pcUp (wntq I w q) i < cumF (frX I w (-1)) 5 := by omega
    unfold boX
    rw [if_pos ⟨rfl, h2.2.1, by rw [h8]; omega⟩, h7, h8]
    obtain ⟨b, hb, hb1, hb2⟩ := cum_find _ _ 5 h9
    have hbB : b < iB I := by
      refine Nat.lt_of_not_le (fun z => ?_)
      have e0 : frX I w (-1) b = 0 := by unfold frX; rw [if_neg (fun y => by omega)]
      have e1 : cumF (frX I w (-1)) (b + 1) = cumF (frX I w (-1)) b + frX I w (-1) b := rfl
      omega
    have ec : ∀ k, cumF (frF I (sHeld w)) k = cumF (frX I w (-1)) k := fun k => cum_congr k (fun t _ => (fr_eq hW t).symm)
    have e2 := bos_at (fr := frF I (sHeld w)) (n := pcUp (wntq I w q) i) (b := b) (by rw [ec]; exact hb1) (by rw [ec]; exact hb2) b (iB I) 0 (by omega) hbB
    rw [bos_is hb hb1 hb2]
    rw [show pcUp (wntq I w q) i - cumF (frF I (sHeld w)) 0 = pcUp (wntq I w q) i from rfl] at e2
    rw [e2]
    unfold bosI
    rw [if_neg (by omega)]
theorem m_by {xs : List Int32} {d : Nat} {wd : sm_W} {Q : Option Value → sm_W → Prop} {tx : List Nat} {I : sm_Is} {w : Nat} {pa sh : List Nat} {sn : List (Nat × Nat)} (hX : mX wd tx I w pa sh sn) (hW : iWF I) (hw : wfW I w) {x1 x2 : Int32} (hB : (inR x1 2 && inR x2 (iN I)) = false → Q (some (.int (-1))) wd) (hQ : ∀ q i, q < 2 → i < iN I → x1 = nI q → x2 = nI i → ∀ v, v = byV I w q i → ∀ w2, mX w2 tx I w pa sh sn → frm 22 40 wd w2 → Q (some (.int v)) w2) : Ct xs (d + 4) 156 [.ref 22, .int x1, .int x2] wd Q := by
  unfold Ct
  show RT xs (d + 4) 156 0 [some (.ref 22), some (.int x1), some (.int x2)] [] wd Q
  obtain ⟨sp, f, hC, hL, hR, hT⟩ := id hX
  obtain ⟨hW1, hW2, hW3, hW4, hW5, hW6, hW7, hW8, hW9, hW10, hW11, hW12, hW13, hW14, hW15⟩ := id hW
  obtain ⟨hT1, hT2, hT3, hT4⟩ := id hT
  refine R_iload_n r_156_0 rfl ?_
  refine R_call1 r_156_1 rfl rfl (Nat.le_of_ble_eq_true rfl) (Nat.le_of_ble_eq_true rfl) ?_
  refine m_isQuestion ?_
  refine R_if_eq_b r_156_4 (by decide) (fun h_1 => ?_) (fun h_1 => ?_)
  · refine R_iconst r_156_15 (v := (-1)) rfl ?_
    refine R_iret r_156_16 (ty := .int) rfl rfl (by decide) ?_
    exact hB (by simp [*])
  · refine R_aload_n r_156_7 rfl (by decide) ?_
    refine R_iload_n r_156_8 rfl ?_
    refine R_call2 r_156_9 rfl (sm_rvM rfl rfl rfl hC) (Nat.le_of_ble_eq_true rfl) (Nat.le_of_ble_eq_true rfl) ?_
    refine m_isIslander hC hR hW ?_
    refine R_if_ne_b r_156_12 (by decide) (fun h_2 => ?_) (fun h_2 => ?_)
    · obtain ⟨q, hq, rfl⟩ := inR_of (x := x1) (by assumption) (by decide)
      obtain ⟨i, hi, rfl⟩ := inR_of (x := x2) (by assumption) (by omega)
      refine R_aload_n r_156_17 rfl (by decide) ?_
      refine R_iload_n r_156_18 rfl ?_
      refine R_call2 r_156_19 rfl (sm_rvM rfl rfl rfl hC) (Nat.le_of_ble_eq_true rfl) (Nat.le_of_ble_eq_true rfl) ?_
      refine m_leaving hC hR hL hW hw hq (fun w_q_3 f_q_3 hC_q_3 hL_q_3 hR_q_3 hfs_q_3 hf_q_3 hbo_q_3 => ?_)
      refine R_iload_n r_156_22 rfl ?_
      refine R_call2 r_156_23 rfl rfl (Nat.le_of_ble_eq_true rfl) (Nat.le_of_ble_eq_true rfl) ?_
      refine m_has (Nat.lt_trans (lvs_lt _ _ _) (by decide)) (by omega) ?_
      refine R_if_eq_b r_156_26 (by decide) (fun h_4 => ?_) (fun h_4 => ?_)
      · refine R_bipush r_156_38 (v := (-4)) rfl ?_
        refine R_iret r_156_40 (ty := .int) rfl rfl (by decide) ?_
        have h9 := hQ q i hq hi rfl rfl _ rfl _ ⟨_, _, hC_q_3, hL_q_3, hR_q_3, hT.fs hfs_q_3⟩ hf_q_3; unfold byV at h9; rw [if_pos (Or.inl (by assumption))] at h9; exact h9
      · refine R_aload_n r_156_29 rfl (by decide) ?_
        refine R_getf r_156_30 (by decide) hC_q_3.1 rfl ?_
        refine R_iload_n r_156_33 rfl ?_
        refine R_iald r_156_34 (by decide) (hC_q_3.2 38 (by decide) (by decide)) (sm_ixG (hbo_q_3 i (by omega)) (by omega)) ?_
        refine R_goto r_156_35 (by decide) ?_
        refine R_iret r_156_40 (ty := .int) rfl rfl (by decide) ?_
        exact hQ q i hq hi rfl rfl _ (by_eq hW (by omega) (by assumption)) _ ⟨_, _, hC_q_3, hL_q_3, hR_q_3, hT.fs hfs_q_3⟩ hf_q_3
    · refine R_iconst r_156_15 (v := (-1)) rfl ?_
      refine R_iret r_156_16 (ty := .int) rfl rfl (by decide) ?_
      exact hB (by simp [*])
theorem m_milked {xs : List Int32} {d : Nat} {wd : sm_W} {Q : Option Value → sm_W → Prop} {tx : List Nat} {I : sm_Is} {w : Nat} {pa sh : List Nat} {sn : List (Nat × Nat)} (hX : mX wd tx I w pa sh sn) (hW : iWF I) (hw : wfW I w) {x1 x2 : Int32} (hB : (inR x1 2 && inR x2 2) = false → Q (some (.int (-1))) wd) (hQ0 : ∀ q, q < 2 → x1 = nI q → x2 = 0 → ∀ w2, mX w2 tx I w pa sh sn → frm 22 40 wd w2 → Q (some (.int (nI (cowW I (lvs I w q))))) w2) (hQ1 : ∀ q, q < 2 → x1 = nI q → ¬ x2 = 0 → inR x2 2 = true → ∀ w2, mX w2 tx I w pa sh sn → frm 22 40 wd w2 → Q (some (.int (b2i (decide (iM I ≤ cowW I (lvs I w q)))))) w2) : Ct xs (d + 4) 161 [.ref 22, .int x1, .int x2] wd Q := by
  unfold Ct
  show RT xs (d + 4) 161 0 [some (.ref 22), some (.int x1), some (.int x2), none] [] wd Q
  obtain ⟨sp, f, hC, hL, hR, hT⟩ := id hX
  obtain ⟨hW1, hW2, hW3, hW4, hW5, hW6, hW7, hW8, hW9, hW10, hW11, hW12, hW13, hW14, hW15⟩ := id hW
  obtain ⟨hT1, hT2, hT3, hT4⟩ := id hT
  refine R_iload_n r_161_0 rfl ?_
  refine R_call1 r_161_1 rfl rfl (Nat.le_of_ble_eq_true rfl) (Nat.le_of_ble_eq_true rfl) ?_
  refine m_isQuestion ?_
  refine R_if_eq_b r_161_4 (by decide) (fun h_1 => ?_) (fun h_1 => ?_)
  · refine R_iconst r_161_17 (v := (-1)) rfl ?_
    refine R_iret r_161_18 (ty := .int) rfl rfl (by decide) ?_
    exact hB (by simp [*])
  · refine R_iload_n r_161_7 rfl ?_
    refine R_i2l r_161_8 ?_
    refine R_lconst r_161_9 (v := lN 0) rfl ?_
    refine R_lconst r_161_10 (v := lN 1) rfl ?_
    refine R_call3 r_161_11 rfl rfl (Nat.le_of_ble_eq_true rfl) (Nat.le_of_ble_eq_true rfl) ?_
    refine m_in (c := inR x2 2) (in_q (by decide)) ?_
    refine R_if_ne_b r_161_14 (by decide) (fun h_2 => ?_) (fun h_2 => ?_)
    · obtain ⟨q, hq, rfl⟩ := inR_of (x := x1) (by assumption) (by decide)
      refine R_aload_n r_161_19 rfl (by decide) ?_
      refine R_aload_n r_161_20 rfl (by decide) ?_
      refine R_iload_n r_161_21 rfl ?_
      refine R_call2 r_161_22 rfl (sm_rvM rfl rfl rfl hC) (Nat.le_of_ble_eq_true rfl) (Nat.le_of_ble_eq_true rfl) ?_
      refine m_leaving hC hR hL hW hw hq (fun w_q_3 f_q_3 hC_q_3 hL_q_3 hR_q_3 hfs_q_3 hf_q_3 hbo_q_3 => ?_)
      refine R_call2 r_161_25 rfl (sm_rvM rfl rfl rfl hC_q_3) (Nat.le_of_ble_eq_true rfl) (Nat.le_of_ble_eq_true rfl) ?_
      refine m_cowsWithout hC_q_3 hR_q_3 hL_q_3 hW (Nat.lt_trans (lowUp_lt _ _ 8) (by decide)) ?_
      refine R_istore_n r_161_28 rfl ?_
      refine R_iload_n r_161_29 rfl ?_
      refine R_if_ne r_161_30 (by decide) (fun h_4 => ?_) (fun h_4 => ?_)
      · refine R_iload_n r_161_37 rfl ?_
        refine R_aload_n r_161_38 rfl (by decide) ?_
        refine R_getf r_161_39 (by decide) hC_q_3.1 rfl ?_
        refine R_iconst r_161_42 (v := nI 1) rfl ?_
        refine R_iald r_161_43 (by decide) (hC_q_3.2 31 (by decide) (by decide)) hR_q_3.l1 ?_
        refine R_icmp_lt_N r_161_44 (by decide) (by have := cowW_le hW (lvs I w q); omega) (by omega) (fun h_5 => ?_) (fun h_5 => ?_)
        · refine R_iconst r_161_51 (v := nI 0) rfl ?_
          refine R_iret r_161_52 (ty := .int) rfl rfl (by decide) ?_
          have h9 := hQ1 q hq rfl (by assumption) (by assumption) _ ⟨_, _, hC_q_3, hL_q_3, hR_q_3, hT.fs hfs_q_3⟩ hf_q_3; rw [decide_eq_false (by omega)] at h9; exact h9
        · refine R_iconst r_161_47 (v := nI 1) rfl ?_
          refine R_goto r_161_48 (by decide) ?_
          refine R_iret r_161_52 (ty := .int) rfl rfl (by decide) ?_
          have h9 := hQ1 q hq rfl (by assumption) (by assumption) _ ⟨_, _, hC_q_3, hL_q_3, hR_q_3, hT.fs hfs_q_3⟩ hf_q_3; rw [decide_eq_true (by assumption)] at h9; exact h9
      · refine R_iload_n r_161_33 rfl ?_
        refine R_goto r_161_34 (by decide) ?_
        refine R_iret r_161_52 (ty := .int) rfl rfl (by decide) ?_
        exact hQ0 q hq rfl (by assumption) _ ⟨_, _, hC_q_3, hL_q_3, hR_q_3, hT.fs hfs_q_3⟩ hf_q_3
    · refine R_iconst r_161_17 (v := (-1)) rfl ?_
      refine R_iret r_161_18 (ty := .int) rfl rfl (by decide) ?_
      exact hB (by simp [*])
theorem in4 {x : Int32} (h : inR x 4 = true) (h0 : ¬ x = 0) (h1 : ¬ x = nI 1) (h2 : ¬ x = nI 2) : x = nI 3 := by
  obtain ⟨v, hv, rfl⟩ := inR_of h (by decide)
  rcases (by omega : v = 0 ∨ v = 1 ∨ v = 2 ∨ v = 3) with rfl | rfl | rfl | rfl
  · exact absurd rfl h0
  · exact absurd rfl h1
  · exact absurd rfl h2
  · rfl
theorem in2 {x : Int32} (h : inR x 2 = true) (h0 : ¬ x = 0) : x = nI 1 := by
  obtain ⟨v, hv, rfl⟩ := inR_of h (by decide)
  rcases (by omega : v = 0 ∨ v = 1) with rfl | rfl
  · exact absurd rfl h0
  · rfl
theorem m_islander {xs : List Int32} {d : Nat} {wd : sm_W} {Q : Option Value → sm_W → Prop} {tx : List Nat} {I : sm_Is} {w : Nat} {pa sh : List Nat} {sn : List (Nat × Nat)} (hX : mX wd tx I w pa sh sn) (hW : iWF I) (hw : wfW I w) {x1 x2 : Int32} (hB : (inR x1 (iN I) && inR x2 4) = false → Q (some (.int (-1))) wd) (hQ : ∀ i, i < iN I → x1 = nI i → ∀ v, v < 4 → x2 = nI v → Q (some (.int (nI (islV I w i v)))) wd) : Ct xs (d + 2) 143 [.ref 22, .int x1, .int x2] wd Q := by
  unfold Ct
  show RT xs (d + 2) 143 0 [some (.ref 22), some (.int x1), some (.int x2)] [] wd Q
  obtain ⟨sp, f, hC, hL, hR, hT⟩ := id hX
  obtain ⟨hW1, hW2, hW3, hW4, hW5, hW6, hW7, hW8, hW9, hW10, hW11, hW12, hW13, hW14, hW15⟩ := id hW
  obtain ⟨hT1, hT2, hT3, hT4⟩ := id hT
  refine R_aload_n r_143_0 rfl (by decide) ?_
  refine R_iload_n r_143_1 rfl ?_
  refine R_call2 r_143_2 rfl (sm_rvM rfl rfl rfl hC) (Nat.le_of_ble_eq_true rfl) (Nat.le_of_ble_eq_true rfl) ?_
  refine m_isIslander hC hR hW ?_
  refine R_if_eq_b r_143_5 (by decide) (fun h_1 => ?_) (fun h_1 => ?_)
  · refine R_iconst r_143_20 (v := (-1)) rfl ?_
    refine R_iret r_143_21 (ty := .int) rfl rfl (by decide) ?_
    exact hB (by simp [*])
  · refine R_iload_n r_143_8 rfl ?_
    refine R_i2l r_143_9 ?_
    refine R_lconst r_143_10 (v := lN 0) rfl ?_
    refine R_ldc2_w r_143_11 (v := lN 3) rfl ?_
    refine R_call3 r_143_14 rfl rfl (Nat.le_of_ble_eq_true rfl) (Nat.le_of_ble_eq_true rfl) ?_
    refine m_in (c := inR x2 4) (in_q (by decide)) ?_
    refine R_if_ne_b r_143_17 (by decide) (fun h_2 => ?_) (fun h_2 => ?_)
    · obtain ⟨i, hi, rfl⟩ := inR_of (x := x1) (by assumption) (by omega)
      refine R_iload_n r_143_22 rfl ?_
      refine R_if_ne r_143_23 (by decide) (fun h_3 => ?_) (fun h_3 => ?_)
      · refine R_iload_n r_143_35 rfl ?_
        refine R_iconst r_143_36 (v := nI 1) rfl ?_
        refine R_icmp_ne r_143_37 (by decide) (fun h_4 => ?_) (fun h_4 => ?_)
        · refine R_iload_n r_143_49 rfl ?_
          refine R_iconst r_143_50 (v := nI 2) rfl ?_
          refine R_icmp_ne r_143_51 (by decide) (fun h_5 => ?_) (fun h_5 => ?_)
          · refine R_aload_n r_143_66 rfl (by decide) ?_
            refine R_getf r_143_67 (by decide) hC.1 rfl ?_
            refine R_iload_n r_143_70 rfl ?_
            refine R_iald r_143_71 (by decide) (hC.2 28 (by decide) (by decide)) (hR.rC hi hW4) ?_
            refine R_iret r_143_72 (ty := .int) rfl rfl (by decide) ?_
            first | exact hQ i hi rfl 0 (by decide) (by assumption) | exact hQ i hi rfl 1 (by decide) (by assumption) | exact hQ i hi rfl 2 (by decide) (by assumption) | exact hQ i hi rfl 3 (by decide) (in4 (by assumption) (by assumption) (by assumption) (by assumption))
          · refine R_aload_n r_143_54 rfl (by decide) ?_
            refine R_getf r_143_55 (by decide) hC.1 rfl ?_
            refine R_bipush r_143_58 (v := nI 8) rfl ?_
            refine R_iload_n r_143_60 rfl ?_
            refine R_iaddN r_143_61 ?_
            refine R_iald r_143_62 (by decide) (hC.2 32 (by decide) (by decide)) (hR.nm hi hW4) ?_
            refine R_goto r_143_63 (by decide) ?_
            refine R_iret r_143_72 (ty := .int) rfl rfl (by decide) ?_
            first | exact hQ i hi rfl 0 (by decide) (by assumption) | exact hQ i hi rfl 1 (by decide) (by assumption) | exact hQ i hi rfl 2 (by decide) (by assumption) | exact hQ i hi rfl 3 (by decide) (in4 (by assumption) (by assumption) (by assumption) (by assumption))
        · refine R_aload_n r_143_40 rfl (by decide) ?_
          refine R_getf r_143_41 (by decide) hC.1 rfl ?_
          refine R_iload_n r_143_44 rfl ?_
          refine R_iald r_143_45 (by decide) (hC.2 32 (by decide) (by decide)) (hR.nl hi hW4) ?_
          refine R_goto r_143_46 (by decide) ?_
          refine R_iret r_143_72 (ty := .int) rfl rfl (by decide) ?_
          first | exact hQ i hi rfl 0 (by decide) (by assumption) | exact hQ i hi rfl 1 (by decide) (by assumption) | exact hQ i hi rfl 2 (by decide) (by assumption) | exact hQ i hi rfl 3 (by decide) (in4 (by assumption) (by assumption) (by assumption) (by assumption))
      · refine R_aload_n r_143_26 rfl (by decide) ?_
        refine R_getf r_143_27 (by decide) hC.1 rfl ?_
        refine R_iload_n r_143_30 rfl ?_
        refine R_iald r_143_31 (by decide) (hC.2 25 (by decide) (by decide)) (hR.rK hi hW4) ?_
        refine R_goto r_143_32 (by decide) ?_
        refine R_iret r_143_72 (ty := .int) rfl rfl (by decide) ?_
        first | exact hQ i hi rfl 0 (by decide) (by assumption) | exact hQ i hi rfl 1 (by decide) (by assumption) | exact hQ i hi rfl 2 (by decide) (by assumption) | exact hQ i hi rfl 3 (by decide) (in4 (by assumption) (by assumption) (by assumption) (by assumption))
    · refine R_iconst r_143_20 (v := (-1)) rfl ?_
      refine R_iret r_143_21 (ty := .int) rfl rfl (by decide) ?_
      exact hB (by simp [*])
theorem m_boat {xs : List Int32} {d : Nat} {wd : sm_W} {Q : Option Value → sm_W → Prop} {tx : List Nat} {I : sm_Is} {w : Nat} {pa sh : List Nat} {sn : List (Nat × Nat)} (hX : mX wd tx I w pa sh sn) (hW : iWF I) (hw : wfW I w) {x1 x2 : Int32} (hB : (inR x1 (iB I) && inR x2 2) = false → Q (some (.int (-1))) wd) (hQ0 : ∀ i, i < iB I → x1 = nI i → x2 = nI 0 → Q (some (.int (nI ((iS I).getD i 0)))) wd) (hQ1 : ∀ i, i < iB I → x1 = nI i → x2 = nI 1 → Q (some (.int (b2i ((sHeld w).testBit i)))) wd) : Ct xs (d + 2) 145 [.ref 22, .int x1, .int x2] wd Q := by
  unfold Ct
  show RT xs (d + 2) 145 0 [some (.ref 22), some (.int x1), some (.int x2)] [] wd Q
  obtain ⟨sp, f, hC, hL, hR, hT⟩ := id hX
  obtain ⟨hW1, hW2, hW3, hW4, hW5, hW6, hW7, hW8, hW9, hW10, hW11, hW12, hW13, hW14, hW15⟩ := id hW
  obtain ⟨hT1, hT2, hT3, hT4⟩ := id hT
  refine R_aload_n r_145_0 rfl (by decide) ?_
  refine R_iload_n r_145_1 rfl ?_
  refine R_call2 r_145_2 rfl (sm_rvM rfl rfl rfl hC) (Nat.le_of_ble_eq_true rfl) (Nat.le_of_ble_eq_true rfl) ?_
  refine m_isBoat hC hR hW ?_
  refine R_if_eq_b r_145_5 (by decide) (fun h_1 => ?_) (fun h_1 => ?_)
  · refine R_iconst r_145_18 (v := (-1)) rfl ?_
    refine R_goto r_145_19 (by decide) ?_
    refine R_iret r_145_44 (ty := .int) rfl rfl (by decide) ?_
    exact hB (by simp [*])
  · refine R_iload_n r_145_8 rfl ?_
    refine R_i2l r_145_9 ?_
    refine R_lconst r_145_10 (v := lN 0) rfl ?_
    refine R_lconst r_145_11 (v := lN 1) rfl ?_
    refine R_call3 r_145_12 rfl rfl (Nat.le_of_ble_eq_true rfl) (Nat.le_of_ble_eq_true rfl) ?_
    refine m_in (c := inR x2 2) (in_q (by decide)) ?_
    refine R_if_ne_b r_145_15 (by decide) (fun h_2 => ?_) (fun h_2 => ?_)
    · obtain ⟨i, hi, rfl⟩ := inR_of (x := x1) (by assumption) (by omega)
      refine R_iload_n r_145_22 rfl ?_
      refine R_if_ne r_145_23 (by decide) (fun h_3 => ?_) (fun h_3 => ?_)
      · refine R_aload_n r_145_35 rfl (by decide) ?_
        refine R_getf r_145_36 (by decide) hC.1 rfl ?_
        refine R_bipush r_145_39 (v := nI 16) rfl ?_
        refine R_iload_n r_145_41 rfl ?_
        refine R_iaddN r_145_42 ?_
        refine R_iald r_145_43 (by decide) (hC.2 32 (by decide) (by decide)) (hR.nh (by omega)) ?_
        refine R_iret r_145_44 (ty := .int) rfl rfl (by decide) ?_
        first | exact hQ0 i hi rfl (by assumption) | exact hQ1 i hi rfl (in2 (by assumption) (by assumption))
      · refine R_aload_n r_145_26 rfl (by decide) ?_
        refine R_getf r_145_27 (by decide) hC.1 rfl ?_
        refine R_iload_n r_145_30 rfl ?_
        refine R_iald r_145_31 (by decide) (hC.2 30 (by decide) (by decide)) (hR.rS hi hW5) ?_
        refine R_goto r_145_32 (by decide) ?_
        refine R_iret r_145_44 (ty := .int) rfl rfl (by decide) ?_
        first | exact hQ0 i hi rfl (by assumption) | exact hQ1 i hi rfl (in2 (by assumption) (by assumption))
    · refine R_iconst r_145_18 (v := (-1)) rfl ?_
      refine R_goto r_145_19 (by decide) ?_
      refine R_iret r_145_44 (ty := .int) rfl rfl (by decide) ?_
      exact hB (by simp [*])
theorem pc5 : ∀ s, s < 32 → pcUp s 5 = pc8 s := by decide +kernel
theorem lp_mheld {xs : List Int32} {d : Nat} {wd : sm_W} {Q : Option Value → sm_W → Prop} {ln um km sn sp : Int32} {f : Nat → List Int32} (hC : mC wd ln um km sn sp f) {I : sm_Is} {w : Nat} (hR : mR I w f) (hL : mL f) (hW : iWF I) (hQ : Q (some (.int (nI (pc8 (sHeld w))))) wd)  : ∀ (k : Nat) (b : Nat), (b + k = 5) → RT xs (d) 187 4 [some (.ref 22), some (.int (nI (pcUp (sHeld w) b))), some (.int (nI b))] [] wd Q := by
  intro k
  induction k with
  | zero =>
    intro b hk
    refine R_iload_n r_187_4 rfl ?_
    refine R_iconst r_187_5 (v := nI 5) rfl ?_
    refine R_icmp_ge_N r_187_6 (by decide) (by omega) (by omega) (fun h_1 => ?_) (fun h_1 => ?_)
    · refine R_iload_n r_187_27 rfl ?_
      refine R_iret r_187_28 (ty := .int) rfl rfl (by decide) ?_
      obtain rfl : b = 5 := by omega
      rw [pc5 _ (sHeld_lt w)]; exact hQ
    · exfalso; omega
  | succ k ih =>
    intro b hk
    refine R_iload_n r_187_4 rfl ?_
    refine R_iconst r_187_5 (v := nI 5) rfl ?_
    refine R_icmp_ge_N r_187_6 (by decide) (by omega) (by omega) (fun h_1 => ?_) (fun h_1 => ?_)
    · exfalso; omega
    · refine R_iload_n r_187_9 rfl ?_
      refine R_aload_n r_187_10 rfl (by decide) ?_
      refine R_getf r_187_11 (by decide) hC.1 rfl ?_
      refine R_bipush r_187_14 (v := nI 16) rfl ?_
      refine R_iload_n r_187_16 rfl ?_
      refine R_iaddN r_187_17 ?_
      refine R_iald r_187_18 (by decide) (hC.2 32 (by decide) (by decide)) (hR.nh (by omega)) ?_
      refine R_iaddN r_187_19 ?_
      refine R_istore_n r_187_20 rfl ?_
      refine R_iinc1 r_187_21 rfl rfl ?_
      refine R_goto r_187_24 (by decide) ?_
      exact ih (b + 1) (by omega)
theorem m_heldMany {xs : List Int32} {d : Nat} {wd : sm_W} {Q : Option Value → sm_W → Prop} {ln um km sn sp : Int32} {f : Nat → List Int32} (hC : mC wd ln um km sn sp f) {I : sm_Is} {w : Nat} (hR : mR I w f) (hL : mL f) (hW : iWF I) (hQ : Q (some (.int (nI (pc8 (sHeld w))))) wd) : Ct xs (d) 187 [.ref 22] wd Q := by
  unfold Ct
  show RT xs (d) 187 0 [some (.ref 22), none, none] [] wd Q
  refine R_iconst r_187_0 (v := nI 0) rfl ?_
  refine R_istore_n r_187_1 rfl ?_
  refine R_iconst r_187_2 (v := nI 0) rfl ?_
  refine R_istore_n r_187_3 rfl ?_
  exact lp_mheld hC hR hL hW hQ 5 0 (by omega)
theorem m_count {xs : List Int32} {d : Nat} {wd : sm_W} {Q : Option Value → sm_W → Prop} {tx : List Nat} {I : sm_Is} {w : Nat} {pa sh : List Nat} {sn : List (Nat × Nat)} (hX : mX wd tx I w pa sh sn) (hW : iWF I) (hw : wfW I w) {x1 : Int32} (hB : inR x1 12 = false → Q (some (.int (-1))) wd) (hQ : ∀ v e, (cntL I w tx pa sh sn)[v]? = some e → v < 12 → x1 = nI v → Q (some (.int e)) wd) : Ct xs (d + 2) 186 [.ref 22, .int x1] wd Q := by
  unfold Ct
  show RT xs (d + 2) 186 0 [some (.ref 22), some (.int x1)] [] wd Q
  obtain ⟨sp, f, hC, hL, hR, hT⟩ := id hX
  obtain ⟨hW1, hW2, hW3, hW4, hW5, hW6, hW7, hW8, hW9, hW10, hW11, hW12, hW13, hW14, hW15⟩ := id hW
  obtain ⟨hT1, hT2, hT3, hT4⟩ := id hT
  refine R_iload_n r_186_0 rfl ?_
  by_cases hs_1 : inR x1 12 = true
  · obtain ⟨v_2, hv_v_2, e_v_2⟩ := inR_of hs_1 (by decide)
    rcases (by omega : v_2 = 0 ∨ v_2 = 1 ∨ v_2 = 2 ∨ v_2 = 3 ∨ v_2 = 4 ∨ v_2 = 5 ∨ v_2 = 6 ∨ v_2 = 7 ∨ v_2 = 8 ∨ v_2 = 9 ∨ v_2 = 10 ∨ v_2 = 11) with e2_v_2 | e2_v_2 | e2_v_2 | e2_v_2 | e2_v_2 | e2_v_2 | e2_v_2 | e2_v_2 | e2_v_2 | e2_v_2 | e2_v_2 | e2_v_2
    · subst e2_v_2
      subst e_v_2
      refine R_tsIn r_186_1 (by decide) (by rfl) (t := 64) (by decide) ?_
      refine R_aload_n r_186_64 rfl (by decide) ?_
      refine R_getf r_186_65 (by decide) hC.1 rfl ?_
      refine R_iconst r_186_68 (v := nI 0) rfl ?_
      refine R_iald r_186_69 (by decide) (hC.2 24 (by decide) (by decide)) hR.rI ?_
      refine R_iret r_186_70 (ty := .int) rfl rfl (by decide) ?_
      exact hQ 0 _ rfl (by decide) rfl
    · subst e2_v_2
      subst e_v_2
      refine R_tsIn r_186_1 (by decide) (by rfl) (t := 71) (by decide) ?_
      refine R_aload_n r_186_71 rfl (by decide) ?_
      refine R_getf r_186_72 (by decide) hC.1 rfl ?_
      refine R_iconst r_186_75 (v := nI 0) rfl ?_
      refine R_iald r_186_76 (by decide) (hC.2 29 (by decide) (by decide)) hR.rB ?_
      refine R_iret r_186_77 (ty := .int) rfl rfl (by decide) ?_
      exact hQ 1 _ rfl (by decide) rfl
    · subst e2_v_2
      subst e_v_2
      refine R_tsIn r_186_1 (by decide) (by rfl) (t := 78) (by decide) ?_
      refine R_aload_n r_186_78 rfl (by decide) ?_
      refine R_call1 r_186_79 rfl (sm_rvM rfl rfl rfl hC) (Nat.le_of_ble_eq_true rfl) (Nat.le_of_ble_eq_true rfl) ?_
      refine m_heldMany hC hR hL hW ?_
      refine R_iret r_186_82 (ty := .int) rfl rfl (by decide) ?_
      exact hQ 2 _ rfl (by decide) rfl
    · subst e2_v_2
      subst e_v_2
      refine R_tsIn r_186_1 (by decide) (by rfl) (t := 83) (by decide) ?_
      refine R_aload_n r_186_83 rfl (by decide) ?_
      refine R_getf r_186_84 (by decide) hC.1 rfl ?_
      refine R_bipush r_186_87 (v := nI 21) rfl ?_
      refine R_iald r_186_89 (by decide) (hC.2 32 (by decide) (by decide)) hR.ns ?_
      refine R_iret r_186_90 (ty := .int) rfl rfl (by decide) ?_
      exact hQ 3 _ rfl (by decide) rfl
    · subst e2_v_2
      subst e_v_2
      refine R_tsIn r_186_1 (by decide) (by rfl) (t := 91) (by decide) ?_
      refine R_aload_n r_186_91 rfl (by decide) ?_
      refine R_getf r_186_92 (by decide) hC.1 rfl ?_
      refine R_bipush r_186_95 (v := nI 22) rfl ?_
      refine R_iald r_186_97 (by decide) (hC.2 32 (by decide) (by decide)) hR.ni ?_
      refine R_iret r_186_98 (ty := .int) rfl rfl (by decide) ?_
      exact hQ 4 _ rfl (by decide) rfl
    · subst e2_v_2
      subst e_v_2
      refine R_tsIn r_186_1 (by decide) (by rfl) (t := 99) (by decide) ?_
      refine R_aload_n r_186_99 rfl (by decide) ?_
      refine R_getf r_186_100 (by decide) hC.1 rfl ?_
      refine R_iconst r_186_103 (v := nI 0) rfl ?_
      refine R_iald r_186_104 (by decide) (hC.2 31 (by decide) (by decide)) hR.l0 ?_
      refine R_iret r_186_105 (ty := .int) rfl rfl (by decide) ?_
      exact hQ 5 _ rfl (by decide) rfl
    · subst e2_v_2
      subst e_v_2
      refine R_tsIn r_186_1 (by decide) (by rfl) (t := 106) (by decide) ?_
      refine R_aload_n r_186_106 rfl (by decide) ?_
      refine R_getf r_186_107 (by decide) hC.1 rfl ?_
      refine R_iconst r_186_110 (v := nI 1) rfl ?_
      refine R_iald r_186_111 (by decide) (hC.2 31 (by decide) (by decide)) hR.l1 ?_
      refine R_iret r_186_112 (ty := .int) rfl rfl (by decide) ?_
      exact hQ 6 _ rfl (by decide) rfl
    · subst e2_v_2
      subst e_v_2
      refine R_tsIn r_186_1 (by decide) (by rfl) (t := 113) (by decide) ?_
      refine R_aload_n r_186_113 rfl (by decide) ?_
      refine R_getf r_186_114 (by decide) hC.1 rfl ?_
      refine R_iconst r_186_117 (v := nI 2) rfl ?_
      refine R_iald r_186_118 (by decide) (hC.2 31 (by decide) (by decide)) hR.l2 ?_
      refine R_iret r_186_119 (ty := .int) rfl rfl (by decide) ?_
      exact hQ 7 _ rfl (by decide) rfl
    · subst e2_v_2
      subst e_v_2
      refine R_tsIn r_186_1 (by decide) (by rfl) (t := 120) (by decide) ?_
      refine R_aload_n r_186_120 rfl (by decide) ?_
      refine R_getf r_186_121 (by decide) hC.1 rfl ?_
      refine R_iret r_186_124 (ty := .int) rfl rfl (by decide) ?_
      exact hQ 8 _ rfl (by decide) rfl
    · subst e2_v_2
      subst e_v_2
      refine R_tsIn r_186_1 (by decide) (by rfl) (t := 125) (by decide) ?_
      refine R_aload_n r_186_125 rfl (by decide) ?_
      refine R_getf r_186_126 (by decide) hC.1 rfl ?_
      refine R_iret r_186_129 (ty := .int) rfl rfl (by decide) ?_
      exact hQ 9 _ rfl (by decide) rfl
    · subst e2_v_2
      subst e_v_2
      refine R_tsIn r_186_1 (by decide) (by rfl) (t := 130) (by decide) ?_
      refine R_aload_n r_186_130 rfl (by decide) ?_
      refine R_getf r_186_131 (by decide) hC.1 rfl ?_
      refine R_iret r_186_134 (ty := .int) rfl rfl (by decide) ?_
      exact hQ 10 _ rfl (by decide) rfl
    · subst e2_v_2
      subst e_v_2
      refine R_tsIn r_186_1 (by decide) (by rfl) (t := 135) (by decide) ?_
      refine R_aload_n r_186_135 rfl (by decide) ?_
      refine R_getf r_186_136 (by decide) hC.1 rfl ?_
      refine R_iret r_186_139 (ty := .int) rfl rfl (by decide) ?_
      exact hQ 11 _ rfl (by decide) rfl
  · refine R_tsOut r_186_1 (inR_out (Bool.eq_false_iff.mpr hs_1)) (t := 140) (by decide) ?_
    refine R_iconst r_186_140 (v := (-1)) rfl ?_
    refine R_iret r_186_141 (ty := .int) rfl rfl (by decide) ?_
    exact hB (by simp [*])
theorem m_asked {xs : List Int32} {d : Nat} {wd : sm_W} {Q : Option Value → sm_W → Prop} {tx : List Nat} {I : sm_Is} {w : Nat} {pa sh : List Nat} {sn : List (Nat × Nat)} (hX : mX wd tx I w pa sh sn) (hW : iWF I) (hw : wfW I w) {x1 : Int32} (hB : inR x1 (allOf I + 1) = false → Q (some (.int (-1))) wd) (hQ : ∀ s, s < allOf I + 1 → x1 = nI s → ∀ v, v = askV I w s → ∀ w2, mX w2 tx I w pa sh sn → frm 22 40 wd w2 → Q (some (.int (nI v))) w2) : Ct xs (d + 4) 182 [.ref 22, .int x1] wd Q := by
  unfold Ct
  show RT xs (d + 4) 182 0 [some (.ref 22), some (.int x1)] [] wd Q
  obtain ⟨sp, f, hC, hL, hR, hT⟩ := id hX
  obtain ⟨hW1, hW2, hW3, hW4, hW5, hW6, hW7, hW8, hW9, hW10, hW11, hW12, hW13, hW14, hW15⟩ := id hW
  obtain ⟨hT1, hT2, hT3, hT4⟩ := id hT
  have hal := all_lt hW
  refine R_iload_n r_182_0 rfl ?_
  refine R_i2l r_182_1 ?_
  refine R_lconst r_182_2 (v := lN 0) rfl ?_
  refine R_iconst r_182_3 (v := nI 1) rfl ?_
  refine R_aload_n r_182_4 rfl (by decide) ?_
  refine R_getf r_182_5 (by decide) hC.1 rfl ?_
  refine R_iconst r_182_8 (v := nI 0) rfl ?_
  refine R_iald r_182_9 (by decide) (hC.2 24 (by decide) (by decide)) hR.rI ?_
  refine R_ishlN r_182_10 (by omega) ?_
  refine R_iconst r_182_11 (v := nI 1) rfl ?_
  refine R_isubN r_182_12 (shl_pos _) ?_
  refine R_i2lN r_182_13 (Nat.lt_trans hal (by decide)) ?_
  refine R_call3 r_182_14 rfl rfl (Nat.le_of_ble_eq_true rfl) (Nat.le_of_ble_eq_true rfl) ?_
  refine m_in (c := inR x1 (allOf I + 1)) (in_q (n := allOf I) (by omega)) ?_
  refine R_if_ne_b r_182_17 (by decide) (fun h_1 => ?_) (fun h_1 => ?_)
  · obtain ⟨s, hs, rfl⟩ := inR_of (x := x1) (by assumption) (by omega)
    have hl0 := lvs_lt I w 0
    have hl1 := lvs_lt I w 1
    refine R_aload_n r_182_22 rfl (by decide) ?_
    refine R_iconst r_182_23 (v := nI 0) rfl ?_
    refine R_call2 r_182_24 rfl (sm_rvM rfl rfl rfl hC) (Nat.le_of_ble_eq_true rfl) (Nat.le_of_ble_eq_true rfl) ?_
    refine m_leaving hC hR hL hW hw (q := 0) (by decide) (fun w_q_2 f_q_2 hC_q_2 hL_q_2 hR_q_2 hfs_q_2 hf_q_2 hbo_q_2 => ?_)
    refine R_iload_n r_182_27 rfl ?_
    refine R_icmp_ne_N r_182_28 (by decide) (by omega) (by omega) (fun h_3 => ?_) (fun h_3 => ?_)
    · refine R_iconst r_182_35 (v := nI 0) rfl ?_
      refine R_aload_n r_182_36 rfl (by decide) ?_
      refine R_iconst r_182_37 (v := nI 1) rfl ?_
      refine R_call2 r_182_38 rfl (sm_rvM rfl rfl rfl hC_q_2) (Nat.le_of_ble_eq_true rfl) (Nat.le_of_ble_eq_true rfl) ?_
      refine m_leaving hC_q_2 hR_q_2 hL_q_2 hW hw (q := 1) (by decide) (fun w_q_4 f_q_4 hC_q_4 hL_q_4 hR_q_4 hfs_q_4 hf_q_4 hbo_q_4 => ?_)
      refine R_iload_n r_182_41 rfl ?_
      refine R_icmp_ne_N r_182_42 (by decide) (by omega) (by omega) (fun h_5 => ?_) (fun h_5 => ?_)
      · refine R_iconst r_182_49 (v := nI 0) rfl ?_
        refine R_iaddN r_182_50 ?_
        refine R_iret r_182_51 (ty := .int) rfl rfl (by decide) ?_
        refine hQ s hs rfl _ ?_ _ ⟨_, _, hC_q_4, hL_q_4, hR_q_4, hT.fs (fs.tr hfs_q_2 hfs_q_4)⟩ (frm.tr hf_q_2 hf_q_4); unfold askV; simp [*]
      · refine R_iconst r_182_45 (v := nI 2) rfl ?_
        refine R_goto r_182_46 (by decide) ?_
        refine R_iaddN r_182_50 ?_
        refine R_iret r_182_51 (ty := .int) rfl rfl (by decide) ?_
        refine hQ s hs rfl _ ?_ _ ⟨_, _, hC_q_4, hL_q_4, hR_q_4, hT.fs (fs.tr hfs_q_2 hfs_q_4)⟩ (frm.tr hf_q_2 hf_q_4); unfold askV; simp [*]
    · refine R_iconst r_182_31 (v := nI 1) rfl ?_
      refine R_goto r_182_32 (by decide) ?_
      refine R_aload_n r_182_36 rfl (by decide) ?_
      refine R_iconst r_182_37 (v := nI 1) rfl ?_
      refine R_call2 r_182_38 rfl (sm_rvM rfl rfl rfl hC_q_2) (Nat.le_of_ble_eq_true rfl) (Nat.le_of_ble_eq_true rfl) ?_
      refine m_leaving hC_q_2 hR_q_2 hL_q_2 hW hw (q := 1) (by decide) (fun w_q_6 f_q_6 hC_q_6 hL_q_6 hR_q_6 hfs_q_6 hf_q_6 hbo_q_6 => ?_)
      refine R_iload_n r_182_41 rfl ?_
      refine R_icmp_ne_N r_182_42 (by decide) (by omega) (by omega) (fun h_7 => ?_) (fun h_7 => ?_)
      · refine R_iconst r_182_49 (v := nI 0) rfl ?_
        refine R_iaddN r_182_50 ?_
        refine R_iret r_182_51 (ty := .int) rfl rfl (by decide) ?_
        refine hQ s hs rfl _ ?_ _ ⟨_, _, hC_q_6, hL_q_6, hR_q_6, hT.fs (fs.tr hfs_q_2 hfs_q_6)⟩ (frm.tr hf_q_2 hf_q_6); unfold askV; simp [*]
      · refine R_iconst r_182_45 (v := nI 2) rfl ?_
        refine R_goto r_182_46 (by decide) ?_
        refine R_iaddN r_182_50 ?_
        refine R_iret r_182_51 (ty := .int) rfl rfl (by decide) ?_
        refine hQ s hs rfl _ ?_ _ ⟨_, _, hC_q_6, hL_q_6, hR_q_6, hT.fs (fs.tr hfs_q_2 hfs_q_6)⟩ (frm.tr hf_q_2 hf_q_6); unfold askV; simp [*]
  · refine R_iconst r_182_20 (v := (-1)) rfl ?_
    refine R_iret r_182_21 (ty := .int) rfl rfl (by decide) ?_
    exact hB (by assumption)
theorem both1 {I : sm_Is} {w : Nat} (hW : iWF I) : pc8 (lowUp (lowUp (wntq I w 0) (seX I w (nI 0)) 8).1 (iBd I) 8).1 = bo1 I w := by
  rw [low_low]
  show pcUp (lowUp _ _ 8).1 8 = _
  rw [low_pc _ _ 8 (by decide), low_cnt, seX_0 hW]
  unfold bo1
  show min (min (stIn I w 21) (iBd I)) (pc8 (wntq I w 0)) = _
  omega
theorem both2 {I : sm_Is} {w : Nat} (hW : iWF I) : pc8 (lowUp (lowUp (wntq I w 1 &&& (wntq I w 0 ^^^ 4294967295)) (seX I w (nI 1)) 8).1 (iBd I - bo1 I w) 8).1 = bo2 I w := by
  rw [low_low]
  show pcUp (lowUp _ _ 8).1 8 = _
  rw [low_pc _ _ 8 (by decide), low_cnt, seX_1 hW]
  unfold bo2
  show min (min (stIn I w 10) (iBd I - bo1 I w)) (pc8 (wntq I w 1 &&& (wntq I w 0 ^^^ 4294967295))) = _
  omega
theorem bo1_le (I : sm_Is) (w : Nat) : bo1 I w ≤ iBd I := Nat.min_le_right _ _
theorem m_both {xs : List Int32} {d : Nat} {wd : sm_W} {Q : Option Value → sm_W → Prop} {tx : List Nat} {I : sm_Is} {w : Nat} {pa sh : List Nat} {sn : List (Nat × Nat)} (hX : mX wd tx I w pa sh sn) (hW : iWF I) (hw : wfW I w) {x1 : Int32} (hB : inR x1 2 = false → Q (some (.int (-1))) wd) (hQ0 : x1 = nI 0 → ∀ w2, mX w2 tx I w pa sh sn → frm 22 40 wd w2 → Q (some (.int (nI (bo1 I w)))) w2) (hQ1 : x1 = nI 1 → ∀ w2, mX w2 tx I w pa sh sn → frm 22 40 wd w2 → Q (some (.int (nI (bo2 I w)))) w2) : Ct xs (d + 4) 176 [.ref 22, .int x1] wd Q := by
  unfold Ct
  show RT xs (d + 4) 176 0 [some (.ref 22), some (.int x1), none, none, none, none] [] wd Q
  obtain ⟨sp, f, hC, hL, hR, hT⟩ := id hX
  obtain ⟨hW1, hW2, hW3, hW4, hW5, hW6, hW7, hW8, hW9, hW10, hW11, hW12, hW13, hW14, hW15⟩ := id hW
  obtain ⟨hT1, hT2, hT3, hT4⟩ := id hT
  refine R_iload_n r_176_0 rfl ?_
  refine R_call1 r_176_1 rfl rfl (Nat.le_of_ble_eq_true rfl) (Nat.le_of_ble_eq_true rfl) ?_
  refine m_isQuestion ?_
  refine R_if_ne_b r_176_4 (by decide) (fun h_1 => ?_) (fun h_1 => ?_)
  · refine R_aload_n r_176_9 rfl (by decide) ?_
    refine R_iconst r_176_10 (v := nI 0) rfl ?_
    refine R_iconst r_176_11 (v := nI 0) rfl ?_
    refine R_call3 r_176_12 rfl (sm_rvM rfl rfl rfl hC) (Nat.le_of_ble_eq_true rfl) (Nat.le_of_ble_eq_true rfl) ?_
    refine m_wanting hC hR hL hW hw (q := 0) (by decide) (by decide) ?_
    refine R_istore_n r_176_15 rfl ?_
    refine R_aload_n r_176_16 rfl (by decide) ?_
    refine R_iconst r_176_17 (v := nI 1) rfl ?_
    refine R_iconst r_176_18 (v := nI 0) rfl ?_
    refine R_call3 r_176_19 rfl (sm_rvM rfl rfl rfl hC) (Nat.le_of_ble_eq_true rfl) (Nat.le_of_ble_eq_true rfl) ?_
    refine m_wanting hC hR hL hW hw (q := 1) (by decide) (by decide) ?_
    refine R_iload_n r_176_22 rfl ?_
    refine R_iconst r_176_23 (v := (-1)) rfl ?_
    refine R_ixorM r_176_24 ?_
    refine R_iandN r_176_25 ?_
    refine R_istore_n r_176_26 rfl ?_
    refine R_aload_n r_176_27 rfl (by decide) ?_
    refine R_iload_n r_176_28 rfl ?_
    refine R_iconst r_176_29 (v := nI 0) rfl ?_
    refine R_call3 r_176_30 rfl (sm_rvM rfl rfl rfl hC) (Nat.le_of_ble_eq_true rfl) (Nat.le_of_ble_eq_true rfl) ?_
    refine m_seated hC hR hL hW (wnt_lt _ _ _ _ _) (fun w_q_2 f_q_2 hC_q_2 hL_q_2 hR_q_2 hfs_q_2 hf_q_2 hbo_q_2 => ?_)
    refine R_aload_n r_176_33 rfl (by decide) ?_
    refine R_getf r_176_34 (by decide) hC_q_2.1 rfl ?_
    refine R_iconst r_176_37 (v := nI 0) rfl ?_
    refine R_iald r_176_38 (by decide) (hC_q_2.2 31 (by decide) (by decide)) hR_q_2.l0 ?_
    refine R_call2 r_176_39 rfl rfl (Nat.le_of_ble_eq_true rfl) (Nat.le_of_ble_eq_true rfl) ?_
    refine m_bedded (Nat.lt_trans (lowUp_lt _ _ 8) (by decide)) (by omega) ?_
    refine R_call1 r_176_42 rfl rfl (Nat.le_of_ble_eq_true rfl) (Nat.le_of_ble_eq_true rfl) ?_
    refine m_bits (Nat.lt_trans (lowUp_lt _ _ 8) (by decide)) ?_
    have e1 := both1 (w := w) hW; unfold wntq at e1; rw [e1]
    refine R_istore r_176_45 rfl ?_
    refine R_aload_n r_176_47 rfl (by decide) ?_
    refine R_iload_n r_176_48 rfl ?_
    refine R_iconst r_176_49 (v := nI 1) rfl ?_
    refine R_call3 r_176_50 rfl (sm_rvM rfl rfl rfl hC_q_2) (Nat.le_of_ble_eq_true rfl) (Nat.le_of_ble_eq_true rfl) ?_
    refine m_seated hC_q_2 hR_q_2 hL_q_2 hW (Nat.lt_of_le_of_lt Nat.and_le_left (wnt_lt _ _ _ _ _)) (fun w_q_3 f_q_3 hC_q_3 hL_q_3 hR_q_3 hfs_q_3 hf_q_3 hbo_q_3 => ?_)
    refine R_aload_n r_176_53 rfl (by decide) ?_
    refine R_getf r_176_54 (by decide) hC_q_3.1 rfl ?_
    refine R_iconst r_176_57 (v := nI 0) rfl ?_
    refine R_iald r_176_58 (by decide) (hC_q_3.2 31 (by decide) (by decide)) hR_q_3.l0 ?_
    refine R_iload r_176_59 rfl ?_
    refine R_isubN r_176_61 (bo1_le I w) ?_
    refine R_call2 r_176_62 rfl rfl (Nat.le_of_ble_eq_true rfl) (Nat.le_of_ble_eq_true rfl) ?_
    refine m_bedded (Nat.lt_trans (lowUp_lt _ _ 8) (by decide)) (by omega) ?_
    refine R_call1 r_176_65 rfl rfl (Nat.le_of_ble_eq_true rfl) (Nat.le_of_ble_eq_true rfl) ?_
    refine m_bits (Nat.lt_trans (lowUp_lt _ _ 8) (by decide)) ?_
    have e2 := both2 (w := w) hW; unfold wntq at e2; rw [e2]
    refine R_istore r_176_68 rfl ?_
    refine R_iload_n r_176_70 rfl ?_
    refine R_if_ne r_176_71 (by decide) (fun h_4 => ?_) (fun h_4 => ?_)
    · refine R_iload r_176_79 rfl ?_
      refine R_iret r_176_81 (ty := .int) rfl rfl (by decide) ?_
      first | exact hQ0 (by assumption) _ ⟨_, _, hC_q_3, hL_q_3, hR_q_3, hT.fs (fs.tr hfs_q_2 hfs_q_3)⟩ (frm.tr hf_q_2 hf_q_3) | exact hQ1 (in2 (by assumption) (by assumption)) _ ⟨_, _, hC_q_3, hL_q_3, hR_q_3, hT.fs (fs.tr hfs_q_2 hfs_q_3)⟩ (frm.tr hf_q_2 hf_q_3)
    · refine R_iload r_176_74 rfl ?_
      refine R_goto r_176_76 (by decide) ?_
      refine R_iret r_176_81 (ty := .int) rfl rfl (by decide) ?_
      first | exact hQ0 (by assumption) _ ⟨_, _, hC_q_3, hL_q_3, hR_q_3, hT.fs (fs.tr hfs_q_2 hfs_q_3)⟩ (frm.tr hf_q_2 hf_q_3) | exact hQ1 (in2 (by assumption) (by assumption)) _ ⟨_, _, hC_q_3, hL_q_3, hR_q_3, hT.fs (fs.tr hfs_q_2 hfs_q_3)⟩ (frm.tr hf_q_2 hf_q_3)
  · refine R_iconst r_176_7 (v := (-1)) rfl ?_
    refine R_iret r_176_8 (ty := .int) rfl rfl (by decide) ?_
    exact hB (by assumption)
theorem m_forget {xs : List Int32} {d : Nat} {wd : sm_W} {Q : Option Value → sm_W → Prop} {tx : List Nat} {I : sm_Is} {w : Nat} {pa sh : List Nat} {sn : List (Nat × Nat)} (hX : mX wd tx I w pa sh sn) (hW : iWF I) (hw : wfW I w) (hQ : ∀ w2, mX w2 tx I w pa sh [] → frm 22 40 wd w2 → Q (some (.int (nI sn.length))) w2) : Ct xs (d) 178 [.ref 22] wd Q := by
  unfold Ct
  show RT xs (d) 178 0 [some (.ref 22), none] [] wd Q
  obtain ⟨sp, f, hC, hL, hR, hT⟩ := id hX
  obtain ⟨hW1, hW2, hW3, hW4, hW5, hW6, hW7, hW8, hW9, hW10, hW11, hW12, hW13, hW14, hW15⟩ := id hW
  obtain ⟨hT1, hT2, hT3, hT4⟩ := id hT
  refine R_aload_n r_178_0 rfl (by decide) ?_
  refine R_getf r_178_1 (by decide) hC.1 rfl ?_
  refine R_istore_n r_178_4 rfl ?_
  refine R_aload_n r_178_5 rfl (by decide) ?_
  refine R_iconst r_178_6 (v := nI 0) rfl ?_
  refine R_mp_sn r_178_7 hC rfl rfl (fun w_q_1 hC_q_1 hf_q_1 => ?_)
  refine R_iload_n r_178_10 rfl ?_
  refine R_iret r_178_11 (ty := .int) rfl rfl (by decide) ?_
  exact hQ _ ⟨_, _, hC_q_1, hL, hR, ⟨hT1, hT2, hT3, by decide, fun t ht => absurd ht (Nat.not_lt_zero t)⟩⟩ hf_q_1
theorem m_wipe {xs : List Int32} {d : Nat} {wd : sm_W} {Q : Option Value → sm_W → Prop} {tx : List Nat} {I : sm_Is} {w : Nat} {pa sh : List Nat} {sn : List (Nat × Nat)} (hX : mX wd tx I w pa sh sn) (hW : iWF I) (hw : wfW I w) (hQ : ∀ w2, mX w2 [] I w pa sh sn → frm 22 40 wd w2 → Q (some (.int (nI tx.length))) w2) : Ct xs (d) 134 [.ref 22] wd Q := by
  unfold Ct
  show RT xs (d) 134 0 [some (.ref 22), none] [] wd Q
  obtain ⟨sp, f, hC, hL, hR, hT⟩ := id hX
  obtain ⟨hW1, hW2, hW3, hW4, hW5, hW6, hW7, hW8, hW9, hW10, hW11, hW12, hW13, hW14, hW15⟩ := id hW
  obtain ⟨hT1, hT2, hT3, hT4⟩ := id hT
  refine R_aload_n r_134_0 rfl (by decide) ?_
  refine R_getf r_134_1 (by decide) hC.1 rfl ?_
  refine R_istore_n r_134_4 rfl ?_
  refine R_aload_n r_134_5 rfl (by decide) ?_
  refine R_iconst r_134_6 (v := nI 0) rfl ?_
  refine R_mp_ln r_134_7 hC rfl rfl (fun w_q_1 hC_q_1 hf_q_1 => ?_)
  refine R_iload_n r_134_10 rfl ?_
  refine R_iret r_134_11 (ty := .int) rfl rfl (by decide) ?_
  exact hQ _ ⟨_, _, hC_q_1, hL, hR, ⟨⟨by decide, fun t ht => absurd ht (Nat.not_lt_zero t)⟩, hT2, hT3, hT4⟩⟩ hf_q_1
theorem pre_app {α : Type} {l : List Int32} {tx : List α} {g : α → Int32} {v : Int32} {c z : α} (h : ∀ t, t < tx.length → l[t]? = some (g (tx.getD t z))) (hl : tx.length < l.length) (hv : v = g c) : ∀ t, t < (tx ++ [c]).length → (l.set tx.length v)[t]? = some (g ((tx ++ [c]).getD t z)) := by
  intro t ht
  rw [List.length_append] at ht
  have ht2 : t < tx.length + 1 := ht
  rw [app_get ht2]
  by_cases e : t = tx.length
  · subst e; rw [if_pos rfl, List.getElem?_set_self hl, hv]
  · rw [if_neg e, List.getElem?_set_ne (Ne.symm e)]; exact h t (by omega)
theorem app_len {α : Type} (l : List α) (c : α) : (l ++ [c]).length = l.length + 1 := List.length_append
theorem mw_ch {x : Int32} (h : (decide (nI 32 ≤ x) && decide (x ≤ nI 126)) = true) : ∃ ch, 32 ≤ ch ∧ ch ≤ 126 ∧ x = nI ch := by
  rw [Bool.and_eq_true, decide_eq_true_iff, decide_eq_true_iff] at h
  exact rngc (fun z => by
    have h1 := h.1
    rw [Int32.le_iff_toInt_le] at h1
    rw [Int32.lt_iff_toInt_lt] at z
    omega) h.2
theorem m_write {xs : List Int32} {d : Nat} {wd : sm_W} {Q : Option Value → sm_W → Prop} {tx : List Nat} {I : sm_Is} {w : Nat} {pa sh : List Nat} {sn : List (Nat × Nat)} (hX : mX wd tx I w pa sh sn) (hW : iWF I) (hw : wfW I w) {x1 : Int32} (hB : (decide (nI 32 ≤ x1) && decide (x1 ≤ nI 126)) = false → Q (some (.int (-1))) wd) (hF : ∀ ch, 32 ≤ ch → ch ≤ 126 → x1 = nI ch → tx.length = 200 → Q (some (.int (-3))) wd) (hQ : ∀ ch, 32 ≤ ch → ch ≤ 126 → x1 = nI ch → tx.length < 200 → ∀ w2, mX w2 (tx ++ [ch]) I w pa sh sn → frm 22 40 wd w2 → Q (some (.int (nI (tx.length + 1)))) w2) : Ct xs (d + 1) 132 [.ref 22, .int x1] wd Q := by
  unfold Ct
  show RT xs (d + 1) 132 0 [some (.ref 22), some (.int x1)] [] wd Q
  obtain ⟨sp, f, hC, hL, hR, hT⟩ := id hX
  obtain ⟨hW1, hW2, hW3, hW4, hW5, hW6, hW7, hW8, hW9, hW10, hW11, hW12, hW13, hW14, hW15⟩ := id hW
  obtain ⟨hT1, hT2, hT3, hT4⟩ := id hT
  refine R_iload_n r_132_0 rfl ?_
  refine R_i2l r_132_1 ?_
  refine R_ldc2_w r_132_2 (v := lN 32) rfl ?_
  refine R_ldc2_w r_132_5 (v := lN 126) rfl ?_
  refine R_call3 r_132_8 rfl rfl (Nat.le_of_ble_eq_true rfl) (Nat.le_of_ble_eq_true rfl) ?_
  refine m_in (in_x (a := 32) (b := 126) (by decide) (by decide)) ?_
  refine R_if_ne_b r_132_11 (by decide) (fun h_1 => ?_) (fun h_1 => ?_)
  · obtain ⟨ch, hc1, hc2, rfl⟩ := mw_ch (x := x1) (by assumption)
    refine R_aload_n r_132_16 rfl (by decide) ?_
    refine R_getf r_132_17 (by decide) hC.1 rfl ?_
    refine R_sipush r_132_20 (v := nI 200) rfl ?_
    refine R_icmp_ne_N r_132_23 (by decide) (by omega) (by omega) (fun h_2 => ?_) (fun h_2 => ?_)
    · refine R_aload_n r_132_29 rfl (by decide) ?_
      refine R_getf r_132_30 (by decide) hC.1 rfl ?_
      refine R_aload_n r_132_33 rfl (by decide) ?_
      refine R_getf r_132_34 (by decide) hC.1 rfl ?_
      refine R_iload_n r_132_37 rfl ?_
      refine R_mst r_132_38 hC hL (by decide) (by decide) (by show _ < (200 : Nat); omega) (by decide) (fun w_q_3 f_q_3 hC_q_3 hL_q_3 e_q_3 hf_q_3 => ?_)
      have hR_q_3 : mR I w f_q_3 := by rw [e_q_3]; exact hR.up rfl
      refine R_aload_n r_132_39 rfl (by decide) ?_
      refine R_dup r_132_40 rfl ?_
      refine R_getf r_132_41 (by decide) hC_q_3.1 rfl ?_
      refine R_iconst r_132_44 (v := nI 1) rfl ?_
      refine R_iaddN r_132_45 ?_
      refine R_mp_ln r_132_46 hC_q_3 rfl rfl (fun w_q_4 hC_q_4 hf_q_4 => ?_)
      refine R_aload_n r_132_49 rfl (by decide) ?_
      refine R_getf r_132_50 (by decide) hC_q_4.1 rfl ?_
      refine R_iret r_132_53 (ty := .int) rfl rfl (by decide) ?_
      exact hQ ch hc1 hc2 rfl (by omega) _ ⟨_, _, by rw [app_len]; exact hC_q_4, hL_q_3, hR_q_3, ⟨⟨by rw [app_len]; omega, by rw [e_q_3, fu_s]; exact pre_app (g := nI) hT1.2 (by rw [hL 23 (by decide) (by decide)]; show _ < (200 : Nat); omega) rfl⟩, by rw [e_q_3, fu_n (by decide)]; exact hT2, by rw [e_q_3, fu_n (by decide)]; exact hT3, by rw [e_q_3, fu_n (by decide), fu_n (by decide)]; exact hT4⟩⟩ (frm.tr hf_q_3 hf_q_4)
    · refine R_bipush r_132_26 (v := (-3)) rfl ?_
      refine R_iret r_132_28 (ty := .int) rfl rfl (by decide) ?_
      exact hF ch hc1 hc2 rfl (by assumption)
  · refine R_iconst r_132_14 (v := (-1)) rfl ?_
    refine R_iret r_132_15 (ty := .int) rfl rfl (by decide) ?_
    exact hB (by assumption)
theorem m_seen {xs : List Int32} {d : Nat} {wd : sm_W} {Q : Option Value → sm_W → Prop} {tx : List Nat} {I : sm_Is} {w : Nat} {pa sh : List Nat} {sn : List (Nat × Nat)} (hX : mX wd tx I w pa sh sn) (hW : iWF I) (hw : wfW I w) {x1 x2 : Int32} (hB : (inR x1 2 && inR x2 9) = false → Q (some (.int (-1))) wd) (hF : ∀ q n, q < 2 → n < 9 → x1 = nI q → x2 = nI n → sn.length = 8 → Q (some (.int (-3))) wd) (hQ : ∀ q n, q < 2 → n < 9 → x1 = nI q → x2 = nI n → sn.length < 8 → ∀ w2, mX w2 tx I w pa sh (sn ++ [(q, n)]) → frm 22 40 wd w2 → Q (some (.int (nI (sn.length + 1)))) w2) : Ct xs (d + 2) 177 [.ref 22, .int x1, .int x2] wd Q := by
  unfold Ct
  show RT xs (d + 2) 177 0 [some (.ref 22), some (.int x1), some (.int x2)] [] wd Q
  obtain ⟨sp, f, hC, hL, hR, hT⟩ := id hX
  obtain ⟨hW1, hW2, hW3, hW4, hW5, hW6, hW7, hW8, hW9, hW10, hW11, hW12, hW13, hW14, hW15⟩ := id hW
  obtain ⟨hT1, hT2, hT3, hT4⟩ := id hT
  refine R_iload_n r_177_0 rfl ?_
  refine R_call1 r_177_1 rfl rfl (Nat.le_of_ble_eq_true rfl) (Nat.le_of_ble_eq_true rfl) ?_
  refine m_isQuestion ?_
  refine R_if_eq_b r_177_4 (by decide) (fun h_1 => ?_) (fun h_1 => ?_)
  · refine R_iconst r_177_19 (v := (-1)) rfl ?_
    refine R_iret r_177_20 (ty := .int) rfl rfl (by decide) ?_
    exact hB (by simp [*])
  · refine R_iload_n r_177_7 rfl ?_
    refine R_i2l r_177_8 ?_
    refine R_lconst r_177_9 (v := lN 0) rfl ?_
    refine R_ldc2_w r_177_10 (v := lN 8) rfl ?_
    refine R_call3 r_177_13 rfl rfl (Nat.le_of_ble_eq_true rfl) (Nat.le_of_ble_eq_true rfl) ?_
    refine m_in (c := inR x2 9) (in_q (by decide)) ?_
    refine R_if_ne_b r_177_16 (by decide) (fun h_2 => ?_) (fun h_2 => ?_)
    · obtain ⟨q, hq, rfl⟩ := inR_of (x := x1) (by assumption) (by decide)
      obtain ⟨n, hn, rfl⟩ := inR_of (x := x2) (by assumption) (by decide)
      refine R_aload_n r_177_21 rfl (by decide) ?_
      refine R_getf r_177_22 (by decide) hC.1 rfl ?_
      refine R_bipush r_177_25 (v := nI 8) rfl ?_
      refine R_icmp_ne_N r_177_27 (by decide) (by omega) (by omega) (fun h_3 => ?_) (fun h_3 => ?_)
      · refine R_aload_n r_177_33 rfl (by decide) ?_
        refine R_getf r_177_34 (by decide) hC.1 rfl ?_
        refine R_aload_n r_177_37 rfl (by decide) ?_
        refine R_getf r_177_38 (by decide) hC.1 rfl ?_
        refine R_iload_n r_177_41 rfl ?_
        refine R_mst r_177_42 hC hL (by decide) (by decide) (by show _ < (8 : Nat); omega) (by decide) (fun w_q_4 f_q_4 hC_q_4 hL_q_4 e_q_4 hf_q_4 => ?_)
        have hR_q_4 : mR I w f_q_4 := by rw [e_q_4]; exact hR.up rfl
        refine R_aload_n r_177_43 rfl (by decide) ?_
        refine R_getf r_177_44 (by decide) hC_q_4.1 rfl ?_
        refine R_aload_n r_177_47 rfl (by decide) ?_
        refine R_getf r_177_48 (by decide) hC_q_4.1 rfl ?_
        refine R_iload_n r_177_51 rfl ?_
        refine R_mst r_177_52 hC_q_4 hL_q_4 (by decide) (by decide) (by show _ < (8 : Nat); omega) (by decide) (fun w_q_5 f_q_5 hC_q_5 hL_q_5 e_q_5 hf_q_5 => ?_)
        have hR_q_5 : mR I w f_q_5 := by rw [e_q_5]; exact hR_q_4.up rfl
        refine R_aload_n r_177_53 rfl (by decide) ?_
        refine R_dup r_177_54 rfl ?_
        refine R_getf r_177_55 (by decide) hC_q_5.1 rfl ?_
        refine R_iconst r_177_58 (v := nI 1) rfl ?_
        refine R_iaddN r_177_59 ?_
        refine R_mp_sn r_177_60 hC_q_5 rfl rfl (fun w_q_6 hC_q_6 hf_q_6 => ?_)
        refine R_aload_n r_177_63 rfl (by decide) ?_
        refine R_getf r_177_64 (by decide) hC_q_6.1 rfl ?_
        refine R_iret r_177_67 (ty := .int) rfl rfl (by decide) ?_
        rw [e_q_4, fu_n (by decide : (36 : Nat) ≠ 35)] at e_q_5
        exact hQ q n hq hn rfl rfl (by omega) _ ⟨_, _, by rw [app_len]; exact hC_q_6, hL_q_5, hR_q_5, ⟨by rw [e_q_5, fu_n (by decide), fu_n (by decide)]; exact hT1, by rw [e_q_5, fu_n (by decide), fu_n (by decide)]; exact hT2, by rw [e_q_5, fu_n (by decide), fu_n (by decide)]; exact hT3, by rw [app_len]; omega, fun t ht => ⟨by rw [e_q_5, fu_n (by decide), fu_s]; exact pre_app (g := fun p => nI p.1) (fun t ht => (hT4.2 t ht).1) (by rw [hL 35 (by decide) (by decide)]; show _ < (8 : Nat); omega) rfl t ht, by rw [e_q_5, fu_s]; exact pre_app (g := fun p => nI p.2) (fun t ht => (hT4.2 t ht).2) (by rw [hL 36 (by decide) (by decide)]; show _ < (8 : Nat); omega) rfl t ht⟩⟩⟩ (frm.tr (frm.tr hf_q_4 hf_q_5) hf_q_6)
      · refine R_bipush r_177_30 (v := (-3)) rfl ?_
        refine R_iret r_177_32 (ty := .int) rfl rfl (by decide) ?_
        exact hF q n hq hn rfl rfl (by assumption)
    · refine R_iconst r_177_19 (v := (-1)) rfl ?_
      refine R_iret r_177_20 (ty := .int) rfl rfl (by decide) ?_
      exact hB (by simp [*])
