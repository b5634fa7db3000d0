/-! the model: lay -/
theorem cbl_0 {D : sm_Is} (h : iN D ≤ 0) : cbl D = false := by unfold cbl; rw [decide_eq_false (by omega), Bool.and_false]
theorem cbl_f {D : sm_Is} (h : cbF D (iN D) 0 = false) : cbl D = false := by unfold cbl; rw [h, Bool.false_and]
theorem cbl_t {D : sm_Is} (h : cbF D (iN D) 0 = true) (h2 : 0 < iN D) : cbl D = true := by unfold cbl; rw [h, decide_eq_true h2]; rfl
theorem not_cbl {D : sm_Is} {P : Prop} (h : cbl D = false) : ¬ (P ∧ cbl D = true) := fun z => Bool.noConfusion (h.symm.trans z.2)
theorem cbF_wf {I : sm_Is} : ∀ (k i : Nat), cbF I k i = true → ∀ t, i ≤ t → t < i + k → sMind (iF I) t < iN I
  | 0, i, _, t, h1, h2 => by omega
  | k + 1, i, h, t, h1, h2 => by
    rw [cbF, Bool.and_eq_true, decide_eq_true_iff] at h
    by_cases e : t = i
    · subst e; exact h.1
    · exact cbF_wf k (i + 1) h.2 t (by omega) (by omega)
theorem cbl_wf {D : sm_Is} (hD : wfD D) (h : cbl D = true) : wfW D (iF D) := by
  unfold cbl at h
  rw [Bool.and_eq_true] at h
  refine ⟨hD.1.2.2.2.2.2.2.2.2.2.2.2.2.2.2, fun i hi => cbF_wf _ _ h.1 i (by omega) (by omega), hD.2.1, ?_⟩
  rw [hD.2.2.1]
  exact Nat.two_pow_pos _
theorem lay_fin {tx : List Nat} {I D : sm_Is} {pa sh : List Nat} {sn : List (Nat × Nat)} {f f1 fb fA fB fC f9 : Nat → List Int32} {wd : sm_W} {sp1 : Int32} (hWD : wfD D) (hT : mT I tx pa sh sn f) (hk1 : fk f f1) (hD : mD D f1)
    (hb : ∀ q, q ≠ 24 → q ≠ 29 → fb q = f1 q) (hb24 : (fb 24)[0]? = some (nI (iN D))) (hb29 : (fb 29)[0]? = some (nI (iB D)))
    (hoA : ∀ q, (q < 25 ∨ 28 < q) → fA q = fb q) (hpA : ∀ q, 25 ≤ q → q ≤ 28 → (∀ t, t < 8 → (fA q)[t]? = (fb q)[8 + t]?) ∧ (∀ t, 8 ≤ t → (fA q)[t]? = (fb q)[t]?))
    (hoB : ∀ q, (q < 30 ∨ 30 < q) → fB q = fA q) (hpB : ∀ q, 30 ≤ q → q ≤ 30 → (∀ t, t < 5 → (fB q)[t]? = (fA q)[5 + t]?) ∧ (∀ t, 5 ≤ t → (fB q)[t]? = (fA q)[t]?))
    (hoC : ∀ q, (q < 31 ∨ 31 < q) → fC q = fB q) (hpC : ∀ q, 31 ≤ q → q ≤ 31 → (∀ t, t < 4 → (fC q)[t]? = (fB q)[4 + t]?) ∧ (∀ t, 4 ≤ t → (fC q)[t]? = (fB q)[t]?))
    (ho9 : ∀ q, q ≠ 32 → f9 q = fC q) (hp9 : ∀ t, t < 24 → (f9 32)[t]? = bgv fC t) (hL9 : mL f9) (hC9 : mC wd (nI tx.length) (nI 0) (nI 0) (nI 0) sp1 f9) : mX wd tx D (iF D) [] [] [] := by
  have h8 := hWD.1.2.2.2.1
  have h5 := hWD.1.2.2.2.2.1
  have e31 : ∀ t, t < 4 → (f9 31)[t]? = (f1 31)[4 + t]? := fun t ht => by
    rw [ho9 31 (by decide), (hpC 31 (by decide) (by decide)).1 t ht, hoB 31 (by decide), hoA 31 (by decide), hb 31 (by decide) (by decide)]
  have eA : ∀ q, 25 ≤ q → q ≤ 28 → ∀ t, t < 8 → (fC q)[t]? = (f1 q)[8 + t]? := fun q h1 h2 t ht => by
    rw [hoC q (by omega), hoB q (by omega), (hpA q h1 h2).1 t ht, hb q (by omega) (by omega)]
  refine ⟨sp1, f9, hC9, hL9, ⟨⟨?_, ?_, fun i hi => ⟨?_, ?_⟩, fun b hb2 => ?_, ?_, ?_, ?_, ?_⟩, fun i hi => ⟨?_, ?_⟩, fun b hb2 => ?_, ?_, ?_⟩, ⟨?_, ?_⟩, ⟨by decide, fun t ht => absurd ht (Nat.not_lt_zero t)⟩, ⟨by decide, fun t ht => absurd ht (Nat.not_lt_zero t)⟩, ⟨by decide, fun t ht => absurd ht (Nat.not_lt_zero t)⟩⟩
  · rw [ho9 24 (by decide), hoC 24 (by decide), hoB 24 (by decide), hoA 24 (by decide)]; exact hb24
  · rw [ho9 29 (by decide), hoC 29 (by decide), hoB 29 (by decide), hoA 29 (by decide)]; exact hb29
  · rw [ho9 25 (by decide), eA 25 (by decide) (by decide) i (by omega)]; exact (hD.2.2.1 i hi).1
  · rw [ho9 28 (by decide), eA 28 (by decide) (by decide) i (by omega)]; exact (hD.2.2.1 i hi).2.2.2
  · rw [ho9 30 (by decide), hoC 30 (by decide), (hpB 30 (by decide) (by decide)).1 b (by omega), hoA 30 (by decide), hb 30 (by decide) (by decide)]; exact hD.2.2.2.1 b hb2
  · rw [e31 0 (by decide)]; exact hD.2.2.2.2.1
  · rw [e31 1 (by decide)]; exact hD.2.2.2.2.2.1
  · rw [e31 2 (by decide)]; exact hD.2.2.2.2.2.2.1
  · rw [e31 3 (by decide)]; exact hD.2.2.2.2.2.2.2
  · show (f9 32)[i]? = _
    rw [hp9 i (by omega)]
    unfold bgv
    rw [if_pos (by omega), eA 26 (by decide) (by decide) i (by omega)]; exact (hD.2.2.1 i hi).2.1
  · show (f9 32)[8 + i]? = _
    rw [hp9 (8 + i) (by omega)]
    unfold bgv
    rw [if_neg (by omega), if_pos (by omega), Nat.add_sub_cancel_left, eA 27 (by decide) (by decide) i (by omega)]; exact (hD.2.2.1 i hi).2.2.1
  · show (f9 32)[16 + b]? = _
    rw [hp9 (16 + b) (by omega), hWD.2.2.1, Nat.zero_testBit]
    unfold bgv
    rw [if_neg (by omega), if_neg (by omega)]; rfl
  · show (f9 32)[21]? = _
    rw [hp9 21 (by decide), hWD.2.2.2.1]; rfl
  · show (f9 32)[22]? = _
    rw [hp9 22 (by decide), hWD.2.2.2.2]; rfl
  · exact hT.1.1
  · rw [ho9 23 (by decide), hoC 23 (by decide), hoB 23 (by decide), hoA 23 (by decide), hb 23 (by decide) (by decide), hk1 23 (by decide)]; exact hT.1.2
theorem m_lay {xs : List Int32} {d : Nat} {wd : sm_W} {Q : Option Value → sm_W → Prop} {tx : List Nat} {I : sm_Is} {w : Nat} {pa sh : List Nat} {sn : List (Nat × Nat)} (hX : mX wd tx I w pa sh sn) (hW : iWF I) (hw : wfW I w) (hlt : ∀ t, ltA tx t < 127) (hB : ¬ ((rdT tx).1 = 999 ∧ cbl (rdT tx).2 = true) → ∀ w2, mX w2 tx I w pa sh sn → frm 22 40 wd w2 → Q (some (.int (-2))) w2) (hQ : (rdT tx).1 = 999 ∧ cbl (rdT tx).2 = true → ∀ w2, mX w2 tx (rdT tx).2 (iF (rdT tx).2) [] [] [] → frm 22 40 wd w2 → Q (some (.int (nI (iN (rdT tx).2)))) w2) : Ct xs (d + 6) 142 [.ref 22] wd Q := by
  unfold Ct
  show RT xs (d + 6) 142 0 [some (.ref 22), none, none] [] wd Q
  obtain ⟨sp, f, hC, hL, hR, hT⟩ := id hX
  obtain ⟨hW1, hW2, hW3, hW4, hW5, hW6, hW7, hW8, hW9, hW10, hW11, hW12, hW13, hW14, hW15⟩ := id hW
  obtain ⟨hT1, hT2, hT3, hT4⟩ := id hT
  have hrl : (rdT tx).1 = 999 ∨ (rdT tx).1 < 256 := by rcases rdL_le (tx := tx) 200 0 I0 with h | h; exact Or.inl h; exact Or.inr (by show (rdL tx 200 0 I0).1 < 256; omega)
  have hn8 := (rdT_wf tx).1.2.2.2.1
  refine R_aload_n r_142_0 rfl (by decide) ?_
  refine R_call1 r_142_1 rfl (sm_rvM rfl rfl rfl hC) (Nat.le_of_ble_eq_true rfl) (Nat.le_of_ble_eq_true rfl) ?_
  refine m_readAll hC hL hR hW (txF.of hT hlt) (fun w1 f1 sp1 hC1 hL1 hR1 hD1 hk1 hf1 => ?_)
  refine R_bipush r_142_4 (v := (-4)) rfl ?_
  refine R_icmp_ne r_142_6 (by decide) (fun h_1 => ?_) (fun h_1 => ?_)
  · refine R_iconst r_142_22 (v := nI 0) rfl ?_
    refine R_istore_n r_142_23 rfl ?_
    refine R_iconst r_142_24 (v := nI 0) rfl ?_
    refine R_istore_n r_142_25 rfl ?_
    refine lp_can0 hC1 hL1 hD1 (rdT_wf tx) (by decide) (fun h2 => ?_)
    refine R_iload_n r_142_70 rfl ?_
    refine R_ifF r_142_71 (by decide) (by decide) ?_
    refine R_bipush r_142_74 (v := (-2)) rfl ?_
    refine R_iret r_142_76 (ty := .int) rfl rfl (by decide) ?_
    exact hB (fun z => (by assumption : ¬ noI (rdT tx).1 = -4) ((noI_m4 hrl).mpr z.1)) _ ⟨_, _, hC1, hL1, hR1, hT.fk hk1⟩ hf1
  · refine R_aload_n r_142_9 rfl (by decide) ?_
    refine R_getf r_142_10 (by decide) hC1.1 rfl ?_
    refine R_iconst r_142_13 (v := nI 1) rfl ?_
    refine R_iald r_142_14 (by decide) (hC1.2 24 (by decide) (by decide)) (sm_ixG hD1.1 (by decide)) ?_
    refine R_if_le_N r_142_15 (by decide) (by have := (rdT_wf tx).1.2.2.2.1; omega) (fun h_2 => ?_) (fun h_2 => ?_)
    · refine R_iconst r_142_22 (v := nI 0) rfl ?_
      refine R_istore_n r_142_23 rfl ?_
      refine R_iconst r_142_24 (v := nI 0) rfl ?_
      refine R_istore_n r_142_25 rfl ?_
      refine lp_can0 hC1 hL1 hD1 (rdT_wf tx) (by decide) (fun h2 => ?_)
      refine R_iload_n r_142_70 rfl ?_
      refine R_ifF r_142_71 (by decide) (by decide) ?_
      refine R_bipush r_142_74 (v := (-2)) rfl ?_
      refine R_iret r_142_76 (ty := .int) rfl rfl (by decide) ?_
      exact hB (not_cbl (cbl_0 (by assumption))) _ ⟨_, _, hC1, hL1, hR1, hT.fk hk1⟩ hf1
    · refine R_iconst r_142_18 (v := nI 1) rfl ?_
      refine R_goto r_142_19 (by decide) ?_
      refine R_istore_n r_142_23 rfl ?_
      refine R_iconst r_142_24 (v := nI 0) rfl ?_
      refine R_istore_n r_142_25 rfl ?_
      refine lp_can hC1 hL1 hD1 (rdT_wf tx) (iN (rdT tx).2) 0 (by omega) (fun hcb h2 => ?_) (fun hcb h2 => ?_)
      · refine R_iload_n r_142_70 rfl ?_
        refine R_ifF r_142_71 (by decide) (by decide) ?_
        refine R_bipush r_142_74 (v := (-2)) rfl ?_
        refine R_iret r_142_76 (ty := .int) rfl rfl (by decide) ?_
        exact hB (not_cbl (cbl_f hcb)) _ ⟨_, _, hC1, hL1, hR1, hT.fk hk1⟩ hf1
      · refine R_iload_n r_142_70 rfl ?_
        refine R_ifT r_142_71 (by decide) (by decide) ?_
        refine R_aload_n r_142_77 rfl (by decide) ?_
        refine R_getf r_142_78 (by decide) hC1.1 rfl ?_
        refine R_iconst r_142_81 (v := nI 0) rfl ?_
        refine R_aload_n r_142_82 rfl (by decide) ?_
        refine R_getf r_142_83 (by decide) hC1.1 rfl ?_
        refine R_iconst r_142_86 (v := nI 1) rfl ?_
        refine R_iald r_142_87 (by decide) (hC1.2 24 (by decide) (by decide)) (sm_ixG hD1.1 (by decide)) ?_
        refine R_mst r_142_88 hC1 hL1 (by decide) (by decide) (by show _ < (2 : Nat); omega) (by decide) (fun w_q_81 f_q_81 hC_q_81 hL_q_81 e_q_81 hf_q_81 => ?_)
        refine R_aload_n r_142_89 rfl (by decide) ?_
        refine R_getf r_142_90 (by decide) hC_q_81.1 rfl ?_
        refine R_iconst r_142_93 (v := nI 0) rfl ?_
        refine R_aload_n r_142_94 rfl (by decide) ?_
        refine R_getf r_142_95 (by decide) hC_q_81.1 rfl ?_
        refine R_iconst r_142_98 (v := nI 1) rfl ?_
        refine R_iald r_142_99 (by decide) (hC_q_81.2 29 (by decide) (by decide)) (sm_ixG (by rw [e_q_81, fu_n (by decide)]; exact hD1.2.1) (by decide)) ?_
        refine R_mst r_142_100 hC_q_81 hL_q_81 (by decide) (by decide) (by show _ < (2 : Nat); omega) (by decide) (fun w_q_82 f_q_82 hC_q_82 hL_q_82 e_q_82 hf_q_82 => ?_)
        refine R_iconst r_142_101 (v := nI 0) rfl ?_
        refine R_istore_n r_142_102 rfl ?_
        have hb24 : (f_q_82 24)[0]? = some (nI (iN (rdT tx).2)) := by rw [e_q_82, fu_n (by decide), e_q_81, fu_s]; exact List.getElem?_set_self (by rw [hL1 24 (by decide) (by decide)]; decide)
        have hb29 : (f_q_82 29)[0]? = some (nI (iB (rdT tx).2)) := by rw [e_q_82, fu_s]; exact List.getElem?_set_self (by rw [hL_q_81 29 (by decide) (by decide)]; decide)
        have hbo : ∀ q, q ≠ 24 → q ≠ 29 → f_q_82 q = f1 q := fun q h1 h2 => by rw [e_q_82, fu_n h2, e_q_81, fu_n h1]
        refine lp_cpA (g0 := f_q_82) (wd0 := wd) (fun wdA fA hCA hLA hoA hfA hpA => ?_) 8 0 _ _ (by omega) hC_q_82 hL_q_82 (fun _ _ => rfl) (frm.tr (frm.tr hf1 hf_q_81) hf_q_82) (fun q h1 h2 => ⟨fun t ht => absurd ht (by omega), fun t _ => rfl⟩)
        refine R_iconst r_142_175 (v := nI 0) rfl ?_
        refine R_istore_n r_142_176 rfl ?_
        refine lp_cpB (g0 := fA) (wd0 := wd) (fun wdB fB hCB hLB hoB hfB hpB => ?_) 5 0 _ _ (by omega) hCA hLA (fun _ _ => rfl) hfA (fun q h1 h2 => ⟨fun t ht => absurd ht (by omega), fun t _ => rfl⟩)
        refine R_iconst r_142_202 (v := nI 0) rfl ?_
        refine R_istore_n r_142_203 rfl ?_
        refine lp_cpC (g0 := fB) (wd0 := wd) (fun wdC fC hCC hLC hoC hfC hpC => ?_) 4 0 _ _ (by omega) hCB hLB (fun _ _ => rfl) hfB (fun q h1 h2 => ⟨fun t ht => absurd ht (by omega), fun t _ => rfl⟩)
        refine R_aload_n r_142_229 rfl (by decide) ?_
        refine R_call1 r_142_230 rfl (sm_rvM rfl rfl rfl hCC) (Nat.le_of_ble_eq_true rfl) (Nat.le_of_ble_eq_true rfl) ?_
        refine m_begin hCC hLC (fun w9 f9 hC9 hL9 ho9 hp9 hf9 => ?_)
        have hX9 := lay_fin (rdT_wf tx) hT hk1 hD1 hbo hb24 hb29 hoA hpA hoB hpB hoC hpC ho9 hp9 hL9 hC9
        have h24 : (f9 24)[0]? = some (nI (iN (rdT tx).2)) := by rw [ho9 24 (by decide), hoC 24 (by decide), hoB 24 (by decide), hoA 24 (by decide)]; exact hb24
        refine R_aload_n r_142_233 rfl (by decide) ?_
        refine R_getf r_142_234 (by decide) hC9.1 rfl ?_
        refine R_iconst r_142_237 (v := nI 0) rfl ?_
        refine R_iald r_142_238 (by decide) (hC9.2 24 (by decide) (by decide)) (sm_ixG h24 (by decide)) ?_
        refine R_iret r_142_239 (ty := .int) rfl rfl (by decide) ?_
        exact hQ ⟨(noI_m4 hrl).mp (by assumption), cbl_t hcb (by omega)⟩ _ hX9 (frm.tr hfC hf9)
