/-! the model: readAll, fault, lay -/
theorem rdL_f {tx : List Nat} {k p : Nat} {D : sm_Is} (h : p < tx.length) (hno : ∀ l e D2, itC tx p = some (l, e) → tkI D (ltA tx p) l ≠ some D2) : rdL tx (k + 1) p D = (p, D) := by
  cases h2 : itC tx p with
  | none => exact rdL_1 h h2
  | some q =>
    obtain ⟨l, e⟩ := q
    cases h3 : tkI D (ltA tx p) l with
    | none => exact rdL_2 h h2 h3
    | some D2 => exact absurd h3 (hno l e D2 h2)
theorem mC.sp0 {wd : sm_W} {ln um km sn sp : Int32} {f : Nat → List Int32} (h : mC wd ln um km sn sp f) : wd[22]? = some (mO ln um km sn sp) := h.1
theorem lp_rall {xs : List Int32} {d : Nat} {Q : Option Value → sm_W → Prop} {tx : List Nat} {I : sm_Is} {w : Nat} (hW : iWF I) {um km sn : Int32} {wd0 : sm_W} {f0 : Nat → List Int32}  : ∀ (k : Nat) (p : Nat) (D : sm_Is) (wd : sm_W) (f : Nat → List Int32) (h1 : Option Value), (tx.length ≤ p + k) → (p ≤ 250) → (mC wd (nI tx.length) um km sn (nI p) f) → (mL f) → (mR I w f) → (mD D f) → (wfD D) → (txF tx f) → (fk f0 f) → (frm 22 40 wd0 wd) → (∀ w2 f2 sp2, mC w2 (nI tx.length) um km sn sp2 f2 → mL f2 → mR I w f2 → mD (rdL tx k p D).2 f2 → fk f0 f2 → frm 22 40 wd0 w2 → Q (some (.int (noI (rdL tx k p D).1))) w2) → RT xs (d + 5) 136 10 [some (.ref 22), h1] [] wd Q := by
  intro k
  induction k with
  | zero =>
    intro p D wd f h1 hk hp hC hL hR hD hWD hx hfk hf hq
    have htl := hx.1
    refine R_aload_n r_136_10 rfl (by decide) ?_
    refine R_getf r_136_11 (by decide) hC.1 rfl ?_
    refine R_aload_n r_136_14 rfl (by decide) ?_
    refine R_getf r_136_15 (by decide) hC.1 rfl ?_
    refine R_icmp_ge_N r_136_18 (by decide) (by omega) (by omega) (fun h_1 => ?_) (fun h_1 => ?_)
    · refine R_bipush r_136_38 (v := (-4)) rfl ?_
      refine R_iret r_136_40 (ty := .int) rfl rfl (by decide) ?_
      exact hq _ _ _ hC hL hR hD hfk hf
    · exfalso; omega
  | succ k ih =>
    intro p D wd f h1 hk hp hC hL hR hD hWD hx hfk hf hq
    have htl := hx.1
    refine R_aload_n r_136_10 rfl (by decide) ?_
    refine R_getf r_136_11 (by decide) hC.1 rfl ?_
    refine R_aload_n r_136_14 rfl (by decide) ?_
    refine R_getf r_136_15 (by decide) hC.1 rfl ?_
    refine R_icmp_ge_N r_136_18 (by decide) (by omega) (by omega) (fun h_1 => ?_) (fun h_1 => ?_)
    · refine R_bipush r_136_38 (v := (-4)) rfl ?_
      refine R_iret r_136_40 (ty := .int) rfl rfl (by decide) ?_
      rw [rdL_0 (by omega)] at hq; exact hq _ _ _ hC hL hR hD hfk hf
    · refine R_aload_n r_136_21 rfl (by decide) ?_
      refine R_getf r_136_22 (by decide) hC.1 rfl ?_
      refine R_istore_n r_136_25 rfl ?_
      refine R_aload_n r_136_26 rfl (by decide) ?_
      refine R_call1 r_136_27 rfl (sm_rvM rfl rfl rfl hC) (Nat.le_of_ble_eq_true rfl) (Nat.le_of_ble_eq_true rfl) ?_
      refine m_item hC hL hR hW hx (by omega) hD hWD (fun hno w2 f2 sp2 hC2 hL2 hR2 hD2 hk2 hf2 => ?_) (fun l e D2 hit htk w2 f2 hC2 hL2 hR2 hD2 hk2 hf2 => ?_)
      · refine R_ifF r_136_30 (by decide) (by decide) ?_
        refine R_iload_n r_136_33 rfl ?_
        refine R_iret r_136_34 (ty := .int) rfl rfl (by decide) ?_
        rw [rdL_f (by omega) hno] at hq; rw [noI_4 (by omega)]; exact hq _ _ _ hC2 hL2 hR2 hD2 (fk.tr hfk hk2) (frm.tr hf hf2)
      · refine R_ifT r_136_30 (by decide) (by decide) ?_
        refine R_goto r_136_35 (by decide) ?_
        rw [rdL_3 (by omega) hit htk] at hq
        have hee := itC_ok hit
        exact ih _ _ _ _ _ (by omega) (by omega) hC2 hL2 hR2 hD2 (tkI_wf hWD hee.2.2.2.2 htk) (hx.fk hk2) (fk.tr hfk hk2) (frm.tr hf hf2) hq
theorem m_readAll {xs : List Int32} {d : Nat} {wd : sm_W} {Q : Option Value → sm_W → Prop} {tx : List Nat} {um km sn sp : Int32} {f : Nat → List Int32} (hC : mC wd (nI tx.length) um km sn sp f) (hL : mL f) {I : sm_Is} {w : Nat} (hR : mR I w f) (hW : iWF I) (hx : txF tx f) (hQ : ∀ w2 f2 sp2, mC w2 (nI tx.length) um km sn sp2 f2 → mL f2 → mR I w f2 → mD (rdT tx).2 f2 → fk f f2 → frm 22 40 wd w2 → Q (some (.int (noI (rdT tx).1))) w2) : Ct xs (d + 5) 136 [.ref 22] wd Q := by
  unfold Ct
  show RT xs (d + 5) 136 0 [some (.ref 22), none] [] wd Q
  have htl := hx.1
  refine R_aload_n r_136_0 rfl (by decide) ?_
  refine R_iconst r_136_1 (v := nI 1) rfl ?_
  refine R_call2 r_136_2 rfl (sm_rvM rfl rfl rfl hC) (Nat.le_of_ble_eq_true rfl) (Nat.le_of_ble_eq_true rfl) ?_
  refine m_noIsland hC hL hR hW (fun w1 f1 hC1 hL1 hR1 hD1 hk1 hf1 => ?_)
  refine R_aload_n r_136_5 rfl (by decide) ?_
  refine R_iconst r_136_6 (v := nI 0) rfl ?_
  refine R_mp_sp r_136_7 hC1 rfl rfl (fun w_q_1 hC_q_1 hf_q_1 => ?_)
  exact lp_rall hW (f0 := f) (wd0 := wd) 200 0 I0 _ _ _ (by omega) (by omega) hC_q_1 hL1 hR1 hD1 I0_wfD (hx.fk hk1) hk1 (frm.tr hf1 hf_q_1) hQ
theorem txF.of {I : sm_Is} {tx pa sh : List Nat} {sn : List (Nat × Nat)} {f : Nat → List Int32} (h : mT I tx pa sh sn f) (hlt : ∀ t, ltA tx t < 127) : txF tx f := ⟨h.1.1, h.1.2, hlt⟩
theorem m_fault {xs : List Int32} {d : Nat} {wd : sm_W} {Q : Option Value → sm_W → Prop} {tx : List Nat} {I : sm_Is} {w : Nat} {pa sh : List Nat} {sn : List (Nat × Nat)} (hX : mX wd tx I w pa sh sn) (hW : iWF I) (hw : wfW I w) (hlt : ∀ t, ltA tx t < 127) (hQ : ∀ w2, mX w2 tx I w pa sh sn → frm 22 40 wd w2 → Q (some (.int (noI (rdT tx).1))) w2) : Ct xs (d + 6) 135 [.ref 22] wd Q := by
  obtain ⟨sp, f, hC, hL, hR, hT⟩ := id hX
  unfold Ct
  show RT xs (d + 6) 135 0 [some (.ref 22)] [] wd Q
  refine R_aload_n r_135_0 rfl (by decide) ?_
  refine R_call1 r_135_1 rfl (sm_rvM rfl rfl rfl hC) (Nat.le_of_ble_eq_true rfl) (Nat.le_of_ble_eq_true rfl) ?_
  refine m_readAll hC hL hR hW (txF.of hT hlt) (fun w2 f2 sp2 hC2 hL2 hR2 _ hk2 hf2 => ?_)
  refine R_iret r_135_4 (ty := .int) rfl rfl (by decide) ?_
  exact hQ _ ⟨_, _, hC2, hL2, hR2, hT.fk hk2⟩ hf2
def bgv (g : Nat → List Int32) (t : Nat) : Option Int32 := if t < 8 then (g 26)[t]? else if t < 16 then (g 27)[t - 8]? else some (nI 0)
theorem bgv_1 {g : Nat → List Int32} {t : Nat} {v : Int32} (h : t < 8) (hv : (g 26)[t]? = some v) : some v = bgv g t := by unfold bgv; rw [if_pos h, hv]
theorem bgv_2 {g : Nat → List Int32} {t : Nat} {v : Int32} (h : ¬ t < 8) (h2 : t < 16) (hv : (g 27)[t - 8]? = some v) : some v = bgv g t := by unfold bgv; rw [if_neg h, if_pos h2, hv]
theorem bgv_3 {g : Nat → List Int32} {t : Nat} (h2 : ¬ t < 16) : some (nI 0) = bgv g t := by unfold bgv; rw [if_neg (by omega), if_neg h2]
theorem lp_mbeg {xs : List Int32} {d : Nat} {Q : Option Value → sm_W → Prop} {ln um km sn sp : Int32} {g0 : Nat → List Int32} {wd0 : sm_W} (hQ : ∀ wd f, mC wd ln um km sn sp f → mL f → (∀ q, q ≠ 32 → f q = g0 q) → frm 22 40 wd0 wd → (∀ t, t < 24 → (f 32)[t]? = bgv g0 t) → RT xs (d) 131 54 [some (.ref 22), some (.int (nI 24))] [] wd Q)  : ∀ (k : Nat) (i : Nat) (wd : sm_W) (f : Nat → List Int32), (i + k = 24) → (mC wd ln um km sn sp f) → (mL f) → (∀ q, q ≠ 32 → f q = g0 q) → (frm 22 40 wd0 wd) → (∀ t, t < i → (f 32)[t]? = bgv g0 t) → RT xs (d) 131 2 [some (.ref 22), some (.int (nI i))] [] wd Q := by
  intro k
  induction k with
  | zero =>
    intro i wd f hk hC hL ho hf hp
    refine R_iload_n r_131_2 rfl ?_
    refine R_bipush r_131_3 (v := nI 24) rfl ?_
    refine R_icmp_ge_N r_131_5 (by decide) (by omega) (by omega) (fun h_1 => ?_) (fun h_1 => ?_)
    · obtain rfl : i = 24 := by omega
      exact hQ _ _ hC hL ho hf hp
    · exfalso; omega
  | succ k ih =>
    intro i wd f hk hC hL ho hf hp
    have hl26 : (f 26).length = 16 := hL 26 (by decide) (by decide)
    have hl27 : (f 27).length = 16 := hL 27 (by decide) (by decide)
    have hl32 : (f 32).length = 24 := hL 32 (by decide) (by decide)
    obtain ⟨v26, h26⟩ : ∃ v, i < 8 → (f 26)[i]? = some v := ⟨(f 26)[i]?.getD 0, fun h => by rw [List.getElem?_eq_getElem (by omega)]; rfl⟩
    obtain ⟨v27, h27⟩ : ∃ v, ¬ i < 8 → i < 16 → (f 27)[i - 8]? = some v := ⟨(f 27)[i - 8]?.getD 0, fun h h3 => by rw [List.getElem?_eq_getElem (by omega)]; rfl⟩
    refine R_iload_n r_131_2 rfl ?_
    refine R_bipush r_131_3 (v := nI 24) rfl ?_
    refine R_icmp_ge_N r_131_5 (by decide) (by omega) (by omega) (fun h_1 => ?_) (fun h_1 => ?_)
    · exfalso; omega
    · refine R_aload_n r_131_8 rfl (by decide) ?_
      refine R_getf r_131_9 (by decide) hC.1 rfl ?_
      refine R_iload_n r_131_12 rfl ?_
      refine R_iload_n r_131_13 rfl ?_
      refine R_bipush r_131_14 (v := nI 8) rfl ?_
      refine R_icmp_ge_N r_131_16 (by decide) (by omega) (by omega) (fun h_2 => ?_) (fun h_2 => ?_)
      · refine R_iload_n r_131_28 rfl ?_
        refine R_bipush r_131_29 (v := nI 16) rfl ?_
        refine R_icmp_ge_N r_131_31 (by decide) (by omega) (by omega) (fun h_3 => ?_) (fun h_3 => ?_)
        · refine R_iconst r_131_46 (v := nI 0) rfl ?_
          refine R_mst r_131_47 hC hL (by decide) (by decide) (by show _ < (24 : Nat); omega) (by decide) (fun w_q_4 f_q_4 hC_q_4 hL_q_4 e_q_4 hf_q_4 => ?_)
          refine R_iinc1 r_131_48 rfl rfl ?_
          refine R_goto r_131_51 (by decide) ?_
          refine ih (i + 1) _ _ (by omega) hC_q_4 hL_q_4 (fun k hk => by rw [e_q_4, fu_n hk]; exact ho k hk) (frm.tr hf hf_q_4) ?_
          rw [e_q_4, fu_s]
          exact pre_setv' hp (by omega) (bgv_3 (by omega))
        · refine R_aload_n r_131_34 rfl (by decide) ?_
          refine R_getf r_131_35 (by decide) hC.1 rfl ?_
          refine R_iload_n r_131_38 rfl ?_
          refine R_bipush r_131_39 (v := nI 8) rfl ?_
          refine R_isubN r_131_41 (by omega) ?_
          refine R_iald r_131_42 (by decide) (hC.2 27 (by decide) (by decide)) (sm_ixG (h27 (by omega) (by omega)) (by omega)) ?_
          refine R_goto r_131_43 (by decide) ?_
          refine R_mst r_131_47 hC hL (by decide) (by decide) (by show _ < (24 : Nat); omega) (by decide) (fun w_q_5 f_q_5 hC_q_5 hL_q_5 e_q_5 hf_q_5 => ?_)
          refine R_iinc1 r_131_48 rfl rfl ?_
          refine R_goto r_131_51 (by decide) ?_
          refine ih (i + 1) _ _ (by omega) hC_q_5 hL_q_5 (fun k hk => by rw [e_q_5, fu_n hk]; exact ho k hk) (frm.tr hf hf_q_5) ?_
          rw [e_q_5, fu_s]
          exact pre_setv' hp (by omega) (bgv_2 (by omega) (by omega) (by rw [← ho 27 (by decide)]; exact h27 (by omega) (by omega)))
      · refine R_aload_n r_131_19 rfl (by decide) ?_
        refine R_getf r_131_20 (by decide) hC.1 rfl ?_
        refine R_iload_n r_131_23 rfl ?_
        refine R_iald r_131_24 (by decide) (hC.2 26 (by decide) (by decide)) (sm_ixG (h26 (by omega)) (by omega)) ?_
        refine R_goto r_131_25 (by decide) ?_
        refine R_mst r_131_47 hC hL (by decide) (by decide) (by show _ < (24 : Nat); omega) (by decide) (fun w_q_6 f_q_6 hC_q_6 hL_q_6 e_q_6 hf_q_6 => ?_)
        refine R_iinc1 r_131_48 rfl rfl ?_
        refine R_goto r_131_51 (by decide) ?_
        refine ih (i + 1) _ _ (by omega) hC_q_6 hL_q_6 (fun k hk => by rw [e_q_6, fu_n hk]; exact ho k hk) (frm.tr hf hf_q_6) ?_
        rw [e_q_6, fu_s]
        exact pre_setv' hp (by omega) (bgv_1 (by omega) (by rw [← ho 26 (by decide)]; exact h26 (by omega)))
theorem m_begin {xs : List Int32} {d : Nat} {wd : sm_W} {Q : Option Value → sm_W → Prop} {ln um km sn sp : Int32} {f : Nat → List Int32} (hC : mC wd ln um km sn sp f) (hL : mL f) (hQ : ∀ w2 f2, mC w2 ln (nI 0) (nI 0) (nI 0) sp f2 → mL f2 → (∀ q, q ≠ 32 → f2 q = f q) → (∀ t, t < 24 → (f2 32)[t]? = bgv f t) → frm 22 40 wd w2 → Q none w2) : Ct xs (d) 131 [.ref 22] wd Q := by
  unfold Ct
  show RT xs (d) 131 0 [some (.ref 22), none] [] wd Q
  refine R_iconst r_131_0 (v := nI 0) rfl ?_
  refine R_istore_n r_131_1 rfl ?_
  refine lp_mbeg (g0 := f) (wd0 := wd) (fun wd3 f3 hC3 hL3 ho3 hf3 hp3 => ?_) 24 0 _ _ (by omega) hC hL (fun _ _ => rfl) frm.rf (fun t ht => absurd ht (by omega))
  refine R_aload_n r_131_54 rfl (by decide) ?_
  refine R_iconst r_131_55 (v := nI 0) rfl ?_
  refine R_mp_um r_131_56 hC3 rfl rfl (fun w_q_51 hC_q_51 hf_q_51 => ?_)
  refine R_aload_n r_131_59 rfl (by decide) ?_
  refine R_iconst r_131_60 (v := nI 0) rfl ?_
  refine R_mp_km r_131_61 hC_q_51 rfl rfl (fun w_q_52 hC_q_52 hf_q_52 => ?_)
  refine R_aload_n r_131_64 rfl (by decide) ?_
  refine R_iconst r_131_65 (v := nI 0) rfl ?_
  refine R_mp_sn r_131_66 hC_q_52 rfl rfl (fun w_q_53 hC_q_53 hf_q_53 => ?_)
  refine R_vret r_131_69 rfl ?_
  exact hQ _ _ hC_q_53 hL3 ho3 hp3 (frm.tr (frm.tr (frm.tr hf3 hf_q_51) hf_q_52) hf_q_53)
theorem lp_can0 {xs : List Int32} {d : Nat} {wd : sm_W} {Q : Option Value → sm_W → Prop} {ln um km sn sp : Int32} {f : Nat → List Int32} (hC : mC wd ln um km sn sp f) (hL : mL f) {D : sm_Is} (hD : mD D f) (hWD : wfD D) {i : Nat} (hi : i < 100) (K : ∀ h2, RT xs (d + 6) 142 70 [some (.ref 22), some (.int (nI 0)), h2] [] wd Q) : RT xs (d + 6) 142 26 [some (.ref 22), some (.int (nI 0)), some (.int (nI i))] [] wd Q := by
  have h8 := hWD.1.2.2.2.1
  refine R_iload_n r_142_26 rfl ?_
  refine R_aload_n r_142_27 rfl (by decide) ?_
  refine R_getf r_142_28 (by decide) hC.1 rfl ?_
  refine R_iconst r_142_31 (v := nI 1) rfl ?_
  refine R_iald r_142_32 (by decide) (hC.2 24 (by decide) (by decide)) (sm_ixG hD.1 (by decide)) ?_
  refine R_icmp_ge_N r_142_33 (by decide) (by omega) (by omega) (fun h_1 => ?_) (fun h_1 => ?_)
  · exact K _
  · refine R_iload_n r_142_36 rfl ?_
    refine R_ifT r_142_37 (by decide) (by decide) ?_
    exact K _
theorem lp_can {xs : List Int32} {d : Nat} {wd : sm_W} {Q : Option Value → sm_W → Prop} {ln um km sn sp : Int32} {f : Nat → List Int32} (hC : mC wd ln um km sn sp f) (hL : mL f) {D : sm_Is} (hD : mD D f) (hWD : wfD D)  : ∀ (k : Nat) (i : Nat), (i + k = iN D) → (cbF D k i = false → (∀ h2, RT xs (d + 6) 142 70 [some (.ref 22), some (.int (nI 0)), h2] [] wd Q)) → (cbF D k i = true → (∀ h2, RT xs (d + 6) 142 70 [some (.ref 22), some (.int (nI 1)), h2] [] wd Q)) → RT xs (d + 6) 142 26 [some (.ref 22), some (.int (nI 1)), some (.int (nI i))] [] wd Q := by
  intro k
  induction k with
  | zero =>
    intro i hk hF hS
    have h8 := hWD.1.2.2.2.1
    refine R_iload_n r_142_26 rfl ?_
    refine R_aload_n r_142_27 rfl (by decide) ?_
    refine R_getf r_142_28 (by decide) hC.1 rfl ?_
    refine R_iconst r_142_31 (v := nI 1) rfl ?_
    refine R_iald r_142_32 (by decide) (hC.2 24 (by decide) (by decide)) (sm_ixG hD.1 (by decide)) ?_
    refine R_icmp_ge_N r_142_33 (by decide) (by omega) (by omega) (fun h_1 => ?_) (fun h_1 => ?_)
    · exact hS rfl _
    · exfalso; omega
  | succ k ih =>
    intro i hk hF hS
    have h8 := hWD.1.2.2.2.1
    have hsm := sMind_lt (iF D) i
    refine R_iload_n r_142_26 rfl ?_
    refine R_aload_n r_142_27 rfl (by decide) ?_
    refine R_getf r_142_28 (by decide) hC.1 rfl ?_
    refine R_iconst r_142_31 (v := nI 1) rfl ?_
    refine R_iald r_142_32 (by decide) (hC.2 24 (by decide) (by decide)) (sm_ixG hD.1 (by decide)) ?_
    refine R_icmp_ge_N r_142_33 (by decide) (by omega) (by omega) (fun h_1 => ?_) (fun h_1 => ?_)
    · exfalso; omega
    · refine R_iload_n r_142_36 rfl ?_
      refine R_ifF r_142_37 (by decide) (by decide) ?_
      refine R_aload_n r_142_40 rfl (by decide) ?_
      refine R_getf r_142_41 (by decide) hC.1 rfl ?_
      refine R_bipush r_142_44 (v := nI 8) rfl ?_
      refine R_iload_n r_142_46 rfl ?_
      refine R_iaddN r_142_47 ?_
      refine R_iald r_142_48 (by decide) (hC.2 27 (by decide) (by decide)) (sm_ixG (hD.2.2.1 i (by omega)).2.2.1 (by omega)) ?_
      refine R_aload_n r_142_49 rfl (by decide) ?_
      refine R_getf r_142_50 (by decide) hC.1 rfl ?_
      refine R_iconst r_142_53 (v := nI 1) rfl ?_
      refine R_iald r_142_54 (by decide) (hC.2 24 (by decide) (by decide)) (sm_ixG hD.1 (by decide)) ?_
      refine R_icmp_ge_N r_142_55 (by decide) (by omega) (by omega) (fun h_2 => ?_) (fun h_2 => ?_)
      · refine R_iconst r_142_62 (v := nI 0) rfl ?_
        refine R_istore_n r_142_63 rfl ?_
        refine R_iinc1 r_142_64 rfl rfl ?_
        refine R_goto r_142_67 (by decide) ?_
        exact lp_can0 hC hL hD hWD (by omega) (hF (cbF_f (by omega)))
      · refine R_iconst r_142_58 (v := nI 1) rfl ?_
        refine R_goto r_142_59 (by decide) ?_
        refine R_istore_n r_142_63 rfl ?_
        refine R_iinc1 r_142_64 rfl rfl ?_
        refine R_goto r_142_67 (by decide) ?_
        rw [cbF_t (by omega)] at hF hS; exact ih (i + 1) (by omega) hF hS
theorem cp_step {l s : List Int32} {o i n : Nat} {v : Int32} (hin : i < n) (hno : n ≤ o) (h : ∀ t, t < i → l[t]? = s[o + t]?) (h2 : ∀ t, o ≤ t → l[t]? = s[t]?) (hv : l[o + i]? = some v) : (∀ t, t < i + 1 → (l.set i v)[t]? = s[o + t]?) ∧ (∀ t, o ≤ t → (l.set i v)[t]? = s[t]?) := by
  have hl : o + i < l.length := (List.getElem?_eq_some_iff.mp hv).1
  refine ⟨fun t ht => ?_, fun t ht => ?_⟩
  · by_cases e : t = i
    · subst e
      rw [List.getElem?_set_self (by omega), ← h2 (o + t) (by omega), hv]
    · rw [List.getElem?_set_ne (Ne.symm e)]; exact h t (by omega)
  · rw [List.getElem?_set_ne (by omega)]; exact h2 t ht
theorem lp_cpA {xs : List Int32} {d : Nat} {Q : Option Value → sm_W → Prop} {ln um km sn sp : Int32} {g0 : Nat → List Int32} {wd0 : sm_W} (hQ : ∀ wd f, mC wd ln um km sn sp f → mL f → (∀ q, (q < 25 ∨ 28 < q) → f q = g0 q) → frm 22 40 wd0 wd → (∀ q, 25 ≤ q → q ≤ 28 → (∀ t, t < 8 → (f q)[t]? = (g0 q)[8 + t]?) ∧ (∀ t, 8 ≤ t → (f q)[t]? = (g0 q)[t]?)) → RT xs (d + 6) 142 175 [some (.ref 22), some (.int (nI 1)), some (.int (nI 8))] [] wd Q)  : ∀ (k : Nat) (i : Nat) (wd : sm_W) (f : Nat → List Int32), (i + k = 8) → (mC wd ln um km sn sp f) → (mL f) → (∀ q, (q < 25 ∨ 28 < q) → f q = g0 q) → (frm 22 40 wd0 wd) → (∀ q, 25 ≤ q → q ≤ 28 → (∀ t, t < i → (f q)[t]? = (g0 q)[8 + t]?) ∧ (∀ t, 8 ≤ t → (f q)[t]? = (g0 q)[t]?)) → RT xs (d + 6) 142 103 [some (.ref 22), some (.int (nI 1)), some (.int (nI i))] [] wd Q := by
  intro k
  induction k with
  | zero =>
    intro i wd f hk hC hL ho hf hp
    refine R_iload_n r_142_103 rfl ?_
    refine R_bipush r_142_104 (v := nI 8) rfl ?_
    refine R_icmp_ge_N r_142_106 (by decide) (by omega) (by omega) (fun h_1 => ?_) (fun h_1 => ?_)
    · obtain rfl : i = 8 := by omega
      exact hQ _ _ hC hL ho hf hp
    · exfalso; omega
  | succ k ih =>
    intro i wd f hk hC hL ho hf hp
    have hl25 : (f 25).length = 16 := hL 25 (by decide) (by decide)
    obtain ⟨v25, hv25⟩ : ∃ v, (f 25)[8 + i]? = some v := ⟨_, List.getElem?_eq_getElem (by omega)⟩
    have hl26 : (f 26).length = 16 := hL 26 (by decide) (by decide)
    obtain ⟨v26, hv26⟩ : ∃ v, (f 26)[8 + i]? = some v := ⟨_, List.getElem?_eq_getElem (by omega)⟩
    have hl27 : (f 27).length = 16 := hL 27 (by decide) (by decide)
    obtain ⟨v27, hv27⟩ : ∃ v, (f 27)[8 + i]? = some v := ⟨_, List.getElem?_eq_getElem (by omega)⟩
    have hl28 : (f 28).length = 16 := hL 28 (by decide) (by decide)
    obtain ⟨v28, hv28⟩ : ∃ v, (f 28)[8 + i]? = some v := ⟨_, List.getElem?_eq_getElem (by omega)⟩
    refine R_iload_n r_142_103 rfl ?_
    refine R_bipush r_142_104 (v := nI 8) rfl ?_
    refine R_icmp_ge_N r_142_106 (by decide) (by omega) (by omega) (fun h_1 => ?_) (fun h_1 => ?_)
    · exfalso; omega
    · refine R_aload_n r_142_109 rfl (by decide) ?_
      refine R_getf r_142_110 (by decide) hC.1 rfl ?_
      refine R_iload_n r_142_113 rfl ?_
      refine R_aload_n r_142_114 rfl (by decide) ?_
      refine R_getf r_142_115 (by decide) hC.1 rfl ?_
      refine R_bipush r_142_118 (v := nI 8) rfl ?_
      refine R_iload_n r_142_120 rfl ?_
      refine R_iaddN r_142_121 ?_
      refine R_iald r_142_122 (by decide) (hC.2 25 (by decide) (by decide)) (sm_ixG (by exact hv25) (by omega)) ?_
      refine R_mst r_142_123 hC hL (by decide) (by decide) (by show _ < (16 : Nat); omega) (by decide) (fun w_q_2 f_q_2 hC_q_2 hL_q_2 e_q_2 hf_q_2 => ?_)
      refine R_aload_n r_142_124 rfl (by decide) ?_
      refine R_getf r_142_125 (by decide) hC_q_2.1 rfl ?_
      refine R_iload_n r_142_128 rfl ?_
      refine R_aload_n r_142_129 rfl (by decide) ?_
      refine R_getf r_142_130 (by decide) hC_q_2.1 rfl ?_
      refine R_bipush r_142_133 (v := nI 8) rfl ?_
      refine R_iload_n r_142_135 rfl ?_
      refine R_iaddN r_142_136 ?_
      refine R_iald r_142_137 (by decide) (hC_q_2.2 26 (by decide) (by decide)) (sm_ixG (by rw [e_q_2, fu_n (by decide)]; exact hv26) (by omega)) ?_
      refine R_mst r_142_138 hC_q_2 hL_q_2 (by decide) (by decide) (by show _ < (16 : Nat); omega) (by decide) (fun w_q_3 f_q_3 hC_q_3 hL_q_3 e_q_3 hf_q_3 => ?_)
      refine R_aload_n r_142_139 rfl (by decide) ?_
      refine R_getf r_142_140 (by decide) hC_q_3.1 rfl ?_
      refine R_iload_n r_142_143 rfl ?_
      refine R_aload_n r_142_144 rfl (by decide) ?_
      refine R_getf r_142_145 (by decide) hC_q_3.1 rfl ?_
      refine R_bipush r_142_148 (v := nI 8) rfl ?_
      refine R_iload_n r_142_150 rfl ?_
      refine R_iaddN r_142_151 ?_
      refine R_iald r_142_152 (by decide) (hC_q_3.2 27 (by decide) (by decide)) (sm_ixG (by rw [e_q_3, fu_n (by decide)]; rw [e_q_2, fu_n (by decide)]; exact hv27) (by omega)) ?_
      refine R_mst r_142_153 hC_q_3 hL_q_3 (by decide) (by decide) (by show _ < (16 : Nat); omega) (by decide) (fun w_q_4 f_q_4 hC_q_4 hL_q_4 e_q_4 hf_q_4 => ?_)
      refine R_aload_n r_142_154 rfl (by decide) ?_
      refine R_getf r_142_155 (by decide) hC_q_4.1 rfl ?_
      refine R_iload_n r_142_158 rfl ?_
      refine R_aload_n r_142_159 rfl (by decide) ?_
      refine R_getf r_142_160 (by decide) hC_q_4.1 rfl ?_
      refine R_bipush r_142_163 (v := nI 8) rfl ?_
      refine R_iload_n r_142_165 rfl ?_
      refine R_iaddN r_142_166 ?_
      refine R_iald r_142_167 (by decide) (hC_q_4.2 28 (by decide) (by decide)) (sm_ixG (by rw [e_q_4, fu_n (by decide)]; rw [e_q_3, fu_n (by decide)]; rw [e_q_2, fu_n (by decide)]; exact hv28) (by omega)) ?_
      refine R_mst r_142_168 hC_q_4 hL_q_4 (by decide) (by decide) (by show _ < (16 : Nat); omega) (by decide) (fun w_q_5 f_q_5 hC_q_5 hL_q_5 e_q_5 hf_q_5 => ?_)
      refine R_iinc1 r_142_169 rfl rfl ?_
      refine R_goto r_142_172 (by decide) ?_
      refine ih (i + 1) _ _ (by omega) hC_q_5 hL_q_5 (fun q hq => ?_) (frm.tr (frm.tr (frm.tr (frm.tr hf hf_q_2) hf_q_3) hf_q_4) hf_q_5) (fun q h1 h2 => ?_)
      · rw [e_q_5, fu_n (by omega)]; rw [e_q_4, fu_n (by omega)]; rw [e_q_3, fu_n (by omega)]; rw [e_q_2, fu_n (by omega)]; exact ho q hq
      · rcases (by omega : q = 25 ∨ q = 26 ∨ q = 27 ∨ q = 28) with rfl | rfl | rfl | rfl
        · rw [e_q_5, fu_n (by decide)]; rw [e_q_4, fu_n (by decide)]; rw [e_q_3, fu_n (by decide)]; rw [e_q_2, fu_s]; exact cp_step (n := 8) (by omega) (by decide) (hp 25 (by decide) (by decide)).1 (hp 25 (by decide) (by decide)).2 hv25
        · rw [e_q_5, fu_n (by decide)]; rw [e_q_4, fu_n (by decide)]; rw [e_q_3, fu_s]; rw [e_q_2, fu_n (by decide)]; exact cp_step (n := 8) (by omega) (by decide) (hp 26 (by decide) (by decide)).1 (hp 26 (by decide) (by decide)).2 hv26
        · rw [e_q_5, fu_n (by decide)]; rw [e_q_4, fu_s]; rw [e_q_3, fu_n (by decide)]; rw [e_q_2, fu_n (by decide)]; exact cp_step (n := 8) (by omega) (by decide) (hp 27 (by decide) (by decide)).1 (hp 27 (by decide) (by decide)).2 hv27
        · rw [e_q_5, fu_s]; rw [e_q_4, fu_n (by decide)]; rw [e_q_3, fu_n (by decide)]; rw [e_q_2, fu_n (by decide)]; exact cp_step (n := 8) (by omega) (by decide) (hp 28 (by decide) (by decide)).1 (hp 28 (by decide) (by decide)).2 hv28
theorem lp_cpB {xs : List Int32} {d : Nat} {Q : Option Value → sm_W → Prop} {ln um km sn sp : Int32} {g0 : Nat → List Int32} {wd0 : sm_W} (hQ : ∀ wd f, mC wd ln um km sn sp f → mL f → (∀ q, (q < 30 ∨ 30 < q) → f q = g0 q) → frm 22 40 wd0 wd → (∀ q, 30 ≤ q → q ≤ 30 → (∀ t, t < 5 → (f q)[t]? = (g0 q)[5 + t]?) ∧ (∀ t, 5 ≤ t → (f q)[t]? = (g0 q)[t]?)) → RT xs (d + 6) 142 202 [some (.ref 22), some (.int (nI 1)), some (.int (nI 5))] [] wd Q)  : ∀ (k : Nat) (i : Nat) (wd : sm_W) (f : Nat → List Int32), (i + k = 5) → (mC wd ln um km sn sp f) → (mL f) → (∀ q, (q < 30 ∨ 30 < q) → f q = g0 q) → (frm 22 40 wd0 wd) → (∀ q, 30 ≤ q → q ≤ 30 → (∀ t, t < i → (f q)[t]? = (g0 q)[5 + t]?) ∧ (∀ t, 5 ≤ t → (f q)[t]? = (g0 q)[t]?)) → RT xs (d + 6) 142 177 [some (.ref 22), some (.int (nI 1)), some (.int (nI i))] [] wd Q := by
  intro k
  induction k with
  | zero =>
    intro i wd f hk hC hL ho hf hp
    refine R_iload_n r_142_177 rfl ?_
    refine R_iconst r_142_178 (v := nI 5) rfl ?_
    refine R_icmp_ge_N r_142_179 (by decide) (by omega) (by omega) (fun h_1 => ?_) (fun h_1 => ?_)
    · obtain rfl : i = 5 := by omega
      exact hQ _ _ hC hL ho hf hp
    · exfalso; omega
  | succ k ih =>
    intro i wd f hk hC hL ho hf hp
    have hl30 : (f 30).length = 10 := hL 30 (by decide) (by decide)
    obtain ⟨v30, hv30⟩ : ∃ v, (f 30)[5 + i]? = some v := ⟨_, List.getElem?_eq_getElem (by omega)⟩
    refine R_iload_n r_142_177 rfl ?_
    refine R_iconst r_142_178 (v := nI 5) rfl ?_
    refine R_icmp_ge_N r_142_179 (by decide) (by omega) (by omega) (fun h_1 => ?_) (fun h_1 => ?_)
    · exfalso; omega
    · refine R_aload_n r_142_182 rfl (by decide) ?_
      refine R_getf r_142_183 (by decide) hC.1 rfl ?_
      refine R_iload_n r_142_186 rfl ?_
      refine R_aload_n r_142_187 rfl (by decide) ?_
      refine R_getf r_142_188 (by decide) hC.1 rfl ?_
      refine R_iconst r_142_191 (v := nI 5) rfl ?_
      refine R_iload_n r_142_192 rfl ?_
      refine R_iaddN r_142_193 ?_
      refine R_iald r_142_194 (by decide) (hC.2 30 (by decide) (by decide)) (sm_ixG (by exact hv30) (by omega)) ?_
      refine R_mst r_142_195 hC hL (by decide) (by decide) (by show _ < (10 : Nat); omega) (by decide) (fun w_q_2 f_q_2 hC_q_2 hL_q_2 e_q_2 hf_q_2 => ?_)
      refine R_iinc1 r_142_196 rfl rfl ?_
      refine R_goto r_142_199 (by decide) ?_
      refine ih (i + 1) _ _ (by omega) hC_q_2 hL_q_2 (fun q hq => ?_) (frm.tr hf hf_q_2) (fun q h1 h2 => ?_)
      · rw [e_q_2, fu_n (by omega)]; exact ho q hq
      · obtain rfl : q = 30 := by omega
        rw [e_q_2, fu_s]; exact cp_step (n := 5) (by omega) (by decide) (hp 30 (by decide) (by decide)).1 (hp 30 (by decide) (by decide)).2 hv30
theorem lp_cpC {xs : List Int32} {d : Nat} {Q : Option Value → sm_W → Prop} {ln um km sn sp : Int32} {g0 : Nat → List Int32} {wd0 : sm_W} (hQ : ∀ wd f, mC wd ln um km sn sp f → mL f → (∀ q, (q < 31 ∨ 31 < q) → f q = g0 q) → frm 22 40 wd0 wd → (∀ q, 31 ≤ q → q ≤ 31 → (∀ t, t < 4 → (f q)[t]? = (g0 q)[4 + t]?) ∧ (∀ t, 4 ≤ t → (f q)[t]? = (g0 q)[t]?)) → RT xs (d + 6) 142 229 [some (.ref 22), some (.int (nI 1)), some (.int (nI 4))] [] wd Q)  : ∀ (k : Nat) (i : Nat) (wd : sm_W) (f : Nat → List Int32), (i + k = 4) → (mC wd ln um km sn sp f) → (mL f) → (∀ q, (q < 31 ∨ 31 < q) → f q = g0 q) → (frm 22 40 wd0 wd) → (∀ q, 31 ≤ q → q ≤ 31 → (∀ t, t < i → (f q)[t]? = (g0 q)[4 + t]?) ∧ (∀ t, 4 ≤ t → (f q)[t]? = (g0 q)[t]?)) → RT xs (d + 6) 142 204 [some (.ref 22), some (.int (nI 1)), some (.int (nI i))] [] wd Q := by
  intro k
  induction k with
  | zero =>
    intro i wd f hk hC hL ho hf hp
    refine R_iload_n r_142_204 rfl ?_
    refine R_iconst r_142_205 (v := nI 4) rfl ?_
    refine R_icmp_ge_N r_142_206 (by decide) (by omega) (by omega) (fun h_1 => ?_) (fun h_1 => ?_)
    · obtain rfl : i = 4 := by omega
      exact hQ _ _ hC hL ho hf hp
    · exfalso; omega
  | succ k ih =>
    intro i wd f hk hC hL ho hf hp
    have hl31 : (f 31).length = 8 := hL 31 (by decide) (by decide)
    obtain ⟨v31, hv31⟩ : ∃ v, (f 31)[4 + i]? = some v := ⟨_, List.getElem?_eq_getElem (by omega)⟩
    refine R_iload_n r_142_204 rfl ?_
    refine R_iconst r_142_205 (v := nI 4) rfl ?_
    refine R_icmp_ge_N r_142_206 (by decide) (by omega) (by omega) (fun h_1 => ?_) (fun h_1 => ?_)
    · exfalso; omega
    · refine R_aload_n r_142_209 rfl (by decide) ?_
      refine R_getf r_142_210 (by decide) hC.1 rfl ?_
      refine R_iload_n r_142_213 rfl ?_
      refine R_aload_n r_142_214 rfl (by decide) ?_
      refine R_getf r_142_215 (by decide) hC.1 rfl ?_
      refine R_iconst r_142_218 (v := nI 4) rfl ?_
      refine R_iload_n r_142_219 rfl ?_
      refine R_iaddN r_142_220 ?_
      refine R_iald r_142_221 (by decide) (hC.2 31 (by decide) (by decide)) (sm_ixG (by exact hv31) (by omega)) ?_
      refine R_mst r_142_222 hC hL (by decide) (by decide) (by show _ < (8 : Nat); omega) (by decide) (fun w_q_2 f_q_2 hC_q_2 hL_q_2 e_q_2 hf_q_2 => ?_)
      refine R_iinc1 r_142_223 rfl rfl ?_
      refine R_goto r_142_226 (by decide) ?_
      refine ih (i + 1) _ _ (by omega) hC_q_2 hL_q_2 (fun q hq => ?_) (frm.tr hf hf_q_2) (fun q h1 h2 => ?_)
      · rw [e_q_2, fu_n (by omega)]; exact ho q hq
      · obtain rfl : q = 31 := by omega
        rw [e_q_2, fu_s]; exact cp_step (n := 4) (by omega) (by decide) (hp 31 (by decide) (by decide)).1 (hp 31 (by decide) (by decide)).2 hv31
