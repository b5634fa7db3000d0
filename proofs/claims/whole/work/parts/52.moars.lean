/-! the model: help, oars -/
def eqW (w w2 : Nat) : Prop := (∀ i, i < 8 → sLean w i = sLean w2 i ∧ sMind w i = sMind w2 i) ∧ sHeld w = sHeld w2 ∧ sStorm w = sStorm w2 ∧ sIce w = sIce w2
theorem rowR.eq {I : sm_Is} {w w2 : Nat} {g : Nat → Option Int32} (h8 : iN I ≤ 8) (h : rowR I w g) (e : eqW w w2) : rowR I w2 g :=
  ⟨fun i hi => ⟨by rw [← (e.1 i (by omega)).1]; exact (h.1 i hi).1, by rw [← (e.1 i (by omega)).2]; exact (h.1 i hi).2⟩, fun b hb => by rw [← e.2.1]; exact h.2.1 b hb, by rw [← e.2.2.1]; exact h.2.2.1, by rw [← e.2.2.2]; exact h.2.2.2⟩
theorem eqW_h0 {w : Nat} : eqW w (wHeld w (sHeld w)) := ⟨fun i hi => ⟨(sLean_wHeld hi).symm, (sMind_wHeld hi).symm⟩, (sHeld_wHeld (sHeld_lt w)).symm, sStorm_wHeld.symm, sIce_wHeld.symm⟩
theorem eqW.symm {a b : Nat} (h : eqW a b) : eqW b a := ⟨fun i hi => ⟨(h.1 i hi).1.symm, (h.1 i hi).2.symm⟩, h.2.1.symm, h.2.2.1.symm, h.2.2.2.symm⟩
theorem eqW_hh {w a b : Nat} (hb : b < 32) : eqW (wHeld (wHeld w a) b) (wHeld w b) := ⟨fun i hi => ⟨by rw [sLean_wHeld hi, sLean_wHeld hi, sLean_wHeld hi], by rw [sMind_wHeld hi, sMind_wHeld hi, sMind_wHeld hi]⟩, by rw [sHeld_wHeld hb, sHeld_wHeld hb], by rw [sStorm_wHeld, sStorm_wHeld, sStorm_wHeld], by rw [sIce_wHeld, sIce_wHeld, sIce_wHeld]⟩
theorem row_held2 {I : sm_Is} {w a b0 hh : Nat} {v : Bool} {g : Nat → Option Int32} (h8 : iN I ≤ 8) (h : rowR I (wHeld w a) g) (ha : a < 32) (hb0 : b0 < 5) (hh32 : hh < 32) (hv : hh.testBit b0 = v) (ho : ∀ b, b < 5 → b ≠ b0 → hh.testBit b = a.testBit b) : rowR I (wHeld w hh) (rup (16 + b0) (b2i v) g) :=
  (row_held h8 h hb0 hh32 hv (fun b hb hn => by rw [sHeld_wHeld ha]; exact ho b hb hn)).eq h8 (eqW_hh hh32)
theorem mR.eq {I : sm_Is} {w w2 : Nat} {f : Nat → List Int32} (h8 : iN I ≤ 8) (h : mR I w f) (e : eqW w w2) : mR I w2 f := ⟨h.1, h.2.eq h8 e⟩
theorem xb_lt {I : sm_Is} {w b : Nat} (hw : wfW I w) (hb : b < iB I) : sHeld w ^^^ 1 <<< b < 2 ^ iB I := Nat.xor_lt_two_pow hw.2.2.2 (one_shl_lt hb)
theorem lp_mhelp {xs : List Int32} {d : Nat} {Q : Option Value → sm_W → Prop} {I : sm_Is} {w : Nat} (hW : iWF I) (hw : wfW I w) {ln um km sn sp : Int32} {q : Nat} (hq : q < 2) {x2 : Int32} {wd0 : sm_W} {f0 : Nat → List Int32} (hQ : ∀ wd f, mC wd ln um km sn sp f → mL f → mR I w f → fk f0 f → frm 22 40 wd0 wd → Q (some (.int (if x2 = 0 then noI (hlS I w q (iB I)).1 else noI (hlS I w q (iB I)).2))) wd)  : ∀ (k : Nat) (b : Nat) (h6 : Option Value) (wd : sm_W) (f : Nat → List Int32), (b + k = iB I) → (mC wd ln um km sn sp f) → (mL f) → (mR I w f) → (fk f0 f) → (frm 22 40 wd0 wd) → RT xs (d + 4) 175 29 [some (.ref 22), some (.int (nI q)), some (.int x2), some (.int (noI (hlS I w q b).1)), some (.int (noI (hlS I w q b).2)), some (.int (nI b)), h6] [] wd Q := by
  intro k
  induction k with
  | zero =>
    intro b h6 wd f hk hC hL hR hfk hf
    obtain ⟨hW1, hW2, hW3, hW4, hW5, hW6, hW7, hW8, hW9, hW10, hW11, hW12, hW13, hW14, hW15⟩ := id hW
    have hal := all_lt hW
    have has := all_shl I
    have has2 := all_shl2 I
    have hhl := hlS_le I w q b
    have hhn : hlN I w q b ≤ 8 := pcUp_le _ 8
    have hsh := sHeld_lt w
    refine R_iload r_175_29 rfl ?_
    refine R_aload_n r_175_31 rfl (by decide) ?_
    refine R_getf r_175_32 (by decide) hC.1 rfl ?_
    refine R_iconst r_175_35 (v := nI 0) rfl ?_
    refine R_iald r_175_36 (by decide) (hC.2 29 (by decide) (by decide)) hR.rB ?_
    refine R_icmp_ge_N r_175_37 (by decide) (by omega) (by omega) (fun h_1 => ?_) (fun h_1 => ?_)
    · refine R_iload_n r_175_122 rfl ?_
      refine R_if_ne r_175_123 (by decide) (fun h_2 => ?_) (fun h_2 => ?_)
      · refine R_iload r_175_130 rfl ?_
        refine R_iret r_175_132 (ty := .int) rfl rfl (by decide) ?_
        have h9 := hQ _ _ hC hL hR hfk hf; rw [show iB I = b by omega] at h9; first | (rw [if_pos (by assumption)] at h9; exact h9) | (rw [if_neg (by assumption)] at h9; exact h9)
      · refine R_iload_n r_175_126 rfl ?_
        refine R_goto r_175_127 (by decide) ?_
        refine R_iret r_175_132 (ty := .int) rfl rfl (by decide) ?_
        have h9 := hQ _ _ hC hL hR hfk hf; rw [show iB I = b by omega] at h9; first | (rw [if_pos (by assumption)] at h9; exact h9) | (rw [if_neg (by assumption)] at h9; exact h9)
    · exfalso; omega
  | succ k ih =>
    intro b h6 wd f hk hC hL hR hfk hf
    obtain ⟨hW1, hW2, hW3, hW4, hW5, hW6, hW7, hW8, hW9, hW10, hW11, hW12, hW13, hW14, hW15⟩ := id hW
    have hal := all_lt hW
    have has := all_shl I
    have has2 := all_shl2 I
    have hhl := hlS_le I w q b
    have hhn : hlN I w q b ≤ 8 := pcUp_le _ 8
    have hsh := sHeld_lt w
    refine R_iload r_175_29 rfl ?_
    refine R_aload_n r_175_31 rfl (by decide) ?_
    refine R_getf r_175_32 (by decide) hC.1 rfl ?_
    refine R_iconst r_175_35 (v := nI 0) rfl ?_
    refine R_iald r_175_36 (by decide) (hC.2 29 (by decide) (by decide)) hR.rB ?_
    refine R_icmp_ge_N r_175_37 (by decide) (by omega) (by omega) (fun h_1 => ?_) (fun h_1 => ?_)
    · exfalso; omega
    · refine R_aload_n r_175_40 rfl (by decide) ?_
      refine R_getf r_175_41 (by decide) hC.1 rfl ?_
      refine R_bipush r_175_44 (v := nI 16) rfl ?_
      refine R_iload r_175_46 rfl ?_
      refine R_iaddN r_175_48 ?_
      refine R_iald r_175_49 (by decide) (hC.2 32 (by decide) (by decide)) (hR.nh (by omega)) ?_
      refine R_iconst r_175_50 (v := nI 1) rfl ?_
      refine R_icmp_ne_b1 r_175_51 (by decide) (fun h_2 => ?_) (fun h_2 => ?_)
      · refine R_iinc1 r_175_116 rfl rfl ?_
        refine R_goto r_175_119 (by decide) ?_
        have h9 := fun h6 => ih (b + 1) h6 _ _ (by omega) hC hL hR hfk hf
        first | (rw [hlS_1 (by assumption)] at h9; exact h9 _) | (rw [hlS_2 ((noI_le hhn hhl).mp (by assumption))] at h9; exact h9 _) | (rw [hlS_t (by assumption) (Classical.byContradiction (fun z => (by assumption : ¬ _ ≤ _) ((noI_le hhn hhl).mpr z))), noI_n (by omega), noI_n (by omega)] at h9; exact h9 _) | exact absurd (by assumption : nI _ ≤ noI _) (by assumption)
      · refine R_aload_n r_175_54 rfl (by decide) ?_
        refine R_getf r_175_55 (by decide) hC.1 rfl ?_
        refine R_bipush r_175_58 (v := nI 16) rfl ?_
        refine R_iload r_175_60 rfl ?_
        refine R_iaddN r_175_62 ?_
        refine R_iconst r_175_63 (v := nI 0) rfl ?_
        refine R_mst r_175_64 hC hL (by decide) (by decide) (by show _ < (24 : Nat); omega) (by decide) (fun w_q_3 f_q_3 hC_q_3 hL_q_3 e_q_3 hf_q_3 => ?_)
        have hR_q_3 : mR I (wHeld w (sHeld w ^^^ 1 <<< b)) f_q_3 := by rw [e_q_3]; exact (hR).now (row_set hW4 (by rw [hL 32 (by decide) (by decide)]; show _ < (24 : Nat); omega) (row_held (v := false) hW4 (hR).2 (by omega) (hb_lt (by omega)) (by rw [hx_s]; simp [*]) (fun t _ ht => hx_n ht)))
        refine R_aload_n r_175_65 rfl (by decide) ?_
        refine R_iload_n r_175_66 rfl ?_
        refine R_call2 r_175_67 rfl (sm_rvM rfl rfl rfl hC_q_3) (Nat.le_of_ble_eq_true rfl) (Nat.le_of_ble_eq_true rfl) ?_
        refine m_leaving hC_q_3 hR_q_3 hL_q_3 hW (wf_held hW4 hW5 hw (xb_lt hw (by omega))) hq (fun w_q_4 f_q_4 hC_q_4 hL_q_4 hR_q_4 hfs_q_4 hf_q_4 hbo_q_4 => ?_)
        refine R_call1 r_175_70 rfl rfl (Nat.le_of_ble_eq_true rfl) (Nat.le_of_ble_eq_true rfl) ?_
        refine m_bits (Nat.lt_trans (lowUp_lt _ _ 8) (by decide)) ?_
        refine R_istore r_175_73 rfl ?_
        refine R_aload_n r_175_75 rfl (by decide) ?_
        refine R_getf r_175_76 (by decide) hC_q_4.1 rfl ?_
        refine R_bipush r_175_79 (v := nI 16) rfl ?_
        refine R_iload r_175_81 rfl ?_
        refine R_iaddN r_175_83 ?_
        refine R_iconst r_175_84 (v := nI 1) rfl ?_
        refine R_mst r_175_85 hC_q_4 hL_q_4 (by decide) (by decide) (by show _ < (24 : Nat); omega) (by decide) (fun w_q_5 f_q_5 hC_q_5 hL_q_5 e_q_5 hf_q_5 => ?_)
        have hR_q_5 : mR I w f_q_5 := by rw [e_q_5]; exact ((hR_q_4).now (row_set hW4 (by rw [hL_q_4 32 (by decide) (by decide)]; show _ < (24 : Nat); omega) (row_held2 (v := true) hW4 (hR_q_4).2 (hb_lt (by omega)) (by omega) (sHeld_lt w) (by assumption) (fun t _ ht => (hx_n ht).symm)))).eq hW4 eqW_h0.symm
        refine R_iload r_175_86 rfl ?_
        refine R_iload r_175_88 rfl ?_
        refine R_icmp_le r_175_90 (by decide) (fun h_6 => ?_) (fun h_6 => ?_)
        · refine R_iload_n r_175_98 rfl ?_
          refine R_istore_n r_175_99 rfl ?_
          refine R_iload r_175_100 rfl ?_
          refine R_iload r_175_102 rfl ?_
          refine R_icmp_le r_175_104 (by decide) (fun h_7 => ?_) (fun h_7 => ?_)
          · refine R_iload r_175_112 rfl ?_
            refine R_istore r_175_114 rfl ?_
            refine R_iinc1 r_175_116 rfl rfl ?_
            refine R_goto r_175_119 (by decide) ?_
            have h9 := fun h6 => ih (b + 1) h6 _ _ (by omega) hC_q_5 hL_q_5 hR_q_5 (fk.tr hfk (fk.tr (by rw [e_q_3]; exact fk.rf.up (by decide)) (fk.tr hfs_q_4.fk (by rw [e_q_5]; exact fk.rf.up (by decide))))) (frm.tr (frm.tr (frm.tr hf hf_q_3) hf_q_4) hf_q_5)
            first | (rw [hlS_1 (by assumption)] at h9; exact h9 _) | (rw [hlS_2 ((noI_le hhn hhl).mp (by assumption))] at h9; exact h9 _) | (rw [hlS_t (by assumption) (Classical.byContradiction (fun z => (by assumption : ¬ _ ≤ _) ((noI_le hhn hhl).mpr z))), noI_n (by omega), noI_n (by omega)] at h9; exact h9 _) | exact absurd (by assumption : nI _ ≤ noI _) (by assumption)
          · refine R_iload r_175_107 rfl ?_
            refine R_goto r_175_109 (by decide) ?_
            refine R_istore r_175_114 rfl ?_
            refine R_iinc1 r_175_116 rfl rfl ?_
            refine R_goto r_175_119 (by decide) ?_
            have h9 := fun h6 => ih (b + 1) h6 _ _ (by omega) hC_q_5 hL_q_5 hR_q_5 (fk.tr hfk (fk.tr (by rw [e_q_3]; exact fk.rf.up (by decide)) (fk.tr hfs_q_4.fk (by rw [e_q_5]; exact fk.rf.up (by decide))))) (frm.tr (frm.tr (frm.tr hf hf_q_3) hf_q_4) hf_q_5)
            first | (rw [hlS_1 (by assumption)] at h9; exact h9 _) | (rw [hlS_2 ((noI_le hhn hhl).mp (by assumption))] at h9; exact h9 _) | (rw [hlS_t (by assumption) (Classical.byContradiction (fun z => (by assumption : ¬ _ ≤ _) ((noI_le hhn hhl).mpr z))), noI_n (by omega), noI_n (by omega)] at h9; exact h9 _) | exact absurd (by assumption : nI _ ≤ noI _) (by assumption)
        · refine R_iload r_175_93 rfl ?_
          refine R_goto r_175_95 (by decide) ?_
          refine R_istore_n r_175_99 rfl ?_
          refine R_iload r_175_100 rfl ?_
          refine R_iload r_175_102 rfl ?_
          refine R_icmp_le r_175_104 (by decide) (fun h_8 => ?_) (fun h_8 => ?_)
          · refine R_iload r_175_112 rfl ?_
            refine R_istore r_175_114 rfl ?_
            refine R_iinc1 r_175_116 rfl rfl ?_
            refine R_goto r_175_119 (by decide) ?_
            have h9 := fun h6 => ih (b + 1) h6 _ _ (by omega) hC_q_5 hL_q_5 hR_q_5 (fk.tr hfk (fk.tr (by rw [e_q_3]; exact fk.rf.up (by decide)) (fk.tr hfs_q_4.fk (by rw [e_q_5]; exact fk.rf.up (by decide))))) (frm.tr (frm.tr (frm.tr hf hf_q_3) hf_q_4) hf_q_5)
            first | (rw [hlS_1 (by assumption)] at h9; exact h9 _) | (rw [hlS_2 ((noI_le hhn hhl).mp (by assumption))] at h9; exact h9 _) | (rw [hlS_t (by assumption) (Classical.byContradiction (fun z => (by assumption : ¬ _ ≤ _) ((noI_le hhn hhl).mpr z))), noI_n (by omega), noI_n (by omega)] at h9; exact h9 _) | exact absurd (by assumption : nI _ ≤ noI _) (by assumption)
          · refine R_iload r_175_107 rfl ?_
            refine R_goto r_175_109 (by decide) ?_
            refine R_istore r_175_114 rfl ?_
            refine R_iinc1 r_175_116 rfl rfl ?_
            refine R_goto r_175_119 (by decide) ?_
            have h9 := fun h6 => ih (b + 1) h6 _ _ (by omega) hC_q_5 hL_q_5 hR_q_5 (fk.tr hfk (fk.tr (by rw [e_q_3]; exact fk.rf.up (by decide)) (fk.tr hfs_q_4.fk (by rw [e_q_5]; exact fk.rf.up (by decide))))) (frm.tr (frm.tr (frm.tr hf hf_q_3) hf_q_4) hf_q_5)
            first | (rw [hlS_1 (by assumption)] at h9; exact h9 _) | (rw [hlS_2 ((noI_le hhn hhl).mp (by assumption))] at h9; exact h9 _) | (rw [hlS_t (by assumption) (Classical.byContradiction (fun z => (by assumption : ¬ _ ≤ _) ((noI_le hhn hhl).mpr z))), noI_n (by omega), noI_n (by omega)] at h9; exact h9 _) | exact absurd (by assumption : nI _ ≤ noI _) (by assumption)
theorem m_help {xs : List Int32} {d : Nat} {wd : sm_W} {Q : Option Value → sm_W → Prop} {tx : List Nat} {I : sm_Is} {w : Nat} {pa sh : List Nat} {sn : List (Nat × Nat)} (hX : mX wd tx I w pa sh sn) (hW : iWF I) (hw : wfW I w) {x1 x2 : Int32} (hB : (inR x1 2 && inR x2 2) = false → Q (some (.int (-1))) wd) (hQ : ∀ q, q < 2 → x1 = nI q → inR x2 2 = true → ∀ w2, mX w2 tx I w pa sh sn → frm 22 40 wd w2 → Q (some (.int (if x2 = 0 then noI (hlS I w q (iB I)).1 else noI (hlS I w q (iB I)).2))) w2) : Ct xs (d + 4) 175 [.ref 22, .int x1, .int x2] wd Q := by
  unfold Ct
  show RT xs (d + 4) 175 0 [some (.ref 22), some (.int x1), some (.int x2), none, none, none, none] [] wd Q
  obtain ⟨sp, f, hC, hL, hR, hT⟩ := id hX
  obtain ⟨hW1, hW2, hW3, hW4, hW5, hW6, hW7, hW8, hW9, hW10, hW11, hW12, hW13, hW14, hW15⟩ := id hW
  obtain ⟨hT1, hT2, hT3, hT4⟩ := id hT
  refine R_iload_n r_175_0 rfl ?_
  refine R_call1 r_175_1 rfl rfl (Nat.le_of_ble_eq_true rfl) (Nat.le_of_ble_eq_true rfl) ?_
  refine m_isQuestion ?_
  refine R_if_eq_b r_175_4 (by decide) (fun h_1 => ?_) (fun h_1 => ?_)
  · refine R_iconst r_175_17 (v := (-1)) rfl ?_
    refine R_iret r_175_18 (ty := .int) rfl rfl (by decide) ?_
    exact hB (by simp [*])
  · refine R_iload_n r_175_7 rfl ?_
    refine R_i2l r_175_8 ?_
    refine R_lconst r_175_9 (v := lN 0) rfl ?_
    refine R_lconst r_175_10 (v := lN 1) rfl ?_
    refine R_call3 r_175_11 rfl rfl (Nat.le_of_ble_eq_true rfl) (Nat.le_of_ble_eq_true rfl) ?_
    refine m_in (c := inR x2 2) (in_q (by decide)) ?_
    refine R_if_ne_b r_175_14 (by decide) (fun h_2 => ?_) (fun h_2 => ?_)
    · refine R_bipush r_175_19 (v := (-4)) rfl ?_
      refine R_istore_n r_175_21 rfl ?_
      refine R_bipush r_175_22 (v := (-4)) rfl ?_
      refine R_istore r_175_24 rfl ?_
      refine R_iconst r_175_26 (v := nI 0) rfl ?_
      refine R_istore r_175_27 rfl ?_
      obtain ⟨q, hq, rfl⟩ := inR_of (x := x1) (by assumption) (by decide)
      exact lp_mhelp hW hw hq (f0 := f) (wd0 := wd) (fun wd2 f2 hC2 hL2 hR2 hk2 hf2 => hQ q hq rfl (by assumption) _ ⟨_, _, hC2, hL2, hR2, hT.fk hk2⟩ hf2) (iB I) 0 _ _ _ (by omega) hC hL hR fk.rf frm.rf
    · refine R_iconst r_175_17 (v := (-1)) rfl ?_
      refine R_iret r_175_18 (ty := .int) rfl rfl (by decide) ?_
      exact hB (by simp [*])
def putB (h b : Nat) (v : Bool) : Nat := if h.testBit b = v then h else h ^^^ 1 <<< b
theorem putB_bit (h b : Nat) (v : Bool) (t : Nat) : (putB h b v).testBit t = if t = b then v else h.testBit t := by
  unfold putB
  split
  · rename_i hv
    by_cases e : t = b
    · subst e; rw [if_pos rfl, hv]
    · rw [if_neg e]
  · rename_i hv
    by_cases e : t = b
    · subst e; rw [if_pos rfl, hx_s]; cases hb : h.testBit t <;> cases v <;> simp_all
    · rw [if_neg e, hx_n e]
theorem putB_lt {h b n : Nat} {v : Bool} (hh : h < 2 ^ n) (hb : b < n) : putB h b v < 2 ^ n := by
  unfold putB
  split
  · exact hh
  · exact Nat.xor_lt_two_pow hh (one_shl_lt hb)
theorem eq_low {h s n : Nat} (hh : h < 2 ^ n) (hs : s < 2 ^ n) (he : ∀ t, t < n → h.testBit t = s.testBit t) : h = s := by
  apply Nat.eq_of_testBit_eq
  intro t
  by_cases ht : t < n
  · exact he t ht
  · rw [Nat.testBit_lt_two_pow (Nat.lt_of_lt_of_le hh (Nat.pow_le_pow_right (by decide) (by omega))), Nat.testBit_lt_two_pow (Nat.lt_of_lt_of_le hs (Nat.pow_le_pow_right (by decide) (by omega)))]
theorem put_low {h b : Nat} {v : Bool} {tb : Nat → Bool} (he : ∀ t, t < b → h.testBit t = tb t) (hv : v = tb b) : ∀ t, t < b + 1 → (putB h b v).testBit t = tb t := by
  intro t ht
  rw [putB_bit]
  by_cases e : t = b
  · subst e; rw [if_pos rfl, hv]
  · rw [if_neg e]; exact he t (by omega)
theorem lt32 {I : sm_Is} {h : Nat} (h5 : iB I ≤ 5) (hh : h < 2 ^ iB I) : h < 32 := Nat.lt_of_lt_of_le hh (Nat.pow_le_pow_right (n := 2) (j := 5) (by decide) h5)
theorem lp_oar1 {xs : List Int32} {d : Nat} {Q : Option Value → sm_W → Prop} {I : sm_Is} {w : Nat} (hW : iWF I) {ln um km sn sp : Int32} {x1 : Int32} {l3 l4 l5 l6 : Option Value} {wd0 : sm_W} {f0 : Nat → List Int32} (hQ : ∀ wd f, mC wd ln um km sn sp f → mL f → mR I w f → fk f0 f → frm 22 40 wd0 wd → (∀ t, t < 5 → (f 40)[t]? = some (b2i ((sHeld w).testBit t))) → RT xs (d + 4) 179 40 [some (.ref 22), some (.int x1), some (.int (nI 5)), l3, l4, l5, l6] [] wd Q)  : ∀ (k : Nat) (b : Nat) (wd : sm_W) (f : Nat → List Int32), (b + k = 5) → (mC wd ln um km sn sp f) → (mL f) → (mR I w f) → (fk f0 f) → (frm 22 40 wd0 wd) → (∀ t, t < b → (f 40)[t]? = some (b2i ((sHeld w).testBit t))) → RT xs (d + 4) 179 14 [some (.ref 22), some (.int x1), some (.int (nI b)), l3, l4, l5, l6] [] wd Q := by
  intro k
  induction k with
  | zero =>
    intro b wd f hk hC hL hR hfk hf h40
    refine R_iload_n r_179_14 rfl ?_
    refine R_iconst r_179_15 (v := nI 5) rfl ?_
    refine R_icmp_ge_N r_179_16 (by decide) (by omega) (by omega) (fun h_1 => ?_) (fun h_1 => ?_)
    · obtain rfl : b = 5 := by omega
      exact hQ _ _ hC hL hR hfk hf h40
    · exfalso; omega
  | succ k ih =>
    intro b wd f hk hC hL hR hfk hf h40
    refine R_iload_n r_179_14 rfl ?_
    refine R_iconst r_179_15 (v := nI 5) rfl ?_
    refine R_icmp_ge_N r_179_16 (by decide) (by omega) (by omega) (fun h_1 => ?_) (fun h_1 => ?_)
    · exfalso; omega
    · refine R_aload_n r_179_19 rfl (by decide) ?_
      refine R_getf r_179_20 (by decide) hC.1 rfl ?_
      refine R_iload_n r_179_23 rfl ?_
      refine R_aload_n r_179_24 rfl (by decide) ?_
      refine R_getf r_179_25 (by decide) hC.1 rfl ?_
      refine R_bipush r_179_28 (v := nI 16) rfl ?_
      refine R_iload_n r_179_30 rfl ?_
      refine R_iaddN r_179_31 ?_
      refine R_iald r_179_32 (by decide) (hC.2 32 (by decide) (by decide)) (hR.nh (by omega)) ?_
      refine R_mst r_179_33 hC hL (by decide) (by decide) (by show _ < (5 : Nat); omega) (by decide) (fun w_q_2 f_q_2 hC_q_2 hL_q_2 e_q_2 hf_q_2 => ?_)
      have hR_q_2 : mR I w f_q_2 := by rw [e_q_2]; exact hR.up rfl
      refine R_iinc1 r_179_34 rfl rfl ?_
      refine R_goto r_179_37 (by decide) ?_
      exact ih (b + 1) _ _ (by omega) hC_q_2 hL_q_2 hR_q_2 (by rw [e_q_2]; exact hfk.up (by decide)) (frm.tr hf hf_q_2) (by rw [e_q_2, fu_s]; exact pre_setv (g := fun t => b2i ((sHeld w).testBit t)) h40 (by rw [hL 40 (by decide) (by decide)]; show b < 5; omega) rfl)
theorem lp_oar2 {xs : List Int32} {d : Nat} {Q : Option Value → sm_W → Prop} {I : sm_Is} {w : Nat} (hW : iWF I) {ln um km sn sp : Int32} {x1 v2 v3 : Int32} {n : Nat} (hn : n < 2 ^ iB I) {wd0 : sm_W} {f0 : Nat → List Int32} (hQ : ∀ wd f, mC wd ln um km sn sp f → mL f → mR I (wHeld w n) f → fk f0 f → frm 22 40 wd0 wd → (∀ t, t < 5 → (f 40)[t]? = some (b2i ((sHeld w).testBit t))) → ∀ h5 h6, RT xs (d + 4) 179 98 [some (.ref 22), some (.int x1), some (.int v2), some (.int v3), some (.int (nI n)), h5, h6] [] wd Q)  : ∀ (k : Nat) (b h : Nat) (h6 : Option Value) (wd : sm_W) (f : Nat → List Int32), (b + k = iB I) → (mC wd ln um km sn sp f) → (mL f) → (mR I (wHeld w h) f) → (fk f0 f) → (frm 22 40 wd0 wd) → (∀ t, t < 5 → (f 40)[t]? = some (b2i ((sHeld w).testBit t))) → (h < 2 ^ iB I) → (∀ t, t < b → h.testBit t = n.testBit t) → RT xs (d + 4) 179 64 [some (.ref 22), some (.int x1), some (.int v2), some (.int v3), some (.int (nI n)), some (.int (nI b)), h6] [] wd Q := by
  intro k
  induction k with
  | zero =>
    intro b h h6 wd f hk hC hL hR hfk hf h40 hh he
    obtain ⟨hW1, hW2, hW3, hW4, hW5, hW6, hW7, hW8, hW9, hW10, hW11, hW12, hW13, hW14, hW15⟩ := id hW
    have hal := all_lt hW
    have has := all_shl I
    have has2 := all_shl2 I
    refine R_iload r_179_64 rfl ?_
    refine R_aload_n r_179_66 rfl (by decide) ?_
    refine R_getf r_179_67 (by decide) hC.1 rfl ?_
    refine R_iconst r_179_70 (v := nI 0) rfl ?_
    refine R_iald r_179_71 (by decide) (hC.2 29 (by decide) (by decide)) hR.rB ?_
    refine R_icmp_ge_N r_179_72 (by decide) (by omega) (by omega) (fun h_1 => ?_) (fun h_1 => ?_)
    · obtain rfl := eq_low hh hn (fun t ht => he t (by omega))
      exact hQ _ _ hC hL hR hfk hf h40 _ _
    · exfalso; omega
  | succ k ih =>
    intro b h h6 wd f hk hC hL hR hfk hf h40 hh he
    obtain ⟨hW1, hW2, hW3, hW4, hW5, hW6, hW7, hW8, hW9, hW10, hW11, hW12, hW13, hW14, hW15⟩ := id hW
    have hal := all_lt hW
    have has := all_shl I
    have has2 := all_shl2 I
    refine R_iload r_179_64 rfl ?_
    refine R_aload_n r_179_66 rfl (by decide) ?_
    refine R_getf r_179_67 (by decide) hC.1 rfl ?_
    refine R_iconst r_179_70 (v := nI 0) rfl ?_
    refine R_iald r_179_71 (by decide) (hC.2 29 (by decide) (by decide)) hR.rB ?_
    refine R_icmp_ge_N r_179_72 (by decide) (by omega) (by omega) (fun h_1 => ?_) (fun h_1 => ?_)
    · exfalso; omega
    · refine R_aload_n r_179_75 rfl (by decide) ?_
      refine R_getf r_179_76 (by decide) hC.1 rfl ?_
      refine R_bipush r_179_79 (v := nI 16) rfl ?_
      refine R_iload r_179_81 rfl ?_
      refine R_iaddN r_179_83 ?_
      refine R_iload r_179_84 rfl ?_
      refine R_iload r_179_86 rfl ?_
      refine R_ishrN r_179_88 (by have := lt32 hW5 hn; omega) (by omega) ?_
      refine R_iconst r_179_89 (v := nI 1) rfl ?_
      refine R_iandBit r_179_90 ?_
      refine R_mst r_179_91 hC hL (by decide) (by decide) (by show _ < (24 : Nat); omega) (by decide) (fun w_q_2 f_q_2 hC_q_2 hL_q_2 e_q_2 hf_q_2 => ?_)
      have hR_q_2 : mR I (wHeld w (putB h b (n.testBit b))) f_q_2 := by rw [e_q_2]; exact (hR).now (row_set hW4 (by rw [hL 32 (by decide) (by decide)]; show _ < (24 : Nat); omega) (row_held2 hW4 (hR).2 (lt32 hW5 hh) (by omega) (lt32 hW5 (putB_lt hh (by omega))) (by rw [putB_bit, if_pos rfl]) (fun t _ ht => by rw [putB_bit, if_neg ht])))
      refine R_iinc1 r_179_92 rfl rfl ?_
      refine R_goto r_179_95 (by decide) ?_
      exact ih (b + 1) _ _ _ _ (by omega) hC_q_2 hL_q_2 hR_q_2 (by rw [e_q_2]; exact hfk.up (by decide)) (frm.tr hf hf_q_2) (by rw [e_q_2, fu_n (by decide)]; exact h40) (putB_lt hh (by omega)) (put_low he rfl)
theorem agc_t {a b : Nat} {c : Bool} (h : a = b) (hc : c = true) : true = (c && decide (a = b)) := by rw [hc, decide_eq_true h]; rfl
theorem wfh {I : sm_Is} {w h : Nat} (hW : iWF I) (hw : wfW I w) (hh : h < 2 ^ iB I) : wfW I (wHeld w h) := wf_held hW.2.2.2.1 hW.2.2.2.2.1 hw hh
theorem lp_oar3 {xs : List Int32} {d : Nat} {Q : Option Value → sm_W → Prop} {I : sm_Is} {w : Nat} (hW : iWF I) (hw : wfW I w) {ln um km sp : Int32} {x1 v2 v3 : Int32} {n : Nat} (hn : n < 2 ^ iB I) {sl : List (Nat × Nat)} (hsn : snB sl) (hsl : sl.length ≤ 8) {wd0 : sm_W} {f0 : Nat → List Int32} (h36 : ∀ t, t < sl.length → (f0 35)[t]? = some (nI (sl.getD t (0, 0)).1) ∧ (f0 36)[t]? = some (nI (sl.getD t (0, 0)).2))  : ∀ (k : Nat) (i : Nat) (c : Bool) (wd : sm_W) (f : Nat → List Int32), (i + k = sl.length) → (mC wd ln um km (nI sl.length) sp f) → (mL f) → (mR I (wHeld w n) f) → (fk f0 f) → (frm 22 40 wd0 wd) → (∀ t, t < 5 → (f 40)[t]? = some (b2i ((sHeld w).testBit t))) → ((∀ wd f, mC wd ln um km (nI sl.length) sp f → mL f → mR I (wHeld w n) f → fk f0 f → frm 22 40 wd0 wd → (∀ t, t < 5 → (f 40)[t]? = some (b2i ((sHeld w).testBit t))) → ∀ h6, RT xs (d + 4) 179 155 [some (.ref 22), some (.int x1), some (.int v2), some (.int v3), some (.int (nI n)), some (.int (b2i (c && agF I sl (wHeld w n) k i))), h6] [] wd Q)) → RT xs (d + 4) 179 104 [some (.ref 22), some (.int x1), some (.int v2), some (.int v3), some (.int (nI n)), some (.int (b2i (c))), some (.int (nI i))] [] wd Q := by
  intro k
  induction k with
  | zero =>
    intro i c wd f hk hC hL hR hfk hf h40 hq
    obtain ⟨hW1, hW2, hW3, hW4, hW5, hW6, hW7, hW8, hW9, hW10, hW11, hW12, hW13, hW14, hW15⟩ := id hW
    have hal := all_lt hW
    have has := all_shl I
    have has2 := all_shl2 I
    have hg1 := fun (hi : i < sl.length) => hsn i hi
    have hs35 : i < sl.length → (f 35)[i]? = some (nI (sl.getD i (0, 0)).1) := fun hi => by rw [hfk 35 (by omega)]; exact (h36 i hi).1
    have hs36 : i < sl.length → (f 36)[i]? = some (nI (sl.getD i (0, 0)).2) := fun hi => by rw [hfk 36 (by omega)]; exact (h36 i hi).2
    refine R_iload r_179_104 rfl ?_
    refine R_aload_n r_179_106 rfl (by decide) ?_
    refine R_getf r_179_107 (by decide) hC.1 rfl ?_
    refine R_icmp_ge_N r_179_110 (by decide) (by omega) (by omega) (fun h_1 => ?_) (fun h_1 => ?_)
    · have h9 := hq _ _ hC hL hR hfk hf h40
      rw [agF, Bool.and_true] at h9
      exact h9 _
    · exfalso; omega
  | succ k ih =>
    intro i c wd f hk hC hL hR hfk hf h40 hq
    obtain ⟨hW1, hW2, hW3, hW4, hW5, hW6, hW7, hW8, hW9, hW10, hW11, hW12, hW13, hW14, hW15⟩ := id hW
    have hal := all_lt hW
    have has := all_shl I
    have has2 := all_shl2 I
    have hg1 := fun (hi : i < sl.length) => hsn i hi
    have hs35 : i < sl.length → (f 35)[i]? = some (nI (sl.getD i (0, 0)).1) := fun hi => by rw [hfk 35 (by omega)]; exact (h36 i hi).1
    have hs36 : i < sl.length → (f 36)[i]? = some (nI (sl.getD i (0, 0)).2) := fun hi => by rw [hfk 36 (by omega)]; exact (h36 i hi).2
    refine R_iload r_179_104 rfl ?_
    refine R_aload_n r_179_106 rfl (by decide) ?_
    refine R_getf r_179_107 (by decide) hC.1 rfl ?_
    refine R_icmp_ge_N r_179_110 (by decide) (by omega) (by omega) (fun h_1 => ?_) (fun h_1 => ?_)
    · exfalso; omega
    · refine R_iload r_179_113 rfl ?_
      refine R_if_eq_b r_179_115 (by decide) (fun h_2 => ?_) (fun h_2 => ?_)
      · refine R_iconst r_179_146 (v := nI 0) rfl ?_
        refine R_istore r_179_147 rfl ?_
        refine R_iinc1 r_179_149 rfl rfl ?_
        refine R_goto r_179_152 (by decide) ?_
        have e0 : c = false := by assumption
        subst e0
        exact ih (i + 1) false _ _ (by omega) hC hL hR hfk hf h40 (by rw [Bool.false_and] at hq ⊢; exact hq)
      · refine R_aload_n r_179_118 rfl (by decide) ?_
        refine R_aload_n r_179_119 rfl (by decide) ?_
        refine R_getf r_179_120 (by decide) hC.1 rfl ?_
        refine R_iload r_179_123 rfl ?_
        refine R_iald r_179_125 (by decide) (hC.2 35 (by decide) (by decide)) (sm_ixG (hs35 (by omega)) (by omega)) ?_
        refine R_call2 r_179_126 rfl (sm_rvM rfl rfl rfl hC) (Nat.le_of_ble_eq_true rfl) (Nat.le_of_ble_eq_true rfl) ?_
        refine m_leaving hC hR hL hW (wfh hW hw hn) (hg1 (by omega)).1 (fun w_q_3 f_q_3 hC_q_3 hL_q_3 hR_q_3 hfs_q_3 hf_q_3 hbo_q_3 => ?_)
        refine R_call1 r_179_129 rfl rfl (Nat.le_of_ble_eq_true rfl) (Nat.le_of_ble_eq_true rfl) ?_
        refine m_bits (Nat.lt_trans (lowUp_lt _ _ 8) (by decide)) ?_
        refine R_aload_n r_179_132 rfl (by decide) ?_
        refine R_getf r_179_133 (by decide) hC_q_3.1 rfl ?_
        refine R_iload r_179_136 rfl ?_
        refine R_iald r_179_138 (by decide) (hC_q_3.2 36 (by decide) (by decide)) (sm_ixG (by rw [hfs_q_3 36 (by decide) (by decide)]; exact hs36 (by omega)) (by omega)) ?_
        refine R_icmp_ne_N r_179_139 (by decide) (by have : pc8 (lvs I (wHeld w n) (sl.getD i (0, 0)).1) ≤ 8 := pcUp_le _ 8; omega) (by have := (hg1 (by omega)).2; omega) (fun h_4 => ?_) (fun h_4 => ?_)
        · refine R_iconst r_179_146 (v := nI 0) rfl ?_
          refine R_istore r_179_147 rfl ?_
          refine R_iinc1 r_179_149 rfl rfl ?_
          refine R_goto r_179_152 (by decide) ?_
          have e0 : c = true := by assumption
          have h9 := fun c2 hc2 => ih (i + 1) c2 _ _ (by omega) hC_q_3 hL_q_3 hR_q_3 (hfk.tr hfs_q_3.fk) (frm.tr hf hf_q_3) (by rw [hfs_q_3 40 (by decide) (by decide)]; exact h40) hc2
          rw [e0, Bool.true_and] at hq
          first | (rw [agF_t (by assumption)] at hq; exact h9 true (by rw [Bool.true_and]; exact hq)) | (rw [agF_f (by assumption)] at hq; exact h9 false (by rw [Bool.false_and]; exact hq))
        · refine R_iconst r_179_142 (v := nI 1) rfl ?_
          refine R_goto r_179_143 (by decide) ?_
          refine R_istore r_179_147 rfl ?_
          refine R_iinc1 r_179_149 rfl rfl ?_
          refine R_goto r_179_152 (by decide) ?_
          have e0 : c = true := by assumption
          have h9 := fun c2 hc2 => ih (i + 1) c2 _ _ (by omega) hC_q_3 hL_q_3 hR_q_3 (hfk.tr hfs_q_3.fk) (frm.tr hf hf_q_3) (by rw [hfs_q_3 40 (by decide) (by decide)]; exact h40) hc2
          rw [e0, Bool.true_and] at hq
          first | (rw [agF_t (by assumption)] at hq; exact h9 true (by rw [Bool.true_and]; exact hq)) | (rw [agF_f (by assumption)] at hq; exact h9 false (by rw [Bool.false_and]; exact hq))
theorem lp_oar4 {xs : List Int32} {d : Nat} {Q : Option Value → sm_W → Prop} {I : sm_Is} {w : Nat} (hW : iWF I) {ln um km sn sp : Int32} {x1 v2 v3 : Int32} {h5 h6 : Option Value} {wd0 : sm_W} {f0 : Nat → List Int32} (hQ : ∀ wd f, mC wd ln um km sn sp f → mL f → mR I w f → fk f0 f → frm 22 40 wd0 wd → Q (some (.int (if x1 = 0 then v2 else v3))) wd)  : ∀ (k : Nat) (b h : Nat) (wd : sm_W) (f : Nat → List Int32), (b + k = 5) → (mC wd ln um km sn sp f) → (mL f) → (mR I (wHeld w h) f) → (fk f0 f) → (frm 22 40 wd0 wd) → (∀ t, t < 5 → (f 40)[t]? = some (b2i ((sHeld w).testBit t))) → (h < 32) → (∀ t, t < b → h.testBit t = (sHeld w).testBit t) → RT xs (d + 4) 179 193 [some (.ref 22), some (.int x1), some (.int v2), some (.int v3), some (.int (nI b)), h5, h6] [] wd Q := by
  intro k
  induction k with
  | zero =>
    intro b h wd f hk hC hL hR hfk hf h40 hh he
    have hW4 := hW.2.2.2.1
    refine R_iload r_179_193 rfl ?_
    refine R_iconst r_179_195 (v := nI 5) rfl ?_
    refine R_icmp_ge_N r_179_196 (by decide) (by omega) (by omega) (fun h_1 => ?_) (fun h_1 => ?_)
    · refine R_iload_n r_179_222 rfl ?_
      refine R_if_ne r_179_223 (by decide) (fun h_2 => ?_) (fun h_2 => ?_)
      · refine R_iload_n r_179_230 rfl ?_
        refine R_iret r_179_231 (ty := .int) rfl rfl (by decide) ?_
        obtain rfl := eq_low (n := 5) hh (sHeld_lt w) (fun t ht => he t (by omega))
        have h9 := hQ _ _ hC hL (hR.eq hW.2.2.2.1 eqW_h0.symm) hfk hf; first | (rw [if_pos (by assumption)] at h9; exact h9) | (rw [if_neg (by assumption)] at h9; exact h9)
      · refine R_iload_n r_179_226 rfl ?_
        refine R_goto r_179_227 (by decide) ?_
        refine R_iret r_179_231 (ty := .int) rfl rfl (by decide) ?_
        obtain rfl := eq_low (n := 5) hh (sHeld_lt w) (fun t ht => he t (by omega))
        have h9 := hQ _ _ hC hL (hR.eq hW.2.2.2.1 eqW_h0.symm) hfk hf; first | (rw [if_pos (by assumption)] at h9; exact h9) | (rw [if_neg (by assumption)] at h9; exact h9)
    · exfalso; omega
  | succ k ih =>
    intro b h wd f hk hC hL hR hfk hf h40 hh he
    have hW4 := hW.2.2.2.1
    refine R_iload r_179_193 rfl ?_
    refine R_iconst r_179_195 (v := nI 5) rfl ?_
    refine R_icmp_ge_N r_179_196 (by decide) (by omega) (by omega) (fun h_1 => ?_) (fun h_1 => ?_)
    · exfalso; omega
    · refine R_aload_n r_179_199 rfl (by decide) ?_
      refine R_getf r_179_200 (by decide) hC.1 rfl ?_
      refine R_bipush r_179_203 (v := nI 16) rfl ?_
      refine R_iload r_179_205 rfl ?_
      refine R_iaddN r_179_207 ?_
      refine R_aload_n r_179_208 rfl (by decide) ?_
      refine R_getf r_179_209 (by decide) hC.1 rfl ?_
      refine R_iload r_179_212 rfl ?_
      refine R_iald r_179_214 (by decide) (hC.2 40 (by decide) (by decide)) (sm_ixG (h40 b (by omega)) (by omega)) ?_
      refine R_mst r_179_215 hC hL (by decide) (by decide) (by show _ < (24 : Nat); omega) (by decide) (fun w_q_2 f_q_2 hC_q_2 hL_q_2 e_q_2 hf_q_2 => ?_)
      have hR_q_2 : mR I (wHeld w (putB h b ((sHeld w).testBit b))) f_q_2 := by rw [e_q_2]; exact (hR).now (row_set hW4 (by rw [hL 32 (by decide) (by decide)]; show _ < (24 : Nat); omega) (row_held2 hW4 (hR).2 (hh) (by omega) (putB_lt (n := 5) hh (by omega)) (by rw [putB_bit, if_pos rfl]) (fun t _ ht => by rw [putB_bit, if_neg ht])))
      refine R_iinc1 r_179_216 rfl rfl ?_
      refine R_goto r_179_219 (by decide) ?_
      exact ih (b + 1) _ _ _ (by omega) hC_q_2 hL_q_2 hR_q_2 (by rw [e_q_2]; exact hfk.up (by decide)) (frm.tr hf hf_q_2) (by rw [e_q_2, fu_n (by decide)]; exact h40) (putB_lt (n := 5) hh (by omega)) (put_low he rfl)
theorem lp_moars {xs : List Int32} {d : Nat} {Q : Option Value → sm_W → Prop} {I : sm_Is} {w : Nat} (hW : iWF I) (hw : wfW I w) {ln um km sp : Int32} {x1 : Int32} {sl : List (Nat × Nat)} (hsn : snB sl) (hsl : sl.length ≤ 8) {wd0 : sm_W} {f0 : Nat → List Int32} (h36 : ∀ t, t < sl.length → (f0 35)[t]? = some (nI (sl.getD t (0, 0)).1) ∧ (f0 36)[t]? = some (nI (sl.getD t (0, 0)).2)) (hQ : ∀ wd f, mC wd ln um km (nI sl.length) sp f → mL f → mR I w f → fk f0 f → frm 22 40 wd0 wd → Q (some (.int (if x1 = 0 then nI (oaS I sl w (1 <<< iB I)).1 else noI (oaS I sl w (1 <<< iB I)).2))) wd)  : ∀ (k : Nat) (n h : Nat) (h5 h6 : Option Value) (wd : sm_W) (f : Nat → List Int32), (n + k = 1 <<< iB I) → (mC wd ln um km (nI sl.length) sp f) → (mL f) → (mR I (wHeld w h) f) → (fk f0 f) → (frm 22 40 wd0 wd) → (∀ t, t < 5 → (f 40)[t]? = some (b2i ((sHeld w).testBit t))) → (h < 2 ^ iB I) → RT xs (d + 4) 179 48 [some (.ref 22), some (.int x1), some (.int (nI (oaS I sl w n).1)), some (.int (noI (oaS I sl w n).2)), some (.int (nI n)), h5, h6] [] wd Q := by
  intro k
  induction k with
  | zero =>
    intro n h h5 h6 wd f hk hC hL hR hfk hf h40 hh
    obtain ⟨hW1, hW2, hW3, hW4, hW5, hW6, hW7, hW8, hW9, hW10, hW11, hW12, hW13, hW14, hW15⟩ := id hW
    have hal := all_lt hW
    have has := all_shl I
    have has2 := all_shl2 I
    have hol := oaS_le I sl w n
    have hsl5 : 1 <<< iB I ≤ 32 := by rw [Nat.one_shiftLeft]; exact Nat.pow_le_pow_right (by decide) hW5
    refine R_iload r_179_48 rfl ?_
    refine R_iconst r_179_50 (v := nI 1) rfl ?_
    refine R_aload_n r_179_51 rfl (by decide) ?_
    refine R_getf r_179_52 (by decide) hC.1 rfl ?_
    refine R_iconst r_179_55 (v := nI 0) rfl ?_
    refine R_iald r_179_56 (by decide) (hC.2 29 (by decide) (by decide)) hR.rB ?_
    refine R_ishlN r_179_57 (by omega) ?_
    refine R_icmp_ge_N r_179_58 (by decide) (by omega) (by omega) (fun h_1 => ?_) (fun h_1 => ?_)
    · obtain rfl : n = 1 <<< iB I := by omega
      refine R_iconst r_179_190 (v := nI 0) rfl ?_
      refine R_istore r_179_191 rfl ?_
      exact lp_oar4 hW hQ 5 0 _ _ _ (by omega) hC hL hR hfk hf h40 (lt32 hW5 hh) (fun t ht => absurd ht (by omega))
    · exfalso; omega
  | succ k ih =>
    intro n h h5 h6 wd f hk hC hL hR hfk hf h40 hh
    obtain ⟨hW1, hW2, hW3, hW4, hW5, hW6, hW7, hW8, hW9, hW10, hW11, hW12, hW13, hW14, hW15⟩ := id hW
    have hal := all_lt hW
    have has := all_shl I
    have has2 := all_shl2 I
    have hol := oaS_le I sl w n
    have hsl5 : 1 <<< iB I ≤ 32 := by rw [Nat.one_shiftLeft]; exact Nat.pow_le_pow_right (by decide) hW5
    refine R_iload r_179_48 rfl ?_
    refine R_iconst r_179_50 (v := nI 1) rfl ?_
    refine R_aload_n r_179_51 rfl (by decide) ?_
    refine R_getf r_179_52 (by decide) hC.1 rfl ?_
    refine R_iconst r_179_55 (v := nI 0) rfl ?_
    refine R_iald r_179_56 (by decide) (hC.2 29 (by decide) (by decide)) hR.rB ?_
    refine R_ishlN r_179_57 (by omega) ?_
    refine R_icmp_ge_N r_179_58 (by decide) (by omega) (by omega) (fun h_1 => ?_) (fun h_1 => ?_)
    · exfalso; omega
    · have hn2 : n < 2 ^ iB I := by rw [Nat.one_shiftLeft] at hsl5; omega
      refine R_iconst r_179_61 (v := nI 0) rfl ?_
      refine R_istore r_179_62 rfl ?_
      refine lp_oar2 hW hn2 (fun wd2 f2 hC2 hL2 hR2 hk2 hf2 h42 h5 h6 => ?_) (iB I) 0 _ _ _ _ (by omega) hC hL hR hfk hf h40 hh (fun t ht => absurd ht (by omega))
      refine R_iconst r_179_98 (v := nI 1) rfl ?_
      refine R_istore r_179_99 rfl ?_
      refine R_iconst r_179_101 (v := nI 0) rfl ?_
      refine R_istore r_179_102 rfl ?_
      refine lp_oar3 hW hw hn2 hsn hsl h36 sl.length 0 true _ _ (by omega) hC2 hL2 hR2 hk2 hf2 h42 (fun wd3 f3 hC3 hL3 hR3 hk3 hf3 h43 h6 => ?_)
      rw [Bool.true_and]
      refine R_iload r_179_155 rfl ?_
      refine R_if_eq_b r_179_157 (by decide) (fun h_71 => ?_) (fun h_71 => ?_)
      · refine R_iload_n r_179_169 rfl ?_
        refine R_istore_n r_179_170 rfl ?_
        refine R_iload_n r_179_171 rfl ?_
        refine R_iload r_179_172 rfl ?_
        refine R_if_eq_b r_179_174 (by decide) (fun h_72 => ?_) (fun h_72 => ?_)
        · refine R_iconst r_179_181 (v := nI 0) rfl ?_
          refine R_iaddN r_179_182 ?_
          refine R_istore_n r_179_183 rfl ?_
          refine R_iinc1 r_179_184 rfl rfl ?_
          refine R_goto r_179_187 (by decide) ?_
          have h9 := fun h5 h6 => ih (n + 1) _ h5 h6 _ _ (by omega) hC3 hL3 hR3 hk3 hf3 h43 hn2
          first | exact Bool.noConfusion ((by assumption : agr I sl (wHeld w n) = true).symm.trans (by assumption : agr I sl (wHeld w n) = false)) | (rw [oaS_f (by assumption)] at h9; exact h9 _ _) | (rw [oaS_0 (by assumption) (by assumption), noI_n (by omega)] at h9; exact h9 _ _) | (rw [oaS_1 (by assumption) (by assumption)] at h9; exact h9 _ _)
        · refine R_iconst r_179_177 (v := nI 1) rfl ?_
          refine R_goto r_179_178 (by decide) ?_
          refine R_iaddN r_179_182 ?_
          refine R_istore_n r_179_183 rfl ?_
          refine R_iinc1 r_179_184 rfl rfl ?_
          refine R_goto r_179_187 (by decide) ?_
          have h9 := fun h5 h6 => ih (n + 1) _ h5 h6 _ _ (by omega) hC3 hL3 hR3 hk3 hf3 h43 hn2
          first | exact Bool.noConfusion ((by assumption : agr I sl (wHeld w n) = true).symm.trans (by assumption : agr I sl (wHeld w n) = false)) | (rw [oaS_f (by assumption)] at h9; exact h9 _ _) | (rw [oaS_0 (by assumption) (by assumption), noI_n (by omega)] at h9; exact h9 _ _) | (rw [oaS_1 (by assumption) (by assumption)] at h9; exact h9 _ _)
      · refine R_iload_n r_179_160 rfl ?_
        refine R_if_ne_N r_179_161 (by decide) (by omega) (fun h_73 => ?_) (fun h_73 => ?_)
        · refine R_iload_n r_179_169 rfl ?_
          refine R_istore_n r_179_170 rfl ?_
          refine R_iload_n r_179_171 rfl ?_
          refine R_iload r_179_172 rfl ?_
          refine R_if_eq_b r_179_174 (by decide) (fun h_74 => ?_) (fun h_74 => ?_)
          · refine R_iconst r_179_181 (v := nI 0) rfl ?_
            refine R_iaddN r_179_182 ?_
            refine R_istore_n r_179_183 rfl ?_
            refine R_iinc1 r_179_184 rfl rfl ?_
            refine R_goto r_179_187 (by decide) ?_
            have h9 := fun h5 h6 => ih (n + 1) _ h5 h6 _ _ (by omega) hC3 hL3 hR3 hk3 hf3 h43 hn2
            first | exact Bool.noConfusion ((by assumption : agr I sl (wHeld w n) = true).symm.trans (by assumption : agr I sl (wHeld w n) = false)) | (rw [oaS_f (by assumption)] at h9; exact h9 _ _) | (rw [oaS_0 (by assumption) (by assumption), noI_n (by omega)] at h9; exact h9 _ _) | (rw [oaS_1 (by assumption) (by assumption)] at h9; exact h9 _ _)
          · refine R_iconst r_179_177 (v := nI 1) rfl ?_
            refine R_goto r_179_178 (by decide) ?_
            refine R_iaddN r_179_182 ?_
            refine R_istore_n r_179_183 rfl ?_
            refine R_iinc1 r_179_184 rfl rfl ?_
            refine R_goto r_179_187 (by decide) ?_
            have h9 := fun h5 h6 => ih (n + 1) _ h5 h6 _ _ (by omega) hC3 hL3 hR3 hk3 hf3 h43 hn2
            first | exact Bool.noConfusion ((by assumption : agr I sl (wHeld w n) = true).symm.trans (by assumption : agr I sl (wHeld w n) = false)) | (rw [oaS_f (by assumption)] at h9; exact h9 _ _) | (rw [oaS_0 (by assumption) (by assumption), noI_n (by omega)] at h9; exact h9 _ _) | (rw [oaS_1 (by assumption) (by assumption)] at h9; exact h9 _ _)
        · refine R_iload r_179_164 rfl ?_
          refine R_goto r_179_166 (by decide) ?_
          refine R_istore_n r_179_170 rfl ?_
          refine R_iload_n r_179_171 rfl ?_
          refine R_iload r_179_172 rfl ?_
          refine R_if_eq_b r_179_174 (by decide) (fun h_75 => ?_) (fun h_75 => ?_)
          · refine R_iconst r_179_181 (v := nI 0) rfl ?_
            refine R_iaddN r_179_182 ?_
            refine R_istore_n r_179_183 rfl ?_
            refine R_iinc1 r_179_184 rfl rfl ?_
            refine R_goto r_179_187 (by decide) ?_
            have h9 := fun h5 h6 => ih (n + 1) _ h5 h6 _ _ (by omega) hC3 hL3 hR3 hk3 hf3 h43 hn2
            first | exact Bool.noConfusion ((by assumption : agr I sl (wHeld w n) = true).symm.trans (by assumption : agr I sl (wHeld w n) = false)) | (rw [oaS_f (by assumption)] at h9; exact h9 _ _) | (rw [oaS_0 (by assumption) (by assumption), noI_n (by omega)] at h9; exact h9 _ _) | (rw [oaS_1 (by assumption) (by assumption)] at h9; exact h9 _ _)
          · refine R_iconst r_179_177 (v := nI 1) rfl ?_
            refine R_goto r_179_178 (by decide) ?_
            refine R_iaddN r_179_182 ?_
            refine R_istore_n r_179_183 rfl ?_
            refine R_iinc1 r_179_184 rfl rfl ?_
            refine R_goto r_179_187 (by decide) ?_
            have h9 := fun h5 h6 => ih (n + 1) _ h5 h6 _ _ (by omega) hC3 hL3 hR3 hk3 hf3 h43 hn2
            first | exact Bool.noConfusion ((by assumption : agr I sl (wHeld w n) = true).symm.trans (by assumption : agr I sl (wHeld w n) = false)) | (rw [oaS_f (by assumption)] at h9; exact h9 _ _) | (rw [oaS_0 (by assumption) (by assumption), noI_n (by omega)] at h9; exact h9 _ _) | (rw [oaS_1 (by assumption) (by assumption)] at h9; exact h9 _ _)
theorem m_oars {xs : List Int32} {d : Nat} {wd : sm_W} {Q : Option Value → sm_W → Prop} {tx : List Nat} {I : sm_Is} {w : Nat} {pa sh : List Nat} {sn : List (Nat × Nat)} (hX : mX wd tx I w pa sh sn) (hW : iWF I) (hw : wfW I w) (hsn : snB sn) {x1 : Int32} (hB : inR x1 2 = false → Q (some (.int (-1))) wd) (hQ : inR x1 2 = true → ∀ w2, mX w2 tx I w pa sh sn → frm 22 40 wd w2 → Q (some (.int (if x1 = 0 then nI (oaS I sn w (1 <<< iB I)).1 else noI (oaS I sn w (1 <<< iB I)).2))) w2) : Ct xs (d + 4) 179 [.ref 22, .int x1] wd Q := by
  unfold Ct
  show RT xs (d + 4) 179 0 [some (.ref 22), some (.int x1), none, none, none, none, none] [] wd Q
  obtain ⟨sp, f, hC, hL, hR, hT⟩ := id hX
  obtain ⟨hW1, hW2, hW3, hW4, hW5, hW6, hW7, hW8, hW9, hW10, hW11, hW12, hW13, hW14, hW15⟩ := id hW
  obtain ⟨hT1, hT2, hT3, hT4⟩ := id hT
  refine R_iload_n r_179_0 rfl ?_
  refine R_i2l r_179_1 ?_
  refine R_lconst r_179_2 (v := lN 0) rfl ?_
  refine R_lconst r_179_3 (v := lN 1) rfl ?_
  refine R_call3 r_179_4 rfl rfl (Nat.le_of_ble_eq_true rfl) (Nat.le_of_ble_eq_true rfl) ?_
  refine m_in (c := inR x1 2) (in_q (by decide)) ?_
  refine R_if_ne_b r_179_7 (by decide) (fun h_1 => ?_) (fun h_1 => ?_)
  · refine R_iconst r_179_12 (v := nI 0) rfl ?_
    refine R_istore_n r_179_13 rfl ?_
    refine lp_oar1 hW (w := w) (f0 := f) (wd0 := wd) (fun wd1 f1 hC1 hL1 hR1 hk1 hf1 h41 => ?_) 5 0 _ _ (by omega) hC hL hR fk.rf frm.rf (fun t ht => absurd ht (by omega))
    refine R_iconst r_179_40 (v := nI 0) rfl ?_
    refine R_istore_n r_179_41 rfl ?_
    refine R_bipush r_179_42 (v := (-4)) rfl ?_
    refine R_istore_n r_179_44 rfl ?_
    refine R_iconst r_179_45 (v := nI 0) rfl ?_
    refine R_istore r_179_46 rfl ?_
    exact lp_moars hW hw hsn hT4.1 (f0 := f) (wd0 := wd) hT4.2 (fun wd2 f2 hC2 hL2 hR2 hk2 hf2 => hQ (by assumption) _ ⟨_, _, hC2, hL2, hR2, hT.fk hk2⟩ hf2) (1 <<< iB I) 0 (sHeld w) _ _ _ _ (by omega) hC1 hL1 (hR1.eq hW4 eqW_h0) hk1 hf1 h41 hw.2.2.2
  · refine R_iconst r_179_10 (v := (-1)) rfl ?_
    refine R_iret r_179_11 (ty := .int) rfl rfl (by decide) ?_
    exact hB (by assumption)
