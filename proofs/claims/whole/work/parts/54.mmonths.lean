/-! the model: months -/
theorem fk_e {f f2 : Nat → List Int32} {j : Nat} {l : List Int32} (e : f2 = fu f j l) (hj : ¬ (j = 23 ∨ (33 ≤ j ∧ j ≤ 36))) : fk f f2 := by subst e; exact fk.rf.up hj
theorem eqW_w0 {w : Nat} : eqW w (wWeather w (sStorm w) (sIce w)) := ⟨fun i hi => ⟨(sLean_wW hi).symm, (sMind_wW hi).symm⟩, sHeld_wW.symm, sStorm_wW.symm, sIce_wW.symm⟩
theorem eqW_ww {w : Nat} {a b s i : Bool} : eqW (wWeather (wWeather w a b) s i) (wWeather w s i) := ⟨fun k hk => ⟨by rw [sLean_wW hk, sLean_wW hk, sLean_wW hk], by rw [sMind_wW hk, sMind_wW hk, sMind_wW hk]⟩, by rw [sHeld_wW, sHeld_wW, sHeld_wW], by rw [sStorm_wW, sStorm_wW], by rw [sIce_wW, sIce_wW]⟩
theorem row_storm2 {I : sm_Is} {w : Nat} {a c s : Bool} {v : Int32} {g : Nat → Option Int32} (h8 : iN I ≤ 8) (h : rowR I (wWeather w a c) g) (hv : v = b2i s) : rowR I (wWeather w s c) (rup 21 v g) := by
  subst hv; exact (row_storm h8 h sIce_wW).eq h8 eqW_ww
theorem row_ice2 {I : sm_Is} {w : Nat} {a c s : Bool} {v : Int32} {g : Nat → Option Int32} (h8 : iN I ≤ 8) (h : rowR I (wWeather w a c) g) (hv : v = b2i s) : rowR I (wWeather w a s) (rup 22 v g) := by
  subst hv; exact (row_ice h8 h sStorm_wW).eq h8 eqW_ww
theorem dec_v1 {p : Prop} [Decidable p] (h : p) : nI 1 = b2i (decide p) := by rw [decide_eq_true h]; rfl
theorem dec_v0 {p : Prop} [Decidable p] (h : ¬ p) : nI 0 = b2i (decide p) := by rw [decide_eq_false h]; rfl
theorem in_lo {x : Int32} : (decide (lN 1 ≤ x.toInt64) && decide (x.toInt64 ≤ lN 60)) = (inR x 61 && !inR x 1) := by
  rw [in_x (by decide) (by decide)]
  unfold inR
  rw [← decide_not, ← Bool.decide_and, ← Bool.decide_and]
  refine decide_eq_decide.mpr ?_
  simp only [fa_le, fa_lt, nI_toInt (by decide : (1 : Nat) < 2 ^ 31), nI_toInt (by decide : (60 : Nat) < 2 ^ 31), nI_toInt (by decide : (61 : Nat) < 2 ^ 31)]
  have h0 : (0 : Int32).toInt = 0 := rfl
  omega
theorem mo_n {x : Int32} (h : (inR x 61 && !inR x 1) = true) : ∃ n, n < 61 ∧ 1 ≤ n ∧ x = nI n := by
  rw [Bool.and_eq_true] at h
  obtain ⟨n, hn, rfl⟩ := inR_of h.1 (by decide)
  refine ⟨n, hn, ?_, rfl⟩
  have h2 := h.2
  rw [inR_N (by omega) (by decide)] at h2
  simp at h2
  omega
theorem lp_mmon {xs : List Int32} {d : Nat} {Q : Option Value → sm_W → Prop} {I : sm_Is} {w : Nat} (hW : iWF I) (hw : wfW I w) {ln um km sn sp : Int32} {z N : Nat} (hz : z < 10000) (hN : N < 61) {x3 : Int32} {wd0 : sm_W} {f0 : Nat → List Int32} (hQ : ∀ wd f, mC wd ln um km sn sp f → mL f → mR I w f → fk f0 f → frm 22 40 wd0 wd → Q (some (.int (nI (moS I w z x3 N)))) wd)  : ∀ (k : Nat) (n : Nat) (a c : Bool) (h8 h9 h10 h11 h12 : Option Value) (wd : sm_W) (f : Nat → List Int32), (n + k = N) → (mC wd ln um km sn sp f) → (mL f) → (mR I (wWeather w a c) f) → (fk f0 f) → (frm 22 40 wd0 wd) → RT xs (d + 4) 183 60 [some (.ref 22), some (.int (nI z)), some (.int (nI N)), some (.int x3), some (.int (b2i (sStorm w))), some (.int (b2i (sIce w))), some (.int (nI (moS I w z x3 n))), some (.int (nI n)), h8, h9, h10, h11, h12] [] wd Q := by
  intro k
  induction k with
  | zero =>
    intro n a c h8 h9 h10 h11 h12 wd f hk hC hL hR hfk hf
    obtain ⟨hW1, hW2, hW3, hW4, hW5, hW6, hW7, hW8, hW9, hW10, hW11, hW12, hW13, hW14, hW15⟩ := id hW
    have hal := all_lt hW
    have has := all_shl I
    have has2 := all_shl2 I
    have hdl := drw_lt z n
    have hml := moS_le I w z x3 n
    refine R_iload r_183_60 rfl ?_
    refine R_iload_n r_183_62 rfl ?_
    refine R_icmp_ge_N r_183_63 (by decide) (by omega) (by omega) (fun h_1 => ?_) (fun h_1 => ?_)
    · refine R_aload_n r_183_209 rfl (by decide) ?_
      refine R_getf r_183_210 (by decide) hC.1 rfl ?_
      refine R_bipush r_183_213 (v := nI 21) rfl ?_
      refine R_iload r_183_215 rfl ?_
      refine R_mst r_183_217 hC hL (by decide) (by decide) (by show _ < (24 : Nat); omega) (by decide) (fun w_q_2 f_q_2 hC_q_2 hL_q_2 e_q_2 hf_q_2 => ?_)
      have hR_q_2 : mR I (wWeather w (sStorm w) c) f_q_2 := by rw [e_q_2]; exact (hR).now (row_set hW4 (by rw [hL 32 (by decide) (by decide)]; show _ < (24 : Nat); omega) (row_storm2 hW4 (hR).2 (rfl)))
      refine R_aload_n r_183_218 rfl (by decide) ?_
      refine R_getf r_183_219 (by decide) hC_q_2.1 rfl ?_
      refine R_bipush r_183_222 (v := nI 22) rfl ?_
      refine R_iload r_183_224 rfl ?_
      refine R_mst r_183_226 hC_q_2 hL_q_2 (by decide) (by decide) (by show _ < (24 : Nat); omega) (by decide) (fun w_q_3 f_q_3 hC_q_3 hL_q_3 e_q_3 hf_q_3 => ?_)
      have hR_q_3 : mR I (wWeather w (sStorm w) (sIce w)) f_q_3 := by rw [e_q_3]; exact (hR_q_2).now (row_set hW4 (by rw [hL_q_2 32 (by decide) (by decide)]; show _ < (24 : Nat); omega) (row_ice2 hW4 (hR_q_2).2 (rfl)))
      refine R_iload r_183_227 rfl ?_
      refine R_iret r_183_229 (ty := .int) rfl rfl (by decide) ?_
      obtain rfl : n = N := by omega
      exact hQ _ _ hC_q_3 hL_q_3 ((hR_q_3).eq hW4 eqW_w0.symm) (fk.tr hfk (fk.tr (fk_e e_q_2 (by decide)) (fk_e e_q_3 (by decide)))) (frm.tr (frm.tr hf hf_q_2) hf_q_3)
    · exfalso; omega
  | succ k ih =>
    intro n a c h8 h9 h10 h11 h12 wd f hk hC hL hR hfk hf
    obtain ⟨hW1, hW2, hW3, hW4, hW5, hW6, hW7, hW8, hW9, hW10, hW11, hW12, hW13, hW14, hW15⟩ := id hW
    have hal := all_lt hW
    have has := all_shl I
    have has2 := all_shl2 I
    have hdl := drw_lt z n
    have hml := moS_le I w z x3 n
    refine R_iload r_183_60 rfl ?_
    refine R_iload_n r_183_62 rfl ?_
    refine R_icmp_ge_N r_183_63 (by decide) (by omega) (by omega) (fun h_1 => ?_) (fun h_1 => ?_)
    · exfalso; omega
    · refine R_ldc2_w r_183_66 (v := lN 7919) rfl ?_
      refine R_iload_n r_183_69 rfl ?_
      refine R_i2lN r_183_70 (by omega) ?_
      refine R_lmulN r_183_71 ?_
      refine R_ldc2_w r_183_72 (v := lN 6151) rfl ?_
      refine R_iload r_183_75 rfl ?_
      refine R_i2lN r_183_77 (by omega) ?_
      refine R_lmulN r_183_78 ?_
      refine R_laddN r_183_79 ?_
      refine R_lconst r_183_80 (v := lN 1) rfl ?_
      refine R_laddN r_183_81 ?_
      refine R_lstore r_183_82 rfl ?_
      refine R_lload r_183_84 rfl ?_
      refine R_lload r_183_86 rfl ?_
      refine R_lmulN r_183_88 ?_
      refine R_ldc2_w r_183_89 (v := lN 65521) rfl ?_
      refine R_lremN r_183_92 (drw_xx hz (by omega)) (by decide) (by decide) ?_
      refine R_l2iN r_183_93 ?_
      refine R_iconst r_183_94 (v := nI 2) rfl ?_
      refine R_idivN r_183_95 (by have := Nat.mod_lt ((7919 * z + 6151 * n + 1) * (7919 * z + 6151 * n + 1)) (by decide : 0 < 65521); omega) (by omega) (by omega) ?_
      rw [show (7919 * z + 6151 * n + 1) * (7919 * z + 6151 * n + 1) % 65521 / 2 = drw z n from rfl]
      refine R_istore r_183_96 rfl ?_
      refine R_aload_n r_183_98 rfl (by decide) ?_
      refine R_getf r_183_99 (by decide) hC.1 rfl ?_
      refine R_bipush r_183_102 (v := nI 21) rfl ?_
      refine R_iload r_183_104 rfl ?_
      refine R_iconst r_183_106 (v := nI 4) rfl ?_
      refine R_iremN r_183_107 (by omega) (by omega) (by omega) ?_
      refine R_if_ne_N r_183_108 (by decide) (by omega) (fun h_2 => ?_) (fun h_2 => ?_)
      · refine R_iconst r_183_115 (v := nI 0) rfl ?_
        refine R_mst r_183_116 hC hL (by decide) (by decide) (by show _ < (24 : Nat); omega) (by decide) (fun w_q_3 f_q_3 hC_q_3 hL_q_3 e_q_3 hf_q_3 => ?_)
        have hR_q_3 : mR I (wWeather w (decide (drw z n % 4 = 0)) c) f_q_3 := by rw [e_q_3]; exact (hR).now (row_set hW4 (by rw [hL 32 (by decide) (by decide)]; show _ < (24 : Nat); omega) (row_storm2 hW4 (hR).2 (by first | exact dec_v1 (by assumption) | exact dec_v0 (by assumption))))
        refine R_aload_n r_183_117 rfl (by decide) ?_
        refine R_getf r_183_118 (by decide) hC_q_3.1 rfl ?_
        refine R_bipush r_183_121 (v := nI 22) rfl ?_
        refine R_iload r_183_123 rfl ?_
        refine R_bipush r_183_125 (v := nI 7) rfl ?_
        refine R_iremN r_183_127 (by omega) (by omega) (by omega) ?_
        refine R_if_ne_N r_183_128 (by decide) (by omega) (fun h_4 => ?_) (fun h_4 => ?_)
        · refine R_iconst r_183_135 (v := nI 0) rfl ?_
          refine R_mst r_183_136 hC_q_3 hL_q_3 (by decide) (by decide) (by show _ < (24 : Nat); omega) (by decide) (fun w_q_5 f_q_5 hC_q_5 hL_q_5 e_q_5 hf_q_5 => ?_)
          have hR_q_5 : mR I (moW w z n) f_q_5 := by rw [e_q_5]; exact (hR_q_3).now (row_set hW4 (by rw [hL_q_3 32 (by decide) (by decide)]; show _ < (24 : Nat); omega) (row_ice2 hW4 (hR_q_3).2 (by first | exact dec_v1 (by assumption) | exact dec_v0 (by assumption))))
          refine R_aload_n r_183_137 rfl (by decide) ?_
          refine R_iload r_183_138 rfl ?_
          refine R_bipush r_183_140 (v := nI 8) rfl ?_
          refine R_idivN r_183_142 (by omega) (by omega) (by omega) ?_
          refine R_iconst r_183_143 (v := nI 2) rfl ?_
          refine R_iremN r_183_144 (by omega) (by omega) (by omega) ?_
          refine R_call2 r_183_145 rfl (sm_rvM rfl rfl rfl hC_q_5) (Nat.le_of_ble_eq_true rfl) (Nat.le_of_ble_eq_true rfl) ?_
          refine m_leaving hC_q_5 hR_q_5 hL_q_5 hW (wf_W hW4 hw) (Nat.mod_lt _ (by decide)) (fun w_q_6 f_q_6 hC_q_6 hL_q_6 hR_q_6 hfs_q_6 hf_q_6 hbo_q_6 => ?_)
          refine R_istore r_183_148 rfl ?_
          refine R_iload_n r_183_150 rfl ?_
          refine R_if_ne r_183_151 (by decide) (fun h_7 => ?_) (fun h_7 => ?_)
          · refine R_aload_n r_183_166 rfl (by decide) ?_
            refine R_iload r_183_167 rfl ?_
            refine R_call2 r_183_169 rfl (sm_rvM rfl rfl rfl hC_q_6) (Nat.le_of_ble_eq_true rfl) (Nat.le_of_ble_eq_true rfl) ?_
            refine m_cowsWithout hC_q_6 hR_q_6 hL_q_6 hW (Nat.lt_trans (lowUp_lt _ _ 8) (by decide)) ?_
            refine R_aload_n r_183_172 rfl (by decide) ?_
            refine R_getf r_183_173 (by decide) hC_q_6.1 rfl ?_
            refine R_iconst r_183_176 (v := nI 1) rfl ?_
            refine R_iald r_183_177 (by decide) (hC_q_6.2 31 (by decide) (by decide)) hR_q_6.l1 ?_
            refine R_icmp_lt_N r_183_178 (by decide) (by have := cowW_le hW (lvs I (moW w z n) (drw z n / 8 % 2)); omega) (by omega) (fun h_8 => ?_) (fun h_8 => ?_)
            · refine R_iconst r_183_185 (v := nI 0) rfl ?_
              refine R_istore r_183_186 rfl ?_
              refine R_iload r_183_188 rfl ?_
              refine R_iload r_183_190 rfl ?_
              refine R_ifT r_183_192 (by decide) (by decide) ?_
              refine R_iconst r_183_199 (v := nI 0) rfl ?_
              refine R_iaddN r_183_200 ?_
              refine R_istore r_183_201 rfl ?_
              refine R_iinc1 r_183_203 rfl rfl ?_
              refine R_goto r_183_206 (by decide) ?_
              have h9 := fun h8 h9 h10 h11 h12 => ih (n + 1) _ _ h8 h9 h10 h11 h12 _ _ (by omega) hC_q_6 hL_q_6 hR_q_6 (fk.tr hfk (fk.tr (fk_e e_q_3 (by decide)) (fk.tr (fk_e e_q_5 (by decide)) hfs_q_6.fk))) (frm.tr (frm.tr (frm.tr hf hf_q_3) hf_q_5) hf_q_6)
              first | (rw [moS_t (moT_0 (by assumption) (by assumption))] at h9; exact h9 _ _ _ _ _) | (rw [moS_f (moT_0 (by assumption) (by assumption))] at h9; exact h9 _ _ _ _ _) | (rw [moS_t (moT_1 (by assumption) (decide_eq_true (by assumption)))] at h9; exact h9 _ _ _ _ _) | (rw [moS_f (moT_1 (by assumption) (decide_eq_false (Nat.not_le.mpr (by assumption))))] at h9; exact h9 _ _ _ _ _)
            · refine R_iconst r_183_181 (v := nI 1) rfl ?_
              refine R_goto r_183_182 (by decide) ?_
              refine R_istore r_183_186 rfl ?_
              refine R_iload r_183_188 rfl ?_
              refine R_iload r_183_190 rfl ?_
              refine R_ifF r_183_192 (by decide) (by decide) ?_
              refine R_iconst r_183_195 (v := nI 1) rfl ?_
              refine R_goto r_183_196 (by decide) ?_
              refine R_iaddN r_183_200 ?_
              refine R_istore r_183_201 rfl ?_
              refine R_iinc1 r_183_203 rfl rfl ?_
              refine R_goto r_183_206 (by decide) ?_
              have h9 := fun h8 h9 h10 h11 h12 => ih (n + 1) _ _ h8 h9 h10 h11 h12 _ _ (by omega) hC_q_6 hL_q_6 hR_q_6 (fk.tr hfk (fk.tr (fk_e e_q_3 (by decide)) (fk.tr (fk_e e_q_5 (by decide)) hfs_q_6.fk))) (frm.tr (frm.tr (frm.tr hf hf_q_3) hf_q_5) hf_q_6)
              first | (rw [moS_t (moT_0 (by assumption) (by assumption))] at h9; exact h9 _ _ _ _ _) | (rw [moS_f (moT_0 (by assumption) (by assumption))] at h9; exact h9 _ _ _ _ _) | (rw [moS_t (moT_1 (by assumption) (decide_eq_true (by assumption)))] at h9; exact h9 _ _ _ _ _) | (rw [moS_f (moT_1 (by assumption) (decide_eq_false (Nat.not_le.mpr (by assumption))))] at h9; exact h9 _ _ _ _ _)
          · refine R_aload_n r_183_154 rfl (by decide) ?_
            refine R_iload r_183_155 rfl ?_
            refine R_call1 r_183_157 rfl rfl (Nat.le_of_ble_eq_true rfl) (Nat.le_of_ble_eq_true rfl) ?_
            refine m_bits (Nat.lt_trans (lowUp_lt _ _ 8) (by decide)) ?_
            refine R_call2 r_183_160 rfl (sm_rvM rfl rfl rfl hC_q_6) (Nat.le_of_ble_eq_true rfl) (Nat.le_of_ble_eq_true rfl) ?_
            refine m_isFall hC_q_6 hR_q_6 hL_q_6 hW (pcUp_le _ 8) ?_
            refine R_goto r_183_163 (by decide) ?_
            refine R_istore r_183_186 rfl ?_
            refine R_iload r_183_188 rfl ?_
            refine R_iload r_183_190 rfl ?_
            refine R_if_eq_b r_183_192 (by decide) (fun h_9 => ?_) (fun h_9 => ?_)
            · refine R_iconst r_183_199 (v := nI 0) rfl ?_
              refine R_iaddN r_183_200 ?_
              refine R_istore r_183_201 rfl ?_
              refine R_iinc1 r_183_203 rfl rfl ?_
              refine R_goto r_183_206 (by decide) ?_
              have h9 := fun h8 h9 h10 h11 h12 => ih (n + 1) _ _ h8 h9 h10 h11 h12 _ _ (by omega) hC_q_6 hL_q_6 hR_q_6 (fk.tr hfk (fk.tr (fk_e e_q_3 (by decide)) (fk.tr (fk_e e_q_5 (by decide)) hfs_q_6.fk))) (frm.tr (frm.tr (frm.tr hf hf_q_3) hf_q_5) hf_q_6)
              first | (rw [moS_t (moT_0 (by assumption) (by assumption))] at h9; exact h9 _ _ _ _ _) | (rw [moS_f (moT_0 (by assumption) (by assumption))] at h9; exact h9 _ _ _ _ _) | (rw [moS_t (moT_1 (by assumption) (decide_eq_true (by assumption)))] at h9; exact h9 _ _ _ _ _) | (rw [moS_f (moT_1 (by assumption) (decide_eq_false (Nat.not_le.mpr (by assumption))))] at h9; exact h9 _ _ _ _ _)
            · refine R_iconst r_183_195 (v := nI 1) rfl ?_
              refine R_goto r_183_196 (by decide) ?_
              refine R_iaddN r_183_200 ?_
              refine R_istore r_183_201 rfl ?_
              refine R_iinc1 r_183_203 rfl rfl ?_
              refine R_goto r_183_206 (by decide) ?_
              have h9 := fun h8 h9 h10 h11 h12 => ih (n + 1) _ _ h8 h9 h10 h11 h12 _ _ (by omega) hC_q_6 hL_q_6 hR_q_6 (fk.tr hfk (fk.tr (fk_e e_q_3 (by decide)) (fk.tr (fk_e e_q_5 (by decide)) hfs_q_6.fk))) (frm.tr (frm.tr (frm.tr hf hf_q_3) hf_q_5) hf_q_6)
              first | (rw [moS_t (moT_0 (by assumption) (by assumption))] at h9; exact h9 _ _ _ _ _) | (rw [moS_f (moT_0 (by assumption) (by assumption))] at h9; exact h9 _ _ _ _ _) | (rw [moS_t (moT_1 (by assumption) (decide_eq_true (by assumption)))] at h9; exact h9 _ _ _ _ _) | (rw [moS_f (moT_1 (by assumption) (decide_eq_false (Nat.not_le.mpr (by assumption))))] at h9; exact h9 _ _ _ _ _)
        · refine R_iconst r_183_131 (v := nI 1) rfl ?_
          refine R_goto r_183_132 (by decide) ?_
          refine R_mst r_183_136 hC_q_3 hL_q_3 (by decide) (by decide) (by show _ < (24 : Nat); omega) (by decide) (fun w_q_10 f_q_10 hC_q_10 hL_q_10 e_q_10 hf_q_10 => ?_)
          have hR_q_10 : mR I (moW w z n) f_q_10 := by rw [e_q_10]; exact (hR_q_3).now (row_set hW4 (by rw [hL_q_3 32 (by decide) (by decide)]; show _ < (24 : Nat); omega) (row_ice2 hW4 (hR_q_3).2 (by first | exact dec_v1 (by assumption) | exact dec_v0 (by assumption))))
          refine R_aload_n r_183_137 rfl (by decide) ?_
          refine R_iload r_183_138 rfl ?_
          refine R_bipush r_183_140 (v := nI 8) rfl ?_
          refine R_idivN r_183_142 (by omega) (by omega) (by omega) ?_
          refine R_iconst r_183_143 (v := nI 2) rfl ?_
          refine R_iremN r_183_144 (by omega) (by omega) (by omega) ?_
          refine R_call2 r_183_145 rfl (sm_rvM rfl rfl rfl hC_q_10) (Nat.le_of_ble_eq_true rfl) (Nat.le_of_ble_eq_true rfl) ?_
          refine m_leaving hC_q_10 hR_q_10 hL_q_10 hW (wf_W hW4 hw) (Nat.mod_lt _ (by decide)) (fun w_q_11 f_q_11 hC_q_11 hL_q_11 hR_q_11 hfs_q_11 hf_q_11 hbo_q_11 => ?_)
          refine R_istore r_183_148 rfl ?_
          refine R_iload_n r_183_150 rfl ?_
          refine R_if_ne r_183_151 (by decide) (fun h_12 => ?_) (fun h_12 => ?_)
          · refine R_aload_n r_183_166 rfl (by decide) ?_
            refine R_iload r_183_167 rfl ?_
            refine R_call2 r_183_169 rfl (sm_rvM rfl rfl rfl hC_q_11) (Nat.le_of_ble_eq_true rfl) (Nat.le_of_ble_eq_true rfl) ?_
            refine m_cowsWithout hC_q_11 hR_q_11 hL_q_11 hW (Nat.lt_trans (lowUp_lt _ _ 8) (by decide)) ?_
            refine R_aload_n r_183_172 rfl (by decide) ?_
            refine R_getf r_183_173 (by decide) hC_q_11.1 rfl ?_
            refine R_iconst r_183_176 (v := nI 1) rfl ?_
            refine R_iald r_183_177 (by decide) (hC_q_11.2 31 (by decide) (by decide)) hR_q_11.l1 ?_
            refine R_icmp_lt_N r_183_178 (by decide) (by have := cowW_le hW (lvs I (moW w z n) (drw z n / 8 % 2)); omega) (by omega) (fun h_13 => ?_) (fun h_13 => ?_)
            · refine R_iconst r_183_185 (v := nI 0) rfl ?_
              refine R_istore r_183_186 rfl ?_
              refine R_iload r_183_188 rfl ?_
              refine R_iload r_183_190 rfl ?_
              refine R_ifT r_183_192 (by decide) (by decide) ?_
              refine R_iconst r_183_199 (v := nI 0) rfl ?_
              refine R_iaddN r_183_200 ?_
              refine R_istore r_183_201 rfl ?_
              refine R_iinc1 r_183_203 rfl rfl ?_
              refine R_goto r_183_206 (by decide) ?_
              have h9 := fun h8 h9 h10 h11 h12 => ih (n + 1) _ _ h8 h9 h10 h11 h12 _ _ (by omega) hC_q_11 hL_q_11 hR_q_11 (fk.tr hfk (fk.tr (fk_e e_q_3 (by decide)) (fk.tr (fk_e e_q_10 (by decide)) hfs_q_11.fk))) (frm.tr (frm.tr (frm.tr hf hf_q_3) hf_q_10) hf_q_11)
              first | (rw [moS_t (moT_0 (by assumption) (by assumption))] at h9; exact h9 _ _ _ _ _) | (rw [moS_f (moT_0 (by assumption) (by assumption))] at h9; exact h9 _ _ _ _ _) | (rw [moS_t (moT_1 (by assumption) (decide_eq_true (by assumption)))] at h9; exact h9 _ _ _ _ _) | (rw [moS_f (moT_1 (by assumption) (decide_eq_false (Nat.not_le.mpr (by assumption))))] at h9; exact h9 _ _ _ _ _)
            · refine R_iconst r_183_181 (v := nI 1) rfl ?_
              refine R_goto r_183_182 (by decide) ?_
              refine R_istore r_183_186 rfl ?_
              refine R_iload r_183_188 rfl ?_
              refine R_iload r_183_190 rfl ?_
              refine R_ifF r_183_192 (by decide) (by decide) ?_
              refine R_iconst r_183_195 (v := nI 1) rfl ?_
              refine R_goto r_183_196 (by decide) ?_
              refine R_iaddN r_183_200 ?_
              refine R_istore r_183_201 rfl ?_
              refine R_iinc1 r_183_203 rfl rfl ?_
              refine R_goto r_183_206 (by decide) ?_
              have h9 := fun h8 h9 h10 h11 h12 => ih (n + 1) _ _ h8 h9 h10 h11 h12 _ _ (by omega) hC_q_11 hL_q_11 hR_q_11 (fk.tr hfk (fk.tr (fk_e e_q_3 (by decide)) (fk.tr (fk_e e_q_10 (by decide)) hfs_q_11.fk))) (frm.tr (frm.tr (frm.tr hf hf_q_3) hf_q_10) hf_q_11)
              first | (rw [moS_t (moT_0 (by assumption) (by assumption))] at h9; exact h9 _ _ _ _ _) | (rw [moS_f (moT_0 (by assumption) (by assumption))] at h9; exact h9 _ _ _ _ _) | (rw [moS_t (moT_1 (by assumption) (decide_eq_true (by assumption)))] at h9; exact h9 _ _ _ _ _) | (rw [moS_f (moT_1 (by assumption) (decide_eq_false (Nat.not_le.mpr (by assumption))))] at h9; exact h9 _ _ _ _ _)
          · refine R_aload_n r_183_154 rfl (by decide) ?_
            refine R_iload r_183_155 rfl ?_
            refine R_call1 r_183_157 rfl rfl (Nat.le_of_ble_eq_true rfl) (Nat.le_of_ble_eq_true rfl) ?_
            refine m_bits (Nat.lt_trans (lowUp_lt _ _ 8) (by decide)) ?_
            refine R_call2 r_183_160 rfl (sm_rvM rfl rfl rfl hC_q_11) (Nat.le_of_ble_eq_true rfl) (Nat.le_of_ble_eq_true rfl) ?_
            refine m_isFall hC_q_11 hR_q_11 hL_q_11 hW (pcUp_le _ 8) ?_
            refine R_goto r_183_163 (by decide) ?_
            refine R_istore r_183_186 rfl ?_
            refine R_iload r_183_188 rfl ?_
            refine R_iload r_183_190 rfl ?_
            refine R_if_eq_b r_183_192 (by decide) (fun h_14 => ?_) (fun h_14 => ?_)
            · refine R_iconst r_183_199 (v := nI 0) rfl ?_
              refine R_iaddN r_183_200 ?_
              refine R_istore r_183_201 rfl ?_
              refine R_iinc1 r_183_203 rfl rfl ?_
              refine R_goto r_183_206 (by decide) ?_
              have h9 := fun h8 h9 h10 h11 h12 => ih (n + 1) _ _ h8 h9 h10 h11 h12 _ _ (by omega) hC_q_11 hL_q_11 hR_q_11 (fk.tr hfk (fk.tr (fk_e e_q_3 (by decide)) (fk.tr (fk_e e_q_10 (by decide)) hfs_q_11.fk))) (frm.tr (frm.tr (frm.tr hf hf_q_3) hf_q_10) hf_q_11)
              first | (rw [moS_t (moT_0 (by assumption) (by assumption))] at h9; exact h9 _ _ _ _ _) | (rw [moS_f (moT_0 (by assumption) (by assumption))] at h9; exact h9 _ _ _ _ _) | (rw [moS_t (moT_1 (by assumption) (decide_eq_true (by assumption)))] at h9; exact h9 _ _ _ _ _) | (rw [moS_f (moT_1 (by assumption) (decide_eq_false (Nat.not_le.mpr (by assumption))))] at h9; exact h9 _ _ _ _ _)
            · refine R_iconst r_183_195 (v := nI 1) rfl ?_
              refine R_goto r_183_196 (by decide) ?_
              refine R_iaddN r_183_200 ?_
              refine R_istore r_183_201 rfl ?_
              refine R_iinc1 r_183_203 rfl rfl ?_
              refine R_goto r_183_206 (by decide) ?_
              have h9 := fun h8 h9 h10 h11 h12 => ih (n + 1) _ _ h8 h9 h10 h11 h12 _ _ (by omega) hC_q_11 hL_q_11 hR_q_11 (fk.tr hfk (fk.tr (fk_e e_q_3 (by decide)) (fk.tr (fk_e e_q_10 (by decide)) hfs_q_11.fk))) (frm.tr (frm.tr (frm.tr hf hf_q_3) hf_q_10) hf_q_11)
              first | (rw [moS_t (moT_0 (by assumption) (by assumption))] at h9; exact h9 _ _ _ _ _) | (rw [moS_f (moT_0 (by assumption) (by assumption))] at h9; exact h9 _ _ _ _ _) | (rw [moS_t (moT_1 (by assumption) (decide_eq_true (by assumption)))] at h9; exact h9 _ _ _ _ _) | (rw [moS_f (moT_1 (by assumption) (decide_eq_false (Nat.not_le.mpr (by assumption))))] at h9; exact h9 _ _ _ _ _)
      · refine R_iconst r_183_111 (v := nI 1) rfl ?_
        refine R_goto r_183_112 (by decide) ?_
        refine R_mst r_183_116 hC hL (by decide) (by decide) (by show _ < (24 : Nat); omega) (by decide) (fun w_q_15 f_q_15 hC_q_15 hL_q_15 e_q_15 hf_q_15 => ?_)
        have hR_q_15 : mR I (wWeather w (decide (drw z n % 4 = 0)) c) f_q_15 := by rw [e_q_15]; exact (hR).now (row_set hW4 (by rw [hL 32 (by decide) (by decide)]; show _ < (24 : Nat); omega) (row_storm2 hW4 (hR).2 (by first | exact dec_v1 (by assumption) | exact dec_v0 (by assumption))))
        refine R_aload_n r_183_117 rfl (by decide) ?_
        refine R_getf r_183_118 (by decide) hC_q_15.1 rfl ?_
        refine R_bipush r_183_121 (v := nI 22) rfl ?_
        refine R_iload r_183_123 rfl ?_
        refine R_bipush r_183_125 (v := nI 7) rfl ?_
        refine R_iremN r_183_127 (by omega) (by omega) (by omega) ?_
        refine R_if_ne_N r_183_128 (by decide) (by omega) (fun h_16 => ?_) (fun h_16 => ?_)
        · refine R_iconst r_183_135 (v := nI 0) rfl ?_
          refine R_mst r_183_136 hC_q_15 hL_q_15 (by decide) (by decide) (by show _ < (24 : Nat); omega) (by decide) (fun w_q_17 f_q_17 hC_q_17 hL_q_17 e_q_17 hf_q_17 => ?_)
          have hR_q_17 : mR I (moW w z n) f_q_17 := by rw [e_q_17]; exact (hR_q_15).now (row_set hW4 (by rw [hL_q_15 32 (by decide) (by decide)]; show _ < (24 : Nat); omega) (row_ice2 hW4 (hR_q_15).2 (by first | exact dec_v1 (by assumption) | exact dec_v0 (by assumption))))
          refine R_aload_n r_183_137 rfl (by decide) ?_
          refine R_iload r_183_138 rfl ?_
          refine R_bipush r_183_140 (v := nI 8) rfl ?_
          refine R_idivN r_183_142 (by omega) (by omega) (by omega) ?_
          refine R_iconst r_183_143 (v := nI 2) rfl ?_
          refine R_iremN r_183_144 (by omega) (by omega) (by omega) ?_
          refine R_call2 r_183_145 rfl (sm_rvM rfl rfl rfl hC_q_17) (Nat.le_of_ble_eq_true rfl) (Nat.le_of_ble_eq_true rfl) ?_
          refine m_leaving hC_q_17 hR_q_17 hL_q_17 hW (wf_W hW4 hw) (Nat.mod_lt _ (by decide)) (fun w_q_18 f_q_18 hC_q_18 hL_q_18 hR_q_18 hfs_q_18 hf_q_18 hbo_q_18 => ?_)
          refine R_istore r_183_148 rfl ?_
          refine R_iload_n r_183_150 rfl ?_
          refine R_if_ne r_183_151 (by decide) (fun h_19 => ?_) (fun h_19 => ?_)
          · refine R_aload_n r_183_166 rfl (by decide) ?_
            refine R_iload r_183_167 rfl ?_
            refine R_call2 r_183_169 rfl (sm_rvM rfl rfl rfl hC_q_18) (Nat.le_of_ble_eq_true rfl) (Nat.le_of_ble_eq_true rfl) ?_
            refine m_cowsWithout hC_q_18 hR_q_18 hL_q_18 hW (Nat.lt_trans (lowUp_lt _ _ 8) (by decide)) ?_
            refine R_aload_n r_183_172 rfl (by decide) ?_
            refine R_getf r_183_173 (by decide) hC_q_18.1 rfl ?_
            refine R_iconst r_183_176 (v := nI 1) rfl ?_
            refine R_iald r_183_177 (by decide) (hC_q_18.2 31 (by decide) (by decide)) hR_q_18.l1 ?_
            refine R_icmp_lt_N r_183_178 (by decide) (by have := cowW_le hW (lvs I (moW w z n) (drw z n / 8 % 2)); omega) (by omega) (fun h_20 => ?_) (fun h_20 => ?_)
            · refine R_iconst r_183_185 (v := nI 0) rfl ?_
              refine R_istore r_183_186 rfl ?_
              refine R_iload r_183_188 rfl ?_
              refine R_iload r_183_190 rfl ?_
              refine R_ifT r_183_192 (by decide) (by decide) ?_
              refine R_iconst r_183_199 (v := nI 0) rfl ?_
              refine R_iaddN r_183_200 ?_
              refine R_istore r_183_201 rfl ?_
              refine R_iinc1 r_183_203 rfl rfl ?_
              refine R_goto r_183_206 (by decide) ?_
              have h9 := fun h8 h9 h10 h11 h12 => ih (n + 1) _ _ h8 h9 h10 h11 h12 _ _ (by omega) hC_q_18 hL_q_18 hR_q_18 (fk.tr hfk (fk.tr (fk_e e_q_15 (by decide)) (fk.tr (fk_e e_q_17 (by decide)) hfs_q_18.fk))) (frm.tr (frm.tr (frm.tr hf hf_q_15) hf_q_17) hf_q_18)
              first | (rw [moS_t (moT_0 (by assumption) (by assumption))] at h9; exact h9 _ _ _ _ _) | (rw [moS_f (moT_0 (by assumption) (by assumption))] at h9; exact h9 _ _ _ _ _) | (rw [moS_t (moT_1 (by assumption) (decide_eq_true (by assumption)))] at h9; exact h9 _ _ _ _ _) | (rw [moS_f (moT_1 (by assumption) (decide_eq_false (Nat.not_le.mpr (by assumption))))] at h9; exact h9 _ _ _ _ _)
            · refine R_iconst r_183_181 (v := nI 1) rfl ?_
              refine R_goto r_183_182 (by decide) ?_
              refine R_istore r_183_186 rfl ?_
              refine R_iload r_183_188 rfl ?_
              refine R_iload r_183_190 rfl ?_
              refine R_ifF r_183_192 (by decide) (by decide) ?_
              refine R_iconst r_183_195 (v := nI 1) rfl ?_
              refine R_goto r_183_196 (by decide) ?_
              refine R_iaddN r_183_200 ?_
              refine R_istore r_183_201 rfl ?_
              refine R_iinc1 r_183_203 rfl rfl ?_
              refine R_goto r_183_206 (by decide) ?_
              have h9 := fun h8 h9 h10 h11 h12 => ih (n + 1) _ _ h8 h9 h10 h11 h12 _ _ (by omega) hC_q_18 hL_q_18 hR_q_18 (fk.tr hfk (fk.tr (fk_e e_q_15 (by decide)) (fk.tr (fk_e e_q_17 (by decide)) hfs_q_18.fk))) (frm.tr (frm.tr (frm.tr hf hf_q_15) hf_q_17) hf_q_18)
              first | (rw [moS_t (moT_0 (by assumption) (by assumption))] at h9; exact h9 _ _ _ _ _) | (rw [moS_f (moT_0 (by assumption) (by assumption))] at h9; exact h9 _ _ _ _ _) | (rw [moS_t (moT_1 (by assumption) (decide_eq_true (by assumption)))] at h9; exact h9 _ _ _ _ _) | (rw [moS_f (moT_1 (by assumption) (decide_eq_false (Nat.not_le.mpr (by assumption))))] at h9; exact h9 _ _ _ _ _)
          · refine R_aload_n r_183_154 rfl (by decide) ?_
            refine R_iload r_183_155 rfl ?_
            refine R_call1 r_183_157 rfl rfl (Nat.le_of_ble_eq_true rfl) (Nat.le_of_ble_eq_true rfl) ?_
            refine m_bits (Nat.lt_trans (lowUp_lt _ _ 8) (by decide)) ?_
            refine R_call2 r_183_160 rfl (sm_rvM rfl rfl rfl hC_q_18) (Nat.le_of_ble_eq_true rfl) (Nat.le_of_ble_eq_true rfl) ?_
            refine m_isFall hC_q_18 hR_q_18 hL_q_18 hW (pcUp_le _ 8) ?_
            refine R_goto r_183_163 (by decide) ?_
            refine R_istore r_183_186 rfl ?_
            refine R_iload r_183_188 rfl ?_
            refine R_iload r_183_190 rfl ?_
            refine R_if_eq_b r_183_192 (by decide) (fun h_21 => ?_) (fun h_21 => ?_)
            · refine R_iconst r_183_199 (v := nI 0) rfl ?_
              refine R_iaddN r_183_200 ?_
              refine R_istore r_183_201 rfl ?_
              refine R_iinc1 r_183_203 rfl rfl ?_
              refine R_goto r_183_206 (by decide) ?_
              have h9 := fun h8 h9 h10 h11 h12 => ih (n + 1) _ _ h8 h9 h10 h11 h12 _ _ (by omega) hC_q_18 hL_q_18 hR_q_18 (fk.tr hfk (fk.tr (fk_e e_q_15 (by decide)) (fk.tr (fk_e e_q_17 (by decide)) hfs_q_18.fk))) (frm.tr (frm.tr (frm.tr hf hf_q_15) hf_q_17) hf_q_18)
              first | (rw [moS_t (moT_0 (by assumption) (by assumption))] at h9; exact h9 _ _ _ _ _) | (rw [moS_f (moT_0 (by assumption) (by assumption))] at h9; exact h9 _ _ _ _ _) | (rw [moS_t (moT_1 (by assumption) (decide_eq_true (by assumption)))] at h9; exact h9 _ _ _ _ _) | (rw [moS_f (moT_1 (by assumption) (decide_eq_false (Nat.not_le.mpr (by assumption))))] at h9; exact h9 _ _ _ _ _)
            · refine R_iconst r_183_195 (v := nI 1) rfl ?_
              refine R_goto r_183_196 (by decide) ?_
              refine R_iaddN r_183_200 ?_
              refine R_istore r_183_201 rfl ?_
              refine R_iinc1 r_183_203 rfl rfl ?_
              refine R_goto r_183_206 (by decide) ?_
              have h9 := fun h8 h9 h10 h11 h12 => ih (n + 1) _ _ h8 h9 h10 h11 h12 _ _ (by omega) hC_q_18 hL_q_18 hR_q_18 (fk.tr hfk (fk.tr (fk_e e_q_15 (by decide)) (fk.tr (fk_e e_q_17 (by decide)) hfs_q_18.fk))) (frm.tr (frm.tr (frm.tr hf hf_q_15) hf_q_17) hf_q_18)
              first | (rw [moS_t (moT_0 (by assumption) (by assumption))] at h9; exact h9 _ _ _ _ _) | (rw [moS_f (moT_0 (by assumption) (by assumption))] at h9; exact h9 _ _ _ _ _) | (rw [moS_t (moT_1 (by assumption) (decide_eq_true (by assumption)))] at h9; exact h9 _ _ _ _ _) | (rw [moS_f (moT_1 (by assumption) (decide_eq_false (Nat.not_le.mpr (by assumption))))] at h9; exact h9 _ _ _ _ _)
        · refine R_iconst r_183_131 (v := nI 1) rfl ?_
          refine R_goto r_183_132 (by decide) ?_
          refine R_mst r_183_136 hC_q_15 hL_q_15 (by decide) (by decide) (by show _ < (24 : Nat); omega) (by decide) (fun w_q_22 f_q_22 hC_q_22 hL_q_22 e_q_22 hf_q_22 => ?_)
          have hR_q_22 : mR I (moW w z n) f_q_22 := by rw [e_q_22]; exact (hR_q_15).now (row_set hW4 (by rw [hL_q_15 32 (by decide) (by decide)]; show _ < (24 : Nat); omega) (row_ice2 hW4 (hR_q_15).2 (by first | exact dec_v1 (by assumption) | exact dec_v0 (by assumption))))
          refine R_aload_n r_183_137 rfl (by decide) ?_
          refine R_iload r_183_138 rfl ?_
          refine R_bipush r_183_140 (v := nI 8) rfl ?_
          refine R_idivN r_183_142 (by omega) (by omega) (by omega) ?_
          refine R_iconst r_183_143 (v := nI 2) rfl ?_
          refine R_iremN r_183_144 (by omega) (by omega) (by omega) ?_
          refine R_call2 r_183_145 rfl (sm_rvM rfl rfl rfl hC_q_22) (Nat.le_of_ble_eq_true rfl) (Nat.le_of_ble_eq_true rfl) ?_
          refine m_leaving hC_q_22 hR_q_22 hL_q_22 hW (wf_W hW4 hw) (Nat.mod_lt _ (by decide)) (fun w_q_23 f_q_23 hC_q_23 hL_q_23 hR_q_23 hfs_q_23 hf_q_23 hbo_q_23 => ?_)
          refine R_istore r_183_148 rfl ?_
          refine R_iload_n r_183_150 rfl ?_
          refine R_if_ne r_183_151 (by decide) (fun h_24 => ?_) (fun h_24 => ?_)
          · refine R_aload_n r_183_166 rfl (by decide) ?_
            refine R_iload r_183_167 rfl ?_
            refine R_call2 r_183_169 rfl (sm_rvM rfl rfl rfl hC_q_23) (Nat.le_of_ble_eq_true rfl) (Nat.le_of_ble_eq_true rfl) ?_
            refine m_cowsWithout hC_q_23 hR_q_23 hL_q_23 hW (Nat.lt_trans (lowUp_lt _ _ 8) (by decide)) ?_
            refine R_aload_n r_183_172 rfl (by decide) ?_
            refine R_getf r_183_173 (by decide) hC_q_23.1 rfl ?_
            refine R_iconst r_183_176 (v := nI 1) rfl ?_
            refine R_iald r_183_177 (by decide) (hC_q_23.2 31 (by decide) (by decide)) hR_q_23.l1 ?_
            refine R_icmp_lt_N r_183_178 (by decide) (by have := cowW_le hW (lvs I (moW w z n) (drw z n / 8 % 2)); omega) (by omega) (fun h_25 => ?_) (fun h_25 => ?_)
            · refine R_iconst r_183_185 (v := nI 0) rfl ?_
              refine R_istore r_183_186 rfl ?_
              refine R_iload r_183_188 rfl ?_
              refine R_iload r_183_190 rfl ?_
              refine R_ifT r_183_192 (by decide) (by decide) ?_
              refine R_iconst r_183_199 (v := nI 0) rfl ?_
              refine R_iaddN r_183_200 ?_
              refine R_istore r_183_201 rfl ?_
              refine R_iinc1 r_183_203 rfl rfl ?_
              refine R_goto r_183_206 (by decide) ?_
              have h9 := fun h8 h9 h10 h11 h12 => ih (n + 1) _ _ h8 h9 h10 h11 h12 _ _ (by omega) hC_q_23 hL_q_23 hR_q_23 (fk.tr hfk (fk.tr (fk_e e_q_15 (by decide)) (fk.tr (fk_e e_q_22 (by decide)) hfs_q_23.fk))) (frm.tr (frm.tr (frm.tr hf hf_q_15) hf_q_22) hf_q_23)
              first | (rw [moS_t (moT_0 (by assumption) (by assumption))] at h9; exact h9 _ _ _ _ _) | (rw [moS_f (moT_0 (by assumption) (by assumption))] at h9; exact h9 _ _ _ _ _) | (rw [moS_t (moT_1 (by assumption) (decide_eq_true (by assumption)))] at h9; exact h9 _ _ _ _ _) | (rw [moS_f (moT_1 (by assumption) (decide_eq_false (Nat.not_le.mpr (by assumption))))] at h9; exact h9 _ _ _ _ _)
            · refine R_iconst r_183_181 (v := nI 1) rfl ?_
              refine R_goto r_183_182 (by decide) ?_
              refine R_istore r_183_186 rfl ?_
              refine R_iload r_183_188 rfl ?_
              refine R_iload r_183_190 rfl ?_
              refine R_ifF r_183_192 (by decide) (by decide) ?_
              refine R_iconst r_183_195 (v := nI 1) rfl ?_
              refine R_goto r_183_196 (by decide) ?_
              refine R_iaddN r_183_200 ?_
              refine R_istore r_183_201 rfl ?_
              refine R_iinc1 r_183_203 rfl rfl ?_
              refine R_goto r_183_206 (by decide) ?_
              have h9 := fun h8 h9 h10 h11 h12 => ih (n + 1) _ _ h8 h9 h10 h11 h12 _ _ (by omega) hC_q_23 hL_q_23 hR_q_23 (fk.tr hfk (fk.tr (fk_e e_q_15 (by decide)) (fk.tr (fk_e e_q_22 (by decide)) hfs_q_23.fk))) (frm.tr (frm.tr (frm.tr hf hf_q_15) hf_q_22) hf_q_23)
              first | (rw [moS_t (moT_0 (by assumption) (by assumption))] at h9; exact h9 _ _ _ _ _) | (rw [moS_f (moT_0 (by assumption) (by assumption))] at h9; exact h9 _ _ _ _ _) | (rw [moS_t (moT_1 (by assumption) (decide_eq_true (by assumption)))] at h9; exact h9 _ _ _ _ _) | (rw [moS_f (moT_1 (by assumption) (decide_eq_false (Nat.not_le.mpr (by assumption))))] at h9; exact h9 _ _ _ _ _)
          · refine R_aload_n r_183_154 rfl (by decide) ?_
            refine R_iload r_183_155 rfl ?_
            refine R_call1 r_183_157 rfl rfl (Nat.le_of_ble_eq_true rfl) (Nat.le_of_ble_eq_true rfl) ?_
            refine m_bits (Nat.lt_trans (lowUp_lt _ _ 8) (by decide)) ?_
            refine R_call2 r_183_160 rfl (sm_rvM rfl rfl rfl hC_q_23) (Nat.le_of_ble_eq_true rfl) (Nat.le_of_ble_eq_true rfl) ?_
            refine m_isFall hC_q_23 hR_q_23 hL_q_23 hW (pcUp_le _ 8) ?_
            refine R_goto r_183_163 (by decide) ?_
            refine R_istore r_183_186 rfl ?_
            refine R_iload r_183_188 rfl ?_
            refine R_iload r_183_190 rfl ?_
            refine R_if_eq_b r_183_192 (by decide) (fun h_26 => ?_) (fun h_26 => ?_)
            · refine R_iconst r_183_199 (v := nI 0) rfl ?_
              refine R_iaddN r_183_200 ?_
              refine R_istore r_183_201 rfl ?_
              refine R_iinc1 r_183_203 rfl rfl ?_
              refine R_goto r_183_206 (by decide) ?_
              have h9 := fun h8 h9 h10 h11 h12 => ih (n + 1) _ _ h8 h9 h10 h11 h12 _ _ (by omega) hC_q_23 hL_q_23 hR_q_23 (fk.tr hfk (fk.tr (fk_e e_q_15 (by decide)) (fk.tr (fk_e e_q_22 (by decide)) hfs_q_23.fk))) (frm.tr (frm.tr (frm.tr hf hf_q_15) hf_q_22) hf_q_23)
              first | (rw [moS_t (moT_0 (by assumption) (by assumption))] at h9; exact h9 _ _ _ _ _) | (rw [moS_f (moT_0 (by assumption) (by assumption))] at h9; exact h9 _ _ _ _ _) | (rw [moS_t (moT_1 (by assumption) (decide_eq_true (by assumption)))] at h9; exact h9 _ _ _ _ _) | (rw [moS_f (moT_1 (by assumption) (decide_eq_false (Nat.not_le.mpr (by assumption))))] at h9; exact h9 _ _ _ _ _)
            · refine R_iconst r_183_195 (v := nI 1) rfl ?_
              refine R_goto r_183_196 (by decide) ?_
              refine R_iaddN r_183_200 ?_
              refine R_istore r_183_201 rfl ?_
              refine R_iinc1 r_183_203 rfl rfl ?_
              refine R_goto r_183_206 (by decide) ?_
              have h9 := fun h8 h9 h10 h11 h12 => ih (n + 1) _ _ h8 h9 h10 h11 h12 _ _ (by omega) hC_q_23 hL_q_23 hR_q_23 (fk.tr hfk (fk.tr (fk_e e_q_15 (by decide)) (fk.tr (fk_e e_q_22 (by decide)) hfs_q_23.fk))) (frm.tr (frm.tr (frm.tr hf hf_q_15) hf_q_22) hf_q_23)
              first | (rw [moS_t (moT_0 (by assumption) (by assumption))] at h9; exact h9 _ _ _ _ _) | (rw [moS_f (moT_0 (by assumption) (by assumption))] at h9; exact h9 _ _ _ _ _) | (rw [moS_t (moT_1 (by assumption) (decide_eq_true (by assumption)))] at h9; exact h9 _ _ _ _ _) | (rw [moS_f (moT_1 (by assumption) (decide_eq_false (Nat.not_le.mpr (by assumption))))] at h9; exact h9 _ _ _ _ _)
theorem m_months {xs : List Int32} {d : Nat} {wd : sm_W} {Q : Option Value → sm_W → Prop} {tx : List Nat} {I : sm_Is} {w : Nat} {pa sh : List Nat} {sn : List (Nat × Nat)} (hX : mX wd tx I w pa sh sn) (hW : iWF I) (hw : wfW I w) {x1 x2 x3 : Int32} (hB : moOK x1 x2 x3 = false → Q (some (.int (-1))) wd) (hQ : ∀ z n, z < 10000 → n < 61 → 1 ≤ n → x1 = nI z → x2 = nI n → inR x3 2 = true → ∀ w2, mX w2 tx I w pa sh sn → frm 22 40 wd w2 → Q (some (.int (nI (moS I w z x3 n)))) w2) : Ct xs (d + 4) 183 [.ref 22, .int x1, .int x2, .int x3] wd Q := by
  unfold Ct
  show RT xs (d + 4) 183 0 [some (.ref 22), some (.int x1), some (.int x2), some (.int x3), none, none, none, none, none, none, none, none, none] [] wd Q
  obtain ⟨sp, f, hC, hL, hR, hT⟩ := id hX
  obtain ⟨hW1, hW2, hW3, hW4, hW5, hW6, hW7, hW8, hW9, hW10, hW11, hW12, hW13, hW14, hW15⟩ := id hW
  obtain ⟨hT1, hT2, hT3, hT4⟩ := id hT
  refine R_iload_n r_183_0 rfl ?_
  refine R_i2l r_183_1 ?_
  refine R_lconst r_183_2 (v := lN 0) rfl ?_
  refine R_ldc2_w r_183_3 (v := lN 9999) rfl ?_
  refine R_call3 r_183_6 rfl rfl (Nat.le_of_ble_eq_true rfl) (Nat.le_of_ble_eq_true rfl) ?_
  refine m_in (c := inR x1 10000) (in_q (by decide)) ?_
  refine R_if_eq_b r_183_9 (by decide) (fun h_1 => ?_) (fun h_1 => ?_)
  · refine R_iconst r_183_34 (v := (-1)) rfl ?_
    refine R_iret r_183_35 (ty := .int) rfl rfl (by decide) ?_
    refine hB ?_; unfold moOK; first | (rw [show inR x1 10000 = false from by assumption]; rfl) | (rw [show (inR x2 61 && !inR x2 1) = false from by assumption, Bool.and_false]; rfl) | (rw [show inR x3 2 = false from by assumption, Bool.and_false])
  · refine R_iload_n r_183_12 rfl ?_
    refine R_i2l r_183_13 ?_
    refine R_lconst r_183_14 (v := lN 1) rfl ?_
    refine R_ldc2_w r_183_15 (v := lN 60) rfl ?_
    refine R_call3 r_183_18 rfl rfl (Nat.le_of_ble_eq_true rfl) (Nat.le_of_ble_eq_true rfl) ?_
    refine m_in (c := (inR x2 61 && !inR x2 1)) in_lo ?_
    refine R_if_eq_b r_183_21 (by decide) (fun h_2 => ?_) (fun h_2 => ?_)
    · refine R_iconst r_183_34 (v := (-1)) rfl ?_
      refine R_iret r_183_35 (ty := .int) rfl rfl (by decide) ?_
      refine hB ?_; unfold moOK; first | (rw [show inR x1 10000 = false from by assumption]; rfl) | (rw [show (inR x2 61 && !inR x2 1) = false from by assumption, Bool.and_false]; rfl) | (rw [show inR x3 2 = false from by assumption, Bool.and_false])
    · refine R_iload_n r_183_24 rfl ?_
      refine R_i2l r_183_25 ?_
      refine R_lconst r_183_26 (v := lN 0) rfl ?_
      refine R_lconst r_183_27 (v := lN 1) rfl ?_
      refine R_call3 r_183_28 rfl rfl (Nat.le_of_ble_eq_true rfl) (Nat.le_of_ble_eq_true rfl) ?_
      refine m_in (c := inR x3 2) (in_q (by decide)) ?_
      refine R_if_ne_b r_183_31 (by decide) (fun h_3 => ?_) (fun h_3 => ?_)
      · obtain ⟨z, hz, rfl⟩ := inR_of (x := x1) (by assumption) (by decide)
        obtain ⟨n, hn, hn1, rfl⟩ := mo_n (x := x2) (by assumption)
        refine R_aload_n r_183_36 rfl (by decide) ?_
        refine R_getf r_183_37 (by decide) hC.1 rfl ?_
        refine R_bipush r_183_40 (v := nI 21) rfl ?_
        refine R_iald r_183_42 (by decide) (hC.2 32 (by decide) (by decide)) hR.ns ?_
        refine R_istore r_183_43 rfl ?_
        refine R_aload_n r_183_45 rfl (by decide) ?_
        refine R_getf r_183_46 (by decide) hC.1 rfl ?_
        refine R_bipush r_183_49 (v := nI 22) rfl ?_
        refine R_iald r_183_51 (by decide) (hC.2 32 (by decide) (by decide)) hR.ni ?_
        refine R_istore r_183_52 rfl ?_
        refine R_iconst r_183_54 (v := nI 0) rfl ?_
        refine R_istore r_183_55 rfl ?_
        refine R_iconst r_183_57 (v := nI 0) rfl ?_
        refine R_istore r_183_58 rfl ?_
        exact lp_mmon hW hw hz hn (f0 := f) (wd0 := wd) (fun wd2 f2 hC2 hL2 hR2 hk2 hf2 => hQ z n hz hn hn1 rfl rfl (by assumption) _ ⟨_, _, hC2, hL2, hR2, hT.fk hk2⟩ hf2) n 0 (sStorm w) (sIce w) _ _ _ _ _ _ _ (by omega) hC hL (hR.eq hW4 eqW_w0) fk.rf frm.rf
      · refine R_iconst r_183_34 (v := (-1)) rfl ?_
        refine R_iret r_183_35 (ty := .int) rfl rfl (by decide) ?_
        refine hB ?_; unfold moOK; first | (rw [show inR x1 10000 = false from by assumption]; rfl) | (rw [show (inR x2 61 && !inR x2 1) = false from by assumption, Bool.and_false]; rfl) | (rw [show inR x3 2 = false from by assumption, Bool.and_false])
