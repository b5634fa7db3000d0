/-! the model reads the text: law items, items, all of it; fault -/
theorem set_same {l : List Int32} {i : Nat} {v : Int32} (h : l[i]? = some v) : l.set i v = l := by
  apply List.ext_getElem?
  intro t
  by_cases e : i = t
  · subst e
    rw [List.getElem?_set_self (List.getElem?_eq_some_iff.mp h).1, h]
  · rw [List.getElem?_set_ne e]
theorem itC_M {tx : List Nat} {p : Nat} {l : List Nat} {e : Nat} : itC tx p = some (l, e) ↔ noN (ltA tx p) ≠ 0 ∧ rdM tx (noN (ltA tx p)) (noN (ltA tx p)) 0 (p + 1) = some (l, e) ∧ okR (ltA tx p) 0 l = true := by
  unfold itC
  by_cases h0 : noN (ltA tx p) = 0
  · rw [if_pos h0]
    exact ⟨fun z => (by cases z), fun z => absurd h0 z.1⟩
  · rw [if_neg h0, rdC_M]
    constructor
    · intro h
      obtain ⟨q, h1, h2⟩ := Option.bind_eq_some_iff.mp h
      split at h2
      · cases h2; exact ⟨h0, h1, by assumption⟩
      · cases h2
    · rintro ⟨-, h1, h2⟩
      rw [h1]
      show (if okR (ltA tx p) 0 l = true then some (l, e) else none) = some (l, e)
      rw [if_pos h2]
theorem m_lawItem {xs : List Int32} {d : Nat} {wd : sm_W} {Q : Option Value → sm_W → Prop} {tx : List Nat} {um km sn : Int32} {p : Nat} {f : Nat → List Int32} (hC : mC wd (nI tx.length) um km sn (nI p) f) (hL : mL f) {I : sm_Is} {w : Nat} (hR : mR I w f) (hW : iWF I) (hx : txF tx f) (hp : p ≤ 200) {D : sm_Is} (hD : mD D f) {kk lo hi : Nat} (hkk : kk < 4) (hlo : lo < 1000) (hhi2 : hi < 1000) (hF : (∀ l e, rdM tx 1 1 0 p = some (l, e) → ¬ (lo ≤ l.getD 0 0 ∧ l.getD 0 0 ≤ hi)) → ∀ w2 f2 sp2, mC w2 (nI tx.length) um km sn sp2 f2 → mL f2 → mR I w f2 → mD D f2 → fk f f2 → frm 22 40 wd w2 → Q (some (.int (b2i false))) w2) (hS : ∀ l e, rdM tx 1 1 0 p = some (l, e) → lo ≤ l.getD 0 0 → l.getD 0 0 ≤ hi → ∀ w2 f2, mC w2 (nI tx.length) um km sn (nI e) f2 → mL f2 → mR I w f2 → (f2 31)[4 + kk]? = some (nI (l.getD 0 0)) → (∀ (K i : Nat), 24 ≤ K → K ≤ 31 → ¬ (K = 31 ∧ i = 4 + kk) → (f2 K)[i]? = (f K)[i]?) → fk f f2 → frm 22 40 wd w2 → Q (some (.int (b2i true))) w2) : Ct xs (d + 3) 141 [.ref 22, .int (nI kk), .int (nI lo), .int (nI hi)] wd Q := by
  unfold Ct
  show RT xs (d + 3) 141 0 [some (.ref 22), some (.int (nI kk)), some (.int (nI lo)), some (.int (nI hi)), none] [] wd Q
  refine R_aload_n r_141_0 rfl (by decide) ?_
  refine R_iconst r_141_1 (v := nI 1) rfl ?_
  refine R_call2 r_141_2 rfl (sm_rvM rfl rfl rfl hC) (Nat.le_of_ble_eq_true rfl) (Nat.le_of_ble_eq_true rfl) ?_
  refine m_figures hC hL hx (by omega) (by decide) (fun hz w2 f2 sp2 hC2 hL2 hfx2 hf2 => ?_) (fun ll e hll w2 f2 hC2 hL2 hfx2 hhi hf2 => ?_)
  · refine R_ifT r_141_5 (by decide) (by decide) ?_
    refine R_iconst r_141_29 (v := nI 0) rfl ?_
    refine R_istore r_141_30 rfl ?_
    refine R_aload_n r_141_32 rfl (by decide) ?_
    refine R_getf r_141_33 (by decide) hC2.1 rfl ?_
    refine R_iconst r_141_36 (v := nI 4) rfl ?_
    refine R_iload_n r_141_37 rfl ?_
    refine R_iaddN r_141_38 ?_
    refine R_iload r_141_39 rfl ?_
    refine R_ifT r_141_41 (by decide) (by decide) ?_
    obtain ⟨v31, hv31⟩ : ∃ v, (f2 31)[4 + kk]? = some v := ⟨_, List.getElem?_eq_getElem (by rw [hL2 31 (by decide) (by decide)]; show _ < (8 : Nat); omega)⟩
    refine R_aload_n r_141_53 rfl (by decide) ?_
    refine R_getf r_141_54 (by decide) hC2.1 rfl ?_
    refine R_iconst r_141_57 (v := nI 4) rfl ?_
    refine R_iload_n r_141_58 rfl ?_
    refine R_iaddN r_141_59 ?_
    refine R_iald r_141_60 (by decide) (hC2.2 31 (by decide) (by decide)) (sm_ixG hv31 (by omega)) ?_
    refine R_mst r_141_61 hC2 hL2 (by decide) (by decide) (by show _ < (8 : Nat); omega) (by decide) (fun w_q_1 f_q_1 hC_q_1 hL_q_1 e_q_1 hf_q_1 => ?_)
    have hR_q_1 : mR I w f_q_1 := by rw [e_q_1]; exact (fx.mR hfx2 hR).hi hW (by unfold lpos; omega)
    refine R_iload r_141_62 rfl ?_
    refine R_iret r_141_64 (ty := .boolean) rfl (by decide) (by decide) ?_
    refine hF (fun l e hl => ?_) _ _ _ hC_q_1 hL_q_1 hR_q_1 ((fx.mD hfx2 hD).cg (fun k _ _ i => by rw [e_q_1]; by_cases ek : k = 31; subst ek; rw [fu_s, set_same hv31]; rw [fu_n ek])) (fk.tr hfx2.fk (fk_e e_q_1 (by decide))) (frm.tr hf2 hf_q_1)
    cases hz.symm.trans hl
  · refine R_ifF r_141_5 (by decide) (by decide) ?_
    have h90 := (rdM_ok _ _ _ _ _ hll).2.2.2 0
    refine R_aload_n r_141_8 rfl (by decide) ?_
    refine R_getf r_141_9 (by decide) hC2.1 rfl ?_
    refine R_iconst r_141_12 (v := nI 0) rfl ?_
    refine R_iald r_141_13 (by decide) (hC2.2 37 (by decide) (by decide)) (sm_ixG (hhi 0 (by decide)) (by decide)) ?_
    refine R_i2lN r_141_14 (by omega) ?_
    refine R_iload_n r_141_15 rfl ?_
    refine R_i2lN r_141_16 (by omega) ?_
    refine R_iload_n r_141_17 rfl ?_
    refine R_i2lN r_141_18 (by omega) ?_
    refine R_call3 r_141_19 rfl rfl (Nat.le_of_ble_eq_true rfl) (Nat.le_of_ble_eq_true rfl) ?_
    refine m_in (c := (decide (lo ≤ ll.getD 0 0) && decide (ll.getD 0 0 ≤ hi))) (in_n (by have := (rdM_ok _ _ _ _ _ hll).2.2.2 0; omega) (by omega) (by omega)) ?_
    refine R_if_eq_b r_141_22 (by decide) (fun h_2 => ?_) (fun h_2 => ?_)
    · have h_in : (decide (lo ≤ ll.getD 0 0) && decide (ll.getD 0 0 ≤ hi)) = false := by assumption
      refine R_iconst r_141_29 (v := nI 0) rfl ?_
      refine R_istore r_141_30 rfl ?_
      refine R_aload_n r_141_32 rfl (by decide) ?_
      refine R_getf r_141_33 (by decide) hC2.1 rfl ?_
      refine R_iconst r_141_36 (v := nI 4) rfl ?_
      refine R_iload_n r_141_37 rfl ?_
      refine R_iaddN r_141_38 ?_
      refine R_iload r_141_39 rfl ?_
      refine R_ifT r_141_41 (by decide) (by decide) ?_
      obtain ⟨v31, hv31⟩ : ∃ v, (f2 31)[4 + kk]? = some v := ⟨_, List.getElem?_eq_getElem (by rw [hL2 31 (by decide) (by decide)]; show _ < (8 : Nat); omega)⟩
      refine R_aload_n r_141_53 rfl (by decide) ?_
      refine R_getf r_141_54 (by decide) hC2.1 rfl ?_
      refine R_iconst r_141_57 (v := nI 4) rfl ?_
      refine R_iload_n r_141_58 rfl ?_
      refine R_iaddN r_141_59 ?_
      refine R_iald r_141_60 (by decide) (hC2.2 31 (by decide) (by decide)) (sm_ixG hv31 (by omega)) ?_
      refine R_mst r_141_61 hC2 hL2 (by decide) (by decide) (by show _ < (8 : Nat); omega) (by decide) (fun w_q_3 f_q_3 hC_q_3 hL_q_3 e_q_3 hf_q_3 => ?_)
      have hR_q_3 : mR I w f_q_3 := by rw [e_q_3]; exact (fx.mR hfx2 hR).hi hW (by unfold lpos; omega)
      refine R_iload r_141_62 rfl ?_
      refine R_iret r_141_64 (ty := .boolean) rfl (by decide) (by decide) ?_
      refine hF (fun l e hl => ?_) _ _ _ hC_q_3 hL_q_3 hR_q_3 ((fx.mD hfx2 hD).cg (fun k _ _ i => by rw [e_q_3]; by_cases ek : k = 31; subst ek; rw [fu_s, set_same hv31]; rw [fu_n ek])) (fk.tr hfx2.fk (fk_e e_q_3 (by decide))) (frm.tr hf2 hf_q_3)
      cases (Option.some.inj (hll.symm.trans hl)); intro z; rw [decide_eq_true z.1, decide_eq_true z.2] at h_in; cases h_in
    · have h_in : (decide (lo ≤ ll.getD 0 0) && decide (ll.getD 0 0 ≤ hi)) = true := by assumption
      refine R_iconst r_141_25 (v := nI 1) rfl ?_
      refine R_goto r_141_26 (by decide) ?_
      refine R_istore r_141_30 rfl ?_
      refine R_aload_n r_141_32 rfl (by decide) ?_
      refine R_getf r_141_33 (by decide) hC2.1 rfl ?_
      refine R_iconst r_141_36 (v := nI 4) rfl ?_
      refine R_iload_n r_141_37 rfl ?_
      refine R_iaddN r_141_38 ?_
      refine R_iload r_141_39 rfl ?_
      refine R_ifF r_141_41 (by decide) (by decide) ?_
      refine R_aload_n r_141_44 rfl (by decide) ?_
      refine R_getf r_141_45 (by decide) hC2.1 rfl ?_
      refine R_iconst r_141_48 (v := nI 0) rfl ?_
      refine R_iald r_141_49 (by decide) (hC2.2 37 (by decide) (by decide)) (sm_ixG (hhi 0 (by decide)) (by decide)) ?_
      refine R_goto r_141_50 (by decide) ?_
      refine R_mst r_141_61 hC2 hL2 (by decide) (by decide) (by show _ < (8 : Nat); omega) (by decide) (fun w_q_4 f_q_4 hC_q_4 hL_q_4 e_q_4 hf_q_4 => ?_)
      have hR_q_4 : mR I w f_q_4 := by rw [e_q_4]; exact (fx.mR hfx2 hR).hi hW (by unfold lpos; omega)
      refine R_iload r_141_62 rfl ?_
      refine R_iret r_141_64 (ty := .boolean) rfl (by decide) (by decide) ?_
      rw [Bool.and_eq_true, decide_eq_true_iff, decide_eq_true_iff] at h_in
      exact hS ll e hll h_in.1 h_in.2 _ _ hC_q_4 hL_q_4 hR_q_4 (by rw [e_q_4, fu_s]; exact List.getElem?_set_self (by rw [hL2 31 (by decide) (by decide)]; show _ < (8 : Nat); omega)) (fun K i _ _ hn => by rw [e_q_4]; by_cases ek : K = 31; (subst ek; rw [fu_s, List.getElem?_set_ne (fun z => hn ⟨rfl, z.symm⟩), hfx2 31 (by decide)]); (rw [fu_n ek]; exact congrArg (fun l => l[i]?) (hfx2 K (by omega)))) (fk.tr hfx2.fk (fk_e e_q_4 (by decide))) (frm.tr hf2 hf_q_4)
theorem m_item {xs : List Int32} {d : Nat} {wd : sm_W} {Q : Option Value → sm_W → Prop} {tx : List Nat} {um km sn : Int32} {p : Nat} {f : Nat → List Int32} (hC : mC wd (nI tx.length) um km sn (nI p) f) (hL : mL f) {I : sm_Is} {w : Nat} (hR : mR I w f) (hW : iWF I) (hx : txF tx f) (hp : p < 200) {D : sm_Is} (hD : mD D f) (hWD : wfD D) (hF : (∀ l e D2, itC tx p = some (l, e) → tkI D (ltA tx p) l ≠ some D2) → ∀ w2 f2 sp2, mC w2 (nI tx.length) um km sn sp2 f2 → mL f2 → mR I w f2 → mD D f2 → fk f f2 → frm 22 40 wd w2 → Q (some (.int (b2i false))) w2) (hS : ∀ l e D2, itC tx p = some (l, e) → tkI D (ltA tx p) l = some D2 → ∀ w2 f2, mC w2 (nI tx.length) um km sn (nI e) f2 → mL f2 → mR I w f2 → mD D2 f2 → fk f f2 → frm 22 40 wd w2 → Q (some (.int (b2i true))) w2) : Ct xs (d + 4) 137 [.ref 22] wd Q := by
  unfold Ct
  show RT xs (d + 4) 137 0 [some (.ref 22), none] [] wd Q
  refine R_aload_n r_137_0 rfl (by decide) ?_
  refine R_aload_n r_137_1 rfl (by decide) ?_
  refine R_getf r_137_2 (by decide) hC.1 rfl ?_
  refine R_call2 r_137_5 rfl (sm_rvM rfl rfl rfl hC) (Nat.le_of_ble_eq_true rfl) (Nat.le_of_ble_eq_true rfl) ?_
  refine m_letterAt hC hx (by omega) ?_
  refine R_istore_n r_137_8 rfl ?_
  refine R_aload_n r_137_9 rfl (by decide) ?_
  refine R_dup r_137_10 rfl ?_
  refine R_getf r_137_11 (by decide) hC.1 rfl ?_
  refine R_iconst r_137_14 (v := nI 1) rfl ?_
  refine R_iaddN r_137_15 ?_
  refine R_mp_sp r_137_16 hC rfl rfl (fun w_q_1 hC_q_1 hf_q_1 => ?_)
  generalize hcl : ltA tx p = c
  have hcc : c < 127 := by rw [← hcl]; exact hx.2.2 p
  refine R_iload_n r_137_19 rfl ?_
  rcases (by omega : (c < 98 ∨ 115 < c) ∨ c = 98 ∨ c = 99 ∨ c = 100 ∨ c = 101 ∨ c = 102 ∨ c = 103 ∨ c = 104 ∨ c = 105 ∨ c = 106 ∨ c = 107 ∨ c = 108 ∨ c = 109 ∨ c = 110 ∨ c = 111 ∨ c = 112 ∨ c = 113 ∨ c = 114 ∨ c = 115) with hts_2 | hts_2 | hts_2 | hts_2 | hts_2 | hts_2 | hts_2 | hts_2 | hts_2 | hts_2 | hts_2 | hts_2 | hts_2 | hts_2 | hts_2 | hts_2 | hts_2 | hts_2 | hts_2
  · refine R_tsOut r_137_20 (by rw [nI_toInt (by omega)]; omega) (t := 217) (by decide) ?_
    refine R_iconst r_137_217 (v := nI 0) rfl ?_
    refine R_iret r_137_218 (ty := .boolean) rfl (by decide) (by decide) ?_
    refine hF (fun l e D2 hi _ => ?_) _ _ _ hC_q_1 hL hR hD fk.rf hf_q_1
    have h1 := (itC_M.mp hi).1
    rw [hcl] at h1
    exact h1 (by unfold noN; rw [if_neg (by omega), if_neg (by omega)])
  · subst hts_2
    refine R_tsIn r_137_20 (by decide) (by rfl) (t := 113) (by decide) ?_
    refine R_aload_n r_137_113 rfl (by decide) ?_
    refine R_iconst r_137_114 (v := nI 1) rfl ?_
    refine R_call2 r_137_115 rfl (sm_rvM rfl rfl rfl hC_q_1) (Nat.le_of_ble_eq_true rfl) (Nat.le_of_ble_eq_true rfl) ?_
    refine m_figures hC_q_1 hL hx (by omega) (by decide) (fun hz w2 f2 sp2 hC2 hL2 hfx2 hf2 => ?_) (fun ll e hll w2 f2 hC2 hL2 hfx2 hhi hf2 => ?_)
    · refine R_ifT r_137_118 (by decide) (by decide) ?_
      refine R_iconst r_137_148 (v := nI 0) rfl ?_
      refine R_iret r_137_149 (ty := .boolean) rfl (by decide) (by decide) ?_
      refine hF (fun l e D2 hi ht => ?_) _ _ _ hC2 hL2 (fx.mR hfx2 hR) (fx.mD hfx2 hD) hfx2.fk (frm.tr hf_q_1 hf2)
      have h1 := itC_M.mp hi
      rw [hcl] at h1 ht
      cases hz.symm.trans h1.2.1
    · refine R_ifF r_137_118 (by decide) (by decide) ?_
      have hb5 := hWD.1.2.2.2.2.1
      have h90 := (rdM_ok _ _ _ _ _ hll).2.2.2 0
      refine R_aload_n r_137_121 rfl (by decide) ?_
      refine R_getf r_137_122 (by decide) hC2.1 rfl ?_
      refine R_iconst r_137_125 (v := nI 1) rfl ?_
      refine R_iald r_137_126 (by decide) (hC2.2 29 (by decide) (by decide)) (sm_ixG (fx.mD hfx2 hD).2.1 (by decide)) ?_
      refine R_iconst r_137_127 (v := nI 5) rfl ?_
      refine R_icmp_eq_N r_137_128 (by decide) (by omega) (by omega) (fun h_3 => ?_) (fun h_3 => ?_)
      · refine R_iconst r_137_148 (v := nI 0) rfl ?_
        refine R_iret r_137_149 (ty := .boolean) rfl (by decide) (by decide) ?_
        refine hF (fun l e D2 hi ht => ?_) _ _ _ hC2 hL2 (fx.mR hfx2 hR) (fx.mD hfx2 hD) hfx2.fk (frm.tr hf_q_1 hf2)
        have h1 := itC_M.mp hi
        rw [hcl] at h1 ht
        cases (Option.some.inj (hll.symm.trans h1.2.1))
        have h2 := (okR1 (rdM_ok _ _ _ _ _ hll).1).mp h1.2.2
        have m0 : msN 98 0 = 8 := rfl
        have m1 : lsN 98 = 1 := rfl
        have h3 : iB D < 5 := by unfold tkI at ht; rw [if_neg (by decide), if_pos rfl] at ht; split at ht; assumption; cases ht
        omega
      · refine R_aload_n r_137_131 rfl (by decide) ?_
        refine R_getf r_137_132 (by decide) hC2.1 rfl ?_
        refine R_iconst r_137_135 (v := nI 0) rfl ?_
        refine R_iald r_137_136 (by decide) (hC2.2 37 (by decide) (by decide)) (sm_ixG (hhi 0 (by decide)) (by decide)) ?_
        refine R_i2lN r_137_137 (by omega) ?_
        refine R_lconst r_137_138 (v := lN 1) rfl ?_
        refine R_ldc2_w r_137_139 (v := lN 8) rfl ?_
        refine R_call3 r_137_142 rfl rfl (Nat.le_of_ble_eq_true rfl) (Nat.le_of_ble_eq_true rfl) ?_
        refine m_in (c := (decide (1 ≤ ll.getD 0 0) && decide (ll.getD 0 0 ≤ 8))) (in_n (by have := (rdM_ok _ _ _ _ _ hll).2.2.2 0; omega) (by decide) (by decide)) ?_
        refine R_if_ne_b r_137_145 (by decide) (fun h_4 => ?_) (fun h_4 => ?_)
        · have h_in : (decide (1 ≤ ll.getD 0 0) && decide (ll.getD 0 0 ≤ 8)) = true := by assumption
          refine R_aload_n r_137_150 rfl (by decide) ?_
          refine R_getf r_137_151 (by decide) hC2.1 rfl ?_
          refine R_iconst r_137_154 (v := nI 5) rfl ?_
          refine R_aload_n r_137_155 rfl (by decide) ?_
          refine R_getf r_137_156 (by decide) hC2.1 rfl ?_
          refine R_iconst r_137_159 (v := nI 1) rfl ?_
          refine R_iald r_137_160 (by decide) (hC2.2 29 (by decide) (by decide)) (sm_ixG (fx.mD hfx2 hD).2.1 (by decide)) ?_
          refine R_iaddN r_137_161 ?_
          refine R_aload_n r_137_162 rfl (by decide) ?_
          refine R_getf r_137_163 (by decide) hC2.1 rfl ?_
          refine R_iconst r_137_166 (v := nI 0) rfl ?_
          refine R_iald r_137_167 (by decide) (hC2.2 37 (by decide) (by decide)) (sm_ixG (hhi 0 (by decide)) (by decide)) ?_
          refine R_mst r_137_168 hC2 hL2 (by decide) (by decide) (by show _ < (10 : Nat); omega) (by decide) (fun w_q_5 f_q_5 hC_q_5 hL_q_5 e_q_5 hf_q_5 => ?_)
          have hR_q_5 : mR I w f_q_5 := by rw [e_q_5]; exact (fx.mR hfx2 hR).hi hW (by unfold lpos; omega)
          refine R_aload_n r_137_169 rfl (by decide) ?_
          refine R_getf r_137_170 (by decide) hC_q_5.1 rfl ?_
          refine R_iconst r_137_173 (v := nI 1) rfl ?_
          refine R_dup2 r_137_174 rfl rfl ?_
          refine R_iald r_137_175 (by decide) (hC_q_5.2 29 (by decide) (by decide)) (sm_ixG (by rw [e_q_5, fu_n (by decide)]; exact (fx.mD hfx2 hD).2.1) (by decide)) ?_
          refine R_iconst r_137_176 (v := nI 1) rfl ?_
          refine R_iaddN r_137_177 ?_
          refine R_mst r_137_178 hC_q_5 hL_q_5 (by decide) (by decide) (by show _ < (2 : Nat); omega) (by decide) (fun w_q_6 f_q_6 hC_q_6 hL_q_6 e_q_6 hf_q_6 => ?_)
          have hR_q_6 : mR I w f_q_6 := by rw [e_q_6]; exact hR_q_5.hi hW (by unfold lpos; omega)
          refine R_iconst r_137_179 (v := nI 1) rfl ?_
          refine R_iret r_137_180 (ty := .boolean) rfl (by decide) (by decide) ?_
          rw [Bool.and_eq_true, decide_eq_true_iff, decide_eq_true_iff] at h_in
          have hD3 := fx.mD hfx2 hD
          refine hS ll e (tkB D (ll.getD 0 0)) (itC_M.mpr (by rw [hcl]; exact ⟨by decide, hll, (okR1 (rdM_ok _ _ _ _ _ hll).1).mpr h_in⟩)) (by rw [hcl]; unfold tkI; rw [if_neg (by decide), if_pos rfl, if_pos (by omega)]) _ _ hC_q_6 hL_q_6 hR_q_6 ?_ (fk.tr hfx2.fk (fk.tr (fk_e e_q_5 (by decide)) (fk_e e_q_6 (by decide)))) (frm.tr (frm.tr (frm.tr hf_q_1 hf2) hf_q_5) hf_q_6)
          refine ⟨by rw [e_q_6, fu_n (by decide)]; rw [e_q_5, fu_n (by decide)]; exact hD3.1, by rw [e_q_6, fu_s]; exact List.getElem?_set_self (by rw [hL_q_5 29 (by decide) (by decide)]; show _ < (2 : Nat); omega), fun i hi => ⟨by rw [e_q_6, fu_n (by decide)]; rw [e_q_5, fu_n (by decide)]; exact (hD3.2.2.1 i hi).1, by rw [e_q_6, fu_n (by decide)]; rw [e_q_5, fu_n (by decide)]; exact (hD3.2.2.1 i hi).2.1, by rw [e_q_6, fu_n (by decide)]; rw [e_q_5, fu_n (by decide)]; exact (hD3.2.2.1 i hi).2.2.1, by rw [e_q_6, fu_n (by decide)]; rw [e_q_5, fu_n (by decide)]; exact (hD3.2.2.1 i hi).2.2.2⟩, fun b hb => ?_, by rw [e_q_6, fu_n (by decide)]; rw [e_q_5, fu_n (by decide)]; exact hD3.2.2.2.2.1, by rw [e_q_6, fu_n (by decide)]; rw [e_q_5, fu_n (by decide)]; exact hD3.2.2.2.2.2.1, by rw [e_q_6, fu_n (by decide)]; rw [e_q_5, fu_n (by decide)]; exact hD3.2.2.2.2.2.2.1, by rw [e_q_6, fu_n (by decide)]; rw [e_q_5, fu_n (by decide)]; exact hD3.2.2.2.2.2.2.2⟩
          have hb2 : b < iB D + 1 := hb
          rw [show (iS (tkB D (ll.getD 0 0))).getD b 0 = if b = iB D then ll.getD 0 0 else (iS D).getD b 0 from set_get (by rw [hWD.1.2.2.1]; omega)]
          by_cases eb : b = iB D
          · subst eb; rw [if_pos rfl]; rw [e_q_6, fu_n (by decide)]; rw [e_q_5, fu_s]; exact List.getElem?_set_self (by rw [hL2 30 (by decide) (by decide)]; show _ < (10 : Nat); omega)
          · rw [if_neg eb]; rw [e_q_6, fu_n (by decide)]; rw [e_q_5, fu_s, List.getElem?_set_ne (by omega)]; exact hD3.2.2.2.1 b (by omega)
        · have h_in : (decide (1 ≤ ll.getD 0 0) && decide (ll.getD 0 0 ≤ 8)) = false := by assumption
          refine R_iconst r_137_148 (v := nI 0) rfl ?_
          refine R_iret r_137_149 (ty := .boolean) rfl (by decide) (by decide) ?_
          refine hF (fun l e D2 hi ht => ?_) _ _ _ hC2 hL2 (fx.mR hfx2 hR) (fx.mD hfx2 hD) hfx2.fk (frm.tr hf_q_1 hf2)
          have h1 := itC_M.mp hi
          rw [hcl] at h1 ht
          cases (Option.some.inj (hll.symm.trans h1.2.1))
          have h2 := (okR1 (rdM_ok _ _ _ _ _ hll).1).mp h1.2.2
          have m0 : msN 98 0 = 8 := rfl
          have m1 : lsN 98 = 1 := rfl
          have h3 : iB D < 5 := by unfold tkI at ht; rw [if_neg (by decide), if_pos rfl] at ht; split at ht; assumption; cases ht
          first | omega | (rw [decide_eq_true (by omega), decide_eq_true (by omega)] at h_in; cases h_in)
  · subst hts_2
    refine R_tsIn r_137_20 (by decide) (by rfl) (t := 217) (by decide) ?_
    refine R_iconst r_137_217 (v := nI 0) rfl ?_
    refine R_iret r_137_218 (ty := .boolean) rfl (by decide) (by decide) ?_
    refine hF (fun l e D2 hi _ => ?_) _ _ _ hC_q_1 hL hR hD fk.rf hf_q_1
    have h1 := (itC_M.mp hi).1
    rw [hcl] at h1
    exact h1 (by decide)
  · subst hts_2
    refine R_tsIn r_137_20 (by decide) (by rfl) (t := 181) (by decide) ?_
    refine R_aload_n r_137_181 rfl (by decide) ?_
    refine R_iconst r_137_182 (v := nI 0) rfl ?_
    refine R_iconst r_137_183 (v := nI 0) rfl ?_
    refine R_bipush r_137_184 (v := nI 9) rfl ?_
    refine R_call4 r_137_186 rfl (sm_rvM rfl rfl rfl hC_q_1) (Nat.le_of_ble_eq_true rfl) (Nat.le_of_ble_eq_true rfl) ?_
    refine m_lawItem hC_q_1 hL hR hW hx (by omega) hD (kk := 0) (lo := 0) (hi := 9) (by decide) (by decide) (by decide) (fun hno w2 f2 sp2 hC2 hL2 hR2 hD2 hk2 hf2 => ?_) (fun l e hl hlo hhi3 w2 f2 hC2 hL2 hR2 hnew hold hk2 hf2 => ?_)
    · refine R_iret r_137_189 (ty := .boolean) rfl (by decide) (by decide) ?_
      refine hF (fun l e D2 hi ht => ?_) _ _ _ hC2 hL2 hR2 hD2 hk2 (frm.tr hf_q_1 hf2)
      have h1 := itC_M.mp hi
      rw [hcl] at h1
      have h2 := (okR1 (rdM_ok _ _ _ _ _ h1.2.1).1).mp h1.2.2
      have m0 : msN 100 0 = 9 := rfl
      have m1 : lsN 100 = 0 := rfl
      exact hno l e h1.2.1 (by omega)
    · refine R_iret r_137_189 (ty := .boolean) rfl (by decide) (by decide) ?_
      have m0 : msN 100 0 = 9 := rfl
      have m1 : lsN 100 = 0 := rfl
      refine hS l e _ (itC_M.mpr (by rw [hcl]; exact ⟨by decide, hl, (okR1 (rdM_ok _ _ _ _ _ hl).1).mpr (by omega)⟩)) (by rw [hcl]; rfl) _ _ hC2 hL2 hR2 ?_ hk2 (frm.tr hf_q_1 hf2)
      exact ⟨(hold 24 1 (by decide) (by decide) (by omega)).trans hD.1, (hold 29 1 (by decide) (by decide) (by omega)).trans hD.2.1, fun i hi => ⟨(hold 25 (8 + i) (by decide) (by decide) (by omega)).trans (hD.2.2.1 i hi).1, (hold 26 (8 + i) (by decide) (by decide) (by omega)).trans (hD.2.2.1 i hi).2.1, (hold 27 (8 + i) (by decide) (by decide) (by omega)).trans (hD.2.2.1 i hi).2.2.1, (hold 28 (8 + i) (by decide) (by decide) (by omega)).trans (hD.2.2.1 i hi).2.2.2⟩, fun b hb => (hold 30 (5 + b) (by decide) (by decide) (by omega)).trans (hD.2.2.2.1 b hb), hnew, (hold 31 5 (by decide) (by decide) (by omega)).trans hD.2.2.2.2.2.1, (hold 31 6 (by decide) (by decide) (by omega)).trans hD.2.2.2.2.2.2.1, (hold 31 7 (by decide) (by decide) (by omega)).trans hD.2.2.2.2.2.2.2⟩
  · subst hts_2
    refine R_tsIn r_137_20 (by decide) (by rfl) (t := 217) (by decide) ?_
    refine R_iconst r_137_217 (v := nI 0) rfl ?_
    refine R_iret r_137_218 (ty := .boolean) rfl (by decide) (by decide) ?_
    refine hF (fun l e D2 hi _ => ?_) _ _ _ hC_q_1 hL hR hD fk.rf hf_q_1
    have h1 := (itC_M.mp hi).1
    rw [hcl] at h1
    exact h1 (by decide)
  · subst hts_2
    refine R_tsIn r_137_20 (by decide) (by rfl) (t := 217) (by decide) ?_
    refine R_iconst r_137_217 (v := nI 0) rfl ?_
    refine R_iret r_137_218 (ty := .boolean) rfl (by decide) (by decide) ?_
    refine hF (fun l e D2 hi _ => ?_) _ _ _ hC_q_1 hL hR hD fk.rf hf_q_1
    have h1 := (itC_M.mp hi).1
    rw [hcl] at h1
    exact h1 (by decide)
  · subst hts_2
    refine R_tsIn r_137_20 (by decide) (by rfl) (t := 217) (by decide) ?_
    refine R_iconst r_137_217 (v := nI 0) rfl ?_
    refine R_iret r_137_218 (ty := .boolean) rfl (by decide) (by decide) ?_
    refine hF (fun l e D2 hi _ => ?_) _ _ _ hC_q_1 hL hR hD fk.rf hf_q_1
    have h1 := (itC_M.mp hi).1
    rw [hcl] at h1
    exact h1 (by decide)
  · subst hts_2
    refine R_tsIn r_137_20 (by decide) (by rfl) (t := 199) (by decide) ?_
    refine R_aload_n r_137_199 rfl (by decide) ?_
    refine R_iconst r_137_200 (v := nI 2) rfl ?_
    refine R_iconst r_137_201 (v := nI 1) rfl ?_
    refine R_bipush r_137_202 (v := nI 9) rfl ?_
    refine R_call4 r_137_204 rfl (sm_rvM rfl rfl rfl hC_q_1) (Nat.le_of_ble_eq_true rfl) (Nat.le_of_ble_eq_true rfl) ?_
    refine m_lawItem hC_q_1 hL hR hW hx (by omega) hD (kk := 2) (lo := 1) (hi := 9) (by decide) (by decide) (by decide) (fun hno w2 f2 sp2 hC2 hL2 hR2 hD2 hk2 hf2 => ?_) (fun l e hl hlo hhi3 w2 f2 hC2 hL2 hR2 hnew hold hk2 hf2 => ?_)
    · refine R_iret r_137_207 (ty := .boolean) rfl (by decide) (by decide) ?_
      refine hF (fun l e D2 hi ht => ?_) _ _ _ hC2 hL2 hR2 hD2 hk2 (frm.tr hf_q_1 hf2)
      have h1 := itC_M.mp hi
      rw [hcl] at h1
      have h2 := (okR1 (rdM_ok _ _ _ _ _ h1.2.1).1).mp h1.2.2
      have m0 : msN 104 0 = 9 := rfl
      have m1 : lsN 104 = 1 := rfl
      exact hno l e h1.2.1 (by omega)
    · refine R_iret r_137_207 (ty := .boolean) rfl (by decide) (by decide) ?_
      have m0 : msN 104 0 = 9 := rfl
      have m1 : lsN 104 = 1 := rfl
      refine hS l e _ (itC_M.mpr (by rw [hcl]; exact ⟨by decide, hl, (okR1 (rdM_ok _ _ _ _ _ hl).1).mpr (by omega)⟩)) (by rw [hcl]; rfl) _ _ hC2 hL2 hR2 ?_ hk2 (frm.tr hf_q_1 hf2)
      exact ⟨(hold 24 1 (by decide) (by decide) (by omega)).trans hD.1, (hold 29 1 (by decide) (by decide) (by omega)).trans hD.2.1, fun i hi => ⟨(hold 25 (8 + i) (by decide) (by decide) (by omega)).trans (hD.2.2.1 i hi).1, (hold 26 (8 + i) (by decide) (by decide) (by omega)).trans (hD.2.2.1 i hi).2.1, (hold 27 (8 + i) (by decide) (by decide) (by omega)).trans (hD.2.2.1 i hi).2.2.1, (hold 28 (8 + i) (by decide) (by decide) (by omega)).trans (hD.2.2.1 i hi).2.2.2⟩, fun b hb => (hold 30 (5 + b) (by decide) (by decide) (by omega)).trans (hD.2.2.2.1 b hb), (hold 31 4 (by decide) (by decide) (by omega)).trans hD.2.2.2.2.1, (hold 31 5 (by decide) (by decide) (by omega)).trans hD.2.2.2.2.2.1, hnew, (hold 31 7 (by decide) (by decide) (by omega)).trans hD.2.2.2.2.2.2.2⟩
  · subst hts_2
    refine R_tsIn r_137_20 (by decide) (by rfl) (t := 108) (by decide) ?_
    refine R_aload_n r_137_108 rfl (by decide) ?_
    refine R_call1 r_137_109 rfl (sm_rvM rfl rfl rfl hC_q_1) (Nat.le_of_ble_eq_true rfl) (Nat.le_of_ble_eq_true rfl) ?_
    refine m_islanderItem hC_q_1 hL hR hW hx (by omega) hD hWD (fun hno w2 f2 sp2 hC2 hL2 hR2 hD2 hk2 hf2 => ?_) (fun l e hl hn ok w2 f2 hC2 hL2 hR2 hD2 hk2 hf2 => ?_)
    · refine R_iret r_137_112 (ty := .boolean) rfl (by decide) (by decide) ?_
      refine hF (fun l e D2 hi ht => ?_) _ _ _ hC2 hL2 hR2 hD2 hk2 (frm.tr hf_q_1 hf2)
      have h1 := itC_M.mp hi
      rw [hcl] at h1 ht
      refine hno l e h1.2.1 ⟨?_, h1.2.2⟩
      unfold tkI at ht; rw [if_pos rfl] at ht; split at ht; assumption; cases ht
    · refine R_iret r_137_112 (ty := .boolean) rfl (by decide) (by decide) ?_
      exact hS l e _ (itC_M.mpr (by rw [hcl]; exact ⟨by decide, hl, ok⟩)) (by rw [hcl]; unfold tkI; rw [if_pos rfl, if_pos hn]) _ _ hC2 hL2 hR2 hD2 hk2 (frm.tr hf_q_1 hf2)
  · subst hts_2
    refine R_tsIn r_137_20 (by decide) (by rfl) (t := 217) (by decide) ?_
    refine R_iconst r_137_217 (v := nI 0) rfl ?_
    refine R_iret r_137_218 (ty := .boolean) rfl (by decide) (by decide) ?_
    refine hF (fun l e D2 hi _ => ?_) _ _ _ hC_q_1 hL hR hD fk.rf hf_q_1
    have h1 := (itC_M.mp hi).1
    rw [hcl] at h1
    exact h1 (by decide)
  · subst hts_2
    refine R_tsIn r_137_20 (by decide) (by rfl) (t := 217) (by decide) ?_
    refine R_iconst r_137_217 (v := nI 0) rfl ?_
    refine R_iret r_137_218 (ty := .boolean) rfl (by decide) (by decide) ?_
    refine hF (fun l e D2 hi _ => ?_) _ _ _ hC_q_1 hL hR hD fk.rf hf_q_1
    have h1 := (itC_M.mp hi).1
    rw [hcl] at h1
    exact h1 (by decide)
  · subst hts_2
    refine R_tsIn r_137_20 (by decide) (by rfl) (t := 217) (by decide) ?_
    refine R_iconst r_137_217 (v := nI 0) rfl ?_
    refine R_iret r_137_218 (ty := .boolean) rfl (by decide) (by decide) ?_
    refine hF (fun l e D2 hi _ => ?_) _ _ _ hC_q_1 hL hR hD fk.rf hf_q_1
    have h1 := (itC_M.mp hi).1
    rw [hcl] at h1
    exact h1 (by decide)
  · subst hts_2
    refine R_tsIn r_137_20 (by decide) (by rfl) (t := 190) (by decide) ?_
    refine R_aload_n r_137_190 rfl (by decide) ?_
    refine R_iconst r_137_191 (v := nI 1) rfl ?_
    refine R_iconst r_137_192 (v := nI 0) rfl ?_
    refine R_bipush r_137_193 (v := nI 40) rfl ?_
    refine R_call4 r_137_195 rfl (sm_rvM rfl rfl rfl hC_q_1) (Nat.le_of_ble_eq_true rfl) (Nat.le_of_ble_eq_true rfl) ?_
    refine m_lawItem hC_q_1 hL hR hW hx (by omega) hD (kk := 1) (lo := 0) (hi := 40) (by decide) (by decide) (by decide) (fun hno w2 f2 sp2 hC2 hL2 hR2 hD2 hk2 hf2 => ?_) (fun l e hl hlo hhi3 w2 f2 hC2 hL2 hR2 hnew hold hk2 hf2 => ?_)
    · refine R_iret r_137_198 (ty := .boolean) rfl (by decide) (by decide) ?_
      refine hF (fun l e D2 hi ht => ?_) _ _ _ hC2 hL2 hR2 hD2 hk2 (frm.tr hf_q_1 hf2)
      have h1 := itC_M.mp hi
      rw [hcl] at h1
      have h2 := (okR1 (rdM_ok _ _ _ _ _ h1.2.1).1).mp h1.2.2
      have m0 : msN 109 0 = 40 := rfl
      have m1 : lsN 109 = 0 := rfl
      exact hno l e h1.2.1 (by omega)
    · refine R_iret r_137_198 (ty := .boolean) rfl (by decide) (by decide) ?_
      have m0 : msN 109 0 = 40 := rfl
      have m1 : lsN 109 = 0 := rfl
      refine hS l e _ (itC_M.mpr (by rw [hcl]; exact ⟨by decide, hl, (okR1 (rdM_ok _ _ _ _ _ hl).1).mpr (by omega)⟩)) (by rw [hcl]; rfl) _ _ hC2 hL2 hR2 ?_ hk2 (frm.tr hf_q_1 hf2)
      exact ⟨(hold 24 1 (by decide) (by decide) (by omega)).trans hD.1, (hold 29 1 (by decide) (by decide) (by omega)).trans hD.2.1, fun i hi => ⟨(hold 25 (8 + i) (by decide) (by decide) (by omega)).trans (hD.2.2.1 i hi).1, (hold 26 (8 + i) (by decide) (by decide) (by omega)).trans (hD.2.2.1 i hi).2.1, (hold 27 (8 + i) (by decide) (by decide) (by omega)).trans (hD.2.2.1 i hi).2.2.1, (hold 28 (8 + i) (by decide) (by decide) (by omega)).trans (hD.2.2.1 i hi).2.2.2⟩, fun b hb => (hold 30 (5 + b) (by decide) (by decide) (by omega)).trans (hD.2.2.2.1 b hb), (hold 31 4 (by decide) (by decide) (by omega)).trans hD.2.2.2.2.1, hnew, (hold 31 6 (by decide) (by decide) (by omega)).trans hD.2.2.2.2.2.2.1, (hold 31 7 (by decide) (by decide) (by omega)).trans hD.2.2.2.2.2.2.2⟩
  · subst hts_2
    refine R_tsIn r_137_20 (by decide) (by rfl) (t := 217) (by decide) ?_
    refine R_iconst r_137_217 (v := nI 0) rfl ?_
    refine R_iret r_137_218 (ty := .boolean) rfl (by decide) (by decide) ?_
    refine hF (fun l e D2 hi _ => ?_) _ _ _ hC_q_1 hL hR hD fk.rf hf_q_1
    have h1 := (itC_M.mp hi).1
    rw [hcl] at h1
    exact h1 (by decide)
  · subst hts_2
    refine R_tsIn r_137_20 (by decide) (by rfl) (t := 217) (by decide) ?_
    refine R_iconst r_137_217 (v := nI 0) rfl ?_
    refine R_iret r_137_218 (ty := .boolean) rfl (by decide) (by decide) ?_
    refine hF (fun l e D2 hi _ => ?_) _ _ _ hC_q_1 hL hR hD fk.rf hf_q_1
    have h1 := (itC_M.mp hi).1
    rw [hcl] at h1
    exact h1 (by decide)
  · subst hts_2
    refine R_tsIn r_137_20 (by decide) (by rfl) (t := 217) (by decide) ?_
    refine R_iconst r_137_217 (v := nI 0) rfl ?_
    refine R_iret r_137_218 (ty := .boolean) rfl (by decide) (by decide) ?_
    refine hF (fun l e D2 hi _ => ?_) _ _ _ hC_q_1 hL hR hD fk.rf hf_q_1
    have h1 := (itC_M.mp hi).1
    rw [hcl] at h1
    exact h1 (by decide)
  · subst hts_2
    refine R_tsIn r_137_20 (by decide) (by rfl) (t := 217) (by decide) ?_
    refine R_iconst r_137_217 (v := nI 0) rfl ?_
    refine R_iret r_137_218 (ty := .boolean) rfl (by decide) (by decide) ?_
    refine hF (fun l e D2 hi _ => ?_) _ _ _ hC_q_1 hL hR hD fk.rf hf_q_1
    have h1 := (itC_M.mp hi).1
    rw [hcl] at h1
    exact h1 (by decide)
  · subst hts_2
    refine R_tsIn r_137_20 (by decide) (by rfl) (t := 217) (by decide) ?_
    refine R_iconst r_137_217 (v := nI 0) rfl ?_
    refine R_iret r_137_218 (ty := .boolean) rfl (by decide) (by decide) ?_
    refine hF (fun l e D2 hi _ => ?_) _ _ _ hC_q_1 hL hR hD fk.rf hf_q_1
    have h1 := (itC_M.mp hi).1
    rw [hcl] at h1
    exact h1 (by decide)
  · subst hts_2
    refine R_tsIn r_137_20 (by decide) (by rfl) (t := 208) (by decide) ?_
    refine R_aload_n r_137_208 rfl (by decide) ?_
    refine R_iconst r_137_209 (v := nI 3) rfl ?_
    refine R_iconst r_137_210 (v := nI 0) rfl ?_
    refine R_bipush r_137_211 (v := nI 10) rfl ?_
    refine R_call4 r_137_213 rfl (sm_rvM rfl rfl rfl hC_q_1) (Nat.le_of_ble_eq_true rfl) (Nat.le_of_ble_eq_true rfl) ?_
    refine m_lawItem hC_q_1 hL hR hW hx (by omega) hD (kk := 3) (lo := 0) (hi := 10) (by decide) (by decide) (by decide) (fun hno w2 f2 sp2 hC2 hL2 hR2 hD2 hk2 hf2 => ?_) (fun l e hl hlo hhi3 w2 f2 hC2 hL2 hR2 hnew hold hk2 hf2 => ?_)
    · refine R_iret r_137_216 (ty := .boolean) rfl (by decide) (by decide) ?_
      refine hF (fun l e D2 hi ht => ?_) _ _ _ hC2 hL2 hR2 hD2 hk2 (frm.tr hf_q_1 hf2)
      have h1 := itC_M.mp hi
      rw [hcl] at h1
      have h2 := (okR1 (rdM_ok _ _ _ _ _ h1.2.1).1).mp h1.2.2
      have m0 : msN 115 0 = 10 := rfl
      have m1 : lsN 115 = 0 := rfl
      exact hno l e h1.2.1 (by omega)
    · refine R_iret r_137_216 (ty := .boolean) rfl (by decide) (by decide) ?_
      have m0 : msN 115 0 = 10 := rfl
      have m1 : lsN 115 = 0 := rfl
      refine hS l e _ (itC_M.mpr (by rw [hcl]; exact ⟨by decide, hl, (okR1 (rdM_ok _ _ _ _ _ hl).1).mpr (by omega)⟩)) (by rw [hcl]; rfl) _ _ hC2 hL2 hR2 ?_ hk2 (frm.tr hf_q_1 hf2)
      exact ⟨(hold 24 1 (by decide) (by decide) (by omega)).trans hD.1, (hold 29 1 (by decide) (by decide) (by omega)).trans hD.2.1, fun i hi => ⟨(hold 25 (8 + i) (by decide) (by decide) (by omega)).trans (hD.2.2.1 i hi).1, (hold 26 (8 + i) (by decide) (by decide) (by omega)).trans (hD.2.2.1 i hi).2.1, (hold 27 (8 + i) (by decide) (by decide) (by omega)).trans (hD.2.2.1 i hi).2.2.1, (hold 28 (8 + i) (by decide) (by decide) (by omega)).trans (hD.2.2.1 i hi).2.2.2⟩, fun b hb => (hold 30 (5 + b) (by decide) (by decide) (by omega)).trans (hD.2.2.2.1 b hb), (hold 31 4 (by decide) (by decide) (by omega)).trans hD.2.2.2.2.1, (hold 31 5 (by decide) (by decide) (by omega)).trans hD.2.2.2.2.2.1, (hold 31 6 (by decide) (by decide) (by omega)).trans hD.2.2.2.2.2.2.1, hnew⟩
