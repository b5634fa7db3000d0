/-! the model: undo, keep, back; what would be: decides, win -/
theorem app_last {α : Type} (l : List α) (c z : α) : (l ++ [c]).getD l.length z = c := by rw [app_get (Nat.lt_succ_self _), if_pos rfl]
theorem app_init {α : Type} {l : List α} {c z : α} {t : Nat} (h : t < l.length) : (l ++ [c]).getD t z = l.getD t z := by rw [app_get (by omega), if_neg (by omega)]
theorem list_last {α : Type} {l : List α} (h : l.length ≠ 0) : ∃ l0 s, l = l0 ++ [s] := by
  have hne : l ≠ [] := fun z => h (by rw [z]; rfl)
  exact ⟨l.dropLast, l.getLast hne, (List.dropLast_concat_getLast hne).symm⟩
theorem rows_init {I : sm_Is} {pa0 : List Nat} {s c : Nat} {l : List Int32} (h : (pa0 ++ [s]).length ≤ c ∧ ∀ t, t < (pa0 ++ [s]).length → rowR I ((pa0 ++ [s]).getD t 0) (fun k => l[24 * t + k]?)) : (pa0.length ≤ c ∧ ∀ t, t < pa0.length → rowR I (pa0.getD t 0) (fun k => l[24 * t + k]?)) ∧ rowR I s (fun k => l[24 * pa0.length + k]?) := by
  rw [app_len] at h
  refine ⟨⟨by omega, fun t ht => ?_⟩, ?_⟩
  · have h9 := h.2 t (by omega); rw [app_init ht] at h9; exact h9
  · have h9 := h.2 pa0.length (by omega); rw [app_last] at h9; exact h9
theorem rows_snoc {I : sm_Is} {pa : List Nat} {s c : Nat} {l l2 now : List Int32} (h8 : iN I ≤ 8) (hc : pa.length + 1 ≤ c) (h : ∀ t, t < pa.length → rowR I (pa.getD t 0) (fun k => l[24 * t + k]?)) (hs : rowR I s (fun k => now[k]?)) (h1 : ∀ t, t < 24 → l2[24 * pa.length + t]? = now[0 + t]?) (h2 : ∀ t, t < 24 * pa.length → l2[t]? = l[t]?) : (pa ++ [s]).length ≤ c ∧ ∀ t, t < (pa ++ [s]).length → rowR I ((pa ++ [s]).getD t 0) (fun k => l2[24 * t + k]?) := by
  rw [app_len]
  refine ⟨hc, fun t ht => ?_⟩
  by_cases e : t = pa.length
  · subst e
    rw [app_last]
    exact hs.cg h8 (fun k hk => by show l2[24 * pa.length + k]? = now[k]?; rw [h1 k hk, Nat.zero_add])
  · rw [app_init (by omega)]
    exact (h t (by omega)).cg h8 (fun k hk => h2 _ (by omega))
theorem lp_mundo {xs : List Int32} {d : Nat} {Q : Option Value → sm_W → Prop} {ln km sn sp : Int32} {n : Nat} (hn : 24 * n + 24 ≤ 192) {f0 : Nat → List Int32} {wd0 : sm_W} (hQ : ∀ wd f, mC wd ln (nI n) km sn sp f → mL f → (∀ q, q ≠ 32 → f q = f0 q) → frm 22 40 wd0 wd → (∀ t, t < 24 → (f 32)[0 + t]? = (f0 33)[24 * n + t]?) → (∀ t, t < 0 → (f 32)[t]? = (f0 32)[t]?) → RT xs (d) 169 54 [some (.ref 22), some (.int (nI 24))] [] wd Q)  : ∀ (k : Nat) (k0 : Nat) (wd : sm_W) (f : Nat → List Int32), (k0 + k = 24) → (mC wd ln (nI n) km sn sp f) → (mL f) → (∀ q, q ≠ 32 → f q = f0 q) → (frm 22 40 wd0 wd) → (∀ t, t < k0 → (f 32)[0 + t]? = (f0 33)[24 * n + t]?) → (∀ t, t < 0 → (f 32)[t]? = (f0 32)[t]?) → RT xs (d) 169 22 [some (.ref 22), some (.int (nI k0))] [] wd Q := by
  intro k
  induction k with
  | zero =>
    intro k0 wd f hk hC hL ho hf hp hq
    refine R_iload_n r_169_22 rfl ?_
    refine R_bipush r_169_23 (v := nI 24) rfl ?_
    refine R_icmp_ge_N r_169_25 (by decide) (by omega) (by omega) (fun h_1 => ?_) (fun h_1 => ?_)
    · obtain rfl : k0 = 24 := by omega
      exact hQ _ _ hC hL ho hf hp hq
    · exfalso; omega
  | succ k ih =>
    intro k0 wd f hk hC hL ho hf hp hq
    have hsl : (f 33).length = 192 := hL 33 (by decide) (by decide)
    have hdl : (f 32).length = 24 := hL 32 (by decide) (by decide)
    obtain ⟨v, hv⟩ : ∃ v, (f 33)[24 * n + k0]? = some v := ⟨_, List.getElem?_eq_getElem (by omega)⟩
    refine R_iload_n r_169_22 rfl ?_
    refine R_bipush r_169_23 (v := nI 24) rfl ?_
    refine R_icmp_ge_N r_169_25 (by decide) (by omega) (by omega) (fun h_1 => ?_) (fun h_1 => ?_)
    · exfalso; omega
    · refine R_aload_n r_169_28 rfl (by decide) ?_
      refine R_getf r_169_29 (by decide) hC.1 rfl ?_
      refine R_iload_n r_169_32 rfl ?_
      refine R_aload_n r_169_33 rfl (by decide) ?_
      refine R_getf r_169_34 (by decide) hC.1 rfl ?_
      refine R_bipush r_169_37 (v := nI 24) rfl ?_
      refine R_aload_n r_169_39 rfl (by decide) ?_
      refine R_getf r_169_40 (by decide) hC.1 rfl ?_
      refine R_imulN r_169_43 ?_
      refine R_iload_n r_169_44 rfl ?_
      refine R_iaddN r_169_45 ?_
      refine R_iald r_169_46 (by decide) (hC.2 33 (by decide) (by decide)) (sm_ixG hv (by omega)) ?_
      refine R_mst r_169_47 hC hL (by decide) (by decide) (by show _ < (24 : Nat); omega) (by decide) (fun w_q_2 f_q_2 hC_q_2 hL_q_2 e_q_2 hf_q_2 => ?_)
      refine R_iinc1 r_169_48 rfl rfl ?_
      refine R_goto r_169_51 (by decide) ?_
      rw [ho 33 (by decide)] at hv
      refine ih (k0 + 1) _ _ (by omega) hC_q_2 hL_q_2 (fun q hq => by rw [e_q_2, fu_n hq]; exact ho q hq) (frm.tr hf hf_q_2) ?_ ?_
      · rw [e_q_2, fu_s]; intro t ht; have h9 := pre_copy (b := 0) (i := k0) (v := v) hp (by omega) hv t ht; rw [Nat.zero_add] at h9; exact h9
      · intro t ht; exact absurd ht (Nat.not_lt_zero t)
theorem m_undo {xs : List Int32} {d : Nat} {wd : sm_W} {Q : Option Value → sm_W → Prop} {tx : List Nat} {I : sm_Is} {w : Nat} {pa sh : List Nat} {sn : List (Nat × Nat)} (hX : mX wd tx I w pa sh sn) (hW : iWF I) (hw : wfW I w) (hB : pa = [] → Q (some (.int (-2))) wd) (hQ : ∀ pa0 s, pa = pa0 ++ [s] → ∀ w2, mX w2 tx I s pa0 sh sn → frm 22 40 wd w2 → Q (some (.int (nI pa0.length))) w2) : Ct xs (d) 169 [.ref 22] wd Q := by
  unfold Ct
  show RT xs (d) 169 0 [some (.ref 22), none] [] wd Q
  obtain ⟨sp, f, hC, hL, hR, hT⟩ := id hX
  obtain ⟨hW1, hW2, hW3, hW4, hW5, hW6, hW7, hW8, hW9, hW10, hW11, hW12, hW13, hW14, hW15⟩ := id hW
  obtain ⟨hT1, hT2, hT3, hT4⟩ := id hT
  refine R_aload_n r_169_0 rfl (by decide) ?_
  refine R_getf r_169_1 (by decide) hC.1 rfl ?_
  refine R_if_ne_N r_169_4 (by decide) (by omega) (fun h_1 => ?_) (fun h_1 => ?_)
  · obtain ⟨pa0, s, rfl⟩ := list_last (by assumption)
    rw [app_len] at hC
    have hpl : pa0.length + 1 ≤ 8 := by have := hT2.1; rw [app_len] at this; exact this
    refine R_aload_n r_169_10 rfl (by decide) ?_
    refine R_dup r_169_11 rfl ?_
    refine R_getf r_169_12 (by decide) hC.1 rfl ?_
    refine R_iconst r_169_15 (v := nI 1) rfl ?_
    refine R_isubN r_169_16 (by omega) ?_
    rw [Nat.add_sub_cancel]
    refine R_mp_um r_169_17 hC rfl rfl (fun w_q_2 hC_q_2 hf_q_2 => ?_)
    refine R_iconst r_169_20 (v := nI 0) rfl ?_
    refine R_istore_n r_169_21 rfl ?_
    refine lp_mundo (n := pa0.length) (f0 := f) (wd0 := wd) (by omega) (fun wd3 f3 hC3 hL3 ho3 hf3 hp3 _ => ?_) 24 0 _ _ (by omega) hC_q_2 hL (fun _ _ => rfl) hf_q_2 (fun t ht => absurd ht (by omega)) (fun t ht => rfl)
    refine R_aload_n r_169_54 rfl (by decide) ?_
    refine R_getf r_169_55 (by decide) hC3.1 rfl ?_
    refine R_iret r_169_58 (ty := .int) rfl rfl (by decide) ?_
    exact hQ pa0 s rfl _ ⟨_, _, hC3, hL3, hR.cgn ho3 ((rows_init hT2).2.cg hW4 (fun k hk => by have h9 := hp3 k hk; rw [Nat.zero_add] at h9; exact h9)), by rw [ho3 23 (by decide)]; exact hT1, by rw [ho3 33 (by decide)]; exact (rows_init hT2).1, by rw [ho3 34 (by decide)]; exact hT3, by rw [ho3 35 (by decide), ho3 36 (by decide)]; exact hT4⟩ hf3
  · refine R_bipush r_169_7 (v := (-2)) rfl ?_
    refine R_iret r_169_9 (ty := .int) rfl rfl (by decide) ?_
    exact hB (List.length_eq_zero_iff.mp (by assumption))
theorem lp_mback {xs : List Int32} {d : Nat} {Q : Option Value → sm_W → Prop} {ln um sn sp : Int32} {n : Nat} (hn : 24 * n + 24 ≤ 48) {f0 : Nat → List Int32} {wd0 : sm_W} (hQ : ∀ wd f, mC wd ln um (nI n) sn sp f → mL f → (∀ q, q ≠ 32 → f q = f0 q) → frm 22 40 wd0 wd → (∀ t, t < 24 → (f 32)[0 + t]? = (f0 34)[24 * n + t]?) → (∀ t, t < 0 → (f 32)[t]? = (f0 32)[t]?) → RT xs (d) 185 54 [some (.ref 22), some (.int (nI 24))] [] wd Q)  : ∀ (k : Nat) (k0 : Nat) (wd : sm_W) (f : Nat → List Int32), (k0 + k = 24) → (mC wd ln um (nI n) sn sp f) → (mL f) → (∀ q, q ≠ 32 → f q = f0 q) → (frm 22 40 wd0 wd) → (∀ t, t < k0 → (f 32)[0 + t]? = (f0 34)[24 * n + t]?) → (∀ t, t < 0 → (f 32)[t]? = (f0 32)[t]?) → RT xs (d) 185 22 [some (.ref 22), some (.int (nI k0))] [] wd Q := by
  intro k
  induction k with
  | zero =>
    intro k0 wd f hk hC hL ho hf hp hq
    refine R_iload_n r_185_22 rfl ?_
    refine R_bipush r_185_23 (v := nI 24) rfl ?_
    refine R_icmp_ge_N r_185_25 (by decide) (by omega) (by omega) (fun h_1 => ?_) (fun h_1 => ?_)
    · obtain rfl : k0 = 24 := by omega
      exact hQ _ _ hC hL ho hf hp hq
    · exfalso; omega
  | succ k ih =>
    intro k0 wd f hk hC hL ho hf hp hq
    have hsl : (f 34).length = 48 := hL 34 (by decide) (by decide)
    have hdl : (f 32).length = 24 := hL 32 (by decide) (by decide)
    obtain ⟨v, hv⟩ : ∃ v, (f 34)[24 * n + k0]? = some v := ⟨_, List.getElem?_eq_getElem (by omega)⟩
    refine R_iload_n r_185_22 rfl ?_
    refine R_bipush r_185_23 (v := nI 24) rfl ?_
    refine R_icmp_ge_N r_185_25 (by decide) (by omega) (by omega) (fun h_1 => ?_) (fun h_1 => ?_)
    · exfalso; omega
    · refine R_aload_n r_185_28 rfl (by decide) ?_
      refine R_getf r_185_29 (by decide) hC.1 rfl ?_
      refine R_iload_n r_185_32 rfl ?_
      refine R_aload_n r_185_33 rfl (by decide) ?_
      refine R_getf r_185_34 (by decide) hC.1 rfl ?_
      refine R_bipush r_185_37 (v := nI 24) rfl ?_
      refine R_aload_n r_185_39 rfl (by decide) ?_
      refine R_getf r_185_40 (by decide) hC.1 rfl ?_
      refine R_imulN r_185_43 ?_
      refine R_iload_n r_185_44 rfl ?_
      refine R_iaddN r_185_45 ?_
      refine R_iald r_185_46 (by decide) (hC.2 34 (by decide) (by decide)) (sm_ixG hv (by omega)) ?_
      refine R_mst r_185_47 hC hL (by decide) (by decide) (by show _ < (24 : Nat); omega) (by decide) (fun w_q_2 f_q_2 hC_q_2 hL_q_2 e_q_2 hf_q_2 => ?_)
      refine R_iinc1 r_185_48 rfl rfl ?_
      refine R_goto r_185_51 (by decide) ?_
      rw [ho 34 (by decide)] at hv
      refine ih (k0 + 1) _ _ (by omega) hC_q_2 hL_q_2 (fun q hq => by rw [e_q_2, fu_n hq]; exact ho q hq) (frm.tr hf hf_q_2) ?_ ?_
      · rw [e_q_2, fu_s]; intro t ht; have h9 := pre_copy (b := 0) (i := k0) (v := v) hp (by omega) hv t ht; rw [Nat.zero_add] at h9; exact h9
      · intro t ht; exact absurd ht (Nat.not_lt_zero t)
theorem m_back {xs : List Int32} {d : Nat} {wd : sm_W} {Q : Option Value → sm_W → Prop} {tx : List Nat} {I : sm_Is} {w : Nat} {pa sh : List Nat} {sn : List (Nat × Nat)} (hX : mX wd tx I w pa sh sn) (hW : iWF I) (hw : wfW I w) (hB : sh = [] → Q (some (.int (-2))) wd) (hQ : ∀ sh0 s, sh = sh0 ++ [s] → ∀ w2, mX w2 tx I s [] sh0 sn → frm 22 40 wd w2 → Q (some (.int (nI sh0.length))) w2) : Ct xs (d) 185 [.ref 22] wd Q := by
  unfold Ct
  show RT xs (d) 185 0 [some (.ref 22), none] [] wd Q
  obtain ⟨sp, f, hC, hL, hR, hT⟩ := id hX
  obtain ⟨hW1, hW2, hW3, hW4, hW5, hW6, hW7, hW8, hW9, hW10, hW11, hW12, hW13, hW14, hW15⟩ := id hW
  obtain ⟨hT1, hT2, hT3, hT4⟩ := id hT
  refine R_aload_n r_185_0 rfl (by decide) ?_
  refine R_getf r_185_1 (by decide) hC.1 rfl ?_
  refine R_if_ne_N r_185_4 (by decide) (by omega) (fun h_1 => ?_) (fun h_1 => ?_)
  · obtain ⟨sh0, s, rfl⟩ := list_last (by assumption)
    rw [app_len] at hC
    have hpl : sh0.length + 1 ≤ 2 := by have := hT3.1; rw [app_len] at this; exact this
    refine R_aload_n r_185_10 rfl (by decide) ?_
    refine R_dup r_185_11 rfl ?_
    refine R_getf r_185_12 (by decide) hC.1 rfl ?_
    refine R_iconst r_185_15 (v := nI 1) rfl ?_
    refine R_isubN r_185_16 (by omega) ?_
    rw [Nat.add_sub_cancel]
    refine R_mp_km r_185_17 hC rfl rfl (fun w_q_2 hC_q_2 hf_q_2 => ?_)
    refine R_iconst r_185_20 (v := nI 0) rfl ?_
    refine R_istore_n r_185_21 rfl ?_
    refine lp_mback (n := sh0.length) (f0 := f) (wd0 := wd) (by omega) (fun wd3 f3 hC3 hL3 ho3 hf3 hp3 _ => ?_) 24 0 _ _ (by omega) hC_q_2 hL (fun _ _ => rfl) hf_q_2 (fun t ht => absurd ht (by omega)) (fun t ht => rfl)
    refine R_aload_n r_185_54 rfl (by decide) ?_
    refine R_iconst r_185_55 (v := nI 0) rfl ?_
    refine R_mp_um r_185_56 hC3 rfl rfl (fun w_q_51 hC_q_51 hf_q_51 => ?_)
    refine R_aload_n r_185_59 rfl (by decide) ?_
    refine R_getf r_185_60 (by decide) hC_q_51.1 rfl ?_
    refine R_iret r_185_63 (ty := .int) rfl rfl (by decide) ?_
    exact hQ sh0 s rfl _ ⟨_, _, hC_q_51, hL3, hR.cgn ho3 ((rows_init hT3).2.cg hW4 (fun k hk => by have h9 := hp3 k hk; rw [Nat.zero_add] at h9; exact h9)), by rw [ho3 23 (by decide)]; exact hT1, ⟨by decide, fun t ht => absurd ht (Nat.not_lt_zero t)⟩, by rw [ho3 34 (by decide)]; exact (rows_init hT3).1, by rw [ho3 35 (by decide), ho3 36 (by decide)]; exact hT4⟩ (frm.tr hf3 hf_q_51)
  · refine R_bipush r_185_7 (v := (-2)) rfl ?_
    refine R_iret r_185_9 (ty := .int) rfl rfl (by decide) ?_
    exact hB (List.length_eq_zero_iff.mp (by assumption))
theorem lp_mkeep {xs : List Int32} {d : Nat} {Q : Option Value → sm_W → Prop} {ln um sn sp : Int32} {n : Nat} (hn : 24 * n + 24 ≤ 48) {f0 : Nat → List Int32} {wd0 : sm_W} (hQ : ∀ wd f, mC wd ln um (nI n) sn sp f → mL f → (∀ q, q ≠ 34 → f q = f0 q) → frm 22 40 wd0 wd → (∀ t, t < 24 → (f 34)[24 * n + t]? = (f0 32)[0 + t]?) → (∀ t, t < 24 * n → (f 34)[t]? = (f0 34)[t]?) → RT xs (d) 184 45 [some (.ref 22), some (.int (nI 24))] [] wd Q)  : ∀ (k : Nat) (k0 : Nat) (wd : sm_W) (f : Nat → List Int32), (k0 + k = 24) → (mC wd ln um (nI n) sn sp f) → (mL f) → (∀ q, q ≠ 34 → f q = f0 q) → (frm 22 40 wd0 wd) → (∀ t, t < k0 → (f 34)[24 * n + t]? = (f0 32)[0 + t]?) → (∀ t, t < 24 * n → (f 34)[t]? = (f0 34)[t]?) → RT xs (d) 184 13 [some (.ref 22), some (.int (nI k0))] [] wd Q := by
  intro k
  induction k with
  | zero =>
    intro k0 wd f hk hC hL ho hf hp hq
    refine R_iload_n r_184_13 rfl ?_
    refine R_bipush r_184_14 (v := nI 24) rfl ?_
    refine R_icmp_ge_N r_184_16 (by decide) (by omega) (by omega) (fun h_1 => ?_) (fun h_1 => ?_)
    · obtain rfl : k0 = 24 := by omega
      exact hQ _ _ hC hL ho hf hp hq
    · exfalso; omega
  | succ k ih =>
    intro k0 wd f hk hC hL ho hf hp hq
    have hsl : (f 32).length = 24 := hL 32 (by decide) (by decide)
    have hdl : (f 34).length = 48 := hL 34 (by decide) (by decide)
    obtain ⟨v, hv⟩ : ∃ v, (f 32)[0 + k0]? = some v := ⟨_, List.getElem?_eq_getElem (by omega)⟩
    refine R_iload_n r_184_13 rfl ?_
    refine R_bipush r_184_14 (v := nI 24) rfl ?_
    refine R_icmp_ge_N r_184_16 (by decide) (by omega) (by omega) (fun h_1 => ?_) (fun h_1 => ?_)
    · exfalso; omega
    · refine R_aload_n r_184_19 rfl (by decide) ?_
      refine R_getf r_184_20 (by decide) hC.1 rfl ?_
      refine R_bipush r_184_23 (v := nI 24) rfl ?_
      refine R_aload_n r_184_25 rfl (by decide) ?_
      refine R_getf r_184_26 (by decide) hC.1 rfl ?_
      refine R_imulN r_184_29 ?_
      refine R_iload_n r_184_30 rfl ?_
      refine R_iaddN r_184_31 ?_
      refine R_aload_n r_184_32 rfl (by decide) ?_
      refine R_getf r_184_33 (by decide) hC.1 rfl ?_
      refine R_iload_n r_184_36 rfl ?_
      refine R_iald r_184_37 (by decide) (hC.2 32 (by decide) (by decide)) (sm_ixG (by rw [Nat.zero_add] at hv; exact hv) (by omega)) ?_
      refine R_mst r_184_38 hC hL (by decide) (by decide) (by show _ < (48 : Nat); omega) (by decide) (fun w_q_2 f_q_2 hC_q_2 hL_q_2 e_q_2 hf_q_2 => ?_)
      refine R_iinc1 r_184_39 rfl rfl ?_
      refine R_goto r_184_42 (by decide) ?_
      rw [ho 32 (by decide)] at hv
      refine ih (k0 + 1) _ _ (by omega) hC_q_2 hL_q_2 (fun q hq => by rw [e_q_2, fu_n hq]; exact ho q hq) (frm.tr hf hf_q_2) ?_ ?_
      · rw [e_q_2, fu_s]; exact pre_copy hp (by omega) hv
      · rw [e_q_2, fu_s]; exact low_copy hq
theorem m_keep {xs : List Int32} {d : Nat} {wd : sm_W} {Q : Option Value → sm_W → Prop} {tx : List Nat} {I : sm_Is} {w : Nat} {pa sh : List Nat} {sn : List (Nat × Nat)} (hX : mX wd tx I w pa sh sn) (hW : iWF I) (hw : wfW I w) (hB : sh.length = 2 → Q (some (.int (-3))) wd) (hQ : sh.length < 2 → ∀ w2, mX w2 tx I w pa (sh ++ [w]) sn → frm 22 40 wd w2 → Q (some (.int (nI (sh.length + 1)))) w2) : Ct xs (d) 184 [.ref 22] wd Q := by
  unfold Ct
  show RT xs (d) 184 0 [some (.ref 22), none] [] wd Q
  obtain ⟨sp, f, hC, hL, hR, hT⟩ := id hX
  obtain ⟨hW1, hW2, hW3, hW4, hW5, hW6, hW7, hW8, hW9, hW10, hW11, hW12, hW13, hW14, hW15⟩ := id hW
  obtain ⟨hT1, hT2, hT3, hT4⟩ := id hT
  refine R_aload_n r_184_0 rfl (by decide) ?_
  refine R_getf r_184_1 (by decide) hC.1 rfl ?_
  refine R_iconst r_184_4 (v := nI 2) rfl ?_
  refine R_icmp_ne_N r_184_5 (by decide) (by omega) (by omega) (fun h_1 => ?_) (fun h_1 => ?_)
  · refine R_iconst r_184_11 (v := nI 0) rfl ?_
    refine R_istore_n r_184_12 rfl ?_
    refine lp_mkeep (n := sh.length) (f0 := f) (wd0 := wd) (by omega) (fun wd3 f3 hC3 hL3 ho3 hf3 hp3 hq3 => ?_) 24 0 _ _ (by omega) hC hL (fun _ _ => rfl) frm.rf (fun t ht => absurd ht (by omega)) (fun t ht => rfl)
    refine R_aload_n r_184_45 rfl (by decide) ?_
    refine R_dup r_184_46 rfl ?_
    refine R_getf r_184_47 (by decide) hC3.1 rfl ?_
    refine R_iconst r_184_50 (v := nI 1) rfl ?_
    refine R_iaddN r_184_51 ?_
    refine R_mp_km r_184_52 hC3 rfl rfl (fun w_q_51 hC_q_51 hf_q_51 => ?_)
    refine R_aload_n r_184_55 rfl (by decide) ?_
    refine R_getf r_184_56 (by decide) hC_q_51.1 rfl ?_
    refine R_iret r_184_59 (ty := .int) rfl rfl (by decide) ?_
    exact hQ (by omega) _ ⟨_, _, by rw [app_len]; exact hC_q_51, hL3, hR.cg (fun k hk => ho3 k (by omega)), by rw [ho3 23 (by decide)]; exact hT1, by rw [ho3 33 (by decide)]; exact hT2, rows_snoc hW4 (by omega) hT3.2 hR.2 hp3 hq3, by rw [ho3 35 (by decide), ho3 36 (by decide)]; exact hT4⟩ (frm.tr hf3 hf_q_51)
  · refine R_bipush r_184_8 (v := (-3)) rfl ?_
    refine R_iret r_184_10 (ty := .int) rfl rfl (by decide) ?_
    exact hB (by assumption)
/-- the standing with those of a set against a question turned round -/
def xw (w q s : Nat) : Nat := w ^^^ s <<< (8 * q)
theorem xw_xw (w q s : Nat) : xw (xw w q s) q s = w := by unfold xw; rw [Nat.xor_assoc, Nat.xor_self, Nat.xor_zero]
theorem xw_0 (w q : Nat) : xw w q 0 = w := by unfold xw; rw [Nat.zero_shiftLeft, Nat.xor_zero]
theorem spart_xw {w q s p k : Nat} (i : Nat) : (spart (xw w q s) p k).testBit i = (decide (i < k) && (w.testBit (p + i) ^^ (decide (8 * q ≤ p + i) && s.testBit (p + i - 8 * q)))) := by
  rw [spart_bit]
  unfold xw
  rw [Nat.testBit_xor, Nat.testBit_shiftLeft]
theorem big_bit {s t : Nat} (hs : s < 256) (ht : 8 ≤ t) : s.testBit t = false := Nat.testBit_lt_two_pow (Nat.lt_of_lt_of_le hs (Nat.pow_le_pow_right (n := 2) (i := 8) (by decide) ht))
theorem spart_hi {w q s p k : Nat} (hs : s < 256) (hq : q < 2) (hp : 16 ≤ p) : spart (xw w q s) p k = spart w p k := by
  apply Nat.eq_of_testBit_eq
  intro i
  rw [spart_xw, spart_bit, big_bit hs (by omega)]
  simp
theorem sMind_xw {w q s : Nat} (hs : s < 256) (hq : q < 2) : sMind (xw w q s) = sMind w := funext fun i => spart_hi hs hq (by omega)
theorem sHeld_xw {w q s : Nat} (hs : s < 256) (hq : q < 2) : sHeld (xw w q s) = sHeld w := spart_hi hs hq (by omega)
theorem sStorm_xw {w q s : Nat} (hs : s < 256) (hq : q < 2) : sStorm (xw w q s) = sStorm w := by unfold sStorm; rw [spart_hi hs hq (by omega)]
theorem sIce_xw {w q s : Nat} (hs : s < 256) (hq : q < 2) : sIce (xw w q s) = sIce w := by unfold sIce; rw [spart_hi hs hq (by omega)]
theorem sAg_xw {w q s : Nat} (hs : s < 256) : sAg (xw w q s) q = sAg w q ^^^ s := by
  apply Nat.eq_of_testBit_eq
  intro i
  unfold sAg
  rw [spart_xw, Nat.testBit_xor, spart_bit, decide_eq_true (by omega : 8 * q ≤ 8 * q + i), show 8 * q + i - 8 * q = i by omega]
  by_cases h : i < 8
  · simp [h]
  · rw [big_bit hs (by omega)]; simp [h]
theorem sAg_xw2 {w q q2 s : Nat} (hs : s < 256) (h : q < 2) (h2 : q2 < 2) (hn : q2 ≠ q) : sAg (xw w q s) q2 = sAg w q2 := by
  apply Nat.eq_of_testBit_eq
  intro i
  unfold sAg
  rw [spart_xw, spart_bit]
  by_cases h8 : i < 8
  · by_cases h3 : 8 * q ≤ 8 * q2 + i
    · rw [big_bit hs (by omega)]; simp
    · simp [h3]
  · simp [h8]
theorem lean_xw {w q s t : Nat} (hs : s < 256) (hq : q < 2) (ht : t < 8) : sLean (xw w q s) t = sLean w t ^^^ (if s.testBit t = true then 1 <<< q else 0) := by
  apply Nat.eq_of_testBit_eq
  intro i
  by_cases hi : i < 2
  · rw [lean_bit hi ht, Nat.testBit_xor, lean_bit hi ht]
    by_cases e : i = q
    · subst e
      rw [sAg_xw hs, Nat.testBit_xor]
      congr 1
      split
      · rename_i h; rw [h, bit1]; simp
      · rename_i h; rw [Nat.zero_testBit]; exact Bool.eq_false_iff.mpr h
    · rw [sAg_xw2 hs hq hi e]
      split
      · rw [bit1, decide_eq_false (Ne.symm e)]; simp
      · simp
  · have h1 := sLean_lt (xw w q s) t
    have h2 := sLean_lt w t
    have hp : 2 ^ 2 ≤ 2 ^ i := Nat.pow_le_pow_right (by decide) (by omega)
    rw [Nat.testBit_lt_two_pow (by omega), Nat.testBit_xor, Nat.testBit_lt_two_pow (by omega)]
    split
    · rw [bit1, decide_eq_false (by omega)]; rfl
    · rw [Nat.zero_testBit]; rfl
theorem mod_bit (s k t : Nat) : (s % 2 ^ k).testBit t = (decide (t < k) && s.testBit t) := Nat.testBit_mod_two_pow s k t
theorem mod_lt256 {s k : Nat} (hs : s < 256) : s % 2 ^ k < 256 := Nat.lt_of_le_of_lt (Nat.mod_le _ _) hs
theorem row_flip {I : sm_Is} {w q s i v : Nat} {g : Nat → Option Int32} (h8 : iN I ≤ 8) (hs : s < 256) (hq : q < 2) (hi : i < iN I) (h : rowR I (xw w q (s % 2 ^ i)) g) (hv : v = (if s.testBit i = true then 1 <<< q else 0)) : rowR I (xw w q (s % 2 ^ (i + 1))) (rup i (nI (sLean (xw w q (s % 2 ^ i)) i ^^^ v)) g) := by
  have ha := mod_lt256 (k := i) hs
  have hb := mod_lt256 (k := i + 1) hs
  refine ⟨fun t ht => ⟨?_, ?_⟩, fun b hb2 => ?_, ?_, ?_⟩
  · by_cases e : t = i
    · subst e
      rw [rup_s, lean_xw hb hq (by omega), lean_xw ha hq (by omega), mod_bit, mod_bit, hv]
      simp
    · rw [rup_n e, (h.1 t ht).1, lean_xw hb hq (by omega), lean_xw ha hq (by omega), mod_bit, mod_bit, show decide (t < i + 1) = decide (t < i) from decide_eq_decide.mpr (by omega)]
  · rw [rup_n (by omega), (h.1 t ht).2, sMind_xw ha hq, sMind_xw hb hq]
  · rw [rup_n (by omega), h.2.1 b hb2, sHeld_xw ha hq, sHeld_xw hb hq]
  · rw [rup_n (by omega), h.2.2.1, sStorm_xw ha hq, sStorm_xw hb hq]
  · rw [rup_n (by omega), h.2.2.2, sIce_xw ha hq, sIce_xw hb hq]
theorem wf_xw {I : sm_Is} {w q s : Nat} (h8 : iN I ≤ 8) (h : wfW I w) (hq : q < 2) (hs : s < 2 ^ iN I) : wfW I (xw w q s) := by
  have h256 : s < 256 := Nat.lt_of_lt_of_le hs (Nat.pow_le_pow_right (n := 2) (j := 8) (by decide) h8)
  refine ⟨?_, fun i hi => by rw [sMind_xw h256 hq]; exact h.2.1 i hi, fun i h1 h2 => ?_, by rw [sHeld_xw h256 hq]; exact h.2.2.2⟩
  · unfold xw
    refine Nat.xor_lt_two_pow (n := 64) h.1 ?_
    rw [Nat.shiftLeft_eq]
    have : 2 ^ (8 * q) ≤ 2 ^ 8 := Nat.pow_le_pow_right (by decide) (by omega)
    have := Nat.mul_le_mul (Nat.le_of_lt h256) this
    omega
  · rw [lean_xw h256 hq h2, h.2.2.1 i h1 h2, Nat.testBit_lt_two_pow (Nat.lt_of_lt_of_le hs (Nat.pow_le_pow_right (by decide) h1))]
    simp
theorem fall_xw {I : sm_Is} {w q s : Nat} (hs : s < 256) (hq : q < 2) : fallN I (xw w q s) q = fallA I w (sAg w q ^^^ s) := by
  unfold fallN fallA lvs ntG ntB ntV ntS
  rw [sMind_xw hs hq, sHeld_xw hs hq, sStorm_xw hs hq, sIce_xw hs hq, sAg_xw hs]
theorem lp_flip1 {xs : List Int32} {d : Nat} {Q : Option Value → sm_W → Prop} {I : sm_Is} {w : Nat} (hW : iWF I) {ln um km sn sp : Int32} {q s : Nat} (hq : q < 2) (hsn : s < 2 ^ iN I) {wd0 : sm_W} {f0 : Nat → List Int32} (hQ : ∀ wd f, mC wd ln um km sn sp f → mL f → mR I (xw w q s) f → fk f0 f → frm 22 40 wd0 wd → ∀ h4, RT xs (d + 6) 171 42 [some (.ref 22), some (.int (nI q)), some (.int (nI s)), some (.int (nI (iN I))), h4] [] wd Q)  : ∀ (k : Nat) (i : Nat) (wd : sm_W) (f : Nat → List Int32) (h4 : Option Value), (i + k = iN I) → (mC wd ln um km sn sp f) → (mL f) → (mR I (xw w q (s % 2 ^ i)) f) → (fk f0 f) → (frm 22 40 wd0 wd) → RT xs (d + 6) 171 2 [some (.ref 22), some (.int (nI q)), some (.int (nI s)), some (.int (nI i)), h4] [] wd Q := by
  intro k
  induction k with
  | zero =>
    intro i wd f h4 hk hC hL hR hfk hf
    obtain ⟨hW1, hW2, hW3, hW4, hW5, hW6, hW7, hW8, hW9, hW10, hW11, hW12, hW13, hW14, hW15⟩ := id hW
    have hs : s < 256 := Nat.lt_of_lt_of_le hsn (Nat.pow_le_pow_right (n := 2) (j := 8) (by decide) hW4)
    refine R_iload_n r_171_2 rfl ?_
    refine R_aload_n r_171_3 rfl (by decide) ?_
    refine R_getf r_171_4 (by decide) hC.1 rfl ?_
    refine R_iconst r_171_7 (v := nI 0) rfl ?_
    refine R_iald r_171_8 (by decide) (hC.2 24 (by decide) (by decide)) hR.rI ?_
    refine R_icmp_ge_N r_171_9 (by decide) (by omega) (by omega) (fun h_1 => ?_) (fun h_1 => ?_)
    · have ei : iN I = i := by omega
      rw [← ei, Nat.mod_eq_of_lt hsn] at hR
      rw [← ei]
      exact hQ _ _ hC hL hR hfk hf _
    · exfalso; omega
  | succ k ih =>
    intro i wd f h4 hk hC hL hR hfk hf
    obtain ⟨hW1, hW2, hW3, hW4, hW5, hW6, hW7, hW8, hW9, hW10, hW11, hW12, hW13, hW14, hW15⟩ := id hW
    have hs : s < 256 := Nat.lt_of_lt_of_le hsn (Nat.pow_le_pow_right (n := 2) (j := 8) (by decide) hW4)
    refine R_iload_n r_171_2 rfl ?_
    refine R_aload_n r_171_3 rfl (by decide) ?_
    refine R_getf r_171_4 (by decide) hC.1 rfl ?_
    refine R_iconst r_171_7 (v := nI 0) rfl ?_
    refine R_iald r_171_8 (by decide) (hC.2 24 (by decide) (by decide)) hR.rI ?_
    refine R_icmp_ge_N r_171_9 (by decide) (by omega) (by omega) (fun h_1 => ?_) (fun h_1 => ?_)
    · exfalso; omega
    · refine R_aload_n r_171_12 rfl (by decide) ?_
      refine R_getf r_171_13 (by decide) hC.1 rfl ?_
      refine R_iload_n r_171_16 rfl ?_
      refine R_dup2 r_171_17 rfl rfl ?_
      refine R_iald r_171_18 (by decide) (hC.2 32 (by decide) (by decide)) (hR.nl (by omega) hW4) ?_
      refine R_iload_n r_171_19 rfl ?_
      refine R_iload_n r_171_20 rfl ?_
      refine R_call2 r_171_21 rfl rfl (Nat.le_of_ble_eq_true rfl) (Nat.le_of_ble_eq_true rfl) ?_
      refine m_has (by omega) (by omega) ?_
      refine R_if_eq_b r_171_24 (by decide) (fun h_2 => ?_) (fun h_2 => ?_)
      · refine R_iconst r_171_33 (v := nI 0) rfl ?_
        refine R_ixorN r_171_34 ?_
        refine R_mst r_171_35 hC hL (by decide) (by decide) (by show _ < (24 : Nat); omega) (by decide) (fun w_q_3 f_q_3 hC_q_3 hL_q_3 e_q_3 hf_q_3 => ?_)
        refine R_iinc1 r_171_36 rfl rfl ?_
        refine R_goto r_171_39 (by decide) ?_
        exact ih (i + 1) _ _ _ (by omega) hC_q_3 hL_q_3 (by rw [e_q_3]; exact hR.now (row_set hW4 (by rw [hL 32 (by decide) (by decide)]; show _ < (24 : Nat); omega) (row_flip hW4 hs hq (by omega) hR.2 (by simp [*])))) (by rw [e_q_3]; exact hfk.up (by decide)) (frm.tr hf hf_q_3)
      · refine R_iconst r_171_27 (v := nI 1) rfl ?_
        refine R_iload_n r_171_28 rfl ?_
        refine R_ishlN r_171_29 (by omega) ?_
        refine R_goto r_171_30 (by decide) ?_
        refine R_ixorN r_171_34 ?_
        refine R_mst r_171_35 hC hL (by decide) (by decide) (by show _ < (24 : Nat); omega) (by decide) (fun w_q_4 f_q_4 hC_q_4 hL_q_4 e_q_4 hf_q_4 => ?_)
        refine R_iinc1 r_171_36 rfl rfl ?_
        refine R_goto r_171_39 (by decide) ?_
        exact ih (i + 1) _ _ _ (by omega) hC_q_4 hL_q_4 (by rw [e_q_4]; exact hR.now (row_set hW4 (by rw [hL 32 (by decide) (by decide)]; show _ < (24 : Nat); omega) (row_flip hW4 hs hq (by omega) hR.2 (by simp [*])))) (by rw [e_q_4]; exact hfk.up (by decide)) (frm.tr hf hf_q_4)
theorem lp_flip2 {xs : List Int32} {d : Nat} {Q : Option Value → sm_W → Prop} {I : sm_Is} {w : Nat} (hW : iWF I) {ln um km sn sp : Int32} {q s : Nat} {v3 : Int32} (hq : q < 2) (hsn : s < 2 ^ iN I) {wd0 : sm_W} {f0 : Nat → List Int32} (hQ : ∀ wd f, mC wd ln um km sn sp f → mL f → mR I (xw w q s) f → fk f0 f → frm 22 40 wd0 wd → RT xs (d + 6) 171 94 [some (.ref 22), some (.int (nI q)), some (.int (nI s)), some (.int v3), some (.int (nI (iN I)))] [] wd Q)  : ∀ (k : Nat) (i : Nat) (wd : sm_W) (f : Nat → List Int32), (i + k = iN I) → (mC wd ln um km sn sp f) → (mL f) → (mR I (xw w q (s % 2 ^ i)) f) → (fk f0 f) → (frm 22 40 wd0 wd) → RT xs (d + 6) 171 51 [some (.ref 22), some (.int (nI q)), some (.int (nI s)), some (.int v3), some (.int (nI i))] [] wd Q := by
  intro k
  induction k with
  | zero =>
    intro i wd f hk hC hL hR hfk hf
    obtain ⟨hW1, hW2, hW3, hW4, hW5, hW6, hW7, hW8, hW9, hW10, hW11, hW12, hW13, hW14, hW15⟩ := id hW
    have hs : s < 256 := Nat.lt_of_lt_of_le hsn (Nat.pow_le_pow_right (n := 2) (j := 8) (by decide) hW4)
    refine R_iload r_171_51 rfl ?_
    refine R_aload_n r_171_53 rfl (by decide) ?_
    refine R_getf r_171_54 (by decide) hC.1 rfl ?_
    refine R_iconst r_171_57 (v := nI 0) rfl ?_
    refine R_iald r_171_58 (by decide) (hC.2 24 (by decide) (by decide)) hR.rI ?_
    refine R_icmp_ge_N r_171_59 (by decide) (by omega) (by omega) (fun h_1 => ?_) (fun h_1 => ?_)
    · have ei : iN I = i := by omega
      rw [← ei, Nat.mod_eq_of_lt hsn] at hR
      rw [← ei]
      exact hQ _ _ hC hL hR hfk hf
    · exfalso; omega
  | succ k ih =>
    intro i wd f hk hC hL hR hfk hf
    obtain ⟨hW1, hW2, hW3, hW4, hW5, hW6, hW7, hW8, hW9, hW10, hW11, hW12, hW13, hW14, hW15⟩ := id hW
    have hs : s < 256 := Nat.lt_of_lt_of_le hsn (Nat.pow_le_pow_right (n := 2) (j := 8) (by decide) hW4)
    refine R_iload r_171_51 rfl ?_
    refine R_aload_n r_171_53 rfl (by decide) ?_
    refine R_getf r_171_54 (by decide) hC.1 rfl ?_
    refine R_iconst r_171_57 (v := nI 0) rfl ?_
    refine R_iald r_171_58 (by decide) (hC.2 24 (by decide) (by decide)) hR.rI ?_
    refine R_icmp_ge_N r_171_59 (by decide) (by omega) (by omega) (fun h_1 => ?_) (fun h_1 => ?_)
    · exfalso; omega
    · refine R_aload_n r_171_62 rfl (by decide) ?_
      refine R_getf r_171_63 (by decide) hC.1 rfl ?_
      refine R_iload r_171_66 rfl ?_
      refine R_dup2 r_171_68 rfl rfl ?_
      refine R_iald r_171_69 (by decide) (hC.2 32 (by decide) (by decide)) (hR.nl (by omega) hW4) ?_
      refine R_iload_n r_171_70 rfl ?_
      refine R_iload r_171_71 rfl ?_
      refine R_call2 r_171_73 rfl rfl (Nat.le_of_ble_eq_true rfl) (Nat.le_of_ble_eq_true rfl) ?_
      refine m_has (by omega) (by omega) ?_
      refine R_if_eq_b r_171_76 (by decide) (fun h_2 => ?_) (fun h_2 => ?_)
      · refine R_iconst r_171_85 (v := nI 0) rfl ?_
        refine R_ixorN r_171_86 ?_
        refine R_mst r_171_87 hC hL (by decide) (by decide) (by show _ < (24 : Nat); omega) (by decide) (fun w_q_3 f_q_3 hC_q_3 hL_q_3 e_q_3 hf_q_3 => ?_)
        refine R_iinc1 r_171_88 rfl rfl ?_
        refine R_goto r_171_91 (by decide) ?_
        exact ih (i + 1) _ _ (by omega) hC_q_3 hL_q_3 (by rw [e_q_3]; exact hR.now (row_set hW4 (by rw [hL 32 (by decide) (by decide)]; show _ < (24 : Nat); omega) (row_flip hW4 hs hq (by omega) hR.2 (by simp [*])))) (by rw [e_q_3]; exact hfk.up (by decide)) (frm.tr hf hf_q_3)
      · refine R_iconst r_171_79 (v := nI 1) rfl ?_
        refine R_iload_n r_171_80 rfl ?_
        refine R_ishlN r_171_81 (by omega) ?_
        refine R_goto r_171_82 (by decide) ?_
        refine R_ixorN r_171_86 ?_
        refine R_mst r_171_87 hC hL (by decide) (by decide) (by show _ < (24 : Nat); omega) (by decide) (fun w_q_4 f_q_4 hC_q_4 hL_q_4 e_q_4 hf_q_4 => ?_)
        refine R_iinc1 r_171_88 rfl rfl ?_
        refine R_goto r_171_91 (by decide) ?_
        exact ih (i + 1) _ _ (by omega) hC_q_4 hL_q_4 (by rw [e_q_4]; exact hR.now (row_set hW4 (by rw [hL 32 (by decide) (by decide)]; show _ < (24 : Nat); omega) (row_flip hW4 hs hq (by omega) hR.2 (by simp [*])))) (by rw [e_q_4]; exact hfk.up (by decide)) (frm.tr hf hf_q_4)
theorem m_fallsBut {xs : List Int32} {d : Nat} {wd : sm_W} {Q : Option Value → sm_W → Prop} {ln um km sn sp : Int32} {f : Nat → List Int32} (hC : mC wd ln um km sn sp f) {I : sm_Is} {w : Nat} (hR : mR I w f) (hL : mL f) (hW : iWF I) (hw : wfW I w) {q s : Nat} (hq : q < 2) (hsn : s < 2 ^ iN I) (hQ : ∀ wd2 f2, mC wd2 ln um km sn sp f2 → mL f2 → mR I w f2 → fk f f2 → frm 22 40 wd wd2 → Q (some (.int (b2i (fallA I w (sAg w q ^^^ s))))) wd2) : Ct xs (d + 6) 171 [.ref 22, .int (nI q), .int (nI s)] wd Q := by
  unfold Ct
  show RT xs (d + 6) 171 0 [some (.ref 22), some (.int (nI q)), some (.int (nI s)), none, none] [] wd Q
  obtain ⟨hW1, hW2, hW3, hW4, hW5, hW6, hW7, hW8, hW9, hW10, hW11, hW12, hW13, hW14, hW15⟩ := id hW
  have hs : s < 256 := Nat.lt_of_lt_of_le hsn (Nat.pow_le_pow_right (n := 2) (j := 8) (by decide) hW4)
  refine R_iconst r_171_0 (v := nI 0) rfl ?_
  refine R_istore_n r_171_1 rfl ?_
  refine lp_flip1 (w := w) (f0 := f) (wd0 := wd) hW hq hsn (fun wd1 f1 hC1 hL1 hR1 hk1 hf1 h4 => ?_) (iN I) 0 _ _ _ (by omega) hC hL (by rw [Nat.pow_zero, Nat.mod_one, xw_0]; exact hR) fk.rf frm.rf
  refine R_aload_n r_171_42 rfl (by decide) ?_
  refine R_iload_n r_171_43 rfl ?_
  refine R_call2 r_171_44 rfl (sm_rvM rfl rfl rfl hC1) (Nat.le_of_ble_eq_true rfl) (Nat.le_of_ble_eq_true rfl) ?_
  refine m_doesFall hC1 hR1 hL1 hW (wf_xw hW4 hw hq hsn) hq (fun w_q_1 f_q_1 hC_q_1 hL_q_1 hR_q_1 hfs_q_1 hf_q_1 => ?_)
  refine R_istore_n r_171_47 rfl ?_
  refine R_iconst r_171_48 (v := nI 0) rfl ?_
  refine R_istore r_171_49 rfl ?_
  refine lp_flip2 (w := xw w q s) (f0 := f_q_1) (wd0 := w_q_1) hW hq hsn (fun wd3 f3 hC3 hL3 hR3 hk3 hf3 => ?_) (iN I) 0 _ _ (by omega) hC_q_1 hL_q_1 (by rw [Nat.pow_zero, Nat.mod_one, xw_0]; exact hR_q_1) fk.rf frm.rf
  rw [xw_xw] at hR3
  refine R_iload_n r_171_94 rfl ?_
  refine R_iret r_171_95 (ty := .boolean) rfl (sm_nb _) (by decide) ?_
  rw [fall_xw hs hq]
  exact hQ _ _ hC3 hL3 hR3 (fk.tr hk1 (fk.tr hfs_q_1.fk hk3)) (frm.tr hf1 (frm.tr hf_q_1 hf3))
