/-! the class reads the text: empty, take, read, lay, fault -/
theorem rep_map {l : List Int32} {n : Nat} (hl : l.length = n) (h : ∀ t, t < n → l[t]? = some (nI 0)) : l = (List.replicate n 0).map nI := by
  rw [pre_all (f := fun _ => nI 0) hl h]
  apply List.ext_getElem (by simp)
  intro i h1 h2
  simp
theorem map_get (l : List Nat) (t : Nat) (h : t < l.length) : (l.map nI)[t]? = some (nI (l.getD t 0)) := by
  rw [List.getElem?_map, List.getD_eq_getElem?_getD, List.getElem?_eq_getElem h]; rfl
theorem all_map {l : List Int32} {m : List Nat} (hl : l.length = m.length) (h : ∀ t, t < m.length → l[t]? = some (nI (m.getD t 0))) : l = m.map nI := by
  apply List.ext_getElem?
  intro t
  by_cases ht : t < m.length
  · rw [h t ht, map_get m t ht]
  · rw [List.getElem?_eq_none (by omega), List.getElem?_eq_none (by rw [List.length_map]; omega)]
theorem lp_emp1 {xs : List Int32} {d : Nat} {Q : Option Value → sm_W → Prop} {wd0 : sm_W} (hQ : ∀ wd n b dd m p x F l1 l2 l3, isJ wd 5 n b dd m p x F l1 l2 l3 → frm 5 8 wd0 wd → (∀ t, t < 8 → l1[t]? = some (nI 0)) → (∀ t, t < 8 → l2[t]? = some (nI 0)) → RT xs (d + 1) 17 21 [some (.ref 5), some (.int (nI 8))] [] wd Q)  : ∀ (k : Nat) (i : Nat) (n b dd m p x : Int32) (F : Int64) (l1 l2 l3 : List Int32) (wd : sm_W), (i + k = 8) → (isJ wd 5 n b dd m p x F l1 l2 l3) → (frm 5 8 wd0 wd) → (∀ t, t < i → l1[t]? = some (nI 0)) → (∀ t, t < i → l2[t]? = some (nI 0)) → RT xs (d + 1) 17 2 [some (.ref 5), some (.int (nI i))] [] wd Q := by
  intro k
  induction k with
  | zero =>
    intro i n b dd m p x F l1 l2 l3 wd hk hJ hf hp1 hp2
    have hl1 : l1.length = 8 := hJ.2.2.2.2.1
    have hl2 : l2.length = 8 := hJ.2.2.2.2.2.1
    have hl3 : l3.length = 5 := hJ.2.2.2.2.2.2
    refine R_iload_n r_17_2 rfl ?_
    refine R_bipush r_17_3 (v := nI 8) rfl ?_
    refine R_icmp_ge_N r_17_5 (by decide) (by omega) (by omega) (fun h_1 => ?_) (fun h_1 => ?_)
    · obtain rfl : i = 8 := by omega
      exact hQ _ _ _ _ _ _ _ _ _ _ _ hJ hf hp1 hp2
    · exfalso; omega
  | succ k ih =>
    intro i n b dd m p x F l1 l2 l3 wd hk hJ hf hp1 hp2
    have hl1 : l1.length = 8 := hJ.2.2.2.2.1
    have hl2 : l2.length = 8 := hJ.2.2.2.2.2.1
    have hl3 : l3.length = 5 := hJ.2.2.2.2.2.2
    refine R_iload_n r_17_2 rfl ?_
    refine R_bipush r_17_3 (v := nI 8) rfl ?_
    refine R_icmp_ge_N r_17_5 (by decide) (by omega) (by omega) (fun h_1 => ?_) (fun h_1 => ?_)
    · exfalso; omega
    · refine R_aload_n r_17_8 rfl (by decide) ?_
      refine R_iload_n r_17_9 rfl ?_
      refine R_iconst r_17_10 (v := nI 0) rfl ?_
      refine R_iconst r_17_11 (v := nI 0) rfl ?_
      refine R_call4 r_17_12 rfl (sm_rv1 rfl rfl hJ.1) (Nat.le_of_ble_eq_true rfl) (Nat.le_of_ble_eq_true rfl) ?_
      refine c_putI5 hJ (by omega) (fun w_q_2 hJ_q_2 hf_q_2 => ?_)
      refine R_iinc1 r_17_15 rfl rfl ?_
      refine R_goto r_17_18 (by decide) ?_
      exact ih (i + 1) _ _ _ _ _ _ _ _ _ _ _ (by omega) hJ_q_2 (frm.tr hf hf_q_2) (pre_setv (g := fun _ => nI 0) hp1 (by omega) rfl) (pre_setv (g := fun _ => nI 0) hp2 (by omega) rfl)
theorem lp_emp2 {xs : List Int32} {d : Nat} {Q : Option Value → sm_W → Prop} {wd0 : sm_W} {l1 l2 : List Int32} (hQ : ∀ wd n b dd m p x F l3, isJ wd 5 n b dd m p x F l1 l2 l3 → frm 5 8 wd0 wd → (∀ t, t < 5 → l3[t]? = some (nI 0)) → RT xs (d + 1) 17 40 [some (.ref 5), some (.int (nI 5))] [] wd Q)  : ∀ (k : Nat) (i : Nat) (n b dd m p x : Int32) (F : Int64) (l3 : List Int32) (wd : sm_W), (i + k = 5) → (isJ wd 5 n b dd m p x F l1 l2 l3) → (frm 5 8 wd0 wd) → (∀ t, t < i → l3[t]? = some (nI 0)) → RT xs (d + 1) 17 23 [some (.ref 5), some (.int (nI i))] [] wd Q := by
  intro k
  induction k with
  | zero =>
    intro i n b dd m p x F l3 wd hk hJ hf hp3
    have hl1 : l1.length = 8 := hJ.2.2.2.2.1
    have hl2 : l2.length = 8 := hJ.2.2.2.2.2.1
    have hl3 : l3.length = 5 := hJ.2.2.2.2.2.2
    refine R_iload_n r_17_23 rfl ?_
    refine R_iconst r_17_24 (v := nI 5) rfl ?_
    refine R_icmp_ge_N r_17_25 (by decide) (by omega) (by omega) (fun h_1 => ?_) (fun h_1 => ?_)
    · obtain rfl : i = 5 := by omega
      exact hQ _ _ _ _ _ _ _ _ _ hJ hf hp3
    · exfalso; omega
  | succ k ih =>
    intro i n b dd m p x F l3 wd hk hJ hf hp3
    have hl1 : l1.length = 8 := hJ.2.2.2.2.1
    have hl2 : l2.length = 8 := hJ.2.2.2.2.2.1
    have hl3 : l3.length = 5 := hJ.2.2.2.2.2.2
    refine R_iload_n r_17_23 rfl ?_
    refine R_iconst r_17_24 (v := nI 5) rfl ?_
    refine R_icmp_ge_N r_17_25 (by decide) (by omega) (by omega) (fun h_1 => ?_) (fun h_1 => ?_)
    · exfalso; omega
    · refine R_aload_n r_17_28 rfl (by decide) ?_
      refine R_iload_n r_17_29 rfl ?_
      refine R_iconst r_17_30 (v := nI 0) rfl ?_
      refine R_call3 r_17_31 rfl (sm_rv1 rfl rfl hJ.1) (Nat.le_of_ble_eq_true rfl) (Nat.le_of_ble_eq_true rfl) ?_
      refine c_putB5 hJ (by omega) (fun w_q_2 hJ_q_2 hf_q_2 => ?_)
      refine R_iinc1 r_17_34 rfl rfl ?_
      refine R_goto r_17_37 (by decide) ?_
      exact ih (i + 1) _ _ _ _ _ _ _ _ _ (by omega) hJ_q_2 (frm.tr hf hf_q_2) (pre_setv (g := fun _ => nI 0) hp3 (by omega) rfl)
theorem c_empty {xs : List Int32} {d : Nat} {wd : sm_W} {Q : Option Value → sm_W → Prop} {n b dd m p x : Int32} {F : Int64} {l1 l2 l3 : List Int32} (hJ : isJ wd 5 n b dd m p x F l1 l2 l3) (hQ : ∀ w2, isI w2 5 I0 → frm 5 8 wd w2 → Q none w2) : Ct xs (d + 1) 17 [.ref 5] wd Q := by
  unfold Ct
  show RT xs (d + 1) 17 0 [some (.ref 5), none] [] wd Q
  refine R_iconst r_17_0 (v := nI 0) rfl ?_
  refine R_istore_n r_17_1 rfl ?_
  refine lp_emp1 (wd0 := wd) (fun wd1 n1 b1 d1 m1 p1 x1 F1 l11 l21 l31 hJ1 hf1 hp1 hp2 => ?_) 8 0 _ _ _ _ _ _ _ _ _ _ _ (by omega) hJ frm.rf (fun t ht => absurd ht (by omega)) (fun t ht => absurd ht (by omega))
  refine R_iconst r_17_21 (v := nI 0) rfl ?_
  refine R_istore_n r_17_22 rfl ?_
  refine lp_emp2 (wd0 := wd1) (fun wd2 n2 b2 d2 m2 p2 x2 F2 l32 hJ2 hf2 hp3 => ?_) 5 0 _ _ _ _ _ _ _ _ _ (by omega) hJ1 frm.rf (fun t ht => absurd ht (by omega))
  refine R_aload_n r_17_40 rfl (by decide) ?_
  refine R_iconst r_17_41 (v := nI 0) rfl ?_
  refine R_jp_n r_17_42 hJ2 rfl rfl (fun w_q_41 hJ_q_41 hf_q_41 => ?_)
  refine R_aload_n r_17_45 rfl (by decide) ?_
  refine R_iconst r_17_46 (v := nI 0) rfl ?_
  refine R_jp_b r_17_47 hJ_q_41 rfl rfl (fun w_q_42 hJ_q_42 hf_q_42 => ?_)
  refine R_aload_n r_17_50 rfl (by decide) ?_
  refine R_iconst r_17_51 (v := nI 4) rfl ?_
  refine R_jp_d r_17_52 hJ_q_42 rfl rfl (fun w_q_43 hJ_q_43 hf_q_43 => ?_)
  refine R_aload_n r_17_55 rfl (by decide) ?_
  refine R_iconst r_17_56 (v := nI 0) rfl ?_
  refine R_jp_m r_17_57 hJ_q_43 rfl rfl (fun w_q_44 hJ_q_44 hf_q_44 => ?_)
  refine R_aload_n r_17_60 rfl (by decide) ?_
  refine R_iconst r_17_61 (v := nI 5) rfl ?_
  refine R_jp_p r_17_62 hJ_q_44 rfl rfl (fun w_q_45 hJ_q_45 hf_q_45 => ?_)
  refine R_aload_n r_17_65 rfl (by decide) ?_
  refine R_iconst r_17_66 (v := nI 3) rfl ?_
  refine R_jp_x r_17_67 hJ_q_45 rfl rfl (fun w_q_46 hJ_q_46 hf_q_46 => ?_)
  refine R_aload_n r_17_70 rfl (by decide) ?_
  refine R_lconst r_17_71 (v := lN 0) rfl ?_
  refine R_jp_F r_17_72 hJ_q_46 rfl rfl (fun w_q_47 hJ_q_47 hf_q_47 => ?_)
  refine R_vret r_17_75 rfl ?_
  have h9 := hJ_q_47
  rw [rep_map h9.2.2.2.2.1 hp1, rep_map h9.2.2.2.2.2.1 hp2, rep_map h9.2.2.2.2.2.2 hp3] at h9
  exact hQ _ (isJ.toI (I := I0) (by decide) h9) (frm.tr hf1 (frm.tr (frm.tr (frm.tr (frm.tr (frm.tr (frm.tr (frm.tr hf2 hf_q_41) hf_q_42) hf_q_43) hf_q_44) hf_q_45) hf_q_46) hf_q_47))
theorem c_takeIs {xs : List Int32} {d : Nat} {wd : sm_W} {Q : Option Value → sm_W → Prop} {I : sm_Is} (hI : isI wd 5 I) (hW : iWF I) {c e : Int32} {l : List Int32} (hM : isM wd c e l) {k lv jv cv : Nat} (hv0 : l[0]? = some (nI k)) (hv1 : l[1]? = some (nI lv)) (hv2 : l[2]? = some (nI jv)) (hv3 : l[3]? = some (nI cv)) (hlv : lv < 4) (hjv : jv < 8) (hF : 8 ≤ iN I → Q (some (.int (b2i false))) wd) (hS : iN I < 8 → ∀ w2, isI w2 5 (tkIs I k lv jv cv) → frm 5 8 wd w2 → Q (some (.int (b2i true))) w2) : Ct xs (d + 2) 32 [.ref 5, .ref 3] wd Q := by
  unfold Ct
  show RT xs (d + 2) 32 0 [some (.ref 5), some (.ref 3)] [] wd Q
  obtain ⟨hW1, hW2, hW3, hW4, hW5, hW6, hW7, hW8, hW9, hW10, hW11, hW12, hW13, hW14, hW15⟩ := id hW
  have hJ := hI.toJ hW
  refine R_aload_n r_32_0 rfl (by decide) ?_
  refine R_getf r_32_1 (by decide) hJ.1 rfl ?_
  refine R_bipush r_32_4 (v := nI 8) rfl ?_
  refine R_icmp_lt_N r_32_6 (by decide) (by omega) (by omega) (fun h_1 => ?_) (fun h_1 => ?_)
  · refine R_aload_n r_32_11 rfl (by decide) ?_
    refine R_aload_n r_32_12 rfl (by decide) ?_
    refine R_getf r_32_13 (by decide) hJ.1 rfl ?_
    refine R_aload_n r_32_16 rfl (by decide) ?_
    refine R_iconst r_32_17 (v := nI 0) rfl ?_
    refine R_call2 r_32_18 rfl (sm_rv1 rfl rfl hM.1) (Nat.le_of_ble_eq_true rfl) (Nat.le_of_ble_eq_true rfl) ?_
    refine c_inumber hM (k := 0) (by decide) hv0 ?_
    refine R_aload_n r_32_21 rfl (by decide) ?_
    refine R_iconst r_32_22 (v := nI 3) rfl ?_
    refine R_call2 r_32_23 rfl (sm_rv1 rfl rfl hM.1) (Nat.le_of_ble_eq_true rfl) (Nat.le_of_ble_eq_true rfl) ?_
    refine c_inumber hM (k := 3) (by decide) hv3 ?_
    refine R_call4 r_32_26 rfl (sm_rv1 rfl rfl hJ.1) (Nat.le_of_ble_eq_true rfl) (Nat.le_of_ble_eq_true rfl) ?_
    refine c_putI5 hJ (by omega) (fun w_q_2 hJ_q_2 hf_q_2 => ?_)
    refine R_aload_n r_32_29 rfl (by decide) ?_
    refine R_aload_n r_32_30 rfl (by decide) ?_
    refine R_getf r_32_31 (by decide) hJ_q_2.1 rfl ?_
    refine R_aload_n r_32_34 rfl (by decide) ?_
    refine R_getf r_32_35 (by decide) hJ_q_2.1 rfl ?_
    refine R_aload_n r_32_38 rfl (by decide) ?_
    refine R_iconst r_32_39 (v := nI 1) rfl ?_
    refine R_call2 r_32_40 rfl (sm_rv1 rfl rfl (hM.of (hf_q_2 _ (by decide)) (hf_q_2 _ (by decide))).1) (Nat.le_of_ble_eq_true rfl) (Nat.le_of_ble_eq_true rfl) ?_
    refine c_inumber (hM.of (hf_q_2 _ (by decide)) (hf_q_2 _ (by decide))) (k := 1) (by decide) hv1 ?_
    refine R_call3 r_32_43 rfl rfl (Nat.le_of_ble_eq_true rfl) (Nat.le_of_ble_eq_true rfl) ?_
    refine c_withLeaning hW15 (by omega) (by omega) ?_
    refine R_jp_F r_32_46 hJ_q_2 rfl rfl (fun w_q_3 hJ_q_3 hf_q_3 => ?_)
    refine R_aload_n r_32_49 rfl (by decide) ?_
    refine R_aload_n r_32_50 rfl (by decide) ?_
    refine R_getf r_32_51 (by decide) hJ_q_3.1 rfl ?_
    refine R_aload_n r_32_54 rfl (by decide) ?_
    refine R_getf r_32_55 (by decide) hJ_q_3.1 rfl ?_
    refine R_aload_n r_32_58 rfl (by decide) ?_
    refine R_iconst r_32_59 (v := nI 2) rfl ?_
    refine R_call2 r_32_60 rfl (sm_rv1 rfl rfl (hM.of ((frm.tr hf_q_2 hf_q_3) _ (by decide)) ((frm.tr hf_q_2 hf_q_3) _ (by decide))).1) (Nat.le_of_ble_eq_true rfl) (Nat.le_of_ble_eq_true rfl) ?_
    refine c_inumber (hM.of ((frm.tr hf_q_2 hf_q_3) _ (by decide)) ((frm.tr hf_q_2 hf_q_3) _ (by decide))) (k := 2) (by decide) hv2 ?_
    refine R_call3 r_32_63 rfl rfl (Nat.le_of_ble_eq_true rfl) (Nat.le_of_ble_eq_true rfl) ?_
    refine c_withMinded (wLean_lt hW15 (by omega)) (by omega) (by omega) ?_
    refine R_jp_F r_32_66 hJ_q_3 rfl rfl (fun w_q_4 hJ_q_4 hf_q_4 => ?_)
    refine R_aload_n r_32_69 rfl (by decide) ?_
    refine R_dup r_32_70 rfl ?_
    refine R_getf r_32_71 (by decide) hJ_q_4.1 rfl ?_
    refine R_iconst r_32_74 (v := nI 1) rfl ?_
    refine R_iaddN r_32_75 ?_
    refine R_jp_n r_32_76 hJ_q_4 rfl rfl (fun w_q_5 hJ_q_5 hf_q_5 => ?_)
    refine R_iconst r_32_79 (v := nI 1) rfl ?_
    refine R_iret r_32_80 (ty := .boolean) rfl (by decide) (by decide) ?_
    have h9 := hJ_q_5
    rw [← List.map_set, ← List.map_set] at h9
    exact hS (by omega) _ (isJ.toI (I := tkIs I k lv jv cv) (by decide) h9) (frm.tr (frm.tr (frm.tr hf_q_2 hf_q_3) hf_q_4) hf_q_5)
  · refine R_iconst r_32_9 (v := nI 0) rfl ?_
    refine R_iret r_32_10 (ty := .boolean) rfl (by decide) (by decide) ?_
    exact hF (by omega)
theorem c_takeB {xs : List Int32} {d : Nat} {wd : sm_W} {Q : Option Value → sm_W → Prop} {I : sm_Is} (hI : isI wd 5 I) (hW : iWF I) {s : Nat} (hF : 5 ≤ iB I → Q (some (.int (b2i false))) wd) (hS : iB I < 5 → ∀ w2, isI w2 5 (tkB I s) → frm 5 8 wd w2 → Q (some (.int (b2i true))) w2) : Ct xs (d + 2) 36 [.ref 5, .int (nI s)] wd Q := by
  unfold Ct
  show RT xs (d + 2) 36 0 [some (.ref 5), some (.int (nI s))] [] wd Q
  obtain ⟨hW1, hW2, hW3, hW4, hW5, hW6, hW7, hW8, hW9, hW10, hW11, hW12, hW13, hW14, hW15⟩ := id hW
  have hJ := hI.toJ hW
  refine R_aload_n r_36_0 rfl (by decide) ?_
  refine R_getf r_36_1 (by decide) hJ.1 rfl ?_
  refine R_iconst r_36_4 (v := nI 5) rfl ?_
  refine R_icmp_lt_N r_36_5 (by decide) (by omega) (by omega) (fun h_1 => ?_) (fun h_1 => ?_)
  · refine R_aload_n r_36_10 rfl (by decide) ?_
    refine R_aload_n r_36_11 rfl (by decide) ?_
    refine R_getf r_36_12 (by decide) hJ.1 rfl ?_
    refine R_iload_n r_36_15 rfl ?_
    refine R_call3 r_36_16 rfl (sm_rv1 rfl rfl hJ.1) (Nat.le_of_ble_eq_true rfl) (Nat.le_of_ble_eq_true rfl) ?_
    refine c_putB5 hJ (by omega) (fun w_q_2 hJ_q_2 hf_q_2 => ?_)
    refine R_aload_n r_36_19 rfl (by decide) ?_
    refine R_dup r_36_20 rfl ?_
    refine R_getf r_36_21 (by decide) hJ_q_2.1 rfl ?_
    refine R_iconst r_36_24 (v := nI 1) rfl ?_
    refine R_iaddN r_36_25 ?_
    refine R_jp_b r_36_26 hJ_q_2 rfl rfl (fun w_q_3 hJ_q_3 hf_q_3 => ?_)
    refine R_iconst r_36_29 (v := nI 1) rfl ?_
    refine R_iret r_36_30 (ty := .boolean) rfl (by decide) (by decide) ?_
    have h9 := hJ_q_3
    rw [← List.map_set] at h9
    exact hS (by omega) _ (isJ.toI (I := tkB I s) (by decide) h9) (frm.tr hf_q_2 hf_q_3)
  · refine R_iconst r_36_8 (v := nI 0) rfl ?_
    refine R_iret r_36_9 (ty := .boolean) rfl (by decide) (by decide) ?_
    exact hF (by omega)
theorem c_take {xs : List Int32} {d : Nat} {wd : sm_W} {Q : Option Value → sm_W → Prop} {I : sm_Is} (hI : isI wd 5 I) (hW : iWF I) {c : Nat} {e : Int32} {l : List Int32} (hM : isM wd (nI c) e l) {ns : List Nat} (hcc : c < 127) (hc : noN c ≠ 0) (hv : ∀ t, t < noN c → l[t]? = some (nI (ns.getD t 0))) (hr : ∀ t, t < noN c → lsN c ≤ ns.getD t 0 ∧ ns.getD t 0 ≤ msN c t) (hF : tkI I c ns = none → Q (some (.int (b2i false))) wd) (hS : ∀ I2, tkI I c ns = some I2 → ∀ w2, isI w2 5 I2 → frm 5 8 wd w2 → Q (some (.int (b2i true))) w2) : Ct xs (d + 3) 29 [.ref 5, .ref 3] wd Q := by
  unfold Ct
  show RT xs (d + 3) 29 0 [some (.ref 5), some (.ref 3), none] [] wd Q
  obtain ⟨hW1, hW2, hW3, hW4, hW5, hW6, hW7, hW8, hW9, hW10, hW11, hW12, hW13, hW14, hW15⟩ := id hW
  have hJ := hI.toJ hW
  refine R_aload_n r_29_0 rfl (by decide) ?_
  refine R_iconst r_29_1 (v := nI 0) rfl ?_
  refine R_call2 r_29_2 rfl (sm_rv1 rfl rfl hM.1) (Nat.le_of_ble_eq_true rfl) (Nat.le_of_ble_eq_true rfl) ?_
  refine c_inumber hM (k := 0) (by decide) (hv 0 (by omega)) ?_
  refine R_istore_n r_29_5 rfl ?_
  refine R_aload_n r_29_6 rfl (by decide) ?_
  refine R_call1 r_29_7 rfl (sm_rv1 rfl rfl hM.1) (Nat.le_of_ble_eq_true rfl) (Nat.le_of_ble_eq_true rfl) ?_
  refine c_iletter hM ?_
  rcases (by omega : (c < 98 ∨ 115 < c) ∨ c = 98 ∨ c = 99 ∨ c = 100 ∨ c = 101 ∨ c = 102 ∨ c = 103 ∨ c = 104 ∨ c = 105 ∨ c = 106 ∨ c = 107 ∨ c = 108 ∨ c = 109 ∨ c = 110 ∨ c = 111 ∨ c = 112 ∨ c = 113 ∨ c = 114 ∨ c = 115) with hts_1 | hts_1 | hts_1 | hts_1 | hts_1 | hts_1 | hts_1 | hts_1 | hts_1 | hts_1 | hts_1 | hts_1 | hts_1 | hts_1 | hts_1 | hts_1 | hts_1 | hts_1 | hts_1
  · refine R_tsOut r_29_10 (by rw [nI_toInt (by omega)]; omega) (t := 136) (by decide) ?_
    refine R_iconst r_29_136 (v := nI 0) rfl ?_
    refine R_iret r_29_137 (ty := .boolean) rfl (by decide) (by decide) ?_
    exact absurd (by unfold noN; rw [if_neg (by omega), if_neg (by omega)]) hc
  · subst hts_1
    refine R_tsIn r_29_10 (by decide) (by rfl) (t := 102) (by decide) ?_
    refine R_aload_n r_29_102 rfl (by decide) ?_
    refine R_iload_n r_29_103 rfl ?_
    refine R_call2 r_29_104 rfl (sm_rv1 rfl rfl hJ.1) (Nat.le_of_ble_eq_true rfl) (Nat.le_of_ble_eq_true rfl) ?_
    refine c_takeB hI hW (fun hfull => ?_) (fun hroom w2 hI2 hf2 => ?_)
    · refine R_iret r_29_107 (ty := .boolean) rfl (by decide) (by decide) ?_
      exact hF (by unfold tkI; rw [if_neg (by decide), if_pos rfl, if_neg (by omega)])
    · refine R_iret r_29_107 (ty := .boolean) rfl (by decide) (by decide) ?_
      exact hS _ (by unfold tkI; rw [if_neg (by decide), if_pos rfl, if_pos hroom]) _ hI2 hf2
  · subst hts_1
    refine R_tsIn r_29_10 (by decide) (by rfl) (t := 136) (by decide) ?_
    refine R_iconst r_29_136 (v := nI 0) rfl ?_
    refine R_iret r_29_137 (ty := .boolean) rfl (by decide) (by decide) ?_
    exact absurd (by decide) hc
  · subst hts_1
    refine R_tsIn r_29_10 (by decide) (by rfl) (t := 108) (by decide) ?_
    refine R_aload_n r_29_108 rfl (by decide) ?_
    refine R_iload_n r_29_109 rfl ?_
    refine R_jp_d r_29_110 hJ rfl rfl (fun w_q_2 hJ_q_2 hf_q_2 => ?_)
    refine R_iconst r_29_113 (v := nI 1) rfl ?_
    refine R_iret r_29_114 (ty := .boolean) rfl (by decide) (by decide) ?_
    exact hS _ rfl _ (isJ.toI (I := (iK I, iC I, iS I, (iN I, iB I), (ns.getD 0 0, iM I, iP I, iX I), iF I)) (by decide) hJ_q_2) hf_q_2
  · subst hts_1
    refine R_tsIn r_29_10 (by decide) (by rfl) (t := 136) (by decide) ?_
    refine R_iconst r_29_136 (v := nI 0) rfl ?_
    refine R_iret r_29_137 (ty := .boolean) rfl (by decide) (by decide) ?_
    exact absurd (by decide) hc
  · subst hts_1
    refine R_tsIn r_29_10 (by decide) (by rfl) (t := 136) (by decide) ?_
    refine R_iconst r_29_136 (v := nI 0) rfl ?_
    refine R_iret r_29_137 (ty := .boolean) rfl (by decide) (by decide) ?_
    exact absurd (by decide) hc
  · subst hts_1
    refine R_tsIn r_29_10 (by decide) (by rfl) (t := 136) (by decide) ?_
    refine R_iconst r_29_136 (v := nI 0) rfl ?_
    refine R_iret r_29_137 (ty := .boolean) rfl (by decide) (by decide) ?_
    exact absurd (by decide) hc
  · subst hts_1
    refine R_tsIn r_29_10 (by decide) (by rfl) (t := 122) (by decide) ?_
    refine R_aload_n r_29_122 rfl (by decide) ?_
    refine R_iload_n r_29_123 rfl ?_
    refine R_jp_p r_29_124 hJ rfl rfl (fun w_q_3 hJ_q_3 hf_q_3 => ?_)
    refine R_iconst r_29_127 (v := nI 1) rfl ?_
    refine R_iret r_29_128 (ty := .boolean) rfl (by decide) (by decide) ?_
    exact hS _ rfl _ (isJ.toI (I := (iK I, iC I, iS I, (iN I, iB I), (iBd I, iM I, ns.getD 0 0, iX I), iF I)) (by decide) hJ_q_3) hf_q_3
  · subst hts_1
    refine R_tsIn r_29_10 (by decide) (by rfl) (t := 96) (by decide) ?_
    refine R_aload_n r_29_96 rfl (by decide) ?_
    refine R_aload_n r_29_97 rfl (by decide) ?_
    refine R_call2 r_29_98 rfl (sm_rv1 rfl rfl hJ.1) (Nat.le_of_ble_eq_true rfl) (Nat.le_of_ble_eq_true rfl) ?_
    refine c_takeIs hI hW hM (hv 0 (by decide)) (hv 1 (by decide)) (hv 2 (by decide)) (hv 3 (by decide)) (by have r1 := (hr 1 (by decide)).2; have m1 : msN 105 1 = 3 := rfl; omega) (by have r2 := (hr 2 (by decide)).2; have m2 : msN 105 2 = 7 := rfl; omega) (fun hfull => ?_) (fun hroom w2 hI2 hf2 => ?_)
    · refine R_iret r_29_101 (ty := .boolean) rfl (by decide) (by decide) ?_
      exact hF (by unfold tkI; rw [if_pos rfl, if_neg (by omega)])
    · refine R_iret r_29_101 (ty := .boolean) rfl (by decide) (by decide) ?_
      exact hS _ (by unfold tkI; rw [if_pos rfl, if_pos hroom]) _ hI2 hf2
  · subst hts_1
    refine R_tsIn r_29_10 (by decide) (by rfl) (t := 136) (by decide) ?_
    refine R_iconst r_29_136 (v := nI 0) rfl ?_
    refine R_iret r_29_137 (ty := .boolean) rfl (by decide) (by decide) ?_
    exact absurd (by decide) hc
  · subst hts_1
    refine R_tsIn r_29_10 (by decide) (by rfl) (t := 136) (by decide) ?_
    refine R_iconst r_29_136 (v := nI 0) rfl ?_
    refine R_iret r_29_137 (ty := .boolean) rfl (by decide) (by decide) ?_
    exact absurd (by decide) hc
  · subst hts_1
    refine R_tsIn r_29_10 (by decide) (by rfl) (t := 136) (by decide) ?_
    refine R_iconst r_29_136 (v := nI 0) rfl ?_
    refine R_iret r_29_137 (ty := .boolean) rfl (by decide) (by decide) ?_
    exact absurd (by decide) hc
  · subst hts_1
    refine R_tsIn r_29_10 (by decide) (by rfl) (t := 115) (by decide) ?_
    refine R_aload_n r_29_115 rfl (by decide) ?_
    refine R_iload_n r_29_116 rfl ?_
    refine R_jp_m r_29_117 hJ rfl rfl (fun w_q_4 hJ_q_4 hf_q_4 => ?_)
    refine R_iconst r_29_120 (v := nI 1) rfl ?_
    refine R_iret r_29_121 (ty := .boolean) rfl (by decide) (by decide) ?_
    exact hS _ rfl _ (isJ.toI (I := (iK I, iC I, iS I, (iN I, iB I), (iBd I, ns.getD 0 0, iP I, iX I), iF I)) (by decide) hJ_q_4) hf_q_4
  · subst hts_1
    refine R_tsIn r_29_10 (by decide) (by rfl) (t := 136) (by decide) ?_
    refine R_iconst r_29_136 (v := nI 0) rfl ?_
    refine R_iret r_29_137 (ty := .boolean) rfl (by decide) (by decide) ?_
    exact absurd (by decide) hc
  · subst hts_1
    refine R_tsIn r_29_10 (by decide) (by rfl) (t := 136) (by decide) ?_
    refine R_iconst r_29_136 (v := nI 0) rfl ?_
    refine R_iret r_29_137 (ty := .boolean) rfl (by decide) (by decide) ?_
    exact absurd (by decide) hc
  · subst hts_1
    refine R_tsIn r_29_10 (by decide) (by rfl) (t := 136) (by decide) ?_
    refine R_iconst r_29_136 (v := nI 0) rfl ?_
    refine R_iret r_29_137 (ty := .boolean) rfl (by decide) (by decide) ?_
    exact absurd (by decide) hc
  · subst hts_1
    refine R_tsIn r_29_10 (by decide) (by rfl) (t := 136) (by decide) ?_
    refine R_iconst r_29_136 (v := nI 0) rfl ?_
    refine R_iret r_29_137 (ty := .boolean) rfl (by decide) (by decide) ?_
    exact absurd (by decide) hc
  · subst hts_1
    refine R_tsIn r_29_10 (by decide) (by rfl) (t := 136) (by decide) ?_
    refine R_iconst r_29_136 (v := nI 0) rfl ?_
    refine R_iret r_29_137 (ty := .boolean) rfl (by decide) (by decide) ?_
    exact absurd (by decide) hc
  · subst hts_1
    refine R_tsIn r_29_10 (by decide) (by rfl) (t := 129) (by decide) ?_
    refine R_aload_n r_29_129 rfl (by decide) ?_
    refine R_iload_n r_29_130 rfl ?_
    refine R_jp_x r_29_131 hJ rfl rfl (fun w_q_5 hJ_q_5 hf_q_5 => ?_)
    refine R_iconst r_29_134 (v := nI 1) rfl ?_
    refine R_iret r_29_135 (ty := .boolean) rfl (by decide) (by decide) ?_
    exact hS _ rfl _ (isJ.toI (I := (iK I, iC I, iS I, (iN I, iB I), (iBd I, iM I, iP I, ns.getD 0 0), iF I)) (by decide) hJ_q_5) hf_q_5
theorem noI_4 {r : Nat} (h : r ≤ 200) : nI r = noI r := (noI_n (by omega)).symm
theorem lp_read {xs : List Int32} {d : Nat} {Q : Option Value → sm_W → Prop} {tx : List Nat} {wd0 : sm_W}  : ∀ (k : Nat) (it p : Nat) (I : sm_Is) (c0 e0 : Int32) (l0 : List Int32) (wd : sm_W), (it + k = 200) → (p ≤ 250) → (isT wd tx) → (isM wd c0 e0 l0) → (isI wd 5 I) → (wfD I) → (frm 3 8 wd0 wd) → (∀ w2, isI w2 5 (rdL tx k p I).2 → (∃ c e l, isM w2 c e l) → frm 3 8 wd0 w2 → Q (some (.int (noI (rdL tx k p I).1))) w2) → RT xs (d + 4) 16 9 [some (.ref 5), some (.ref 1), some (.ref 3), some (.int (nI p)), some (.int (nI it))] [] wd Q := by
  intro k
  induction k with
  | zero =>
    intro it p I c0 e0 l0 wd hk hp hT hM hI hWD hf hq
    have htl : tx.length ≤ 200 := hT.choose_spec.2.2.2.1
    refine R_iload r_16_9 rfl ?_
    refine R_sipush r_16_11 (v := nI 200) rfl ?_
    refine R_icmp_ge_N r_16_14 (by decide) (by omega) (by omega) (fun h_1 => ?_) (fun h_1 => ?_)
    · refine R_bipush r_16_55 (v := (-4)) rfl ?_
      refine R_iret r_16_57 (ty := .int) rfl rfl (by decide) ?_
      exact hq _ hI ⟨_, _, _, hM⟩ hf
    · exfalso; omega
  | succ k ih =>
    intro it p I c0 e0 l0 wd hk hp hT hM hI hWD hf hq
    have htl : tx.length ≤ 200 := hT.choose_spec.2.2.2.1
    refine R_iload r_16_9 rfl ?_
    refine R_sipush r_16_11 (v := nI 200) rfl ?_
    refine R_icmp_ge_N r_16_14 (by decide) (by omega) (by omega) (fun h_1 => ?_) (fun h_1 => ?_)
    · exfalso; omega
    · refine R_iload_n r_16_17 rfl ?_
      refine R_aload_n r_16_18 rfl (by decide) ?_
      refine R_call1 r_16_19 rfl (sm_rv1 rfl rfl hT.choose_spec.1) (Nat.le_of_ble_eq_true rfl) (Nat.le_of_ble_eq_true rfl) ?_
      refine c_tlength hT ?_
      refine R_icmp_ge_N r_16_22 (by decide) (by omega) (by omega) (fun h_2 => ?_) (fun h_2 => ?_)
      · refine R_bipush r_16_55 (v := (-4)) rfl ?_
        refine R_iret r_16_57 (ty := .int) rfl rfl (by decide) ?_
        rw [rdL_0 (by omega)] at hq; exact hq _ hI ⟨_, _, _, hM⟩ hf
      · refine R_aload_n r_16_25 rfl (by decide) ?_
        refine R_aload_n r_16_26 rfl (by decide) ?_
        refine R_iload_n r_16_27 rfl ?_
        refine R_call3 r_16_28 rfl (sm_rv1 rfl rfl hM.1) (Nat.le_of_ble_eq_true rfl) (Nat.le_of_ble_eq_true rfl) ?_
        refine c_readFrom hT hM (by omega) (fun hz w2 hM2 hf2 => ?_) (fun l3 e hl w2 l4 hM4 hv4 hf2 => ?_)
        · refine R_ifT r_16_31 (by decide) (by decide) ?_
          refine R_iload_n r_16_42 rfl ?_
          refine R_iret r_16_43 (ty := .int) rfl rfl (by decide) ?_
          rw [rdL_1 (by omega) hz] at hq; rw [noI_4 (by omega)]; exact hq _ (isI_of hI (fun k h1 h2 => hf2 _ (by omega))) hM2 (frm.tr hf (frm.wide hf2 (by decide) (by decide)))
        · refine R_ifF r_16_31 (by decide) (by decide) ?_
          refine R_aload_n r_16_34 rfl (by decide) ?_
          refine R_aload_n r_16_35 rfl (by decide) ?_
          refine R_call2 r_16_36 rfl (sm_rv1 rfl rfl (isI_of hI (fun k h1 h2 => hf2 _ (by omega))).1) (Nat.le_of_ble_eq_true rfl) (Nat.le_of_ble_eq_true rfl) ?_
          refine c_take (isI_of hI (fun k h1 h2 => hf2 _ (by omega))) hWD.1 hM4 (hT.lt p) (itC_ok hl).1 (fun t ht => hv4 t (by rw [(itC_ok hl).2.1]; exact ht)) (itC_ok hl).2.2.2.2 (fun hno => ?_) (fun I2 hI2e w3 hI3 hf3 => ?_)
          · refine R_ifF r_16_39 (by decide) (by decide) ?_
            refine R_iload_n r_16_42 rfl ?_
            refine R_iret r_16_43 (ty := .int) rfl rfl (by decide) ?_
            rw [rdL_2 (by omega) hl hno] at hq; rw [noI_4 (by omega)]; exact hq _ (isI_of hI (fun k h1 h2 => hf2 _ (by omega))) ⟨_, _, _, hM4⟩ (frm.tr hf (frm.wide hf2 (by decide) (by decide)))
          · refine R_ifT r_16_39 (by decide) (by decide) ?_
            refine R_aload_n r_16_44 rfl (by decide) ?_
            refine R_call1 r_16_45 rfl (sm_rv1 rfl rfl (hM4.of (hf3 _ (by decide)) (hf3 _ (by decide))).1) (Nat.le_of_ble_eq_true rfl) (Nat.le_of_ble_eq_true rfl) ?_
            refine c_behind (hM4.of (hf3 _ (by decide)) (hf3 _ (by decide))) ?_
            refine R_istore_n r_16_48 rfl ?_
            refine R_iinc1 r_16_49 rfl rfl ?_
            refine R_goto r_16_52 (by decide) ?_
            rw [rdL_3 (by omega) hl hI2e] at hq
            have hee := (itC_ok hl).2.2.1
            exact ih _ _ _ _ _ _ _ (by omega) (by omega) (isT_of (isT_of hT (hf2 _ (by decide)) (hf2 _ (by decide))) (hf3 _ (by decide)) (hf3 _ (by decide))) (hM4.of (hf3 _ (by decide)) (hf3 _ (by decide))) hI3 (tkI_wf hWD (itC_ok hl).2.2.2.2 hI2e) (frm.tr (frm.tr hf (frm.wide hf2 (by decide) (by decide))) (frm.wide hf3 (by decide) (by decide))) hq
theorem c_read {xs : List Int32} {d : Nat} {wd : sm_W} {Q : Option Value → sm_W → Prop} {tx : List Nat} (hT : isT wd tx) {c0 e0 : Int32} {l0 : List Int32} (hM : isM wd c0 e0 l0) {n b dd m p x : Int32} {F : Int64} {l1 l2 l3 : List Int32} (hJ : isJ wd 5 n b dd m p x F l1 l2 l3) (hQ : ∀ w2, isI w2 5 (rdL tx 200 0 I0).2 → (∃ c e l, isM w2 c e l) → frm 3 8 wd w2 → Q (some (.int (noI (rdL tx 200 0 I0).1))) w2) : Ct xs (d + 4) 16 [.ref 5, .ref 1, .ref 3] wd Q := by
  unfold Ct
  show RT xs (d + 4) 16 0 [some (.ref 5), some (.ref 1), some (.ref 3), none, none] [] wd Q
  refine R_aload_n r_16_0 rfl (by decide) ?_
  refine R_call1 r_16_1 rfl (sm_rv1 rfl rfl hJ.1) (Nat.le_of_ble_eq_true rfl) (Nat.le_of_ble_eq_true rfl) ?_
  refine c_empty hJ (fun w1 hI1 hf1 => ?_)
  refine R_iconst r_16_4 (v := nI 0) rfl ?_
  refine R_istore_n r_16_5 rfl ?_
  refine R_iconst r_16_6 (v := nI 0) rfl ?_
  refine R_istore r_16_7 rfl ?_
  exact lp_read 200 0 0 I0 _ _ _ _ (by omega) (by omega) (isT_of hT (hf1 _ (by decide)) (hf1 _ (by decide))) (hM.of (hf1 _ (by decide)) (hf1 _ (by decide))) hI1 I0_wfD (frm.wide hf1 (by decide) (by decide)) (fun w2 h2 h3 h4 => hQ w2 h2 h3 h4)
