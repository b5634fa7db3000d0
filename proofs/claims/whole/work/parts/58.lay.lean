/-! the class: canBeLaid, copyFrom, fault, lay -/
def cbF (I : sm_Is) : Nat → Nat → Bool
  | 0, _ => true
  | k + 1, i => decide (sMind (iF I) i < iN I) && cbF I k (i + 1)
theorem cbF_t {I : sm_Is} {k i : Nat} (h : sMind (iF I) i < iN I) : cbF I (k + 1) i = cbF I k (i + 1) := by rw [cbF, decide_eq_true h, Bool.true_and]
theorem cbF_f {I : sm_Is} {k i : Nat} (h : iN I ≤ sMind (iF I) i) : cbF I (k + 1) i = false := by rw [cbF, decide_eq_false (by omega), Bool.false_and]
def cbl (I : sm_Is) : Bool := cbF I (iN I) 0 && decide (0 < iN I)
theorem lp_cbl {xs : List Int32} {d : Nat} {wd : sm_W} {Q : Option Value → sm_W → Prop} {I : sm_Is} (hI : isI wd 5 I) (hW : iWF I)  : ∀ (k : Nat) (i : Nat), (i + k = iN I) → (Q (some (.int (b2i (cbF I k i && decide (0 < iN I))))) wd) → RT xs (d + 2) 48 2 [some (.ref 5), some (.int (nI i))] [] wd Q := by
  intro k
  induction k with
  | zero =>
    intro i hk hq
    obtain ⟨hW1, hW2, hW3, hW4, hW5, hW6, hW7, hW8, hW9, hW10, hW11, hW12, hW13, hW14, hW15⟩ := id hW
    refine R_iload_n r_48_2 rfl ?_
    refine R_aload_n r_48_3 rfl (by decide) ?_
    refine R_getf r_48_4 (by decide) hI.1 rfl ?_
    refine R_icmp_ge_N r_48_7 (by decide) (by omega) (by omega) (fun h_1 => ?_) (fun h_1 => ?_)
    · refine R_aload_n r_48_33 rfl (by decide) ?_
      refine R_getf r_48_34 (by decide) hI.1 rfl ?_
      refine R_if_le_N r_48_37 (by decide) (by omega) (fun h_2 => ?_) (fun h_2 => ?_)
      · refine R_iconst r_48_44 (v := nI 0) rfl ?_
        refine R_iret r_48_45 (ty := .boolean) rfl (by decide) (by decide) ?_
        rw [show cbF I 0 i = true from rfl, Bool.true_and] at hq
        first | (rw [decide_eq_true (by omega)] at hq; exact hq) | (rw [decide_eq_false (by omega)] at hq; exact hq)
      · refine R_iconst r_48_40 (v := nI 1) rfl ?_
        refine R_goto r_48_41 (by decide) ?_
        refine R_iret r_48_45 (ty := .boolean) rfl (by decide) (by decide) ?_
        rw [show cbF I 0 i = true from rfl, Bool.true_and] at hq
        first | (rw [decide_eq_true (by omega)] at hq; exact hq) | (rw [decide_eq_false (by omega)] at hq; exact hq)
    · exfalso; omega
  | succ k ih =>
    intro i hk hq
    obtain ⟨hW1, hW2, hW3, hW4, hW5, hW6, hW7, hW8, hW9, hW10, hW11, hW12, hW13, hW14, hW15⟩ := id hW
    have hsm := sMind_lt (iF I) i
    refine R_iload_n r_48_2 rfl ?_
    refine R_aload_n r_48_3 rfl (by decide) ?_
    refine R_getf r_48_4 (by decide) hI.1 rfl ?_
    refine R_icmp_ge_N r_48_7 (by decide) (by omega) (by omega) (fun h_1 => ?_) (fun h_1 => ?_)
    · exfalso; omega
    · refine R_aload_n r_48_10 rfl (by decide) ?_
      refine R_getf r_48_11 (by decide) hI.1 rfl ?_
      refine R_iload_n r_48_14 rfl ?_
      refine R_call2 r_48_15 rfl rfl (Nat.le_of_ble_eq_true rfl) (Nat.le_of_ble_eq_true rfl) ?_
      refine c_minded hW15 (by omega) ?_
      refine R_aload_n r_48_18 rfl (by decide) ?_
      refine R_getf r_48_19 (by decide) hI.1 rfl ?_
      refine R_icmp_lt_N r_48_22 (by decide) (by omega) (by omega) (fun h_2 => ?_) (fun h_2 => ?_)
      · refine R_iinc1 r_48_27 rfl rfl ?_
        refine R_goto r_48_30 (by decide) ?_
        rw [cbF_t (by omega)] at hq; exact ih (i + 1) (by omega) hq
      · refine R_iconst r_48_25 (v := nI 0) rfl ?_
        refine R_iret r_48_26 (ty := .boolean) rfl (by decide) (by decide) ?_
        rw [cbF_f (by omega), Bool.false_and] at hq; exact hq
theorem c_canBeLaid {xs : List Int32} {d : Nat} {wd : sm_W} {Q : Option Value → sm_W → Prop} {I : sm_Is} (hI : isI wd 5 I) (hW : iWF I) (hQ : Q (some (.int (b2i (cbl I)))) wd) : Ct xs (d + 2) 48 [.ref 5] wd Q := by
  unfold Ct
  show RT xs (d + 2) 48 0 [some (.ref 5), none] [] wd Q
  refine R_iconst r_48_0 (v := nI 0) rfl ?_
  refine R_istore_n r_48_1 rfl ?_
  exact lp_cbl hI hW (iN I) 0 (by omega) hQ
theorem lp_cpy1 {xs : List Int32} {d : Nat} {Q : Option Value → sm_W → Prop} {I : sm_Is} {wd0 : sm_W} (hI : isI wd0 5 I) (hW : iWF I) (hQ : ∀ wd n b dd m p x F l1 l2 l3, isJ wd 9 n b dd m p x F l1 l2 l3 → frm 9 12 wd0 wd → (∀ t, t < 8 → l1[t]? = some (nI ((iK I).getD t 0))) → (∀ t, t < 8 → l2[t]? = some (nI ((iC I).getD t 0))) → RT xs (d + 1) 38 31 [some (.ref 9), some (.ref 5), some (.int (nI 8))] [] wd Q)  : ∀ (k : Nat) (i : Nat) (n b dd m p x : Int32) (F : Int64) (l1 l2 l3 : List Int32) (wd : sm_W), (i + k = 8) → (isJ wd 9 n b dd m p x F l1 l2 l3) → (frm 9 12 wd0 wd) → (∀ t, t < i → l1[t]? = some (nI ((iK I).getD t 0))) → (∀ t, t < i → l2[t]? = some (nI ((iC I).getD t 0))) → RT xs (d + 1) 38 2 [some (.ref 9), some (.ref 5), some (.int (nI i))] [] wd Q := by
  intro k
  induction k with
  | zero =>
    intro i n b dd m p x F l1 l2 l3 wd hk hJ hf hp1 hp2
    have hl1 : l1.length = 8 := hJ.2.2.2.2.1
    have hl2 : l2.length = 8 := hJ.2.2.2.2.2.1
    have hl3 : l3.length = 5 := hJ.2.2.2.2.2.2
    refine R_iload_n r_38_2 rfl ?_
    refine R_bipush r_38_3 (v := nI 8) rfl ?_
    refine R_icmp_ge_N r_38_5 (by decide) (by omega) (by omega) (fun h_1 => ?_) (fun h_1 => ?_)
    · obtain rfl : i = 8 := by omega
      exact hQ _ _ _ _ _ _ _ _ _ _ _ hJ hf hp1 hp2
    · exfalso; omega
  | succ k ih =>
    intro i n b dd m p x F l1 l2 l3 wd hk hJ hf hp1 hp2
    have hl1 : l1.length = 8 := hJ.2.2.2.2.1
    have hl2 : l2.length = 8 := hJ.2.2.2.2.2.1
    have hl3 : l3.length = 5 := hJ.2.2.2.2.2.2
    refine R_iload_n r_38_2 rfl ?_
    refine R_bipush r_38_3 (v := nI 8) rfl ?_
    refine R_icmp_ge_N r_38_5 (by decide) (by omega) (by omega) (fun h_1 => ?_) (fun h_1 => ?_)
    · exfalso; omega
    · refine R_aload_n r_38_8 rfl (by decide) ?_
      refine R_iload_n r_38_9 rfl ?_
      refine R_aload_n r_38_10 rfl (by decide) ?_
      refine R_iload_n r_38_11 rfl ?_
      refine R_call2 r_38_12 rfl (sm_rv1 rfl rfl (isI_of hI (fun k h1 h2 => hf _ (by omega))).1) (Nat.le_of_ble_eq_true rfl) (Nat.le_of_ble_eq_true rfl) ?_
      refine c_kind (isI_of hI (fun k h1 h2 => hf _ (by omega))) hW (by omega) ?_
      refine R_aload_n r_38_15 rfl (by decide) ?_
      refine R_iconst r_38_16 (v := nI 1) rfl ?_
      refine R_iload_n r_38_17 rfl ?_
      refine R_ishlN r_38_18 (by omega) ?_
      refine R_call2 r_38_19 rfl (sm_rv1 rfl rfl (isI_of hI (fun k h1 h2 => hf _ (by omega))).1) (Nat.le_of_ble_eq_true rfl) (Nat.le_of_ble_eq_true rfl) ?_
      refine c_cowsOf (isI_of hI (fun k h1 h2 => hf _ (by omega))) hW (by have := shl_lt (k := i) (by omega); omega) ?_
      rw [sumUp_one, if_pos (by omega)]
      refine R_call4 r_38_22 rfl (sm_rv1 rfl rfl hJ.1) (Nat.le_of_ble_eq_true rfl) (Nat.le_of_ble_eq_true rfl) ?_
      refine c_putI9 hJ (by omega) (fun w_q_2 hJ_q_2 hf_q_2 => ?_)
      refine R_iinc1 r_38_25 rfl rfl ?_
      refine R_goto r_38_28 (by decide) ?_
      exact ih (i + 1) _ _ _ _ _ _ _ _ _ _ _ (by omega) hJ_q_2 (frm.tr hf hf_q_2) (pre_setv (g := fun t => nI ((iK I).getD t 0)) hp1 (by omega) rfl) (pre_setv (g := fun t => nI ((iC I).getD t 0)) hp2 (by omega) rfl)
theorem lp_cpy2 {xs : List Int32} {d : Nat} {Q : Option Value → sm_W → Prop} {I : sm_Is} {wd0 : sm_W} (hI : isI wd0 5 I) (hW : iWF I) {l1 l2 : List Int32} (hQ : ∀ wd n b dd m p x F l3, isJ wd 9 n b dd m p x F l1 l2 l3 → frm 9 12 wd0 wd → (∀ t, t < 5 → l3[t]? = some (nI ((iS I).getD t 0))) → RT xs (d + 1) 38 56 [some (.ref 9), some (.ref 5), some (.int (nI 5))] [] wd Q)  : ∀ (k : Nat) (i : Nat) (n b dd m p x : Int32) (F : Int64) (l3 : List Int32) (wd : sm_W), (i + k = 5) → (isJ wd 9 n b dd m p x F l1 l2 l3) → (frm 9 12 wd0 wd) → (∀ t, t < i → l3[t]? = some (nI ((iS I).getD t 0))) → RT xs (d + 1) 38 33 [some (.ref 9), some (.ref 5), some (.int (nI i))] [] wd Q := by
  intro k
  induction k with
  | zero =>
    intro i n b dd m p x F l3 wd hk hJ hf hp3
    have hl1 : l1.length = 8 := hJ.2.2.2.2.1
    have hl2 : l2.length = 8 := hJ.2.2.2.2.2.1
    have hl3 : l3.length = 5 := hJ.2.2.2.2.2.2
    refine R_iload_n r_38_33 rfl ?_
    refine R_iconst r_38_34 (v := nI 5) rfl ?_
    refine R_icmp_ge_N r_38_35 (by decide) (by omega) (by omega) (fun h_1 => ?_) (fun h_1 => ?_)
    · obtain rfl : i = 5 := by omega
      exact hQ _ _ _ _ _ _ _ _ _ hJ hf hp3
    · exfalso; omega
  | succ k ih =>
    intro i n b dd m p x F l3 wd hk hJ hf hp3
    have hl1 : l1.length = 8 := hJ.2.2.2.2.1
    have hl2 : l2.length = 8 := hJ.2.2.2.2.2.1
    have hl3 : l3.length = 5 := hJ.2.2.2.2.2.2
    refine R_iload_n r_38_33 rfl ?_
    refine R_iconst r_38_34 (v := nI 5) rfl ?_
    refine R_icmp_ge_N r_38_35 (by decide) (by omega) (by omega) (fun h_1 => ?_) (fun h_1 => ?_)
    · exfalso; omega
    · refine R_aload_n r_38_38 rfl (by decide) ?_
      refine R_iload_n r_38_39 rfl ?_
      refine R_aload_n r_38_40 rfl (by decide) ?_
      refine R_iconst r_38_41 (v := nI 1) rfl ?_
      refine R_iload_n r_38_42 rfl ?_
      refine R_ishlN r_38_43 (by omega) ?_
      refine R_call2 r_38_44 rfl (sm_rv1 rfl rfl (isI_of hI (fun k h1 h2 => hf _ (by omega))).1) (Nat.le_of_ble_eq_true rfl) (Nat.le_of_ble_eq_true rfl) ?_
      refine c_seatsOf (isI_of hI (fun k h1 h2 => hf _ (by omega))) hW (by have := shl_lt (k := i) (by omega); omega) ?_
      rw [sumUp_one, if_pos (by omega)]
      refine R_call3 r_38_47 rfl (sm_rv1 rfl rfl hJ.1) (Nat.le_of_ble_eq_true rfl) (Nat.le_of_ble_eq_true rfl) ?_
      refine c_putB9 hJ (by omega) (fun w_q_2 hJ_q_2 hf_q_2 => ?_)
      refine R_iinc1 r_38_50 rfl rfl ?_
      refine R_goto r_38_53 (by decide) ?_
      exact ih (i + 1) _ _ _ _ _ _ _ _ _ (by omega) hJ_q_2 (frm.tr hf hf_q_2) (pre_setv (g := fun t => nI ((iS I).getD t 0)) hp3 (by omega) rfl)
theorem c_copyFrom {xs : List Int32} {d : Nat} {wd : sm_W} {Q : Option Value → sm_W → Prop} {n b dd m p x : Int32} {F : Int64} {l1 l2 l3 : List Int32} (hJ : isJ wd 9 n b dd m p x F l1 l2 l3) {I : sm_Is} (hI : isI wd 5 I) (hW : iWF I) (hQ : ∀ w2, isI w2 9 I → frm 9 12 wd w2 → Q none w2) : Ct xs (d + 1) 38 [.ref 9, .ref 5] wd Q := by
  unfold Ct
  show RT xs (d + 1) 38 0 [some (.ref 9), some (.ref 5), none] [] wd Q
  refine R_iconst r_38_0 (v := nI 0) rfl ?_
  refine R_istore_n r_38_1 rfl ?_
  refine lp_cpy1 hI hW (fun wd1 n1 b1 d1 m1 p1 x1 F1 l11 l21 l31 hJ1 hf1 hp1 hp2 => ?_) 8 0 _ _ _ _ _ _ _ _ _ _ _ (by omega) hJ frm.rf (fun t ht => absurd ht (by omega)) (fun t ht => absurd ht (by omega))
  refine R_iconst r_38_31 (v := nI 0) rfl ?_
  refine R_istore_n r_38_32 rfl ?_
  refine lp_cpy2 hI hW (fun wd2 n2 b2 d2 m2 p2 x2 F2 l32 hJ2 hf2 hp3 => ?_) 5 0 _ _ _ _ _ _ _ _ _ (by omega) hJ1 hf1 (fun t ht => absurd ht (by omega))
  refine R_aload_n r_38_56 rfl (by decide) ?_
  refine R_aload_n r_38_57 rfl (by decide) ?_
  refine R_getf r_38_58 (by decide) (isI_of hI (fun k h1 h2 => hf2 _ (by omega))).1 rfl ?_
  refine R_jp_n r_38_61 hJ2 rfl rfl (fun w_q_41 hJ_q_41 hf_q_41 => ?_)
  refine R_aload_n r_38_64 rfl (by decide) ?_
  refine R_aload_n r_38_65 rfl (by decide) ?_
  refine R_getf r_38_66 (by decide) (isI_of hI (fun k h1 h2 => (frm.tr hf2 hf_q_41) _ (by omega))).1 rfl ?_
  refine R_jp_b r_38_69 hJ_q_41 rfl rfl (fun w_q_42 hJ_q_42 hf_q_42 => ?_)
  refine R_aload_n r_38_72 rfl (by decide) ?_
  refine R_aload_n r_38_73 rfl (by decide) ?_
  refine R_getf r_38_74 (by decide) (isI_of hI (fun k h1 h2 => (frm.tr (frm.tr hf2 hf_q_41) hf_q_42) _ (by omega))).1 rfl ?_
  refine R_jp_d r_38_77 hJ_q_42 rfl rfl (fun w_q_43 hJ_q_43 hf_q_43 => ?_)
  refine R_aload_n r_38_80 rfl (by decide) ?_
  refine R_aload_n r_38_81 rfl (by decide) ?_
  refine R_getf r_38_82 (by decide) (isI_of hI (fun k h1 h2 => (frm.tr (frm.tr (frm.tr hf2 hf_q_41) hf_q_42) hf_q_43) _ (by omega))).1 rfl ?_
  refine R_jp_m r_38_85 hJ_q_43 rfl rfl (fun w_q_44 hJ_q_44 hf_q_44 => ?_)
  refine R_aload_n r_38_88 rfl (by decide) ?_
  refine R_aload_n r_38_89 rfl (by decide) ?_
  refine R_getf r_38_90 (by decide) (isI_of hI (fun k h1 h2 => (frm.tr (frm.tr (frm.tr (frm.tr hf2 hf_q_41) hf_q_42) hf_q_43) hf_q_44) _ (by omega))).1 rfl ?_
  refine R_jp_p r_38_93 hJ_q_44 rfl rfl (fun w_q_45 hJ_q_45 hf_q_45 => ?_)
  refine R_aload_n r_38_96 rfl (by decide) ?_
  refine R_aload_n r_38_97 rfl (by decide) ?_
  refine R_getf r_38_98 (by decide) (isI_of hI (fun k h1 h2 => (frm.tr (frm.tr (frm.tr (frm.tr (frm.tr hf2 hf_q_41) hf_q_42) hf_q_43) hf_q_44) hf_q_45) _ (by omega))).1 rfl ?_
  refine R_jp_x r_38_101 hJ_q_45 rfl rfl (fun w_q_46 hJ_q_46 hf_q_46 => ?_)
  refine R_aload_n r_38_104 rfl (by decide) ?_
  refine R_aload_n r_38_105 rfl (by decide) ?_
  refine R_getf r_38_106 (by decide) (isI_of hI (fun k h1 h2 => (frm.tr (frm.tr (frm.tr (frm.tr (frm.tr (frm.tr hf2 hf_q_41) hf_q_42) hf_q_43) hf_q_44) hf_q_45) hf_q_46) _ (by omega))).1 rfl ?_
  refine R_jp_F r_38_109 hJ_q_46 rfl rfl (fun w_q_47 hJ_q_47 hf_q_47 => ?_)
  refine R_vret r_38_112 rfl ?_
  have h9 := hJ_q_47
  have e1 := all_map (h9.2.2.2.2.1.trans hW.1.symm) (by rw [hW.1]; exact hp1)
  have e2 := all_map (h9.2.2.2.2.2.1.trans hW.2.1.symm) (by rw [hW.2.1]; exact hp2)
  have e3 := all_map (h9.2.2.2.2.2.2.trans hW.2.2.1.symm) (by rw [hW.2.2.1]; exact hp3)
  rw [e1, e2, e3] at h9
  exact hQ _ (isJ.toI (I := I) (by decide) h9) (frm.tr (frm.tr (frm.tr (frm.tr (frm.tr (frm.tr (frm.tr hf2 hf_q_41) hf_q_42) hf_q_43) hf_q_44) hf_q_45) hf_q_46) hf_q_47)
theorem isI.toJ2 {wd : sm_W} {a : Nat} {I : sm_Is} (h : isI wd a I) (h1 : (iK I).length = 8) (h2 : (iC I).length = 8) (h3 : (iS I).length = 5) : isJ wd a (nI (iN I)) (nI (iB I)) (nI (iBd I)) (nI (iM I)) (nI (iP I)) (nI (iX I)) (lN (iF I)) ((iK I).map nI) ((iC I).map nI) ((iS I).map nI) := ⟨h.1, h.2.1, h.2.2.1, h.2.2.2.1, by rw [List.length_map]; exact h1, by rw [List.length_map]; exact h2, by rw [List.length_map]; exact h3⟩
theorem isD.get {wd : sm_W} (h : isD wd) : (∃ c e l, isM wd c e l) ∧ ∃ n b dd m p x F l1 l2 l3, isJ wd 5 n b dd m p x F l1 l2 l3 := by
  obtain ⟨b1, b2, a1, a2, a3, a4, a5, a6, a7, l0, l1, l2, l3, h3, h4, h0, h5, h6, h7, h8, e1, e2, e3⟩ := h
  exact ⟨⟨b1, b2, l0, h3, h4, h0⟩, a1, a2, a3, a4, a5, a6, a7, l1, l2, l3, h5, h6, h7, h8, e1, e2, e3⟩
theorem isD.mk {wd : sm_W} {I : sm_Is} (h : ∃ c e l, isM wd c e l) (hI : isI wd 5 I) (hW : iWF I) : isD wd := by
  obtain ⟨c, e, l, h1, h2, h3⟩ := h
  have hJ := hI.toJ hW
  exact ⟨c, e, _, _, _, _, _, _, _, l, _, _, _, h1, h2, h3, hJ.1, hJ.2.1, hJ.2.2.1, hJ.2.2.2.1, hJ.2.2.2.2.1, hJ.2.2.2.2.2.1, hJ.2.2.2.2.2.2⟩
section CX58
variable {wd w2 : sm_W} {tx : List Nat} {I : sm_Is} {w : Nat} {pa sh : List Nat} {sn : List (Nat × Nat)}
theorem cX.draft (h : cX wd tx I w pa sh sn) (h2 : isD w2) (hf : frm 3 8 wd w2) : cX w2 tx I w pa sh sn :=
  ⟨⟨(hf _ (by decide)).trans h.1.1, isI_of h.1.2.1 (fun k h1 h2 => hf _ (by omega)), isN0_of h.1.2.2 (hf _ (by decide)) (hf _ (by decide))⟩, isP_of h.2.1 (hf _ (by decide)) (hf _ (by decide)), isP_of h.2.2.1 (hf _ (by decide)) (hf _ (by decide)), isS_of h.2.2.2.1 (hf _ (by decide)) (hf _ (by decide)) (hf _ (by decide)), isT_of h.2.2.2.2.1 (hf _ (by decide)) (hf _ (by decide)), h2⟩
theorem cX.isl {I2 : sm_Is} (h : cX wd tx I w pa sh sn) (h2 : isI w2 9 I2) (hf : frm 9 12 wd w2) : cX w2 tx I2 w pa sh sn :=
  ⟨⟨(hf _ (by decide)).trans h.1.1, h2, isN0_of h.1.2.2 (hf _ (by decide)) (hf _ (by decide))⟩, isP_of h.2.1 (hf _ (by decide)) (hf _ (by decide)), isP_of h.2.2.1 (hf _ (by decide)) (hf _ (by decide)), isS_of h.2.2.2.1 (hf _ (by decide)) (hf _ (by decide)) (hf _ (by decide)), isT_of h.2.2.2.2.1 (hf _ (by decide)) (hf _ (by decide)), isD_of h.2.2.2.2.2 (fun k h1 h2 => hf _ (by omega))⟩
theorem sm_rvD {j n : Nat} {st : List Value} (hk : sm_kd j = 1) (hc : sm_ci j = 1) (hst : st[n - 1]? = some (.ref 5)) (hX : cX wd tx I w pa sh sn) : sm_recv j n st wd = true := by
  obtain ⟨-, n, b, dd, m, p, x, F, l1, l2, l3, hJ⟩ := hX.2.2.2.2.2.get
  exact sm_rvJ hk hc hst hJ
end CX58
/-- the text as it is read -/
abbrev rdT (tx : List Nat) : Nat × sm_Is := rdL tx 200 0 I0
theorem rdT_wf (tx : List Nat) : wfD (rdT tx).2 := rdL_wf 200 0 I0 I0_wfD
theorem rdL_le {tx : List Nat} : ∀ (k p : Nat) (I : sm_Is), (rdL tx k p I).1 = 999 ∨ (rdL tx k p I).1 < tx.length
  | 0, _, _ => Or.inl rfl
  | k + 1, p, I => by
    by_cases h1 : p < tx.length
    · cases h2 : itC tx p with
      | none => rw [rdL_1 h1 h2]; exact Or.inr h1
      | some q =>
        obtain ⟨l, e⟩ := q
        cases h3 : tkI I (ltA tx p) l with
        | none => rw [rdL_2 h1 h2 h3]; exact Or.inr h1
        | some I2 => rw [rdL_3 h1 h2 h3]; exact rdL_le k e I2
    · rw [rdL_0 (by omega)]; exact Or.inl rfl
theorem noI_m4 {r : Nat} (h : r = 999 ∨ r < 256) : noI r = -4 ↔ r = 999 := by
  rcases h with h | h
  · subst h; exact ⟨fun _ => rfl, fun _ => rfl⟩
  · rw [noI_n (by omega)]
    refine ⟨fun z => ?_, fun z => by omega⟩
    have := congrArg Int32.toInt z
    rw [nI_toInt (by omega)] at this
    have h4 : (-4 : Int32).toInt = -4 := by decide
    omega
theorem c_readX {xs : List Int32} {d : Nat} {wd : sm_W} {Q : Option Value → sm_W → Prop} {tx : List Nat} {I : sm_Is} {w : Nat} {pa sh : List Nat} {sn : List (Nat × Nat)} (hX : cX wd tx I w pa sh sn) (hQ : ∀ w2, cX w2 tx I w pa sh sn → isI w2 5 (rdT tx).2 → frm 3 8 wd w2 → Q (some (.int (noI (rdT tx).1))) w2) : Ct xs (d + 4) 16 [.ref 5, .ref 1, .ref 3] wd Q := by
  obtain ⟨⟨c, e, l, hM⟩, n, b, dd, m, p, x, F, l1, l2, l3, hJ⟩ := hX.2.2.2.2.2.get
  exact c_read hX.2.2.2.2.1 hM hJ (fun w2 h2 h3 h4 => hQ w2 (hX.draft (isD.mk h3 h2 (rdT_wf tx).1) h4) h2 h4)
theorem c_fault {xs : List Int32} {d : Nat} {wd : sm_W} {Q : Option Value → sm_W → Prop} {tx : List Nat} {I : sm_Is} {w : Nat} {pa sh : List Nat} {sn : List (Nat × Nat)} (hX : cX wd tx I w pa sh sn) (hW : iWF I) (hw : w < 18446744073709551616) (hQ : ∀ w2, cX w2 tx I w pa sh sn → frm 0 21 wd w2 → Q (some (.int (noI (rdT tx).1))) w2) : Ct xs (d + 5) 46 [.ref 0] wd Q := by
  unfold Ct
  show RT xs (d + 5) 46 0 [some (.ref 0)] [] wd Q
  obtain ⟨hW1, hW2, hW3, hW4, hW5, hW6, hW7, hW8, hW9, hW10, hW11, hW12, hW13, hW14, hW15⟩ := id hW
  refine R_aload_n r_46_0 rfl (by decide) ?_
  refine R_getf r_46_1 (by decide) hX.1.1 rfl ?_
  refine R_aload_n r_46_4 rfl (by decide) ?_
  refine R_getf r_46_5 (by decide) hX.1.1 rfl ?_
  refine R_aload_n r_46_8 rfl (by decide) ?_
  refine R_getf r_46_9 (by decide) hX.1.1 rfl ?_
  refine R_call3 r_46_12 rfl (sm_rvD rfl rfl rfl hX) (Nat.le_of_ble_eq_true rfl) (Nat.le_of_ble_eq_true rfl) ?_
  refine c_readX hX (fun w_1 hx_w_1 hi5_w_1 hf_w_1 => ?_)
  refine R_iret r_46_15 (ty := .int) rfl rfl (by decide) ?_
  exact hQ _ hx_w_1 (frm.tr frm.rf (frm.wide hf_w_1 (by decide) (by decide)))
theorem c_lay {xs : List Int32} {d : Nat} {wd : sm_W} {Q : Option Value → sm_W → Prop} {tx : List Nat} {I : sm_Is} {w : Nat} {pa sh : List Nat} {sn : List (Nat × Nat)} (hX : cX wd tx I w pa sh sn) (hW : iWF I) (hw : w < 18446744073709551616) (hB : ¬ ((rdT tx).1 = 999 ∧ cbl (rdT tx).2 = true) → ∀ w2, cX w2 tx I w pa sh sn → frm 0 21 wd w2 → Q (some (.int (-2))) w2) (hQ : (rdT tx).1 = 999 ∧ cbl (rdT tx).2 = true → ∀ w2, cX w2 tx (rdT tx).2 (iF (rdT tx).2) [] [] [] → frm 0 21 wd w2 → Q (some (.int (nI (iN (rdT tx).2)))) w2) : Ct xs (d + 5) 47 [.ref 0] wd Q := by
  unfold Ct
  show RT xs (d + 5) 47 0 [some (.ref 0)] [] wd Q
  obtain ⟨hW1, hW2, hW3, hW4, hW5, hW6, hW7, hW8, hW9, hW10, hW11, hW12, hW13, hW14, hW15⟩ := id hW
  have htl : tx.length ≤ 200 := hX.2.2.2.2.1.choose_spec.2.2.2.1
  have hrl : (rdT tx).1 = 999 ∨ (rdT tx).1 < 256 := by rcases rdL_le (tx := tx) 200 0 I0 with h | h; exact Or.inl h; exact Or.inr (by show (rdL tx 200 0 I0).1 < 256; omega)
  refine R_aload_n r_47_0 rfl (by decide) ?_
  refine R_getf r_47_1 (by decide) hX.1.1 rfl ?_
  refine R_aload_n r_47_4 rfl (by decide) ?_
  refine R_getf r_47_5 (by decide) hX.1.1 rfl ?_
  refine R_aload_n r_47_8 rfl (by decide) ?_
  refine R_getf r_47_9 (by decide) hX.1.1 rfl ?_
  refine R_call3 r_47_12 rfl (sm_rvD rfl rfl rfl hX) (Nat.le_of_ble_eq_true rfl) (Nat.le_of_ble_eq_true rfl) ?_
  refine c_readX hX (fun w_1 hx_w_1 hi5_w_1 hf_w_1 => ?_)
  refine R_bipush r_47_15 (v := (-4)) rfl ?_
  refine R_icmp_ne r_47_17 (by decide) (fun h_2 => ?_) (fun h_2 => ?_)
  · refine R_bipush r_47_30 (v := (-2)) rfl ?_
    refine R_iret r_47_32 (ty := .int) rfl rfl (by decide) ?_
    exact hB (by first | (rintro ⟨z, _⟩; exact (by assumption : ¬ noI _ = -4) ((noI_m4 hrl).mpr z)) | (rintro ⟨_, z⟩; exact Bool.noConfusion (z.symm.trans (by assumption : cbl _ = false)))) _ hx_w_1 (frm.tr frm.rf (frm.wide hf_w_1 (by decide) (by decide)))
  · refine R_aload_n r_47_20 rfl (by decide) ?_
    refine R_getf r_47_21 (by decide) hx_w_1.1.1 rfl ?_
    refine R_call1 r_47_24 rfl (sm_rvD rfl rfl rfl hx_w_1) (Nat.le_of_ble_eq_true rfl) (Nat.le_of_ble_eq_true rfl) ?_
    refine c_canBeLaid hi5_w_1 (rdT_wf tx).1 ?_
    refine R_if_ne_b r_47_27 (by decide) (fun h_3 => ?_) (fun h_3 => ?_)
    · refine R_aload_n r_47_33 rfl (by decide) ?_
      refine R_getf r_47_34 (by decide) hx_w_1.1.1 rfl ?_
      refine R_aload_n r_47_37 rfl (by decide) ?_
      refine R_getf r_47_38 (by decide) hx_w_1.1.1 rfl ?_
      refine R_call2 r_47_41 rfl (sm_rv1 rfl rfl hx_w_1.1.2.1.1) (Nat.le_of_ble_eq_true rfl) (Nat.le_of_ble_eq_true rfl) ?_
      refine c_copyFrom (hx_w_1.1.2.1.toJ hW) hi5_w_1 (rdT_wf tx).1 (fun w_4 hi9_w_4 hf_w_4 => ?_)
      refine R_aload_n r_47_44 rfl (by decide) ?_
      refine R_aload_n r_47_45 rfl (by decide) ?_
      refine R_getf r_47_46 (by decide) (cX.isl hx_w_1 hi9_w_4 hf_w_4).1.1 rfl ?_
      refine R_call1 r_47_49 rfl (sm_rv1 rfl rfl (cX.isl hx_w_1 hi9_w_4 hf_w_4).1.2.1.1) (Nat.le_of_ble_eq_true rfl) (Nat.le_of_ble_eq_true rfl) ?_
      refine c_firstStanding (cX.isl hx_w_1 hi9_w_4 hf_w_4).1.2.1 ?_
      refine R_putf r_47_52 (cX.isl hx_w_1 hi9_w_4 hf_w_4).1.1 (Nat.le_of_ble_eq_true rfl) rfl rfl ?_
      refine R_aload_n r_47_55 rfl (by decide) ?_
      refine R_getf r_47_56 (by decide) (cX.stand (cX.isl hx_w_1 hi9_w_4 hf_w_4)).1.1.1 rfl ?_
      refine R_call1 r_47_59 rfl (sm_rv1 rfl rfl (cX.stand (cX.isl hx_w_1 hi9_w_4 hf_w_4)).1.2.1.choose_spec.1) (Nat.le_of_ble_eq_true rfl) (Nat.le_of_ble_eq_true rfl) ?_
      refine c_pclear15 (cX.stand (cX.isl hx_w_1 hi9_w_4 hf_w_4)).1.2.1 (fun w_5 hp_w_5 hf_w_5 => ?_)
      refine R_aload_n r_47_62 rfl (by decide) ?_
      refine R_getf r_47_63 (by decide) (cX.past (cX.stand (cX.isl hx_w_1 hi9_w_4 hf_w_4)).1 hp_w_5 hf_w_5).1.1 rfl ?_
      refine R_call1 r_47_66 rfl (sm_rv1 rfl rfl (cX.past (cX.stand (cX.isl hx_w_1 hi9_w_4 hf_w_4)).1 hp_w_5 hf_w_5).2.2.1.choose_spec.1) (Nat.le_of_ble_eq_true rfl) (Nat.le_of_ble_eq_true rfl) ?_
      refine c_pclear17 (cX.past (cX.stand (cX.isl hx_w_1 hi9_w_4 hf_w_4)).1 hp_w_5 hf_w_5).2.2.1 (fun w_6 hp_w_6 hf_w_6 => ?_)
      refine R_aload_n r_47_69 rfl (by decide) ?_
      refine R_getf r_47_70 (by decide) (cX.shelf (cX.past (cX.stand (cX.isl hx_w_1 hi9_w_4 hf_w_4)).1 hp_w_5 hf_w_5) hp_w_6 hf_w_6).1.1 rfl ?_
      refine R_call1 r_47_73 rfl (sm_rv1 rfl rfl (cX.shelf (cX.past (cX.stand (cX.isl hx_w_1 hi9_w_4 hf_w_4)).1 hp_w_5 hf_w_5) hp_w_6 hf_w_6).2.2.2.1.choose_spec.choose_spec.1) (Nat.le_of_ble_eq_true rfl) (Nat.le_of_ble_eq_true rfl) ?_
      refine c_sclear (cX.shelf (cX.past (cX.stand (cX.isl hx_w_1 hi9_w_4 hf_w_4)).1 hp_w_5 hf_w_5) hp_w_6 hf_w_6).2.2.2.1 (fun w_7 hp_w_7 hf_w_7 => ?_)
      refine R_aload_n r_47_76 rfl (by decide) ?_
      refine R_getf r_47_77 (by decide) (cX.seen (cX.shelf (cX.past (cX.stand (cX.isl hx_w_1 hi9_w_4 hf_w_4)).1 hp_w_5 hf_w_5) hp_w_6 hf_w_6) hp_w_7 hf_w_7).1.1 rfl ?_
      refine R_call1 r_47_80 rfl (sm_rv1 rfl rfl (cX.seen (cX.shelf (cX.past (cX.stand (cX.isl hx_w_1 hi9_w_4 hf_w_4)).1 hp_w_5 hf_w_5) hp_w_6 hf_w_6) hp_w_7 hf_w_7).1.2.1.1) (Nat.le_of_ble_eq_true rfl) (Nat.le_of_ble_eq_true rfl) ?_
      refine c_islanders (cX.seen (cX.shelf (cX.past (cX.stand (cX.isl hx_w_1 hi9_w_4 hf_w_4)).1 hp_w_5 hf_w_5) hp_w_6 hf_w_6) hp_w_7 hf_w_7).1.2.1 ?_
      refine R_iret r_47_83 (ty := .int) rfl rfl (by decide) ?_
      exact hQ ⟨(noI_m4 hrl).mp (by assumption), by assumption⟩ _ (cX.seen (cX.shelf (cX.past (cX.stand (cX.isl hx_w_1 hi9_w_4 hf_w_4)).1 hp_w_5 hf_w_5) hp_w_6 hf_w_6) hp_w_7 hf_w_7) (frm.tr (frm.tr (frm.tr (frm.tr (frm.tr (frm.tr frm.rf (frm.wide hf_w_1 (by decide) (by decide))) (frm.wide hf_w_4 (by decide) (by decide))) (frm.wide (cX.stand (cX.isl hx_w_1 hi9_w_4 hf_w_4)).2 (by decide) (by decide))) (frm.wide hf_w_5 (by decide) (by decide))) (frm.wide hf_w_6 (by decide) (by decide))) (frm.wide hf_w_7 (by decide) (by decide)))
    · refine R_bipush r_47_30 (v := (-2)) rfl ?_
      refine R_iret r_47_32 (ty := .int) rfl rfl (by decide) ?_
      exact hB (by first | (rintro ⟨z, _⟩; exact (by assumption : ¬ noI _ = -4) ((noI_m4 hrl).mpr z)) | (rintro ⟨_, z⟩; exact Bool.noConfusion (z.symm.trans (by assumption : cbl _ = false)))) _ hx_w_1 (frm.tr frm.rf (frm.wide hf_w_1 (by decide) (by decide)))
