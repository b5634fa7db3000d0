/-! counts of bits; the island's other reading methods -/
def pcUp (s : Nat) : Nat → Nat
  | 0 => 0
  | k + 1 => pcUp s k + (s.testBit k).toNat
abbrev pc8 (s : Nat) : Nat := pcUp s 8
theorem pcUp_le (s : Nat) : ∀ k, pcUp s k ≤ k
  | 0 => Nat.le_refl _
  | k + 1 => by
    have := pcUp_le s k
    have := Bool.toNat_le (s.testBit k)
    unfold pcUp
    omega
def bcf (x : Int32) : Int32 :=
  let a := x - ((x.toUInt32 >>> ((nI 1).toUInt32 &&& Int32.toUInt32 31)).toInt32 &&& nI 1431655765)
  let b := (a &&& nI 858993459) + ((a.toUInt32 >>> ((nI 2).toUInt32 &&& Int32.toUInt32 31)).toInt32 &&& nI 858993459)
  let c := (b + (b.toUInt32 >>> ((nI 4).toUInt32 &&& Int32.toUInt32 31)).toInt32) &&& nI 252645135
  let d := c + (c.toUInt32 >>> ((nI 8).toUInt32 &&& Int32.toUInt32 31)).toInt32
  let e := d + (d.toUInt32 >>> ((nI 16).toUInt32 &&& Int32.toUInt32 31)).toInt32
  e &&& nI 63
theorem bc_eq : ∀ s, s < 256 → bcf (nI s) = nI (pc8 s) := by decide +kernel
theorem c_bitCount {xs : List Int32} {d : Nat} {wd : sm_W} {Q : Option Value → sm_W → Prop} {s : Nat} (hs : s < 256) (hQ : Q (some (.int (nI (pc8 s)))) wd) : Ct xs (d) 78 [.int (nI s)] wd Q := by
  unfold Ct
  show RT xs (d) 78 0 [some (.int (nI s))] [] wd Q
  refine R_iload_n r_78_0 rfl ?_
  refine R_iload_n r_78_1 rfl ?_
  refine R_iconst r_78_2 (v := nI 1) rfl ?_
  refine R_iushr r_78_3 ?_
  refine R_ldc_w r_78_4 (by decide) (v := nI 1431655765) rfl ?_
  refine R_iand r_78_7 ?_
  refine R_isub r_78_8 ?_
  refine R_istore_n r_78_9 rfl ?_
  refine R_iload_n r_78_10 rfl ?_
  refine R_ldc_w r_78_11 (by decide) (v := nI 858993459) rfl ?_
  refine R_iand r_78_14 ?_
  refine R_iload_n r_78_15 rfl ?_
  refine R_iconst r_78_16 (v := nI 2) rfl ?_
  refine R_iushr r_78_17 ?_
  refine R_ldc_w r_78_18 (by decide) (v := nI 858993459) rfl ?_
  refine R_iand r_78_21 ?_
  refine R_iadd r_78_22 ?_
  refine R_istore_n r_78_23 rfl ?_
  refine R_iload_n r_78_24 rfl ?_
  refine R_iload_n r_78_25 rfl ?_
  refine R_iconst r_78_26 (v := nI 4) rfl ?_
  refine R_iushr r_78_27 ?_
  refine R_iadd r_78_28 ?_
  refine R_ldc_w r_78_29 (by decide) (v := nI 252645135) rfl ?_
  refine R_iand r_78_32 ?_
  refine R_istore_n r_78_33 rfl ?_
  refine R_iload_n r_78_34 rfl ?_
  refine R_iload_n r_78_35 rfl ?_
  refine R_bipush r_78_36 (v := nI 8) rfl ?_
  refine R_iushr r_78_38 ?_
  refine R_iadd r_78_39 ?_
  refine R_istore_n r_78_40 rfl ?_
  refine R_iload_n r_78_41 rfl ?_
  refine R_iload_n r_78_42 rfl ?_
  refine R_bipush r_78_43 (v := nI 16) rfl ?_
  refine R_iushr r_78_45 ?_
  refine R_iadd r_78_46 ?_
  refine R_istore_n r_78_47 rfl ?_
  refine R_iload_n r_78_48 rfl ?_
  refine R_bipush r_78_49 (v := nI 63) rfl ?_
  refine R_iand r_78_51 ?_
  refine R_iret r_78_52 (ty := .int) rfl rfl (by decide) ?_
  show Q (some (.int (bcf (nI s)))) wd
  rw [bc_eq s hs]; exact hQ
def lawF (I : sm_Is) (m : Nat) : Bool := decide (iP I * iN I ≤ 10 * m)
def allOf (I : sm_Is) : Nat := 1 <<< iN I - 1
def cowW (I : sm_Is) (s : Nat) : Nat := sumUp (iC I) (allOf I &&& (s ^^^ 4294967295)) 8
theorem shl_lt {k : Nat} (h : k ≤ 8) : 1 <<< k ≤ 256 := by
  rw [Nat.one_shiftLeft]
  exact Nat.pow_le_pow_right (by decide) h
theorem shl_pos (k : Nat) : 1 ≤ 1 <<< k := by
  rw [Nat.one_shiftLeft]
  exact Nat.one_le_two_pow
theorem all_lt {I : sm_Is} (hW : iWF I) : allOf I < 256 := by
  have h1 := shl_lt hW.2.2.2.1
  have h2 := shl_pos (iN I)
  unfold allOf
  omega
theorem c_lawFalls {xs : List Int32} {d : Nat} {wd : sm_W} {Q : Option Value → sm_W → Prop} {a : Nat} {I : sm_Is} (hI : isI wd a I) (hW : iWF I) {s : Nat} (hs : s < 256) (hQ : Q (some (.int (b2i (lawF I (pc8 s))))) wd) : Ct xs (d + 1) 81 [.ref a, .int (nI s)] wd Q := by
  unfold Ct
  show RT xs (d + 1) 81 0 [some (.ref a), some (.int (nI s))] [] wd Q
  obtain ⟨hI1, hI2, hI3, hI4, ha⟩ := id hI
  obtain ⟨hW1, hW2, hW3, hW4, hW5, hW6, hW7, hW8, hW9, hW10, hW11, hW12, hW13, hW14, hW15⟩ := id hW
  have hp : pc8 s ≤ 8 := pcUp_le s 8
  have hm : iP I * iN I ≤ 9 * 8 := Nat.mul_le_mul hW13.2 hW4
  refine R_bipush r_81_0 (v := nI 10) rfl ?_
  refine R_iload_n r_81_2 rfl ?_
  refine R_call1 r_81_3 rfl rfl (Nat.le_of_ble_eq_true rfl) (Nat.le_of_ble_eq_true rfl) ?_
  refine c_bitCount hs ?_
  refine R_imulN r_81_6 ?_
  refine R_aload_n r_81_7 rfl (by omega) ?_
  refine R_getf r_81_8 (by decide) hI.1 rfl ?_
  refine R_aload_n r_81_11 rfl (by omega) ?_
  refine R_getf r_81_12 (by decide) hI.1 rfl ?_
  refine R_imulN r_81_15 ?_
  refine R_icmp_lt_N r_81_16 (by decide) (by omega) (by omega) (fun h_1 => ?_) (fun h_1 => ?_)
  · refine R_iconst r_81_23 (v := nI 0) rfl ?_
    refine R_iret r_81_24 (ty := .boolean) rfl (by decide) (by decide) ?_
    rw [show lawF I (pc8 s) = false from by unfold lawF; simp; omega] at hQ; exact hQ
  · refine R_iconst r_81_19 (v := nI 1) rfl ?_
    refine R_goto r_81_20 (by decide) ?_
    refine R_iret r_81_24 (ty := .boolean) rfl (by decide) (by decide) ?_
    rw [show lawF I (pc8 s) = true from by unfold lawF; simp; omega] at hQ; exact hQ
theorem c_everybody {xs : List Int32} {d : Nat} {wd : sm_W} {Q : Option Value → sm_W → Prop} {a : Nat} {I : sm_Is} (hI : isI wd a I) (hW : iWF I) (hQ : Q (some (.int (nI (allOf I)))) wd) : Ct xs (d) 86 [.ref a] wd Q := by
  unfold Ct
  show RT xs (d) 86 0 [some (.ref a)] [] wd Q
  obtain ⟨hI1, hI2, hI3, hI4, ha⟩ := id hI
  obtain ⟨hW1, hW2, hW3, hW4, hW5, hW6, hW7, hW8, hW9, hW10, hW11, hW12, hW13, hW14, hW15⟩ := id hW
  refine R_iconst r_86_0 (v := nI 1) rfl ?_
  refine R_aload_n r_86_1 rfl (by omega) ?_
  refine R_getf r_86_2 (by decide) hI.1 rfl ?_
  refine R_ishlN r_86_5 (by omega) ?_
  refine R_iconst r_86_6 (v := nI 1) rfl ?_
  refine R_isubN r_86_7 (shl_pos _) ?_
  refine R_iret r_86_8 (ty := .int) rfl rfl (by decide) ?_
  exact hQ
theorem c_cowsWithout {xs : List Int32} {d : Nat} {wd : sm_W} {Q : Option Value → sm_W → Prop} {a : Nat} {I : sm_Is} (hI : isI wd a I) (hW : iWF I) {s : Nat} (hQ : Q (some (.int (nI (cowW I s)))) wd) : Ct xs (d + 1) 85 [.ref a, .int (nI s)] wd Q := by
  unfold Ct
  show RT xs (d + 1) 85 0 [some (.ref a), some (.int (nI s))] [] wd Q
  obtain ⟨hI1, hI2, hI3, hI4, ha⟩ := id hI
  obtain ⟨hW1, hW2, hW3, hW4, hW5, hW6, hW7, hW8, hW9, hW10, hW11, hW12, hW13, hW14, hW15⟩ := id hW
  refine R_aload_n r_85_0 rfl (by omega) ?_
  refine R_aload_n r_85_1 rfl (by omega) ?_
  refine R_call1 r_85_2 rfl (sm_rv1 rfl rfl hI.1) (Nat.le_of_ble_eq_true rfl) (Nat.le_of_ble_eq_true rfl) ?_
  refine c_everybody hI hW ?_
  refine R_iload_n r_85_5 rfl ?_
  refine R_iconst r_85_6 (v := (-1)) rfl ?_
  refine R_ixorM r_85_7 ?_
  refine R_iandN r_85_8 ?_
  refine R_call2 r_85_9 rfl (sm_rv1 rfl rfl hI.1) (Nat.le_of_ble_eq_true rfl) (Nat.le_of_ble_eq_true rfl) ?_
  refine c_cowsOf hI hW (Nat.lt_of_le_of_lt Nat.and_le_left (Nat.lt_trans (all_lt hW) (by decide))) ?_
  refine R_iret r_85_12 (ty := .int) rfl rfl (by decide) ?_
  exact hQ
theorem cowW_le {I : sm_Is} (hW : iWF I) (s : Nat) : cowW I s ≤ 72 := sumUp_le hW.2.2.2.2.2.2.1 8
theorem c_cowsMilked {xs : List Int32} {d : Nat} {wd : sm_W} {Q : Option Value → sm_W → Prop} {a : Nat} {I : sm_Is} (hI : isI wd a I) (hW : iWF I) {s : Nat} (hQ : Q (some (.int (b2i (decide (iM I ≤ cowW I s))))) wd) : Ct xs (d + 2) 87 [.ref a, .int (nI s)] wd Q := by
  unfold Ct
  show RT xs (d + 2) 87 0 [some (.ref a), some (.int (nI s))] [] wd Q
  obtain ⟨hI1, hI2, hI3, hI4, ha⟩ := id hI
  obtain ⟨hW1, hW2, hW3, hW4, hW5, hW6, hW7, hW8, hW9, hW10, hW11, hW12, hW13, hW14, hW15⟩ := id hW
  have hc := cowW_le hW s
  refine R_aload_n r_87_0 rfl (by omega) ?_
  refine R_iload_n r_87_1 rfl ?_
  refine R_call2 r_87_2 rfl (sm_rv1 rfl rfl hI.1) (Nat.le_of_ble_eq_true rfl) (Nat.le_of_ble_eq_true rfl) ?_
  refine c_cowsWithout hI hW ?_
  refine R_aload_n r_87_5 rfl (by omega) ?_
  refine R_getf r_87_6 (by decide) hI.1 rfl ?_
  refine R_icmp_lt_N r_87_9 (by decide) (by omega) (by omega) (fun h_1 => ?_) (fun h_1 => ?_)
  · refine R_iconst r_87_16 (v := nI 0) rfl ?_
    refine R_iret r_87_17 (ty := .boolean) rfl (by decide) (by decide) ?_
    rw [show decide (iM I ≤ cowW I s) = false from by simp; omega] at hQ; exact hQ
  · refine R_iconst r_87_12 (v := nI 1) rfl ?_
    refine R_goto r_87_13 (by decide) ?_
    refine R_iret r_87_17 (ty := .boolean) rfl (by decide) (by decide) ?_
    rw [show decide (iM I ≤ cowW I s) = true from by simp; omega] at hQ; exact hQ
theorem lp_ofKind {xs : List Int32} {d : Nat} {wd : sm_W} {Q : Option Value → sm_W → Prop} {a : Nat} {I : sm_Is} (hI : isI wd a I) (hW : iWF I) {v : Nat} (hv : v < 2147483648) (hQ : Q (some (.int (nI (kindUp (iK I) v (iN I))))) wd) : ∀ (k i : Nat), i + k = iN I → RT xs (d + 1) 67 4 [some (.ref a), some (.int (nI v)), some (.int (nI (kindUp (iK I) v i))), some (.int (nI i))] [] wd Q := by
  intro k
  induction k with
  | zero =>
    intro i hk 
    obtain ⟨hI1, hI2, hI3, hI4, ha⟩ := id hI
    obtain ⟨hW1, hW2, hW3, hW4, hW5, hW6, hW7, hW8, hW9, hW10, hW11, hW12, hW13, hW14, hW15⟩ := id hW
    refine R_iload_n r_67_4 rfl ?_
    refine R_aload_n r_67_5 rfl (by omega) ?_
    refine R_getf r_67_6 (by decide) hI.1 rfl ?_
    refine R_icmp_ge_N r_67_9 (by decide) (by omega) (by omega) (fun h_1 => ?_) (fun h_1 => ?_)
    · refine R_iload_n r_67_33 rfl ?_
      refine R_iret r_67_34 (ty := .int) rfl rfl (by decide) ?_
      rw [show i = iN I by omega]; exact hQ
    · exfalso; omega
  | succ k ih =>
    intro i hk 
    obtain ⟨hI1, hI2, hI3, hI4, ha⟩ := id hI
    obtain ⟨hW1, hW2, hW3, hW4, hW5, hW6, hW7, hW8, hW9, hW10, hW11, hW12, hW13, hW14, hW15⟩ := id hW
    have hkk := hW6 i
    refine R_iload_n r_67_4 rfl ?_
    refine R_aload_n r_67_5 rfl (by omega) ?_
    refine R_getf r_67_6 (by decide) hI.1 rfl ?_
    refine R_icmp_ge_N r_67_9 (by decide) (by omega) (by omega) (fun h_1 => ?_) (fun h_1 => ?_)
    · exfalso; omega
    · refine R_aload_n r_67_12 rfl (by omega) ?_
      refine R_iload_n r_67_13 rfl ?_
      refine R_call2 r_67_14 rfl (sm_rv1 rfl rfl hI.1) (Nat.le_of_ble_eq_true rfl) (Nat.le_of_ble_eq_true rfl) ?_
      refine c_kind hI hW (by omega) ?_
      refine R_iload_n r_67_17 rfl ?_
      refine R_icmp_ne_N r_67_18 (by decide) (by omega) (by omega) (fun hb => ?_) (fun hb => ?_)
      · refine R_iinc1 r_67_27 rfl rfl ?_
        refine R_goto r_67_30 (by decide) ?_
        have := ih (i + 1) (by omega)
        unfold kindUp at this
        first | rw [if_pos hb] at this | rw [if_neg hb] at this
        exact this
      · refine R_iload_n r_67_21 rfl ?_
        refine R_iconst r_67_22 (v := nI 1) rfl ?_
        refine R_iload_n r_67_23 rfl ?_
        refine R_ishlN r_67_24 (by omega) ?_
        refine R_iorN r_67_25 ?_
        refine R_istore_n r_67_26 rfl ?_
        refine R_iinc1 r_67_27 rfl rfl ?_
        refine R_goto r_67_30 (by decide) ?_
        have := ih (i + 1) (by omega)
        unfold kindUp at this
        first | rw [if_pos hb] at this | rw [if_neg hb] at this
        exact this
theorem c_ofKind {xs : List Int32} {d : Nat} {wd : sm_W} {Q : Option Value → sm_W → Prop} {a : Nat} {I : sm_Is} (hI : isI wd a I) (hW : iWF I) {v : Nat} (hv : v < 2147483648) (hQ : Q (some (.int (nI (kindUp (iK I) v (iN I))))) wd) : Ct xs (d + 1) 67 [.ref a, .int (nI v)] wd Q := by
  unfold Ct
  show RT xs (d + 1) 67 0 [some (.ref a), some (.int (nI v)), none, none] [] wd Q
  refine R_iconst r_67_0 (v := nI 0) rfl ?_
  refine R_istore_n r_67_1 rfl ?_
  refine R_iconst r_67_2 (v := nI 0) rfl ?_
  refine R_istore_n r_67_3 rfl ?_
  exact lp_ofKind hI hW hv hQ (iN I) 0 (by omega)
