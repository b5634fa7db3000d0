/-! Standing: what each of its methods answers -/
def sLean (n i : Nat) : Nat := spart n i 1 + 2 * spart n (8 + i) 1
def sMind (n i : Nat) : Nat := spart n (16 + 3 * i) 3
def sHeld (n : Nat) : Nat := spart n 40 5
def sStorm (n : Nat) : Bool := decide (spart n 45 1 = 1)
def sIce (n : Nat) : Bool := decide (spart n 46 1 = 1)
def sAg (n q : Nat) : Nat := spart n (8 * q) 8
def wLean (n i l : Nat) : Nat := swith (swith n i 1 (l &&& 1)) (8 + i) 1 (l >>> 1)
def wMind (n i m : Nat) : Nat := swith n (16 + 3 * i) 3 m
def wHeld (n h : Nat) : Nat := swith n 40 5 h
def wWeather (n : Nat) (s i : Bool) : Nat := swith (swith n 45 1 s.toNat) 46 1 i.toNat
theorem and_lt31 (l m : Nat) (h : m < 2147483648) : l &&& m < 2147483648 := Nat.lt_of_le_of_lt Nat.and_le_right h
theorem shr_lt31 (l m : Nat) (h : l < 2147483648) : l >>> m < 2147483648 := Nat.lt_of_le_of_lt (Nat.shiftRight_le l m) h
theorem b2n_lt (c : Bool) : c.toNat < 2147483648 := Nat.lt_of_le_of_lt (Bool.toNat_le c) (by decide)
theorem c_against {xs : List Int32} {d : Nat} {wd : sm_W} {Q : Option Value → sm_W → Prop} {n q : Nat} (hn : n < 18446744073709551616) (hq : q < 2) (hQ : Q (some (.int (nI (sAg n q)))) wd) : Ct xs (d + 1) 70 [.long (lN n), .int (nI q)] wd Q := by
  unfold Ct
  show RT xs (d + 1) 70 0 [some (.long (lN n)), none, some (.int (nI q))] [] wd Q
  refine R_lload_n r_70_0 rfl ?_
  refine R_bipush r_70_1 (v := nI 8) rfl ?_
  refine R_iload_n r_70_3 rfl ?_
  refine R_imulN r_70_4 ?_
  refine R_bipush r_70_5 (v := nI 8) rfl ?_
  refine R_call3 r_70_7 rfl rfl (Nat.le_of_ble_eq_true rfl) (Nat.le_of_ble_eq_true rfl) ?_
  refine c_part (by omega) (by omega) (by omega) ?_
  refine R_iret r_70_10 (ty := .int) rfl rfl (by decide) ?_
  exact hQ
theorem c_leaning {xs : List Int32} {d : Nat} {wd : sm_W} {Q : Option Value → sm_W → Prop} {n i : Nat} (hn : n < 18446744073709551616) (hi : i < 8) (hQ : Q (some (.int (nI (sLean n i)))) wd) : Ct xs (d + 1) 56 [.long (lN n), .int (nI i)] wd Q := by
  unfold Ct
  show RT xs (d + 1) 56 0 [some (.long (lN n)), none, some (.int (nI i))] [] wd Q
  refine R_lload_n r_56_0 rfl ?_
  refine R_iload_n r_56_1 rfl ?_
  refine R_iconst r_56_2 (v := nI 1) rfl ?_
  refine R_call3 r_56_3 rfl rfl (Nat.le_of_ble_eq_true rfl) (Nat.le_of_ble_eq_true rfl) ?_
  refine c_part (by omega) (by omega) (by omega) ?_
  refine R_iconst r_56_6 (v := nI 2) rfl ?_
  refine R_lload_n r_56_7 rfl ?_
  refine R_bipush r_56_8 (v := nI 8) rfl ?_
  refine R_iload_n r_56_10 rfl ?_
  refine R_iaddN r_56_11 ?_
  refine R_iconst r_56_12 (v := nI 1) rfl ?_
  refine R_call3 r_56_13 rfl rfl (Nat.le_of_ble_eq_true rfl) (Nat.le_of_ble_eq_true rfl) ?_
  refine c_part (by omega) (by omega) (by omega) ?_
  refine R_imulN r_56_16 ?_
  refine R_iaddN r_56_17 ?_
  refine R_iret r_56_18 (ty := .int) rfl rfl (by decide) ?_
  exact hQ
theorem c_minded {xs : List Int32} {d : Nat} {wd : sm_W} {Q : Option Value → sm_W → Prop} {n i : Nat} (hn : n < 18446744073709551616) (hi : i < 8) (hQ : Q (some (.int (nI (sMind n i)))) wd) : Ct xs (d + 1) 49 [.long (lN n), .int (nI i)] wd Q := by
  unfold Ct
  show RT xs (d + 1) 49 0 [some (.long (lN n)), none, some (.int (nI i))] [] wd Q
  refine R_lload_n r_49_0 rfl ?_
  refine R_bipush r_49_1 (v := nI 16) rfl ?_
  refine R_iconst r_49_3 (v := nI 3) rfl ?_
  refine R_iload_n r_49_4 rfl ?_
  refine R_imulN r_49_5 ?_
  refine R_iaddN r_49_6 ?_
  refine R_iconst r_49_7 (v := nI 3) rfl ?_
  refine R_call3 r_49_8 rfl rfl (Nat.le_of_ble_eq_true rfl) (Nat.le_of_ble_eq_true rfl) ?_
  refine c_part (by omega) (by omega) (by omega) ?_
  refine R_iret r_49_11 (ty := .int) rfl rfl (by decide) ?_
  exact hQ
theorem c_held {xs : List Int32} {d : Nat} {wd : sm_W} {Q : Option Value → sm_W → Prop} {n : Nat} (hn : n < 18446744073709551616) (hQ : Q (some (.int (nI (sHeld n)))) wd) : Ct xs (d + 1) 60 [.long (lN n)] wd Q := by
  unfold Ct
  show RT xs (d + 1) 60 0 [some (.long (lN n)), none] [] wd Q
  refine R_lload_n r_60_0 rfl ?_
  refine R_bipush r_60_1 (v := nI 40) rfl ?_
  refine R_iconst r_60_3 (v := nI 5) rfl ?_
  refine R_call3 r_60_4 rfl rfl (Nat.le_of_ble_eq_true rfl) (Nat.le_of_ble_eq_true rfl) ?_
  refine c_part (by omega) (by omega) (by omega) ?_
  refine R_iret r_60_7 (ty := .int) rfl rfl (by decide) ?_
  exact hQ
theorem c_storm {xs : List Int32} {d : Nat} {wd : sm_W} {Q : Option Value → sm_W → Prop} {n : Nat} (hn : n < 18446744073709551616) (hQ : Q (some (.int (b2i (sStorm n)))) wd) : Ct xs (d + 1) 69 [.long (lN n)] wd Q := by
  unfold Ct
  show RT xs (d + 1) 69 0 [some (.long (lN n)), none] [] wd Q
  refine R_lload_n r_69_0 rfl ?_
  refine R_bipush r_69_1 (v := nI 45) rfl ?_
  refine R_iconst r_69_3 (v := nI 1) rfl ?_
  refine R_call3 r_69_4 rfl rfl (Nat.le_of_ble_eq_true rfl) (Nat.le_of_ble_eq_true rfl) ?_
  refine c_part (by omega) (by omega) (by omega) ?_
  refine R_iconst r_69_7 (v := nI 1) rfl ?_
  refine R_icmp_ne_N r_69_8 (by decide) (Nat.lt_of_lt_of_le (spart_lt n 45 1) (by decide)) (by decide) (fun h_1 => ?_) (fun h_1 => ?_)
  · refine R_iconst r_69_15 (v := nI 0) rfl ?_
    refine R_iret r_69_16 (ty := .boolean) rfl (by decide) (by decide) ?_
    rw [show sStorm n = false from by unfold sStorm; simp [h_1]] at hQ; exact hQ
  · refine R_iconst r_69_11 (v := nI 1) rfl ?_
    refine R_goto r_69_12 (by decide) ?_
    refine R_iret r_69_16 (ty := .boolean) rfl (by decide) (by decide) ?_
    rw [show sStorm n = true from by unfold sStorm; simp [h_1]] at hQ; exact hQ
theorem c_ice {xs : List Int32} {d : Nat} {wd : sm_W} {Q : Option Value → sm_W → Prop} {n : Nat} (hn : n < 18446744073709551616) (hQ : Q (some (.int (b2i (sIce n)))) wd) : Ct xs (d + 1) 64 [.long (lN n)] wd Q := by
  unfold Ct
  show RT xs (d + 1) 64 0 [some (.long (lN n)), none] [] wd Q
  refine R_lload_n r_64_0 rfl ?_
  refine R_bipush r_64_1 (v := nI 46) rfl ?_
  refine R_iconst r_64_3 (v := nI 1) rfl ?_
  refine R_call3 r_64_4 rfl rfl (Nat.le_of_ble_eq_true rfl) (Nat.le_of_ble_eq_true rfl) ?_
  refine c_part (by omega) (by omega) (by omega) ?_
  refine R_iconst r_64_7 (v := nI 1) rfl ?_
  refine R_icmp_ne_N r_64_8 (by decide) (Nat.lt_of_lt_of_le (spart_lt n 46 1) (by decide)) (by decide) (fun h_1 => ?_) (fun h_1 => ?_)
  · refine R_iconst r_64_15 (v := nI 0) rfl ?_
    refine R_iret r_64_16 (ty := .boolean) rfl (by decide) (by decide) ?_
    rw [show sIce n = false from by unfold sIce; simp [h_1]] at hQ; exact hQ
  · refine R_iconst r_64_11 (v := nI 1) rfl ?_
    refine R_goto r_64_12 (by decide) ?_
    refine R_iret r_64_16 (ty := .boolean) rfl (by decide) (by decide) ?_
    rw [show sIce n = true from by unfold sIce; simp [h_1]] at hQ; exact hQ
theorem c_withLeaning {xs : List Int32} {d : Nat} {wd : sm_W} {Q : Option Value → sm_W → Prop} {n i l : Nat} (hn : n < 18446744073709551616) (hi : i < 8) (hl : l < 4) (hQ : Q (some (.long (lN (wLean n i l)))) wd) : Ct xs (d + 1) 33 [.long (lN n), .int (nI i), .int (nI l)] wd Q := by
  unfold Ct
  show RT xs (d + 1) 33 0 [some (.long (lN n)), none, some (.int (nI i)), some (.int (nI l)), none, none] [] wd Q
  refine R_lload_n r_33_0 rfl ?_
  refine R_iload_n r_33_1 rfl ?_
  refine R_iconst r_33_2 (v := nI 1) rfl ?_
  refine R_iload_n r_33_3 rfl ?_
  refine R_iconst r_33_4 (v := nI 1) rfl ?_
  refine R_iandN r_33_5 ?_
  refine R_call4 r_33_6 rfl rfl (Nat.le_of_ble_eq_true rfl) (Nat.le_of_ble_eq_true rfl) ?_
  refine c_with (by omega) (by omega) (by omega) (and_lt31 _ _ (by decide)) ?_
  refine R_lstore r_33_9 rfl ?_
  refine R_lload r_33_11 rfl ?_
  refine R_bipush r_33_13 (v := nI 8) rfl ?_
  refine R_iload_n r_33_15 rfl ?_
  refine R_iaddN r_33_16 ?_
  refine R_iconst r_33_17 (v := nI 1) rfl ?_
  refine R_iload_n r_33_18 rfl ?_
  refine R_iconst r_33_19 (v := nI 1) rfl ?_
  refine R_iushrN r_33_20 (by omega) (by omega) ?_
  refine R_call4 r_33_21 rfl rfl (Nat.le_of_ble_eq_true rfl) (Nat.le_of_ble_eq_true rfl) ?_
  refine c_with (swith_lt hn (by omega)) (by omega) (by omega) (shr_lt31 _ _ (by omega)) ?_
  refine R_lret r_33_24 rfl ?_
  exact hQ
theorem c_withMinded {xs : List Int32} {d : Nat} {wd : sm_W} {Q : Option Value → sm_W → Prop} {n i m : Nat} (hn : n < 18446744073709551616) (hi : i < 8) (hm : m < 8) (hQ : Q (some (.long (lN (wMind n i m)))) wd) : Ct xs (d + 1) 35 [.long (lN n), .int (nI i), .int (nI m)] wd Q := by
  unfold Ct
  show RT xs (d + 1) 35 0 [some (.long (lN n)), none, some (.int (nI i)), some (.int (nI m))] [] wd Q
  refine R_lload_n r_35_0 rfl ?_
  refine R_bipush r_35_1 (v := nI 16) rfl ?_
  refine R_iconst r_35_3 (v := nI 3) rfl ?_
  refine R_iload_n r_35_4 rfl ?_
  refine R_imulN r_35_5 ?_
  refine R_iaddN r_35_6 ?_
  refine R_iconst r_35_7 (v := nI 3) rfl ?_
  refine R_iload_n r_35_8 rfl ?_
  refine R_call4 r_35_9 rfl rfl (Nat.le_of_ble_eq_true rfl) (Nat.le_of_ble_eq_true rfl) ?_
  refine c_with (by omega) (by omega) (by omega) (by omega) ?_
  refine R_lret r_35_12 rfl ?_
  exact hQ
theorem c_withHeld {xs : List Int32} {d : Nat} {wd : sm_W} {Q : Option Value → sm_W → Prop} {n m : Nat} (hn : n < 18446744073709551616) (hm : m < 32) (hQ : Q (some (.long (lN (wHeld n m)))) wd) : Ct xs (d + 1) 94 [.long (lN n), .int (nI m)] wd Q := by
  unfold Ct
  show RT xs (d + 1) 94 0 [some (.long (lN n)), none, some (.int (nI m))] [] wd Q
  refine R_lload_n r_94_0 rfl ?_
  refine R_bipush r_94_1 (v := nI 40) rfl ?_
  refine R_iconst r_94_3 (v := nI 5) rfl ?_
  refine R_iload_n r_94_4 rfl ?_
  refine R_call4 r_94_5 rfl rfl (Nat.le_of_ble_eq_true rfl) (Nat.le_of_ble_eq_true rfl) ?_
  refine c_with (by omega) (by omega) (by omega) (by omega) ?_
  refine R_lret r_94_8 rfl ?_
  exact hQ
theorem c_oneIf {xs : List Int32} {d : Nat} {wd : sm_W} {Q : Option Value → sm_W → Prop} {v : Bool} (hQ : Q (some (.int (b2i v))) wd) : Ct xs (d) 82 [.int (b2i v)] wd Q := by
  unfold Ct
  show RT xs (d) 82 0 [some (.int (b2i v))] [] wd Q
  refine R_iload_n r_82_0 rfl ?_
  refine R_if_eq_b r_82_1 (by decide) (fun h_1 => ?_) (fun h_1 => ?_)
  · refine R_iconst r_82_8 (v := nI 0) rfl ?_
    refine R_iret r_82_9 (ty := .int) rfl rfl (by decide) ?_
    subst h_1; exact hQ
  · refine R_iconst r_82_4 (v := nI 1) rfl ?_
    refine R_goto r_82_5 (by decide) ?_
    refine R_iret r_82_9 (ty := .int) rfl rfl (by decide) ?_
    subst h_1; exact hQ
theorem c_withWeather {xs : List Int32} {d : Nat} {wd : sm_W} {Q : Option Value → sm_W → Prop} {n : Nat} {s i : Bool} (hn : n < 18446744073709551616) (hQ : Q (some (.long (lN (wWeather n s i)))) wd) : Ct xs (d + 1) 96 [.long (lN n), .int (b2i s), .int (b2i i)] wd Q := by
  unfold Ct
  show RT xs (d + 1) 96 0 [some (.long (lN n)), none, some (.int (b2i s)), some (.int (b2i i))] [] wd Q
  refine R_lload_n r_96_0 rfl ?_
  refine R_bipush r_96_1 (v := nI 45) rfl ?_
  refine R_iconst r_96_3 (v := nI 1) rfl ?_
  refine R_iload_n r_96_4 rfl ?_
  refine R_call1 r_96_5 rfl rfl (Nat.le_of_ble_eq_true rfl) (Nat.le_of_ble_eq_true rfl) ?_
  refine c_oneIf ?_
  refine R_call4 r_96_8 rfl rfl (Nat.le_of_ble_eq_true rfl) (Nat.le_of_ble_eq_true rfl) ?_
  refine c_with (v := s.toNat) (by omega) (by omega) (by omega) (b2n_lt _) ?_
  refine R_bipush r_96_11 (v := nI 46) rfl ?_
  refine R_iconst r_96_13 (v := nI 1) rfl ?_
  refine R_iload_n r_96_14 rfl ?_
  refine R_call1 r_96_15 rfl rfl (Nat.le_of_ble_eq_true rfl) (Nat.le_of_ble_eq_true rfl) ?_
  refine c_oneIf ?_
  refine R_call4 r_96_18 rfl rfl (Nat.le_of_ble_eq_true rfl) (Nat.le_of_ble_eq_true rfl) ?_
  refine c_with (v := i.toNat) (swith_lt hn (by omega)) (by omega) (by omega) (b2n_lt _) ?_
  refine R_lret r_96_21 rfl ?_
  exact hQ
