/-! the text of the class, new objects: the class's constructor -/
def tx0 : List Nat := "i0,1,0,2;i0,3,0,1;i1,1,0,0;i2,0,1,3;i2,2,5,1;i2,0,4,0;i3,3,0,4;i0,0,0,2;b2;b3;d4;m6;h5;s3;".toList.map Char.toNat
theorem sm_text_tx : sm_text = tx0.map nI := by unfold sm_text tx0; rw [List.map_map]; rfl
theorem tx0_len : tx0.length = 90 := by decide +kernel
theorem tx0_lt : ∀ t, tx0.getD t 0 < 127 := by
  have h : ∀ t, t < 90 → tx0.getD t 0 < 127 := by decide +kernel
  intro t
  by_cases ht : t < 90
  · exact h t ht
  · rw [List.getD_eq_getElem?_getD, List.getElem?_eq_none (by rw [tx0_len]; omega)]; decide
section RS
variable {xs : List Int32} {d j pc : Nat} {L : sm_L} {st : List Value} {wd : sm_W} {Q : Option Value → sm_W → Prop} {a b c : Nat}
theorem R_gets0 {i : Nat} (h : sm_ic j pc = some (.getstatic i, 0, b, c)) (k : RT xs d j (pc + 3) L (.int (nI 1) :: st) wd Q) : RT xs d j pc L st wd Q := RT.step h rfl rfl rfl k
theorem R_gets1 {i : Nat} (h : sm_ic j pc = some (.getstatic i, 1, b, c)) (k : RT xs d j (pc + 3) L (.ref 1000003 :: st) wd Q) : RT xs d j pc L st wd Q := RT.step h rfl rfl rfl k
theorem R_getS0 {i : Nat} (h : sm_ic j pc = some (.getfield i, 100, 0, c)) (k : RT xs d j (pc + 3) L (.int (nI 0) :: st) wd Q) : RT xs d j pc L (.ref 1000001 :: st) wd Q := RT.step h rfl rfl rfl k
theorem R_getS1 {i : Nat} (h : sm_ic j pc = some (.getfield i, 100, 1, c)) (k : RT xs d j (pc + 3) L (.ref 1000002 :: st) wd Q) : RT xs d j pc L (.ref 1000001 :: st) wd Q := RT.step h rfl rfl rfl k
theorem R_alenS (h : sm_ic j pc = some (.arraylength, a, b, c)) (k : RT xs d j (pc + 1) L (.int (nI 90) :: st) wd Q) : RT xs d j pc L (.ref 1000002 :: st) wd Q :=
  RT.step h rfl rfl (by show some (pc + 1, L, Value.int (Int32.ofNat sm_text.length) :: st, wd) = _; rw [sm_text_tx, List.length_map, tx0_len]; rfl) k
theorem R_baldS {i : Nat} (h : sm_ic j pc = some (.baload, a, b, c)) (hi : i < 90) (k : RT xs d j (pc + 1) L (.int (nI (tx0.getD i 0)) :: st) wd Q) : RT xs d j pc L (.int (nI i) :: .ref 1000002 :: st) wd Q :=
  RT.step h rfl rfl (by show (match sm_ix sm_text (nI i) with | some x => some (pc + 1, L, Value.int x :: st, wd) | none => none) = _; rw [sm_text_tx, sm_ixM (by rw [tx0_len]; exact hi) (by omega)]) k
theorem R_oinit {i k0 : Nat} (h : sm_ic j pc = some (.invokespecial i, 9999, b, c)) (hd : 1 ≤ d) (hk : k0 < 1000000) (hc : (st.map fun v => v.category).sum ≤ 8) (k : RT xs d j (pc + 3) L st wd Q) : RT xs d j pc L (.ref k0 :: st) wd Q :=
  RT.step h rfl rfl (by show (if (9999 : Nat) = 9999 ∧ 1 ≤ d ∧ k0 < 1000000 ∧ (st.map fun v => v.category).sum ≤ 8 then some (pc + 3, L, st, wd) else none) = _; rw [if_pos ⟨rfl, hd, hk, hc⟩]) k
theorem R_newO {i n : Nat} (h : sm_ic j pc = some (.new i, a, b, c)) (ha : a < 8) (hl : wd.length = n) (hn : n < 1000000) (k : RT xs d j (pc + 3) L (.ref n :: st) (wd ++ [.inr (.inr (a, (List.range (sm_nf a)).map (fun k => defaultValue (sm_ty a k))))]) Q) : RT xs d j pc L st wd Q :=
  RT.step h rfl rfl (by show (if a < 8 ∧ wd.length < 1000000 then some (pc + 3, L, Value.ref wd.length :: st, wd ++ [.inr (.inr (a, (List.range (sm_nf a)).map (fun k => defaultValue (sm_ty a k))))]) else none) = _; rw [if_pos ⟨ha, by omega⟩, hl]) k
theorem nI_nn {m : Nat} (hm : m ≤ 100000) : ¬ (nI m < 0 ∨ 100000 < (nI m).toNatClampNeg) := by
  rw [nI_clamp (by omega)]
  rintro (h | h)
  · exact nI_pos (by omega) h
  · omega
theorem R_newI {i : Instr} {m n : Nat} (h : sm_ic j pc = some (i, a, b, c)) (hi : ∃ t, i = .newarray t) (ha : a ≠ 2) (hm : m ≤ 100000) (hl : wd.length = n) (hn : n < 1000000) (k : RT xs d j (pc + 2) L (.ref n :: st) (wd ++ [.inl (a, List.replicate m 0)]) Q) : RT xs d j pc L (.int (nI m) :: st) wd Q := by
  obtain ⟨t, rfl⟩ := hi
  exact RT.step h rfl rfl (by show (if nI m < 0 ∨ 100000 < (nI m).toNatClampNeg ∨ 1000000 ≤ wd.length then none else if a = 2 then some (pc + 2, L, Value.ref wd.length :: st, wd ++ [.inr (.inl (List.replicate (nI m).toNatClampNeg 0))]) else some (pc + 2, L, Value.ref wd.length :: st, wd ++ [.inl (a, List.replicate (nI m).toNatClampNeg 0)])) = _; rw [if_neg (by have := nI_nn hm; rintro (z | z | z); exact this (Or.inl z); exact this (Or.inr z); omega), if_neg ha, hl, nI_clamp (by omega)]) k
theorem R_newL {i : Instr} {m n : Nat} (h : sm_ic j pc = some (i, 2, b, c)) (hi : ∃ t, i = .newarray t) (hm : m ≤ 100000) (hl : wd.length = n) (hn : n < 1000000) (k : RT xs d j (pc + 2) L (.ref n :: st) (wd ++ [.inr (.inl (List.replicate m 0))]) Q) : RT xs d j pc L (.int (nI m) :: st) wd Q := by
  obtain ⟨t, rfl⟩ := hi
  exact RT.step h rfl rfl (by show (if nI m < 0 ∨ 100000 < (nI m).toNatClampNeg ∨ 1000000 ≤ wd.length then none else if (2 : Nat) = 2 then some (pc + 2, L, Value.ref wd.length :: st, wd ++ [.inr (.inl (List.replicate (nI m).toNatClampNeg 0))]) else some (pc + 2, L, Value.ref wd.length :: st, wd ++ [.inl (2, List.replicate (nI m).toNatClampNeg 0)])) = _; rw [if_neg (by have := nI_nn hm; rintro (z | z | z); exact this (Or.inl z); exact this (Or.inr z); omega), if_pos rfl, hl, nI_clamp (by omega)]) k
end RS
theorem r_14_0 : sm_ic 14 0 = some (.iload_n 0, 0, 0, 0) := rfl
theorem r_14_1 : sm_ic 14 1 = some (.ifCond .lt 8, 9, 0, 0) := rfl
theorem r_14_4 : sm_ic 14 4 = some (.iload_n 0, 0, 0, 0) := rfl
theorem r_14_5 : sm_ic 14 5 = some (.iload_n 1, 0, 0, 0) := rfl
theorem r_14_6 : sm_ic 14 6 = some (.if_icmp .lt 10, 16, 0, 0) := rfl
theorem r_14_16 : sm_ic 14 16 = some (.iload_n 0, 0, 0, 0) := rfl
theorem r_14_17 : sm_ic 14 17 = some (.ireturn, 0, 0, 0) := rfl
theorem nc_char : ∀ x, x < 128 → narrow .char (.int (nI x)) = .int (nI x) := by decide
theorem c_strLen {xs : List Int32} {d : Nat} {wd : sm_W} {Q : Option Value → sm_W → Prop} (hQ : Q (some (.int (nI 90))) wd) : Ct xs (d + 1) 8 [.ref 1000001] wd Q := by
  unfold Ct
  show RT xs (d + 1) 8 0 [some (.ref 1000001)] [] wd Q
  refine R_aload_n r_8_0 rfl (by decide) ?_
  refine R_getS1 r_8_1 ?_
  refine R_alenS r_8_4 ?_
  refine R_aload_n r_8_5 rfl (by decide) ?_
  refine R_call1 r_8_6 rfl rfl (Nat.le_of_ble_eq_true rfl) (Nat.le_of_ble_eq_true rfl) ?_
  unfold Ct
  refine R_gets0 r_9_0 ?_
  refine R_ifF r_9_3 (by decide) (by decide) ?_
  refine R_aload_n r_9_6 rfl (by decide) ?_
  refine R_getS0 r_9_7 ?_
  refine R_goto r_9_10 (by decide) ?_
  refine R_iret r_9_14 (ty := .byte) rfl (by decide) (by decide) ?_
  refine R_ishrN r_8_9 (by decide) (by decide) ?_
  refine R_iret r_8_10 (ty := .int) rfl rfl (by decide) ?_
  exact hQ
theorem c_strAt {xs : List Int32} {d : Nat} {wd : sm_W} {Q : Option Value → sm_W → Prop} {i : Nat} (hi : i < 90) (hQ : Q (some (.int (nI (tx0.getD i 0)))) wd) : Ct xs (d + 3) 10 [.ref 1000001, .int (nI i)] wd Q := by
  unfold Ct
  show RT xs (d + 3) 10 0 [some (.ref 1000001), some (.int (nI i))] [] wd Q
  refine R_aload_n r_10_0 rfl (by decide) ?_
  refine R_call1 r_10_1 rfl rfl (Nat.le_of_ble_eq_true rfl) (Nat.le_of_ble_eq_true rfl) ?_
  unfold Ct
  refine R_gets0 r_11_0 ?_
  refine R_ifF r_11_3 (by decide) (by decide) ?_
  refine R_aload_n r_11_6 rfl (by decide) ?_
  refine R_getS0 r_11_7 ?_
  refine R_ifF r_11_10 (by decide) (by decide) ?_
  refine R_iconst r_11_13 (v := nI 1) rfl ?_
  refine R_goto r_11_14 (by decide) ?_
  refine R_iret r_11_18 (ty := .boolean) rfl (by decide) (by decide) ?_
  refine R_ifF r_10_4 (by decide) (by decide) ?_
  refine R_aload_n r_10_7 rfl (by decide) ?_
  refine R_getS1 r_10_8 ?_
  refine R_iload_n r_10_11 rfl ?_
  refine R_call2 r_10_12 rfl rfl (Nat.le_of_ble_eq_true rfl) (Nat.le_of_ble_eq_true rfl) ?_
  unfold Ct
  refine R_iload_n r_12_0 rfl ?_
  refine R_aload_n r_12_1 rfl (by decide) ?_
  refine R_alenS r_12_2 ?_
  refine R_call2 r_12_3 rfl rfl (Nat.le_of_ble_eq_true rfl) (Nat.le_of_ble_eq_true rfl) ?_
  unfold Ct
  refine R_iload_n r_13_0 rfl ?_
  refine R_iload_n r_13_1 rfl ?_
  refine R_gets1 r_13_2 ?_
  refine R_call3 r_13_5 rfl rfl (Nat.le_of_ble_eq_true rfl) (Nat.le_of_ble_eq_true rfl) ?_
  unfold Ct
  refine R_iload_n r_14_0 rfl ?_
  refine R_if_lt_N r_14_1 (by decide) (by omega) ?_
  refine R_iload_n r_14_4 rfl ?_
  refine R_iload_n r_14_5 rfl ?_
  refine R_icmp_lt_N r_14_6 (by decide) (by omega) (by omega) (fun h_1 => ?_) (fun h_1 => ?_)
  · refine R_iload_n r_14_16 rfl ?_
    refine R_iret r_14_17 (ty := .int) rfl rfl (by decide) ?_
    refine R_pop r_13_8 rfl ?_
    refine R_vret r_13_9 rfl ?_
    refine R_aload_n r_12_6 rfl (by decide) ?_
    refine R_iload_n r_12_7 rfl ?_
    refine R_baldS r_12_8 (by omega) ?_
    refine R_sipush r_12_9 (v := nI 255) rfl ?_
    refine R_iandN r_12_12 ?_
    rw [show tx0.getD i 0 &&& 255 = tx0.getD i 0 from by rw [show (255 : Nat) = 2 ^ 8 - 1 from rfl, Nat.and_two_pow_sub_one_eq_mod]; exact Nat.mod_eq_of_lt (by have := tx0_lt i; omega)]
    have h127 := tx0_lt i
    refine R_i2cN r_12_13 (by omega) ?_
    refine R_iret r_12_14 (ty := .char) rfl (nc_char _ (by have := tx0_lt i; omega)) (by decide) ?_
    refine R_iret r_10_15 (ty := .char) rfl (nc_char _ (by have := tx0_lt i; omega)) (by decide) ?_
    exact hQ
  · exfalso; omega
def Iz : sm_Is := (List.replicate 8 0, List.replicate 8 0, List.replicate 5 0, (0, 0), (0, 0, 0, 0), 0)
def objD (a : Nat) : sm_E := .inr (.inr (a, (List.range (sm_nf a)).map (fun k => defaultValue (sm_ty a k))))
def W22 : sm_W := [lvO 0, .inr (.inr (5, [.ref 2, .int (nI 0)])), .inl (1, List.replicate 200 0), .inr (.inr (2, [.ref 4, .int (nI 0), .int (nI 0)])), .inl (0, List.replicate 4 0), sm_isO 5 Iz, .inl (0, List.replicate 8 0), .inl (0, List.replicate 8 0), .inl (0, List.replicate 5 0), sm_isO 9 Iz, .inl (0, List.replicate 8 0), .inl (0, List.replicate 8 0), .inl (0, List.replicate 5 0), ntO 0 0 0 false, .inl (0, List.replicate 8 0), .inr (.inr (4, [.ref 16, .int (nI 0)])), .inr (.inl (List.replicate 8 0)), .inr (.inr (4, [.ref 18, .int (nI 0)])), .inr (.inl (List.replicate 2 0)), .inr (.inr (6, [.ref 20, .ref 21, .int (nI 0)])), .inl (0, List.replicate 8 0), .inl (0, List.replicate 8 0)]
theorem W22_cX : cX W22 [] Iz 0 [] [] [] := by
  refine ⟨⟨rfl, ⟨rfl, rfl, rfl, rfl, by decide⟩, .int (nI 0), .int (nI 0), .int (nI 0), .int (b2i false), List.replicate 8 0, rfl, rfl, rfl⟩, ⟨List.replicate 8 0, rfl, rfl, rfl, by decide, fun t ht => absurd ht (Nat.not_lt_zero t)⟩, ⟨List.replicate 2 0, rfl, rfl, rfl, by decide, fun t ht => absurd ht (Nat.not_lt_zero t)⟩, ⟨List.replicate 8 0, List.replicate 8 0, rfl, rfl, rfl, rfl, rfl, by decide, fun t ht => absurd ht (Nat.not_lt_zero t)⟩, ⟨List.replicate 200 0, rfl, rfl, rfl, by decide, fun t ht => absurd ht (Nat.not_lt_zero t), fun t => by simp⟩, ?_⟩
  exact ⟨nI 0, nI 0, nI 0, nI 0, nI 0, nI 0, nI 0, nI 0, lN 0, List.replicate 4 0, List.replicate 8 0, List.replicate 8 0, List.replicate 5 0, rfl, rfl, rfl, rfl, rfl, rfl, rfl, rfl, rfl, rfl⟩
def FI : Nat := 9965687367
def I1 : sm_Is := ([0, 0, 1, 2, 2, 2, 3, 0], [2, 1, 0, 3, 1, 0, 4, 2], [2, 3, 0, 0, 0], (8, 2), (4, 6, 5, 3), FI)
theorem rdT_tx0 : rdT tx0 = (999, I1) := by
  have h0 : (rdT tx0).1 = 999 := by decide +kernel
  have h1 : iK (rdT tx0).2 = [0, 0, 1, 2, 2, 2, 3, 0] := by decide +kernel
  have h2 : iC (rdT tx0).2 = [2, 1, 0, 3, 1, 0, 4, 2] := by decide +kernel
  have h3 : iS (rdT tx0).2 = [2, 3, 0, 0, 0] := by decide +kernel
  have h4 : iN (rdT tx0).2 = 8 := by decide +kernel
  have h5 : iB (rdT tx0).2 = 2 := by decide +kernel
  have h6 : iBd (rdT tx0).2 = 4 := by decide +kernel
  have h7 : iM (rdT tx0).2 = 6 := by decide +kernel
  have h8 : iP (rdT tx0).2 = 5 := by decide +kernel
  have h9 : iX (rdT tx0).2 = 3 := by decide +kernel
  have h10 : iF (rdT tx0).2 = FI := by decide +kernel
  exact Prod.ext h0 (Prod.ext h1 (Prod.ext h2 (Prod.ext h3 (Prod.ext (Prod.ext h4 h5) (Prod.ext (Prod.ext h6 (Prod.ext h7 (Prod.ext h8 h9))) h10)))))
theorem c_init1 {xs : List Int32} {d : Nat} {Q : Option Value → sm_W → Prop} (hQ : RT xs (d + 7) 0 95 [some (.ref 0)] [] W22 Q) : Ct xs (d + 7) 0 [.ref 0] [objD 0] Q := by
  unfold Ct
  show RT xs (d + 7) 0 0 [some (.ref 0)] [] [objD 0] Q
  refine R_aload_n r_0_0 rfl (by decide) ?_
  refine R_oinit r_0_1 (Nat.le_add_left 1 _) (Nat.le_of_ble_eq_true rfl) (Nat.le_of_ble_eq_true rfl) ?_
  refine R_aload_n r_0_4 rfl (by decide) ?_
  refine R_newO r_0_5 (by decide) (n := 1) rfl (by decide) ?_
  refine R_dup r_0_8 rfl ?_
  refine R_call1 r_0_9 rfl rfl (Nat.le_of_ble_eq_true rfl) (Nat.le_of_ble_eq_true rfl) ?_
  unfold Ct
  refine R_aload_n r_1_0 rfl (by decide) ?_
  refine R_oinit r_1_1 (Nat.le_add_left 1 _) (Nat.le_of_ble_eq_true rfl) (Nat.le_of_ble_eq_true rfl) ?_
  refine R_aload_n r_1_4 rfl (by decide) ?_
  refine R_sipush r_1_5 (v := nI 200) rfl ?_
  refine R_newI r_1_8 ⟨_, rfl⟩ (by decide) (by decide) (n := 2) rfl (by decide) ?_
  refine R_putf r_1_10 rfl (Nat.le_of_ble_eq_true rfl) rfl rfl ?_
  refine R_vret r_1_13 rfl ?_
  refine R_putf r_0_12 rfl (Nat.le_of_ble_eq_true rfl) rfl rfl ?_
  refine R_aload_n r_0_15 rfl (by decide) ?_
  refine R_newO r_0_16 (by decide) (n := 3) rfl (by decide) ?_
  refine R_dup r_0_19 rfl ?_
  refine R_call1 r_0_20 rfl rfl (Nat.le_of_ble_eq_true rfl) (Nat.le_of_ble_eq_true rfl) ?_
  unfold Ct
  refine R_aload_n r_2_0 rfl (by decide) ?_
  refine R_oinit r_2_1 (Nat.le_add_left 1 _) (Nat.le_of_ble_eq_true rfl) (Nat.le_of_ble_eq_true rfl) ?_
  refine R_aload_n r_2_4 rfl (by decide) ?_
  refine R_iconst r_2_5 (v := nI 4) rfl ?_
  refine R_newI r_2_6 ⟨_, rfl⟩ (by decide) (by decide) (n := 4) rfl (by decide) ?_
  refine R_putf r_2_8 rfl (Nat.le_of_ble_eq_true rfl) rfl rfl ?_
  refine R_vret r_2_11 rfl ?_
  refine R_putf r_0_23 rfl (Nat.le_of_ble_eq_true rfl) rfl rfl ?_
  refine R_aload_n r_0_26 rfl (by decide) ?_
  refine R_newO r_0_27 (by decide) (n := 5) rfl (by decide) ?_
  refine R_dup r_0_30 rfl ?_
  refine R_call1 r_0_31 rfl rfl (Nat.le_of_ble_eq_true rfl) (Nat.le_of_ble_eq_true rfl) ?_
  unfold Ct
  refine R_aload_n r_3_0 rfl (by decide) ?_
  refine R_oinit r_3_1 (Nat.le_add_left 1 _) (Nat.le_of_ble_eq_true rfl) (Nat.le_of_ble_eq_true rfl) ?_
  refine R_aload_n r_3_4 rfl (by decide) ?_
  refine R_bipush r_3_5 (v := nI 8) rfl ?_
  refine R_newI r_3_7 ⟨_, rfl⟩ (by decide) (by decide) (n := 6) rfl (by decide) ?_
  refine R_putf r_3_9 rfl (Nat.le_of_ble_eq_true rfl) rfl rfl ?_
  refine R_aload_n r_3_12 rfl (by decide) ?_
  refine R_bipush r_3_13 (v := nI 8) rfl ?_
  refine R_newI r_3_15 ⟨_, rfl⟩ (by decide) (by decide) (n := 7) rfl (by decide) ?_
  refine R_putf r_3_17 rfl (Nat.le_of_ble_eq_true rfl) rfl rfl ?_
  refine R_aload_n r_3_20 rfl (by decide) ?_
  refine R_iconst r_3_21 (v := nI 5) rfl ?_
  refine R_newI r_3_22 ⟨_, rfl⟩ (by decide) (by decide) (n := 8) rfl (by decide) ?_
  refine R_putf r_3_24 rfl (Nat.le_of_ble_eq_true rfl) rfl rfl ?_
  refine R_vret r_3_27 rfl ?_
  refine R_putf r_0_34 rfl (Nat.le_of_ble_eq_true rfl) rfl rfl ?_
  refine R_aload_n r_0_37 rfl (by decide) ?_
  refine R_newO r_0_38 (by decide) (n := 9) rfl (by decide) ?_
  refine R_dup r_0_41 rfl ?_
  refine R_call1 r_0_42 rfl rfl (Nat.le_of_ble_eq_true rfl) (Nat.le_of_ble_eq_true rfl) ?_
  unfold Ct
  refine R_aload_n r_3_0 rfl (by decide) ?_
  refine R_oinit r_3_1 (Nat.le_add_left 1 _) (Nat.le_of_ble_eq_true rfl) (Nat.le_of_ble_eq_true rfl) ?_
  refine R_aload_n r_3_4 rfl (by decide) ?_
  refine R_bipush r_3_5 (v := nI 8) rfl ?_
  refine R_newI r_3_7 ⟨_, rfl⟩ (by decide) (by decide) (n := 10) rfl (by decide) ?_
  refine R_putf r_3_9 rfl (Nat.le_of_ble_eq_true rfl) rfl rfl ?_
  refine R_aload_n r_3_12 rfl (by decide) ?_
  refine R_bipush r_3_13 (v := nI 8) rfl ?_
  refine R_newI r_3_15 ⟨_, rfl⟩ (by decide) (by decide) (n := 11) rfl (by decide) ?_
  refine R_putf r_3_17 rfl (Nat.le_of_ble_eq_true rfl) rfl rfl ?_
  refine R_aload_n r_3_20 rfl (by decide) ?_
  refine R_iconst r_3_21 (v := nI 5) rfl ?_
  refine R_newI r_3_22 ⟨_, rfl⟩ (by decide) (by decide) (n := 12) rfl (by decide) ?_
  refine R_putf r_3_24 rfl (Nat.le_of_ble_eq_true rfl) rfl rfl ?_
  refine R_vret r_3_27 rfl ?_
  refine R_putf r_0_45 rfl (Nat.le_of_ble_eq_true rfl) rfl rfl ?_
  refine R_aload_n r_0_48 rfl (by decide) ?_
  refine R_newO r_0_49 (by decide) (n := 13) rfl (by decide) ?_
  refine R_dup r_0_52 rfl ?_
  refine R_call1 r_0_53 rfl rfl (Nat.le_of_ble_eq_true rfl) (Nat.le_of_ble_eq_true rfl) ?_
  unfold Ct
  refine R_aload_n r_4_0 rfl (by decide) ?_
  refine R_oinit r_4_1 (Nat.le_add_left 1 _) (Nat.le_of_ble_eq_true rfl) (Nat.le_of_ble_eq_true rfl) ?_
  refine R_aload_n r_4_4 rfl (by decide) ?_
  refine R_bipush r_4_5 (v := nI 8) rfl ?_
  refine R_newI r_4_7 ⟨_, rfl⟩ (by decide) (by decide) (n := 14) rfl (by decide) ?_
  refine R_putf r_4_9 rfl (Nat.le_of_ble_eq_true rfl) rfl rfl ?_
  refine R_vret r_4_12 rfl ?_
  refine R_putf r_0_56 rfl (Nat.le_of_ble_eq_true rfl) rfl rfl ?_
  refine R_aload_n r_0_59 rfl (by decide) ?_
  refine R_newO r_0_60 (by decide) (n := 15) rfl (by decide) ?_
  refine R_dup r_0_63 rfl ?_
  refine R_bipush r_0_64 (v := nI 8) rfl ?_
  refine R_call2 r_0_66 rfl rfl (Nat.le_of_ble_eq_true rfl) (Nat.le_of_ble_eq_true rfl) ?_
  unfold Ct
  refine R_aload_n r_5_0 rfl (by decide) ?_
  refine R_oinit r_5_1 (Nat.le_add_left 1 _) (Nat.le_of_ble_eq_true rfl) (Nat.le_of_ble_eq_true rfl) ?_
  refine R_aload_n r_5_4 rfl (by decide) ?_
  refine R_iload_n r_5_5 rfl ?_
  refine R_iconst r_5_6 (v := nI 0) rfl ?_
  refine R_maxN r_5_7 (by omega) (Nat.le_of_ble_eq_true rfl) (by omega) (by omega) ?_
  refine R_newL r_5_10 ⟨_, rfl⟩ (by decide) (n := 16) rfl (by decide) ?_
  refine R_putf r_5_12 rfl (Nat.le_of_ble_eq_true rfl) rfl rfl ?_
  refine R_vret r_5_15 rfl ?_
  refine R_putf r_0_69 rfl (Nat.le_of_ble_eq_true rfl) rfl rfl ?_
  refine R_aload_n r_0_72 rfl (by decide) ?_
  refine R_newO r_0_73 (by decide) (n := 17) rfl (by decide) ?_
  refine R_dup r_0_76 rfl ?_
  refine R_iconst r_0_77 (v := nI 2) rfl ?_
  refine R_call2 r_0_78 rfl rfl (Nat.le_of_ble_eq_true rfl) (Nat.le_of_ble_eq_true rfl) ?_
  unfold Ct
  refine R_aload_n r_5_0 rfl (by decide) ?_
  refine R_oinit r_5_1 (Nat.le_add_left 1 _) (Nat.le_of_ble_eq_true rfl) (Nat.le_of_ble_eq_true rfl) ?_
  refine R_aload_n r_5_4 rfl (by decide) ?_
  refine R_iload_n r_5_5 rfl ?_
  refine R_iconst r_5_6 (v := nI 0) rfl ?_
  refine R_maxN r_5_7 (by omega) (Nat.le_of_ble_eq_true rfl) (by omega) (by omega) ?_
  refine R_newL r_5_10 ⟨_, rfl⟩ (by decide) (n := 18) rfl (by decide) ?_
  refine R_putf r_5_12 rfl (Nat.le_of_ble_eq_true rfl) rfl rfl ?_
  refine R_vret r_5_15 rfl ?_
  refine R_putf r_0_81 rfl (Nat.le_of_ble_eq_true rfl) rfl rfl ?_
  refine R_aload_n r_0_84 rfl (by decide) ?_
  refine R_newO r_0_85 (by decide) (n := 19) rfl (by decide) ?_
  refine R_dup r_0_88 rfl ?_
  refine R_call1 r_0_89 rfl rfl (Nat.le_of_ble_eq_true rfl) (Nat.le_of_ble_eq_true rfl) ?_
  unfold Ct
  refine R_aload_n r_6_0 rfl (by decide) ?_
  refine R_oinit r_6_1 (Nat.le_add_left 1 _) (Nat.le_of_ble_eq_true rfl) (Nat.le_of_ble_eq_true rfl) ?_
  refine R_aload_n r_6_4 rfl (by decide) ?_
  refine R_bipush r_6_5 (v := nI 8) rfl ?_
  refine R_newI r_6_7 ⟨_, rfl⟩ (by decide) (by decide) (n := 20) rfl (by decide) ?_
  refine R_putf r_6_9 rfl (Nat.le_of_ble_eq_true rfl) rfl rfl ?_
  refine R_aload_n r_6_12 rfl (by decide) ?_
  refine R_bipush r_6_13 (v := nI 8) rfl ?_
  refine R_newI r_6_15 ⟨_, rfl⟩ (by decide) (by decide) (n := 21) rfl (by decide) ?_
  refine R_putf r_6_17 rfl (Nat.le_of_ble_eq_true rfl) rfl rfl ?_
  refine R_vret r_6_20 rfl ?_
  refine R_putf r_0_92 rfl (Nat.le_of_ble_eq_true rfl) rfl rfl ?_
  show RT xs (d + 7) 0 95 [some (.ref 0)] [] W22 Q
  exact hQ
theorem take_s {i : Nat} (hi : i < 90) : tx0.take (i + 1) = tx0.take i ++ [tx0.getD i 0] := by
  rw [List.take_succ, List.getElem?_eq_getElem (by rw [tx0_len]; exact hi)]
  congr 1
  show [tx0[i]] = _
  rw [List.getD_eq_getElem?_getD, List.getElem?_eq_getElem (by rw [tx0_len]; exact hi)]; rfl
theorem take_l {i : Nat} (hi : i ≤ 90) : (tx0.take i).length = i := by rw [List.length_take, tx0_len]; omega
theorem lp_first {xs : List Int32} {d : Nat} {Q : Option Value → sm_W → Prop} {wd0 : sm_W} (hQ : ∀ wd, cX wd tx0 Iz 0 [] [] [] → frm 0 21 wd0 wd → RT xs (d + 6) 7 33 [some (.ref 0), some (.int (nI 90))] [] wd Q)  : ∀ (k : Nat) (i : Nat) (wd : sm_W), (i + k = 90) → (cX wd (tx0.take i) Iz 0 [] [] []) → (frm 0 21 wd0 wd) → RT xs (d + 6) 7 2 [some (.ref 0), some (.int (nI i))] [] wd Q := by
  intro k
  induction k with
  | zero =>
    intro i wd hk hX hf
    refine R_iload_n r_7_2 rfl ?_
    refine R_ldc_wS r_7_3 ?_
    refine R_call1 r_7_6 rfl rfl (Nat.le_of_ble_eq_true rfl) (Nat.le_of_ble_eq_true rfl) ?_
    refine c_strLen ?_
    refine R_icmp_ge_N r_7_9 (by decide) (by omega) (by omega) (fun h_1 => ?_) (fun h_1 => ?_)
    · obtain rfl : i = 90 := by omega
      rw [show tx0.take 90 = tx0 from List.take_of_length_le (by rw [tx0_len]; decide)] at hX
      exact hQ _ hX hf
    · exfalso; omega
  | succ k ih =>
    intro i wd hk hX hf
    refine R_iload_n r_7_2 rfl ?_
    refine R_ldc_wS r_7_3 ?_
    refine R_call1 r_7_6 rfl rfl (Nat.le_of_ble_eq_true rfl) (Nat.le_of_ble_eq_true rfl) ?_
    refine c_strLen ?_
    refine R_icmp_ge_N r_7_9 (by decide) (by omega) (by omega) (fun h_1 => ?_) (fun h_1 => ?_)
    · exfalso; omega
    · refine R_aload_n r_7_12 rfl (by decide) ?_
      refine R_getf r_7_13 (by decide) hX.1.1 rfl ?_
      refine R_ldc_wS r_7_16 ?_
      refine R_iload_n r_7_19 rfl ?_
      refine R_call2 r_7_20 rfl rfl (Nat.le_of_ble_eq_true rfl) (Nat.le_of_ble_eq_true rfl) ?_
      refine c_strAt (by omega) ?_
      refine R_call2 r_7_23 rfl (sm_rv1 rfl rfl hX.2.2.2.2.1.choose_spec.1) (Nat.le_of_ble_eq_true rfl) (Nat.le_of_ble_eq_true rfl) ?_
      refine c_append hX.2.2.2.2.1 (tx0_lt _) (fun hfull => ?_) (fun hlt w2 hp2 hf2 => ?_)
      · exfalso; rw [take_l (by omega)] at hfull; omega
      · refine R_pop r_7_26 rfl ?_
        refine R_iinc1 r_7_27 rfl rfl ?_
        refine R_goto r_7_30 (by decide) ?_
        exact ih (i + 1) _ (by omega) (by rw [take_s (by omega)]; exact (cX.text hX hp2 hf2)) (frm.tr hf (frm.wide hf2 (by decide) (by decide)))
theorem I1_wfD : wfD I1 := by have h := rdT_wf tx0; rw [rdT_tx0] at h; exact h
theorem I1_wf : iWF I1 := I1_wfD.1
theorem c_layFirst {xs : List Int32} {d : Nat} {wd : sm_W} {Q : Option Value → sm_W → Prop} (hX : cX wd [] Iz 0 [] [] []) (hQ : ∀ w2, cX w2 [] I1 FI [] [] [] → frm 0 21 wd w2 → Q none w2) : Ct xs (d + 6) 7 [.ref 0] wd Q := by
  unfold Ct
  show RT xs (d + 6) 7 0 [some (.ref 0), none] [] wd Q
  refine R_iconst r_7_0 (v := nI 0) rfl ?_
  refine R_istore_n r_7_1 rfl ?_
  refine lp_first (wd0 := wd) (fun w2 hX2 hf2 => ?_) 90 0 _ (by decide) (by show cX wd [] Iz 0 [] [] []; exact hX) frm.rf
  refine R_aload_n r_7_33 rfl (by decide) ?_
  refine R_getf r_7_34 (by decide) hX2.1.1 rfl ?_
  refine R_aload_n r_7_37 rfl (by decide) ?_
  refine R_getf r_7_38 (by decide) hX2.1.1 rfl ?_
  refine R_aload_n r_7_41 rfl (by decide) ?_
  refine R_getf r_7_42 (by decide) hX2.1.1 rfl ?_
  refine R_call3 r_7_45 rfl (sm_rvD rfl rfl rfl hX2) (Nat.le_of_ble_eq_true rfl) (Nat.le_of_ble_eq_true rfl) ?_
  refine c_readX hX2 (fun w3 hX3 hI3 hf3 => ?_)
  rw [rdT_tx0] at hI3
  refine R_pop r_7_48 rfl ?_
  refine R_aload_n r_7_49 rfl (by decide) ?_
  refine R_getf r_7_50 (by decide) hX3.1.1 rfl ?_
  refine R_aload_n r_7_53 rfl (by decide) ?_
  refine R_getf r_7_54 (by decide) hX3.1.1 rfl ?_
  refine R_call2 r_7_57 rfl (sm_rv1 rfl rfl hX3.1.2.1.1) (Nat.le_of_ble_eq_true rfl) (Nat.le_of_ble_eq_true rfl) ?_
  refine c_copyFrom (hX3.1.2.1.toJ2 rfl rfl rfl) hI3 I1_wf (fun w4 hi4 hf4 => ?_)
  refine R_aload_n r_7_60 rfl (by decide) ?_
  refine R_aload_n r_7_61 rfl (by decide) ?_
  refine R_getf r_7_62 (by decide) (cX.isl hX3 hi4 hf4).1.1 rfl ?_
  refine R_call1 r_7_65 rfl (sm_rv1 rfl rfl (cX.isl hX3 hi4 hf4).1.2.1.1) (Nat.le_of_ble_eq_true rfl) (Nat.le_of_ble_eq_true rfl) ?_
  refine c_firstStanding (cX.isl hX3 hi4 hf4).1.2.1 ?_
  refine R_putf r_7_68 (cX.isl hX3 hi4 hf4).1.1 (Nat.le_of_ble_eq_true rfl) rfl rfl ?_
  refine R_aload_n r_7_71 rfl (by decide) ?_
  refine R_getf r_7_72 (by decide) (cX.stand (cX.isl hX3 hi4 hf4)).1.1.1 rfl ?_
  refine R_call1 r_7_75 rfl (sm_rv1 rfl rfl (cX.stand (cX.isl hX3 hi4 hf4)).1.2.2.2.2.1.choose_spec.1) (Nat.le_of_ble_eq_true rfl) (Nat.le_of_ble_eq_true rfl) ?_
  refine c_tclear (cX.stand (cX.isl hX3 hi4 hf4)).1.2.2.2.2.1 (fun w_31 hp_w_31 hf_w_31 => ?_)
  refine R_vret r_7_78 rfl ?_
  exact hQ _ (cX.text (cX.stand (cX.isl hX3 hi4 hf4)).1 hp_w_31 hf_w_31) (frm.tr (frm.tr (frm.tr (frm.tr hf2 (frm.wide hf3 (by decide) (by decide))) (frm.wide hf4 (by decide) (by decide))) (frm.wide (cX.stand (cX.isl hX3 hi4 hf4)).2 (by decide) (by decide))) (frm.wide hf_w_31 (by decide) (by decide)))
theorem len_of {wd w2 : sm_W} {n : Nat} {b : Nat} (hl : wd.length = n) (hb : b + 1 = n) (hf : frm 0 b wd w2) {e : sm_E} (he : w2[b]? = some e) : w2.length = n := by
  have h1 : w2[n]? = none := by rw [hf n (by omega)]; exact List.getElem?_eq_none (by omega)
  have h2 := List.getElem?_eq_none_iff.mp h1
  have h3 := (List.getElem?_eq_some_iff.mp he).1
  omega
theorem c_init {xs : List Int32} {d : Nat} {Q : Option Value → sm_W → Prop} (hQ : ∀ w2, cX w2 [] I1 FI [] [] [] → w2.length = 22 → Q none w2) : Ct xs (d + 7) 0 [.ref 0] [objD 0] Q := by
  refine c_init1 ?_
  refine R_aload_n r_0_95 rfl (by decide) ?_
  refine R_call1 r_0_96 rfl (sm_rv1 rfl rfl W22_cX.1.1) (Nat.le_of_ble_eq_true rfl) (Nat.le_of_ble_eq_true rfl) ?_
  refine c_layFirst W22_cX (fun w2 hX2 hf2 => ?_)
  refine R_vret r_0_99 rfl ?_
  obtain ⟨l1, l2, h19, h20, h21, -⟩ := hX2.2.2.2.1
  exact hQ _ hX2 (len_of (b := 21) (wd := W22) rfl rfl hf2 h21)
