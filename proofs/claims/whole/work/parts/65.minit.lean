/-! the model's constructor -/
def st1 (f : Nat → List Int32) (k i : Nat) (v : Int32) : Nat → List Int32 := fu f k ((f k).set i v)
def nif (f : Nat → List Int32) : Nat → List Int32 := st1 (st1 (st1 (st1 (st1 (st1 f 24 0 (nI 0)) 29 0 (nI 0)) 31 0 (nI 4)) 31 1 (nI 0)) 31 2 (nI 5)) 31 3 (nI 3)
def adf (f : Nat → List Int32) (n k l jv c : Nat) : Nat → List Int32 := st1 (st1 (st1 (st1 (st1 f 25 n (nI k)) 26 n (nI l)) 27 n (nI jv)) 28 n (nI c)) 24 0 (nI (n + 1))
def fZ : Nat → List Int32 := fun k => List.replicate (lenM k) 0
theorem m_noI0 {xs : List Int32} {d : Nat} {wd : sm_W} {Q : Option Value → sm_W → Prop} {ln um km sn sp : Int32} {f : Nat → List Int32} (hC : mC wd ln um km sn sp f) (hL : mL f) (hQ : ∀ w2, mC w2 ln um km sn sp (nif f) → mL (nif f) → frm 22 40 wd w2 → Q none w2) : Ct xs (d) 129 [.ref 22, .int (nI 0)] wd Q := by
  unfold Ct
  show RT xs (d) 129 0 [some (.ref 22), some (.int (nI 0))] [] wd Q
  refine R_aload_n r_129_0 rfl (by decide) ?_
  refine R_getf r_129_1 (by decide) hC.1 rfl ?_
  refine R_iload_n r_129_4 rfl ?_
  refine R_iconst r_129_5 (v := nI 0) rfl ?_
  refine R_mst r_129_6 hC hL (by decide) (by decide) (by show _ < (2 : Nat); omega) (by decide) (fun w_q_1 f_q_1 hC_q_1 hL_q_1 e_q_1 hf_q_1 => ?_)
  refine R_aload_n r_129_7 rfl (by decide) ?_
  refine R_getf r_129_8 (by decide) hC_q_1.1 rfl ?_
  refine R_iload_n r_129_11 rfl ?_
  refine R_iconst r_129_12 (v := nI 0) rfl ?_
  refine R_mst r_129_13 hC_q_1 hL_q_1 (by decide) (by decide) (by show _ < (2 : Nat); omega) (by decide) (fun w_q_2 f_q_2 hC_q_2 hL_q_2 e_q_2 hf_q_2 => ?_)
  refine R_aload_n r_129_14 rfl (by decide) ?_
  refine R_getf r_129_15 (by decide) hC_q_2.1 rfl ?_
  refine R_iconst r_129_18 (v := nI 4) rfl ?_
  refine R_iload_n r_129_19 rfl ?_
  refine R_imulN r_129_20 ?_
  refine R_iconst r_129_21 (v := nI 4) rfl ?_
  refine R_mst r_129_22 hC_q_2 hL_q_2 (by decide) (by decide) (by show _ < (8 : Nat); omega) (by decide) (fun w_q_3 f_q_3 hC_q_3 hL_q_3 e_q_3 hf_q_3 => ?_)
  refine R_aload_n r_129_23 rfl (by decide) ?_
  refine R_getf r_129_24 (by decide) hC_q_3.1 rfl ?_
  refine R_iconst r_129_27 (v := nI 4) rfl ?_
  refine R_iload_n r_129_28 rfl ?_
  refine R_imulN r_129_29 ?_
  refine R_iconst r_129_30 (v := nI 1) rfl ?_
  refine R_iaddN r_129_31 ?_
  refine R_iconst r_129_32 (v := nI 0) rfl ?_
  refine R_mst r_129_33 hC_q_3 hL_q_3 (by decide) (by decide) (by show _ < (8 : Nat); omega) (by decide) (fun w_q_4 f_q_4 hC_q_4 hL_q_4 e_q_4 hf_q_4 => ?_)
  refine R_aload_n r_129_34 rfl (by decide) ?_
  refine R_getf r_129_35 (by decide) hC_q_4.1 rfl ?_
  refine R_iconst r_129_38 (v := nI 4) rfl ?_
  refine R_iload_n r_129_39 rfl ?_
  refine R_imulN r_129_40 ?_
  refine R_iconst r_129_41 (v := nI 2) rfl ?_
  refine R_iaddN r_129_42 ?_
  refine R_iconst r_129_43 (v := nI 5) rfl ?_
  refine R_mst r_129_44 hC_q_4 hL_q_4 (by decide) (by decide) (by show _ < (8 : Nat); omega) (by decide) (fun w_q_5 f_q_5 hC_q_5 hL_q_5 e_q_5 hf_q_5 => ?_)
  refine R_aload_n r_129_45 rfl (by decide) ?_
  refine R_getf r_129_46 (by decide) hC_q_5.1 rfl ?_
  refine R_iconst r_129_49 (v := nI 4) rfl ?_
  refine R_iload_n r_129_50 rfl ?_
  refine R_imulN r_129_51 ?_
  refine R_iconst r_129_52 (v := nI 3) rfl ?_
  refine R_iaddN r_129_53 ?_
  refine R_iconst r_129_54 (v := nI 3) rfl ?_
  refine R_mst r_129_55 hC_q_5 hL_q_5 (by decide) (by decide) (by show _ < (8 : Nat); omega) (by decide) (fun w_q_6 f_q_6 hC_q_6 hL_q_6 e_q_6 hf_q_6 => ?_)
  refine R_vret r_129_56 rfl ?_
  subst e_q_1
  subst e_q_2
  subst e_q_3
  subst e_q_4
  subst e_q_5
  subst e_q_6
  exact hQ _ hC_q_6 hL_q_6 (frm.tr (frm.tr (frm.tr (frm.tr (frm.tr hf_q_1 hf_q_2) hf_q_3) hf_q_4) hf_q_5) hf_q_6)
theorem m_add0 {xs : List Int32} {d : Nat} {wd : sm_W} {Q : Option Value → sm_W → Prop} {ln um km sn sp : Int32} {f : Nat → List Int32} (hC : mC wd ln um km sn sp f) (hL : mL f) {n : Nat} (hn : n < 8) (hn0 : (f 24)[0]? = some (nI n)) {k l jv c : Nat} (hQ : ∀ w2, mC w2 ln um km sn sp (adf f n k l jv c) → mL (adf f n k l jv c) → frm 22 40 wd w2 → Q none w2) : Ct xs (d) 130 [.ref 22, .int (nI 0), .int (nI k), .int (nI l), .int (nI jv), .int (nI c)] wd Q := by
  unfold Ct
  show RT xs (d) 130 0 [some (.ref 22), some (.int (nI 0)), some (.int (nI k)), some (.int (nI l)), some (.int (nI jv)), some (.int (nI c)), none] [] wd Q
  refine R_bipush r_130_0 (v := nI 8) rfl ?_
  refine R_iload_n r_130_2 rfl ?_
  refine R_imulN r_130_3 ?_
  refine R_aload_n r_130_4 rfl (by decide) ?_
  refine R_getf r_130_5 (by decide) hC.1 rfl ?_
  refine R_iload_n r_130_8 rfl ?_
  refine R_iald r_130_9 (by decide) (hC.2 24 (by decide) (by decide)) (sm_ixG hn0 (by decide)) ?_
  refine R_iaddN r_130_10 ?_
  refine R_istore r_130_11 rfl ?_
  refine R_aload_n r_130_13 rfl (by decide) ?_
  refine R_getf r_130_14 (by decide) hC.1 rfl ?_
  refine R_iload r_130_17 rfl ?_
  refine R_iload_n r_130_19 rfl ?_
  refine R_mst r_130_20 hC hL (by decide) (by decide) (by show _ < (16 : Nat); omega) (by decide) (fun w_q_1 f_q_1 hC_q_1 hL_q_1 e_q_1 hf_q_1 => ?_)
  refine R_aload_n r_130_21 rfl (by decide) ?_
  refine R_getf r_130_22 (by decide) hC_q_1.1 rfl ?_
  refine R_iload r_130_25 rfl ?_
  refine R_iload_n r_130_27 rfl ?_
  refine R_mst r_130_28 hC_q_1 hL_q_1 (by decide) (by decide) (by show _ < (16 : Nat); omega) (by decide) (fun w_q_2 f_q_2 hC_q_2 hL_q_2 e_q_2 hf_q_2 => ?_)
  refine R_aload_n r_130_29 rfl (by decide) ?_
  refine R_getf r_130_30 (by decide) hC_q_2.1 rfl ?_
  refine R_iload r_130_33 rfl ?_
  refine R_iload r_130_35 rfl ?_
  refine R_mst r_130_37 hC_q_2 hL_q_2 (by decide) (by decide) (by show _ < (16 : Nat); omega) (by decide) (fun w_q_3 f_q_3 hC_q_3 hL_q_3 e_q_3 hf_q_3 => ?_)
  refine R_aload_n r_130_38 rfl (by decide) ?_
  refine R_getf r_130_39 (by decide) hC_q_3.1 rfl ?_
  refine R_iload r_130_42 rfl ?_
  refine R_iload r_130_44 rfl ?_
  refine R_mst r_130_46 hC_q_3 hL_q_3 (by decide) (by decide) (by show _ < (16 : Nat); omega) (by decide) (fun w_q_4 f_q_4 hC_q_4 hL_q_4 e_q_4 hf_q_4 => ?_)
  refine R_aload_n r_130_47 rfl (by decide) ?_
  refine R_getf r_130_48 (by decide) hC_q_4.1 rfl ?_
  refine R_iload_n r_130_51 rfl ?_
  refine R_dup2 r_130_52 rfl rfl ?_
  refine R_iald r_130_53 (by decide) (hC_q_4.2 24 (by decide) (by decide)) (sm_ixG (by rw [e_q_4, fu_n (by decide)]; rw [e_q_3, fu_n (by decide)]; rw [e_q_2, fu_n (by decide)]; rw [e_q_1, fu_n (by decide)]; exact hn0) (by decide)) ?_
  refine R_iconst r_130_54 (v := nI 1) rfl ?_
  refine R_iaddN r_130_55 ?_
  refine R_mst r_130_56 hC_q_4 hL_q_4 (by decide) (by decide) (by show _ < (2 : Nat); omega) (by decide) (fun w_q_5 f_q_5 hC_q_5 hL_q_5 e_q_5 hf_q_5 => ?_)
  refine R_vret r_130_57 rfl ?_
  try rw [Nat.mul_zero, Nat.zero_add] at e_q_1
  try rw [Nat.mul_zero, Nat.zero_add] at e_q_2
  try rw [Nat.mul_zero, Nat.zero_add] at e_q_3
  try rw [Nat.mul_zero, Nat.zero_add] at e_q_4
  try rw [Nat.mul_zero, Nat.zero_add] at e_q_5
  subst e_q_1
  subst e_q_2
  subst e_q_3
  subst e_q_4
  subst e_q_5
  exact hQ _ hC_q_5 hL_q_5 (frm.tr (frm.tr (frm.tr (frm.tr hf_q_1 hf_q_2) hf_q_3) hf_q_4) hf_q_5)
section RT65
variable {xs : List Int32} {d j pc : Nat} {L : sm_L} {st : List Value} {w : sm_W} {Q : Option Value → sm_W → Prop} {a b c : Nat}
theorem R_newaT {i : Instr} {t : sm_W} {m n : Nat} (h : sm_ic j pc = some (i, 0, b, c)) (hi : ∃ q, i = .newarray q) (hm : m ≤ 100000) (hl : w.length = 22) (hn : 22 + t.length = n) (hn2 : n < 1000000) (k : RT xs d j (pc + 2) L (.ref n :: st) (w ++ (t ++ [.inl (0, List.replicate m 0)])) Q) : RT xs d j pc L (.int (nI m) :: st) (w ++ t) Q :=
  R_newI h hi (by decide) hm (by rw [List.length_append, hl]; exact hn) hn2 (by rw [List.append_assoc]; exact k)
theorem T_get {t : sm_W} {i : Nat} (hl : w.length = 22) : (w ++ t)[22 + i]? = t[i]? := by rw [List.getElem?_append_right (by omega)]; congr 1; omega
theorem T_set {t : sm_W} {i : Nat} {e : sm_E} (hl : w.length = 22) : (w ++ t).set (22 + i) e = w ++ t.set i e := by rw [List.set_append_right (22 + i) e (by omega)]; congr 2; omega
theorem R_putT {i i0 : Nat} {t : sm_W} {fs : List Value} {v : Value} (h : sm_ic j pc = some (.putfield i, a, b, c)) (hl : w.length = 22) (ht : t[i0]? = some (.inr (.inr (a, fs)))) (hb : b < fs.length) (hn : narrow (sm_ty a b) v = v) (hf : fits (sm_ty a b) v = true) (k : RT xs d j (pc + 3) L st (w ++ t.set i0 (.inr (.inr (a, fs.set b v)))) Q) : RT xs d j pc L (v :: .ref (22 + i0) :: st) (w ++ t) Q :=
  R_putf h ((T_get hl).trans ht) hb hn hf (by rw [T_set hl]; exact k)
end RT65
def T19 : sm_W := [mO (nI 0) (nI 0) (nI 0) (nI 0) (nI 0), .inl (0, fZ 23), .inl (0, fZ 24), .inl (0, fZ 25), .inl (0, fZ 26), .inl (0, fZ 27), .inl (0, fZ 28), .inl (0, fZ 29), .inl (0, fZ 30), .inl (0, fZ 31), .inl (0, fZ 32), .inl (0, fZ 33), .inl (0, fZ 34), .inl (0, fZ 35), .inl (0, fZ 36), .inl (0, fZ 37), .inl (0, fZ 38), .inl (0, fZ 39), .inl (0, fZ 40)]
theorem T19_mC {w : sm_W} (hl : w.length = 22) : mC (w ++ T19) (nI 0) (nI 0) (nI 0) (nI 0) (nI 0) fZ := by
  refine ⟨(T_get (i := 0) hl).trans rfl, fun k h1 h2 => ?_⟩
  have key : ∀ i, 1 ≤ i → i ≤ 18 → T19[i]? = some (.inl (0, fZ (22 + i))) := by
    intro i h3 h4
    rcases (by omega : i = 1 ∨ i = 2 ∨ i = 3 ∨ i = 4 ∨ i = 5 ∨ i = 6 ∨ i = 7 ∨ i = 8 ∨ i = 9 ∨ i = 10 ∨ i = 11 ∨ i = 12 ∨ i = 13 ∨ i = 14 ∨ i = 15 ∨ i = 16 ∨ i = 17 ∨ i = 18) with rfl | rfl | rfl | rfl | rfl | rfl | rfl | rfl | rfl | rfl | rfl | rfl | rfl | rfl | rfl | rfl | rfl | rfl <;> rfl
  have h := key (k - 22) (by omega) (by omega)
  rw [show 22 + (k - 22) = k by omega] at h
  rw [← h, ← T_get (w := w) (i := k - 22) hl, show 22 + (k - 22) = k by omega]
theorem fZ_mL : mL fZ := fun k _ _ => List.length_replicate
theorem m_init1 {xs : List Int32} {d : Nat} {Q : Option Value → sm_W → Prop} {w : sm_W} (hl : w.length = 22) (hQ : RT xs (d + 1) 128 145 [some (.ref 22)] [] (w ++ T19) Q) : Ct xs (d + 1) 128 [.ref 22] (w ++ [objD 7]) Q := by
  unfold Ct
  show RT xs (d + 1) 128 0 [some (.ref 22)] [] (w ++ [objD 7]) Q
  refine R_aload_n r_128_0 rfl (by decide) ?_
  refine R_oinit r_128_1 (Nat.le_add_left 1 _) (by decide) (by decide) ?_
  refine R_aload_n r_128_4 rfl (by decide) ?_
  refine R_sipush r_128_5 (v := nI 200) rfl ?_
  refine R_newaT r_128_8 ⟨_, rfl⟩ (by decide) hl (n := 23) rfl (by decide) ?_
  refine R_putT (i0 := 0) r_128_10 hl rfl (Nat.le_of_ble_eq_true rfl) rfl rfl ?_
  refine R_aload_n r_128_13 rfl (by decide) ?_
  refine R_iconst r_128_14 (v := nI 2) rfl ?_
  refine R_newaT r_128_15 ⟨_, rfl⟩ (by decide) hl (n := 24) rfl (by decide) ?_
  refine R_putT (i0 := 0) r_128_17 hl rfl (Nat.le_of_ble_eq_true rfl) rfl rfl ?_
  refine R_aload_n r_128_20 rfl (by decide) ?_
  refine R_bipush r_128_21 (v := nI 16) rfl ?_
  refine R_newaT r_128_23 ⟨_, rfl⟩ (by decide) hl (n := 25) rfl (by decide) ?_
  refine R_putT (i0 := 0) r_128_25 hl rfl (Nat.le_of_ble_eq_true rfl) rfl rfl ?_
  refine R_aload_n r_128_28 rfl (by decide) ?_
  refine R_bipush r_128_29 (v := nI 16) rfl ?_
  refine R_newaT r_128_31 ⟨_, rfl⟩ (by decide) hl (n := 26) rfl (by decide) ?_
  refine R_putT (i0 := 0) r_128_33 hl rfl (Nat.le_of_ble_eq_true rfl) rfl rfl ?_
  refine R_aload_n r_128_36 rfl (by decide) ?_
  refine R_bipush r_128_37 (v := nI 16) rfl ?_
  refine R_newaT r_128_39 ⟨_, rfl⟩ (by decide) hl (n := 27) rfl (by decide) ?_
  refine R_putT (i0 := 0) r_128_41 hl rfl (Nat.le_of_ble_eq_true rfl) rfl rfl ?_
  refine R_aload_n r_128_44 rfl (by decide) ?_
  refine R_bipush r_128_45 (v := nI 16) rfl ?_
  refine R_newaT r_128_47 ⟨_, rfl⟩ (by decide) hl (n := 28) rfl (by decide) ?_
  refine R_putT (i0 := 0) r_128_49 hl rfl (Nat.le_of_ble_eq_true rfl) rfl rfl ?_
  refine R_aload_n r_128_52 rfl (by decide) ?_
  refine R_iconst r_128_53 (v := nI 2) rfl ?_
  refine R_newaT r_128_54 ⟨_, rfl⟩ (by decide) hl (n := 29) rfl (by decide) ?_
  refine R_putT (i0 := 0) r_128_56 hl rfl (Nat.le_of_ble_eq_true rfl) rfl rfl ?_
  refine R_aload_n r_128_59 rfl (by decide) ?_
  refine R_bipush r_128_60 (v := nI 10) rfl ?_
  refine R_newaT r_128_62 ⟨_, rfl⟩ (by decide) hl (n := 30) rfl (by decide) ?_
  refine R_putT (i0 := 0) r_128_64 hl rfl (Nat.le_of_ble_eq_true rfl) rfl rfl ?_
  refine R_aload_n r_128_67 rfl (by decide) ?_
  refine R_bipush r_128_68 (v := nI 8) rfl ?_
  refine R_newaT r_128_70 ⟨_, rfl⟩ (by decide) hl (n := 31) rfl (by decide) ?_
  refine R_putT (i0 := 0) r_128_72 hl rfl (Nat.le_of_ble_eq_true rfl) rfl rfl ?_
  refine R_aload_n r_128_75 rfl (by decide) ?_
  refine R_bipush r_128_76 (v := nI 24) rfl ?_
  refine R_newaT r_128_78 ⟨_, rfl⟩ (by decide) hl (n := 32) rfl (by decide) ?_
  refine R_putT (i0 := 0) r_128_80 hl rfl (Nat.le_of_ble_eq_true rfl) rfl rfl ?_
  refine R_aload_n r_128_83 rfl (by decide) ?_
  refine R_sipush r_128_84 (v := nI 192) rfl ?_
  refine R_newaT r_128_87 ⟨_, rfl⟩ (by decide) hl (n := 33) rfl (by decide) ?_
  refine R_putT (i0 := 0) r_128_89 hl rfl (Nat.le_of_ble_eq_true rfl) rfl rfl ?_
  refine R_aload_n r_128_92 rfl (by decide) ?_
  refine R_bipush r_128_93 (v := nI 48) rfl ?_
  refine R_newaT r_128_95 ⟨_, rfl⟩ (by decide) hl (n := 34) rfl (by decide) ?_
  refine R_putT (i0 := 0) r_128_97 hl rfl (Nat.le_of_ble_eq_true rfl) rfl rfl ?_
  refine R_aload_n r_128_100 rfl (by decide) ?_
  refine R_bipush r_128_101 (v := nI 8) rfl ?_
  refine R_newaT r_128_103 ⟨_, rfl⟩ (by decide) hl (n := 35) rfl (by decide) ?_
  refine R_putT (i0 := 0) r_128_105 hl rfl (Nat.le_of_ble_eq_true rfl) rfl rfl ?_
  refine R_aload_n r_128_108 rfl (by decide) ?_
  refine R_bipush r_128_109 (v := nI 8) rfl ?_
  refine R_newaT r_128_111 ⟨_, rfl⟩ (by decide) hl (n := 36) rfl (by decide) ?_
  refine R_putT (i0 := 0) r_128_113 hl rfl (Nat.le_of_ble_eq_true rfl) rfl rfl ?_
  refine R_aload_n r_128_116 rfl (by decide) ?_
  refine R_iconst r_128_117 (v := nI 4) rfl ?_
  refine R_newaT r_128_118 ⟨_, rfl⟩ (by decide) hl (n := 37) rfl (by decide) ?_
  refine R_putT (i0 := 0) r_128_120 hl rfl (Nat.le_of_ble_eq_true rfl) rfl rfl ?_
  refine R_aload_n r_128_123 rfl (by decide) ?_
  refine R_bipush r_128_124 (v := nI 8) rfl ?_
  refine R_newaT r_128_126 ⟨_, rfl⟩ (by decide) hl (n := 38) rfl (by decide) ?_
  refine R_putT (i0 := 0) r_128_128 hl rfl (Nat.le_of_ble_eq_true rfl) rfl rfl ?_
  refine R_aload_n r_128_131 rfl (by decide) ?_
  refine R_iconst r_128_132 (v := nI 5) rfl ?_
  refine R_newaT r_128_133 ⟨_, rfl⟩ (by decide) hl (n := 39) rfl (by decide) ?_
  refine R_putT (i0 := 0) r_128_135 hl rfl (Nat.le_of_ble_eq_true rfl) rfl rfl ?_
  refine R_aload_n r_128_138 rfl (by decide) ?_
  refine R_iconst r_128_139 (v := nI 5) rfl ?_
  refine R_newaT r_128_140 ⟨_, rfl⟩ (by decide) hl (n := 40) rfl (by decide) ?_
  refine R_putT (i0 := 0) r_128_142 hl rfl (Nat.le_of_ble_eq_true rfl) rfl rfl ?_
  show RT xs (d + 1) 128 145 [some (.ref 22)] [] (w ++ T19) Q
  exact hQ
def fA8 : Nat → List Int32 := (adf (adf (adf (adf (adf (adf (adf (adf (nif fZ) 0 0 1 0 2) 1 0 3 0 1) 2 1 1 0 0) 3 2 0 1 3) 4 2 2 5 1) 5 2 0 4 0) 6 3 3 0 4) 7 0 0 0 2)
def fB8 : Nat → List Int32 := st1 (st1 (st1 (st1 fA8 29 0 (nI 2)) 30 0 (nI 2)) 30 1 (nI 3)) 31 1 (nI 6)
theorem fB8_ok : ((fB8 24)[0]? = some (nI 8) ∧ (fB8 29)[0]? = some (nI 2) ∧ (∀ i, i < 8 → (fB8 25)[i]? = some (nI ((iK I1).getD i 0)) ∧ (fB8 28)[i]? = some (nI ((iC I1).getD i 0))) ∧ (∀ b, b < 2 → (fB8 30)[b]? = some (nI ((iS I1).getD b 0))) ∧ (fB8 31)[0]? = some (nI 4) ∧ (fB8 31)[1]? = some (nI 6) ∧ (fB8 31)[2]? = some (nI 5) ∧ (fB8 31)[3]? = some (nI 3)) ∧ ∀ i, i < 8 → (fB8 26)[i]? = some (nI (sLean FI i)) ∧ (fB8 27)[i]? = some (nI (sMind FI i)) := by decide +kernel
theorem FI_bits : sHeld FI = 0 ∧ sStorm FI = false ∧ sIce FI = false := by decide +kernel
theorem mX_first {wd : sm_W} {sp : Int32} {f9 : Nat → List Int32} (hC : mC wd (nI 0) (nI 0) (nI 0) (nI 0) sp f9) (hL : mL f9) (ho : ∀ q, q ≠ 32 → f9 q = fB8 q) (hp : ∀ t, t < 24 → (f9 32)[t]? = bgv fB8 t) : mX wd [] I1 FI [] [] [] := by
  obtain ⟨⟨a1, a2, a3, a4, a5, a6, a7, a8⟩, a9⟩ := fB8_ok
  refine ⟨sp, f9, hC, hL, ⟨⟨?_, ?_, fun i hi => ⟨?_, ?_⟩, fun b hb => ?_, ?_, ?_, ?_, ?_⟩, fun i hi => ⟨?_, ?_⟩, fun b hb => ?_, ?_, ?_⟩, ⟨by decide, fun t ht => absurd ht (Nat.not_lt_zero t)⟩, ⟨by decide, fun t ht => absurd ht (Nat.not_lt_zero t)⟩, ⟨by decide, fun t ht => absurd ht (Nat.not_lt_zero t)⟩, ⟨by decide, fun t ht => absurd ht (Nat.not_lt_zero t)⟩⟩
  · rw [ho 24 (by decide)]; exact a1
  · rw [ho 29 (by decide)]; exact a2
  · rw [ho 25 (by decide)]; exact (a3 i hi).1
  · rw [ho 28 (by decide)]; exact (a3 i hi).2
  · rw [ho 30 (by decide)]; exact a4 b hb
  · rw [ho 31 (by decide)]; exact a5
  · rw [ho 31 (by decide)]; exact a6
  · rw [ho 31 (by decide)]; exact a7
  · rw [ho 31 (by decide)]; exact a8
  · have hi8 : i < 8 := hi
    show (f9 32)[i]? = _
    rw [hp i (by omega)]
    unfold bgv
    rw [if_pos hi8]; exact (a9 i hi).1
  · have hi8 : i < 8 := hi
    show (f9 32)[8 + i]? = _
    rw [hp (8 + i) (by omega)]
    unfold bgv
    rw [if_neg (by omega), if_pos (by omega), Nat.add_sub_cancel_left]; exact (a9 i hi).2
  · show (f9 32)[16 + b]? = _
    rw [hp (16 + b) (by omega), FI_bits.1, Nat.zero_testBit]
    unfold bgv
    rw [if_neg (by omega), if_neg (by omega)]; rfl
  · show (f9 32)[21]? = _
    rw [hp 21 (by decide), FI_bits.2.1]; rfl
  · show (f9 32)[22]? = _
    rw [hp 22 (by decide), FI_bits.2.2]; rfl
theorem m_init2 {xs : List Int32} {d : Nat} {wd : sm_W} {Q : Option Value → sm_W → Prop} (hC : mC wd (nI 0) (nI 0) (nI 0) (nI 0) (nI 0) fZ) (hL : mL fZ) (hQ : ∀ w2, mX w2 [] I1 FI [] [] [] → frm 22 40 wd w2 → Q none w2) : RT xs (d + 1) 128 145 [some (.ref 22)] [] wd Q := by
  refine R_aload_n r_128_145 rfl (by decide) ?_
  refine R_iconst r_128_146 (v := nI 0) rfl ?_
  refine R_call2 r_128_147 rfl (sm_rvM rfl rfl rfl hC) (Nat.le_of_ble_eq_true rfl) (Nat.le_of_ble_eq_true rfl) ?_
  refine m_noI0 hC hL (fun w0 hC0 hL0 hf0 => ?_)
  refine R_aload_n r_128_150 rfl (by decide) ?_
  refine R_iconst r_128_151 (v := nI 0) rfl ?_
  refine R_iconst r_128_152 (v := nI 0) rfl ?_
  refine R_iconst r_128_153 (v := nI 1) rfl ?_
  refine R_iconst r_128_154 (v := nI 0) rfl ?_
  refine R_iconst r_128_155 (v := nI 2) rfl ?_
  refine R_call6 r_128_156 rfl (sm_rvM rfl rfl rfl hC0) (Nat.le_of_ble_eq_true rfl) (Nat.le_of_ble_eq_true rfl) ?_
  refine m_add0 hC0 hL0 (n := 0) (by decide) (by decide +kernel) (fun wa0 hCa0 hLa0 hfa0 => ?_)
  refine R_aload_n r_128_159 rfl (by decide) ?_
  refine R_iconst r_128_160 (v := nI 0) rfl ?_
  refine R_iconst r_128_161 (v := nI 0) rfl ?_
  refine R_iconst r_128_162 (v := nI 3) rfl ?_
  refine R_iconst r_128_163 (v := nI 0) rfl ?_
  refine R_iconst r_128_164 (v := nI 1) rfl ?_
  refine R_call6 r_128_165 rfl (sm_rvM rfl rfl rfl hCa0) (Nat.le_of_ble_eq_true rfl) (Nat.le_of_ble_eq_true rfl) ?_
  refine m_add0 hCa0 hLa0 (n := 1) (by decide) (by decide +kernel) (fun wa1 hCa1 hLa1 hfa1 => ?_)
  refine R_aload_n r_128_168 rfl (by decide) ?_
  refine R_iconst r_128_169 (v := nI 0) rfl ?_
  refine R_iconst r_128_170 (v := nI 1) rfl ?_
  refine R_iconst r_128_171 (v := nI 1) rfl ?_
  refine R_iconst r_128_172 (v := nI 0) rfl ?_
  refine R_iconst r_128_173 (v := nI 0) rfl ?_
  refine R_call6 r_128_174 rfl (sm_rvM rfl rfl rfl hCa1) (Nat.le_of_ble_eq_true rfl) (Nat.le_of_ble_eq_true rfl) ?_
  refine m_add0 hCa1 hLa1 (n := 2) (by decide) (by decide +kernel) (fun wa2 hCa2 hLa2 hfa2 => ?_)
  refine R_aload_n r_128_177 rfl (by decide) ?_
  refine R_iconst r_128_178 (v := nI 0) rfl ?_
  refine R_iconst r_128_179 (v := nI 2) rfl ?_
  refine R_iconst r_128_180 (v := nI 0) rfl ?_
  refine R_iconst r_128_181 (v := nI 1) rfl ?_
  refine R_iconst r_128_182 (v := nI 3) rfl ?_
  refine R_call6 r_128_183 rfl (sm_rvM rfl rfl rfl hCa2) (Nat.le_of_ble_eq_true rfl) (Nat.le_of_ble_eq_true rfl) ?_
  refine m_add0 hCa2 hLa2 (n := 3) (by decide) (by decide +kernel) (fun wa3 hCa3 hLa3 hfa3 => ?_)
  refine R_aload_n r_128_186 rfl (by decide) ?_
  refine R_iconst r_128_187 (v := nI 0) rfl ?_
  refine R_iconst r_128_188 (v := nI 2) rfl ?_
  refine R_iconst r_128_189 (v := nI 2) rfl ?_
  refine R_iconst r_128_190 (v := nI 5) rfl ?_
  refine R_iconst r_128_191 (v := nI 1) rfl ?_
  refine R_call6 r_128_192 rfl (sm_rvM rfl rfl rfl hCa3) (Nat.le_of_ble_eq_true rfl) (Nat.le_of_ble_eq_true rfl) ?_
  refine m_add0 hCa3 hLa3 (n := 4) (by decide) (by decide +kernel) (fun wa4 hCa4 hLa4 hfa4 => ?_)
  refine R_aload_n r_128_195 rfl (by decide) ?_
  refine R_iconst r_128_196 (v := nI 0) rfl ?_
  refine R_iconst r_128_197 (v := nI 2) rfl ?_
  refine R_iconst r_128_198 (v := nI 0) rfl ?_
  refine R_iconst r_128_199 (v := nI 4) rfl ?_
  refine R_iconst r_128_200 (v := nI 0) rfl ?_
  refine R_call6 r_128_201 rfl (sm_rvM rfl rfl rfl hCa4) (Nat.le_of_ble_eq_true rfl) (Nat.le_of_ble_eq_true rfl) ?_
  refine m_add0 hCa4 hLa4 (n := 5) (by decide) (by decide +kernel) (fun wa5 hCa5 hLa5 hfa5 => ?_)
  refine R_aload_n r_128_204 rfl (by decide) ?_
  refine R_iconst r_128_205 (v := nI 0) rfl ?_
  refine R_iconst r_128_206 (v := nI 3) rfl ?_
  refine R_iconst r_128_207 (v := nI 3) rfl ?_
  refine R_iconst r_128_208 (v := nI 0) rfl ?_
  refine R_iconst r_128_209 (v := nI 4) rfl ?_
  refine R_call6 r_128_210 rfl (sm_rvM rfl rfl rfl hCa5) (Nat.le_of_ble_eq_true rfl) (Nat.le_of_ble_eq_true rfl) ?_
  refine m_add0 hCa5 hLa5 (n := 6) (by decide) (by decide +kernel) (fun wa6 hCa6 hLa6 hfa6 => ?_)
  refine R_aload_n r_128_213 rfl (by decide) ?_
  refine R_iconst r_128_214 (v := nI 0) rfl ?_
  refine R_iconst r_128_215 (v := nI 0) rfl ?_
  refine R_iconst r_128_216 (v := nI 0) rfl ?_
  refine R_iconst r_128_217 (v := nI 0) rfl ?_
  refine R_iconst r_128_218 (v := nI 2) rfl ?_
  refine R_call6 r_128_219 rfl (sm_rvM rfl rfl rfl hCa6) (Nat.le_of_ble_eq_true rfl) (Nat.le_of_ble_eq_true rfl) ?_
  refine m_add0 hCa6 hLa6 (n := 7) (by decide) (by decide +kernel) (fun wa7 hCa7 hLa7 hfa7 => ?_)
  refine R_aload_n r_128_222 rfl (by decide) ?_
  refine R_getf r_128_223 (by decide) hCa7.1 rfl ?_
  refine R_iconst r_128_226 (v := nI 0) rfl ?_
  refine R_iconst r_128_227 (v := nI 2) rfl ?_
  refine R_mst r_128_228 hCa7 hLa7 (by decide) (by decide) (by show _ < (2 : Nat); omega) (by decide) (fun w_q_1 f_q_1 hC_q_1 hL_q_1 e_q_1 hf_q_1 => ?_)
  refine R_aload_n r_128_229 rfl (by decide) ?_
  refine R_getf r_128_230 (by decide) hC_q_1.1 rfl ?_
  refine R_iconst r_128_233 (v := nI 0) rfl ?_
  refine R_iconst r_128_234 (v := nI 2) rfl ?_
  refine R_mst r_128_235 hC_q_1 hL_q_1 (by decide) (by decide) (by show _ < (10 : Nat); omega) (by decide) (fun w_q_2 f_q_2 hC_q_2 hL_q_2 e_q_2 hf_q_2 => ?_)
  refine R_aload_n r_128_236 rfl (by decide) ?_
  refine R_getf r_128_237 (by decide) hC_q_2.1 rfl ?_
  refine R_iconst r_128_240 (v := nI 1) rfl ?_
  refine R_iconst r_128_241 (v := nI 3) rfl ?_
  refine R_mst r_128_242 hC_q_2 hL_q_2 (by decide) (by decide) (by show _ < (10 : Nat); omega) (by decide) (fun w_q_3 f_q_3 hC_q_3 hL_q_3 e_q_3 hf_q_3 => ?_)
  refine R_aload_n r_128_243 rfl (by decide) ?_
  refine R_getf r_128_244 (by decide) hC_q_3.1 rfl ?_
  refine R_iconst r_128_247 (v := nI 1) rfl ?_
  refine R_bipush r_128_248 (v := nI 6) rfl ?_
  refine R_mst r_128_250 hC_q_3 hL_q_3 (by decide) (by decide) (by show _ < (8 : Nat); omega) (by decide) (fun w_q_4 f_q_4 hC_q_4 hL_q_4 e_q_4 hf_q_4 => ?_)
  refine R_aload_n r_128_251 rfl (by decide) ?_
  refine R_call1 r_128_252 rfl (sm_rvM rfl rfl rfl hC_q_4) (Nat.le_of_ble_eq_true rfl) (Nat.le_of_ble_eq_true rfl) ?_
  subst e_q_1
  subst e_q_2
  subst e_q_3
  subst e_q_4
  refine m_begin (f := fB8) hC_q_4 hL_q_4 (fun w9 f9 hC9 hL9 ho9 hp9 hf9 => ?_)
  refine R_vret r_128_255 rfl ?_
  exact hQ _ (mX_first hC9 hL9 ho9 hp9) (frm.tr (frm.tr (frm.tr (frm.tr (frm.tr (frm.tr (frm.tr (frm.tr (frm.tr (frm.tr (frm.tr (frm.tr (frm.tr hf0 hfa0) hfa1) hfa2) hfa3) hfa4) hfa5) hfa6) hfa7) hf_q_1) hf_q_2) hf_q_3) hf_q_4) hf9)
theorem m_init {xs : List Int32} {d : Nat} {Q : Option Value → sm_W → Prop} {w : sm_W} (hl : w.length = 22) (hQ : ∀ w2, mX w2 [] I1 FI [] [] [] → frm 22 40 (w ++ T19) w2 → Q none w2) : Ct xs (d + 1) 128 [.ref 22] (w ++ [objD 7]) Q := m_init1 hl (m_init2 (T19_mC hl) fZ_mL hQ)
