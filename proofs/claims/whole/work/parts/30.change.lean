/-! the class's public methods that change or tell its state -/
theorem inR_out {x : Int32} {n : Nat} (h : inR x (n + 1) = false) (hn : n + 1 < 2147483648 := by decide) : x.toInt < 0 ∨ (n : Int) < x.toInt := by
  have h1 : ¬ (0 ≤ x ∧ x < nI (n + 1)) := of_decide_eq_false h
  rw [Int32.le_iff_toInt_le, Int32.lt_iff_toInt_lt, nI_toInt hn] at h1
  have h0 : (0 : Int32).toInt = 0 := rfl
  rw [h0] at h1
  omega
theorem wLean_lt {w i l : Nat} (hw : w < 18446744073709551616) (hi : i < 8) : wLean w i l < 18446744073709551616 := swith_lt (swith_lt hw (by omega)) (by omega)
theorem wMind_lt {w i l : Nat} (hw : w < 18446744073709551616) (hi : i < 8) : wMind w i l < 18446744073709551616 := swith_lt hw (by omega)
theorem wHeld_lt {w h : Nat} (hw : w < 18446744073709551616) : wHeld w h < 18446744073709551616 := swith_lt hw (by omega)
theorem wWeather_lt {w : Nat} {s i : Bool} (hw : w < 18446744073709551616) : wWeather w s i < 18446744073709551616 := swith_lt (swith_lt hw (by omega)) (by omega)
theorem inR_g {x : Int32} {n : Nat} (h : ¬ x ≤ nI n) (hn : n + 1 < 2147483648) : inR x (n + 1) = false := by
  refine decide_eq_false (fun z => ?_)
  have h1 := z.2
  rw [Int32.le_iff_toInt_le, nI_toInt (by omega)] at h
  rw [Int32.lt_iff_toInt_lt, nI_toInt hn] at h1
  omega
theorem rng0 {x : Int32} {n : Nat} (h : ¬ x < 0) (h2 : x ≤ nI n) (hn : n + 1 < 2147483648) : ∃ q, q < n + 1 ∧ x = nI q := by
  obtain ⟨q, hq, rfl⟩ := nI_of h
  have h3 : q ≤ n := (nI_leI hq (by omega)).mp h2
  exact ⟨q, by omega, rfl⟩
theorem rngT {x : Int32} {n : Nat} (h : ¬ x < 0) (h2 : x ≤ nI n) (hn : n + 1 < 2147483648) : inR x (n + 1) = true := by
  obtain ⟨q, hq, rfl⟩ := rng0 h h2 hn
  rw [inR_N (by omega) hn]
  simpa using hq
theorem c_change {xs : List Int32} {d : Nat} {wd : sm_W} {Q : Option Value → sm_W → Prop} {tx : List Nat} {I : sm_Is} {w : Nat} {pa sh : List Nat} {sn : List (Nat × Nat)} (hX : cX wd tx I w pa sh sn) (hW : iWF I) (hw : w < 18446744073709551616) {n2 : Nat} (hn2 : n2 < 18446744073709551616) (hQ : ∀ w2, cX w2 tx I n2 (pushW 8 pa w) sh sn → frm 0 21 wd w2 → Q none w2) : Ct xs (d + 3) 89 [.ref 0, .long (lN n2)] wd Q := by
  unfold Ct
  show RT xs (d + 3) 89 0 [some (.ref 0), some (.long (lN n2)), none] [] wd Q
  obtain ⟨hW1, hW2, hW3, hW4, hW5, hW6, hW7, hW8, hW9, hW10, hW11, hW12, hW13, hW14, hW15⟩ := id hW
  refine R_aload_n r_89_0 rfl (by decide) ?_
  refine R_getf r_89_1 (by decide) hX.1.1 rfl ?_
  refine R_aload_n r_89_4 rfl (by decide) ?_
  refine R_getf r_89_5 (by decide) hX.1.1 rfl ?_
  refine R_call2 r_89_8 rfl (sm_rv1 rfl rfl hX.2.1.choose_spec.1) (Nat.le_of_ble_eq_true rfl) (Nat.le_of_ble_eq_true rfl) ?_
  refine c_put15 hX.2.1 (fun w_1 hp_w_1 hf_w_1 => ?_)
  refine R_aload_n r_89_11 rfl (by decide) ?_
  refine R_lload_n r_89_12 rfl ?_
  refine R_putf r_89_13 (cX.past hX hp_w_1 hf_w_1).1.1 (Nat.le_of_ble_eq_true rfl) rfl rfl ?_
  refine R_vret r_89_16 rfl ?_
  exact hQ _ (cX.stand (cX.past hX hp_w_1 hf_w_1)).1 (frm.tr (frm.tr frm.rf (frm.wide hf_w_1 (by decide) (by decide))) (frm.wide (cX.stand (cX.past hX hp_w_1 hf_w_1)).2 (by decide) (by decide)))
theorem c_lean {xs : List Int32} {d : Nat} {wd : sm_W} {Q : Option Value → sm_W → Prop} {tx : List Nat} {I : sm_Is} {w : Nat} {pa sh : List Nat} {sn : List (Nat × Nat)} (hX : cX wd tx I w pa sh sn) (hW : iWF I) (hw : w < 18446744073709551616) {x1 x2 : Int32} (hB : (inR x1 (iN I) && inR x2 4) = false → Q (some (.int (-1))) wd) (hQ : ∀ i l, i < iN I → l < 4 → x1 = nI i → x2 = nI l → ∀ w2, cX w2 tx I (wLean w i l) (pushW 8 pa w) sh sn → frm 0 21 wd w2 → Q (some (.int (nI (sLean w i)))) w2) : Ct xs (d + 4) 88 [.ref 0, .int x1, .int x2] wd Q := by
  unfold Ct
  show RT xs (d + 4) 88 0 [some (.ref 0), some (.int x1), some (.int x2), none] [] wd Q
  obtain ⟨hW1, hW2, hW3, hW4, hW5, hW6, hW7, hW8, hW9, hW10, hW11, hW12, hW13, hW14, hW15⟩ := id hW
  refine R_aload_n r_88_0 rfl (by decide) ?_
  refine R_iload_n r_88_1 rfl ?_
  refine R_call2 r_88_2 rfl (sm_rv1 rfl rfl hX.1.1) (Nat.le_of_ble_eq_true rfl) (Nat.le_of_ble_eq_true rfl) ?_
  refine c_isIslander hX.1 hW ?_
  refine R_if_eq_b r_88_5 (by decide) (fun h_1 => ?_) (fun h_1 => ?_)
  · refine R_iconst r_88_17 (v := (-1)) rfl ?_
    refine R_iret r_88_18 (ty := .int) rfl rfl (by decide) ?_
    first | exact hB (by rw [show inR x1 (iN I) = false from by assumption]; rfl) | exact hB (by rw [inR_f1 (x := x2) (by assumption), Bool.and_false]) | exact hB (by rw [inR_g (n := 3) (x := x2) (by assumption) (by decide), Bool.and_false])
  · refine R_iload_n r_88_8 rfl ?_
    refine R_if_lt r_88_9 (by decide) (fun h_2 => ?_) (fun h_2 => ?_)
    · refine R_iconst r_88_17 (v := (-1)) rfl ?_
      refine R_iret r_88_18 (ty := .int) rfl rfl (by decide) ?_
      first | exact hB (by rw [show inR x1 (iN I) = false from by assumption]; rfl) | exact hB (by rw [inR_f1 (x := x2) (by assumption), Bool.and_false]) | exact hB (by rw [inR_g (n := 3) (x := x2) (by assumption) (by decide), Bool.and_false])
    · refine R_iload_n r_88_12 rfl ?_
      refine R_iconst r_88_13 (v := nI 3) rfl ?_
      refine R_icmp_le r_88_14 (by decide) (fun h_3 => ?_) (fun h_3 => ?_)
      · refine R_aload_n r_88_19 rfl (by decide) ?_
        refine R_getf r_88_20 (by decide) hX.1.1 rfl ?_
        obtain ⟨l, hl, rfl⟩ := rng0 (n := 3) (x := x2) (by assumption) (by assumption) (by decide)
        obtain ⟨i, hi, rfl⟩ := inR_of (x := x1) (by assumption) (by omega)
        refine R_iload_n r_88_23 rfl ?_
        refine R_call2 r_88_24 rfl rfl (Nat.le_of_ble_eq_true rfl) (Nat.le_of_ble_eq_true rfl) ?_
        refine c_leaning hw (by omega) ?_
        refine R_istore_n r_88_27 rfl ?_
        refine R_aload_n r_88_28 rfl (by decide) ?_
        refine R_aload_n r_88_29 rfl (by decide) ?_
        refine R_getf r_88_30 (by decide) hX.1.1 rfl ?_
        refine R_iload_n r_88_33 rfl ?_
        refine R_iload_n r_88_34 rfl ?_
        refine R_call3 r_88_35 rfl rfl (Nat.le_of_ble_eq_true rfl) (Nat.le_of_ble_eq_true rfl) ?_
        refine c_withLeaning hw (by omega) (by omega) ?_
        refine R_call2 r_88_38 rfl (sm_rv1 rfl rfl hX.1.1) (Nat.le_of_ble_eq_true rfl) (Nat.le_of_ble_eq_true rfl) ?_
        refine c_change hX hW hw ?_ (fun w_4 hx_w_4 hf_w_4 => ?_)
        · exact wLean_lt hw (by omega)
        refine R_iload_n r_88_41 rfl ?_
        refine R_iret r_88_42 (ty := .int) rfl rfl (by decide) ?_
        exact hQ i l hi hl rfl rfl _ hx_w_4 (frm.tr frm.rf (frm.wide hf_w_4 (by decide) (by decide)))
      · refine R_iconst r_88_17 (v := (-1)) rfl ?_
        refine R_iret r_88_18 (ty := .int) rfl rfl (by decide) ?_
        first | exact hB (by rw [show inR x1 (iN I) = false from by assumption]; rfl) | exact hB (by rw [inR_f1 (x := x2) (by assumption), Bool.and_false]) | exact hB (by rw [inR_g (n := 3) (x := x2) (by assumption) (by decide), Bool.and_false])
theorem c_mind {xs : List Int32} {d : Nat} {wd : sm_W} {Q : Option Value → sm_W → Prop} {tx : List Nat} {I : sm_Is} {w : Nat} {pa sh : List Nat} {sn : List (Nat × Nat)} (hX : cX wd tx I w pa sh sn) (hW : iWF I) (hw : w < 18446744073709551616) {x1 x2 : Int32} (hB : (inR x1 (iN I) && inR x2 (iN I)) = false → Q (some (.int (-1))) wd) (hQ : ∀ i l, i < iN I → l < iN I → x1 = nI i → x2 = nI l → ∀ w2, cX w2 tx I (wMind w i l) (pushW 8 pa w) sh sn → frm 0 21 wd w2 → Q (some (.int (nI (sMind w i)))) w2) : Ct xs (d + 4) 92 [.ref 0, .int x1, .int x2] wd Q := by
  unfold Ct
  show RT xs (d + 4) 92 0 [some (.ref 0), some (.int x1), some (.int x2), none] [] wd Q
  obtain ⟨hW1, hW2, hW3, hW4, hW5, hW6, hW7, hW8, hW9, hW10, hW11, hW12, hW13, hW14, hW15⟩ := id hW
  refine R_aload_n r_92_0 rfl (by decide) ?_
  refine R_iload_n r_92_1 rfl ?_
  refine R_call2 r_92_2 rfl (sm_rv1 rfl rfl hX.1.1) (Nat.le_of_ble_eq_true rfl) (Nat.le_of_ble_eq_true rfl) ?_
  refine c_isIslander hX.1 hW ?_
  refine R_if_eq_b r_92_5 (by decide) (fun h_1 => ?_) (fun h_1 => ?_)
  · refine R_iconst r_92_16 (v := (-1)) rfl ?_
    refine R_iret r_92_17 (ty := .int) rfl rfl (by decide) ?_
    exact hB (by simp [*])
  · refine R_aload_n r_92_8 rfl (by decide) ?_
    refine R_iload_n r_92_9 rfl ?_
    refine R_call2 r_92_10 rfl (sm_rv1 rfl rfl hX.1.1) (Nat.le_of_ble_eq_true rfl) (Nat.le_of_ble_eq_true rfl) ?_
    refine c_isIslander hX.1 hW ?_
    refine R_if_ne_b r_92_13 (by decide) (fun h_2 => ?_) (fun h_2 => ?_)
    · refine R_aload_n r_92_18 rfl (by decide) ?_
      refine R_getf r_92_19 (by decide) hX.1.1 rfl ?_
      obtain ⟨l, hl, rfl⟩ := inR_of (x := x2) (by assumption) (by omega)
      obtain ⟨i, hi, rfl⟩ := inR_of (x := x1) (by assumption) (by omega)
      refine R_iload_n r_92_22 rfl ?_
      refine R_call2 r_92_23 rfl rfl (Nat.le_of_ble_eq_true rfl) (Nat.le_of_ble_eq_true rfl) ?_
      refine c_minded hw (by omega) ?_
      refine R_istore_n r_92_26 rfl ?_
      refine R_aload_n r_92_27 rfl (by decide) ?_
      refine R_aload_n r_92_28 rfl (by decide) ?_
      refine R_getf r_92_29 (by decide) hX.1.1 rfl ?_
      refine R_iload_n r_92_32 rfl ?_
      refine R_iload_n r_92_33 rfl ?_
      refine R_call3 r_92_34 rfl rfl (Nat.le_of_ble_eq_true rfl) (Nat.le_of_ble_eq_true rfl) ?_
      refine c_withMinded hw (by omega) (by omega) ?_
      refine R_call2 r_92_37 rfl (sm_rv1 rfl rfl hX.1.1) (Nat.le_of_ble_eq_true rfl) (Nat.le_of_ble_eq_true rfl) ?_
      refine c_change hX hW hw ?_ (fun w_3 hx_w_3 hf_w_3 => ?_)
      · exact wMind_lt hw (by omega)
      refine R_iload_n r_92_40 rfl ?_
      refine R_iret r_92_41 (ty := .int) rfl rfl (by decide) ?_
      exact hQ i l hi hl rfl rfl _ hx_w_3 (frm.tr frm.rf (frm.wide hf_w_3 (by decide) (by decide)))
    · refine R_iconst r_92_16 (v := (-1)) rfl ?_
      refine R_iret r_92_17 (ty := .int) rfl rfl (by decide) ?_
      exact hB (by simp [*])
theorem c_undo {xs : List Int32} {d : Nat} {wd : sm_W} {Q : Option Value → sm_W → Prop} {tx : List Nat} {I : sm_Is} {w : Nat} {pa sh : List Nat} {sn : List (Nat × Nat)} (hX : cX wd tx I w pa sh sn) (hW : iWF I) (hw : w < 18446744073709551616) (hB : pa = [] → Q (some (.int (-2))) wd) (hQ : ∀ pa0 s, pa = pa0 ++ [s] → ∀ w2, cX w2 tx I s pa0 sh sn → frm 0 21 wd w2 → Q (some (.int (nI pa0.length))) w2) : Ct xs (d + 2) 97 [.ref 0] wd Q := by
  unfold Ct
  show RT xs (d + 2) 97 0 [some (.ref 0)] [] wd Q
  obtain ⟨hW1, hW2, hW3, hW4, hW5, hW6, hW7, hW8, hW9, hW10, hW11, hW12, hW13, hW14, hW15⟩ := id hW
  have hpl : pa.length ≤ 8 := hX.2.1.choose_spec.2.2.2.1
  refine R_aload_n r_97_0 rfl (by decide) ?_
  refine R_getf r_97_1 (by decide) hX.1.1 rfl ?_
  refine R_call1 r_97_4 rfl (sm_rv1 rfl rfl hX.2.1.choose_spec.1) (Nat.le_of_ble_eq_true rfl) (Nat.le_of_ble_eq_true rfl) ?_
  refine c_pheight15 hX.2.1 ?_
  refine R_if_ne_N r_97_7 (by decide) (by omega) (fun h_1 => ?_) (fun h_1 => ?_)
  · obtain ⟨pa0, s, rfl⟩ : ∃ pa0 s, pa = pa0 ++ [s] := ⟨pa.dropLast, pa.getLast (by intro z; subst z; exact h_1 rfl), (List.dropLast_concat_getLast _).symm⟩
    refine R_aload_n r_97_13 rfl (by decide) ?_
    refine R_aload_n r_97_14 rfl (by decide) ?_
    refine R_getf r_97_15 (by decide) hX.1.1 rfl ?_
    refine R_aload_n r_97_18 rfl (by decide) ?_
    refine R_getf r_97_19 (by decide) hX.1.1 rfl ?_
    refine R_call2 r_97_22 rfl (sm_rv1 rfl rfl hX.2.1.choose_spec.1) (Nat.le_of_ble_eq_true rfl) (Nat.le_of_ble_eq_true rfl) ?_
    refine c_ptake15 hX.2.1 (fun w_2 hp_w_2 hf_w_2 => ?_)
    refine R_putf r_97_25 (cX.past hX hp_w_2 hf_w_2).1.1 (Nat.le_of_ble_eq_true rfl) rfl rfl ?_
    refine R_aload_n r_97_28 rfl (by decide) ?_
    refine R_getf r_97_29 (by decide) (cX.stand (cX.past hX hp_w_2 hf_w_2)).1.1.1 rfl ?_
    refine R_call1 r_97_32 rfl (sm_rv1 rfl rfl (cX.stand (cX.past hX hp_w_2 hf_w_2)).1.2.1.choose_spec.1) (Nat.le_of_ble_eq_true rfl) (Nat.le_of_ble_eq_true rfl) ?_
    refine c_pheight15 (cX.stand (cX.past hX hp_w_2 hf_w_2)).1.2.1 ?_
    refine R_iret r_97_35 (ty := .int) rfl rfl (by decide) ?_
    exact hQ pa0 s rfl _ (cX.stand (cX.past hX hp_w_2 hf_w_2)).1 (frm.tr (frm.tr frm.rf (frm.wide hf_w_2 (by decide) (by decide))) (frm.wide (cX.stand (cX.past hX hp_w_2 hf_w_2)).2 (by decide) (by decide)))
  · refine R_bipush r_97_10 (v := (-2)) rfl ?_
    refine R_iret r_97_12 (ty := .int) rfl rfl (by decide) ?_
    exact hB (List.length_eq_zero_iff.mp (by omega))
