/-! more of the class's public methods -/
section RB0
variable {xs : List Int32} {d j pc : Nat} {L : sm_L} {st : List Value} {wd : sm_W} {Q : Option Value → sm_W → Prop} {a b c : Nat}
theorem b2i_eqn0 (v : Bool) : b2i v = nI 0 ↔ v = false := by cases v <;> decide
theorem R_icmp_ne_b0 {off : Int} {v : Bool} (h : sm_ic j pc = some (.if_icmp .ne off, a, b, c)) (ht : (pc : Int) + off = (a : Int)) (kt : v = true → RT xs d j a L st wd Q) (kf : v = false → RT xs d j (pc + 3) L st wd Q) : RT xs d j pc L (.int (nI 0) :: .int (b2i v) :: st) wd Q := R_icmp_ne h ht (fun z => kt (by cases v; exact absurd rfl z; rfl)) (fun z => kf ((b2i_eqn0 v).mp z))
theorem R_icmp_eq_b0 {off : Int} {v : Bool} (h : sm_ic j pc = some (.if_icmp .eq off, a, b, c)) (ht : (pc : Int) + off = (a : Int)) (kt : v = false → RT xs d j a L st wd Q) (kf : v = true → RT xs d j (pc + 3) L st wd Q) : RT xs d j pc L (.int (nI 0) :: .int (b2i v) :: st) wd Q := R_icmp_eq h ht (fun z => kt ((b2i_eqn0 v).mp z)) (fun z => kf (by cases v; exact absurd rfl z; rfl))
end RB0
theorem hb_lt {w b : Nat} (hb : b < 5) : sHeld w ^^^ 1 <<< b < 32 := Nat.xor_lt_two_pow (n := 5) (spart_lt w 40 5) (by rw [Nat.one_shiftLeft]; exact Nat.pow_lt_pow_right (by decide) hb)
theorem c_hold {xs : List Int32} {d : Nat} {wd : sm_W} {Q : Option Value → sm_W → Prop} {tx : List Nat} {I : sm_Is} {w : Nat} {pa sh : List Nat} {sn : List (Nat × Nat)} (hX : cX wd tx I w pa sh sn) (hW : iWF I) (hw : w < 18446744073709551616) {x1 : Int32} (hB : inR x1 (iB I) = false → Q (some (.int (-1))) wd) (hQ : ∀ i, i < iB I → x1 = nI i → ∀ w2, cX w2 tx I (wHeld w (sHeld w ^^^ 1 <<< i)) (pushW 8 pa w) sh sn → frm 0 21 wd w2 → Q (some (.int (b2i ((sHeld w ^^^ 1 <<< i).testBit i)))) w2) : Ct xs (d + 4) 93 [.ref 0, .int x1] wd Q := by
  unfold Ct
  show RT xs (d + 4) 93 0 [some (.ref 0), some (.int x1), none] [] wd Q
  obtain ⟨hW1, hW2, hW3, hW4, hW5, hW6, hW7, hW8, hW9, hW10, hW11, hW12, hW13, hW14, hW15⟩ := id hW
  refine R_aload_n r_93_0 rfl (by decide) ?_
  refine R_iload_n r_93_1 rfl ?_
  refine R_call2 r_93_2 rfl (sm_rv1 rfl rfl hX.1.1) (Nat.le_of_ble_eq_true rfl) (Nat.le_of_ble_eq_true rfl) ?_
  refine c_isBoat hX.1 hW ?_
  refine R_if_ne_b r_93_5 (by decide) (fun h_1 => ?_) (fun h_1 => ?_)
  · refine R_aload_n r_93_10 rfl (by decide) ?_
    refine R_getf r_93_11 (by decide) hX.1.1 rfl ?_
    refine R_call1 r_93_14 rfl rfl (Nat.le_of_ble_eq_true rfl) (Nat.le_of_ble_eq_true rfl) ?_
    refine c_held hw ?_
    refine R_iconst r_93_17 (v := nI 1) rfl ?_
    obtain ⟨i, hi, rfl⟩ := inR_of (x := x1) (by assumption) (by omega)
    have hi5 : i < 5 := by omega
    have hb2 := hb_lt (w := w) hi5
    refine R_iload_n r_93_18 rfl ?_
    refine R_ishlN r_93_19 (by omega) ?_
    refine R_ixorN r_93_20 ?_
    refine R_istore_n r_93_21 rfl ?_
    refine R_aload_n r_93_22 rfl (by decide) ?_
    refine R_aload_n r_93_23 rfl (by decide) ?_
    refine R_getf r_93_24 (by decide) hX.1.1 rfl ?_
    refine R_iload_n r_93_27 rfl ?_
    refine R_call2 r_93_28 rfl rfl (Nat.le_of_ble_eq_true rfl) (Nat.le_of_ble_eq_true rfl) ?_
    refine c_withHeld hw (by omega) ?_
    refine R_call2 r_93_31 rfl (sm_rv1 rfl rfl hX.1.1) (Nat.le_of_ble_eq_true rfl) (Nat.le_of_ble_eq_true rfl) ?_
    refine c_change hX hW hw ?_ (fun w_2 hx_w_2 hf_w_2 => ?_)
    · exact wHeld_lt hw
    refine R_iload_n r_93_34 rfl ?_
    refine R_iload_n r_93_35 rfl ?_
    refine R_iushrN r_93_36 (by omega) (by omega) ?_
    refine R_iconst r_93_37 (v := nI 1) rfl ?_
    refine R_iandBit r_93_38 ?_
    refine R_iret r_93_39 (ty := .int) rfl rfl (by decide) ?_
    exact hQ i hi rfl _ hx_w_2 (frm.tr frm.rf (frm.wide hf_w_2 (by decide) (by decide)))
  · refine R_iconst r_93_8 (v := (-1)) rfl ?_
    refine R_iret r_93_9 (ty := .int) rfl rfl (by decide) ?_
    exact hB (by assumption)
theorem c_weather0 {xs : List Int32} {d : Nat} {wd : sm_W} {Q : Option Value → sm_W → Prop} {tx : List Nat} {I : sm_Is} {w : Nat} {pa sh : List Nat} {sn : List (Nat × Nat)} (hX : cX wd tx I w pa sh sn) (hW : iWF I) (hw : w < 18446744073709551616) (hQ : ∀ w2, cX w2 tx I (wWeather w (!sStorm w) (sIce w)) (pushW 8 pa w) sh sn → frm 0 21 wd w2 → Q (some (.int (b2i (!sStorm w)))) w2) : Ct xs (d + 4) 95 [.ref 0, .int (nI 0)] wd Q := by
  unfold Ct
  show RT xs (d + 4) 95 0 [some (.ref 0), some (.int (nI 0)), none, none] [] wd Q
  obtain ⟨hW1, hW2, hW3, hW4, hW5, hW6, hW7, hW8, hW9, hW10, hW11, hW12, hW13, hW14, hW15⟩ := id hW
  refine R_iload_n r_95_0 rfl ?_
  refine R_call1 r_95_1 rfl rfl (Nat.le_of_ble_eq_true rfl) (Nat.le_of_ble_eq_true rfl) ?_
  unfold Ct
  refine R_iload_n r_84_0 rfl ?_
  refine R_ifT r_84_1 (by decide) (by decide) ?_
  refine R_iconst r_84_9 (v := nI 1) rfl ?_
  refine R_goto r_84_10 (by decide) ?_
  refine R_iret r_84_14 (ty := .boolean) rfl (by decide) (by decide) ?_
  refine R_ifT r_95_4 (by decide) (by decide) ?_
  refine R_aload_n r_95_9 rfl (by decide) ?_
  refine R_getf r_95_10 (by decide) hX.1.1 rfl ?_
  refine R_call1 r_95_13 rfl rfl (Nat.le_of_ble_eq_true rfl) (Nat.le_of_ble_eq_true rfl) ?_
  refine c_storm hw ?_
  refine R_iload_n r_95_16 rfl ?_
  refine R_ifF r_95_17 (by decide) (by decide) ?_
  refine R_iconst r_95_20 (v := nI 1) rfl ?_
  refine R_goto r_95_21 (by decide) ?_
  refine R_icmp_eq_b1 r_95_25 (by decide) (fun h_1 => ?_) (fun h_1 => ?_)
  · refine R_iconst r_95_32 (v := nI 0) rfl ?_
    refine R_istore_n r_95_33 rfl ?_
    refine R_aload_n r_95_34 rfl (by decide) ?_
    refine R_getf r_95_35 (by decide) hX.1.1 rfl ?_
    refine R_call1 r_95_38 rfl rfl (Nat.le_of_ble_eq_true rfl) (Nat.le_of_ble_eq_true rfl) ?_
    refine c_ice hw ?_
    refine R_iload_n r_95_41 rfl ?_
    refine R_iconst r_95_42 (v := nI 1) rfl ?_
    refine R_icmpT r_95_43 (by decide) (by decide) ?_
    refine R_iconst r_95_50 (v := nI 0) rfl ?_
    refine R_icmp_eq_b0 r_95_51 (by decide) (fun h_2 => ?_) (fun h_2 => ?_)
    · refine R_iconst r_95_58 (v := nI 0) rfl ?_
      refine R_istore_n r_95_59 rfl ?_
      refine R_aload_n r_95_60 rfl (by decide) ?_
      refine R_aload_n r_95_61 rfl (by decide) ?_
      refine R_getf r_95_62 (by decide) hX.1.1 rfl ?_
      refine R_iload_n r_95_65 rfl ?_
      refine R_iload_n r_95_66 rfl ?_
      refine R_call3 r_95_67 rfl rfl (Nat.le_of_ble_eq_true rfl) (Nat.le_of_ble_eq_true rfl) ?_
      refine c_withWeather (s := false) (i := false) hw ?_
      refine R_call2 r_95_70 rfl (sm_rv1 rfl rfl hX.1.1) (Nat.le_of_ble_eq_true rfl) (Nat.le_of_ble_eq_true rfl) ?_
      refine c_change hX hW hw ?_ (fun w_3 hx_w_3 hf_w_3 => ?_)
      · exact wWeather_lt hw
      refine R_iload_n r_95_73 rfl ?_
      refine R_ifF r_95_74 (by decide) (by decide) ?_
      refine R_iload_n r_95_77 rfl ?_
      refine R_goto r_95_78 (by decide) ?_
      refine R_call1 r_95_82 rfl rfl (Nat.le_of_ble_eq_true rfl) (Nat.le_of_ble_eq_true rfl) ?_
      unfold Ct
      refine R_iload_n r_82_0 rfl ?_
      refine R_ifT r_82_1 (by decide) (by decide) ?_
      refine R_iconst r_82_8 (v := nI 0) rfl ?_
      refine R_iret r_82_9 (ty := .int) rfl rfl (by decide) ?_
      refine R_iret r_95_85 (ty := .int) rfl rfl (by decide) ?_
      cases e1 : sStorm w <;> cases e2 : sIce w <;> simp only [e1, e2, Bool.not_true, Bool.not_false] at hQ <;> first | exact hQ _ hx_w_3 (frm.tr frm.rf (frm.wide hf_w_3 (by decide) (by decide))) | (exfalso; simp_all; done)
    · refine R_iconst r_95_54 (v := nI 1) rfl ?_
      refine R_goto r_95_55 (by decide) ?_
      refine R_istore_n r_95_59 rfl ?_
      refine R_aload_n r_95_60 rfl (by decide) ?_
      refine R_aload_n r_95_61 rfl (by decide) ?_
      refine R_getf r_95_62 (by decide) hX.1.1 rfl ?_
      refine R_iload_n r_95_65 rfl ?_
      refine R_iload_n r_95_66 rfl ?_
      refine R_call3 r_95_67 rfl rfl (Nat.le_of_ble_eq_true rfl) (Nat.le_of_ble_eq_true rfl) ?_
      refine c_withWeather (s := false) (i := true) hw ?_
      refine R_call2 r_95_70 rfl (sm_rv1 rfl rfl hX.1.1) (Nat.le_of_ble_eq_true rfl) (Nat.le_of_ble_eq_true rfl) ?_
      refine c_change hX hW hw ?_ (fun w_4 hx_w_4 hf_w_4 => ?_)
      · exact wWeather_lt hw
      refine R_iload_n r_95_73 rfl ?_
      refine R_ifF r_95_74 (by decide) (by decide) ?_
      refine R_iload_n r_95_77 rfl ?_
      refine R_goto r_95_78 (by decide) ?_
      refine R_call1 r_95_82 rfl rfl (Nat.le_of_ble_eq_true rfl) (Nat.le_of_ble_eq_true rfl) ?_
      unfold Ct
      refine R_iload_n r_82_0 rfl ?_
      refine R_ifT r_82_1 (by decide) (by decide) ?_
      refine R_iconst r_82_8 (v := nI 0) rfl ?_
      refine R_iret r_82_9 (ty := .int) rfl rfl (by decide) ?_
      refine R_iret r_95_85 (ty := .int) rfl rfl (by decide) ?_
      cases e1 : sStorm w <;> cases e2 : sIce w <;> simp only [e1, e2, Bool.not_true, Bool.not_false] at hQ <;> first | exact hQ _ hx_w_4 (frm.tr frm.rf (frm.wide hf_w_4 (by decide) (by decide))) | (exfalso; simp_all; done)
  · refine R_iconst r_95_28 (v := nI 1) rfl ?_
    refine R_goto r_95_29 (by decide) ?_
    refine R_istore_n r_95_33 rfl ?_
    refine R_aload_n r_95_34 rfl (by decide) ?_
    refine R_getf r_95_35 (by decide) hX.1.1 rfl ?_
    refine R_call1 r_95_38 rfl rfl (Nat.le_of_ble_eq_true rfl) (Nat.le_of_ble_eq_true rfl) ?_
    refine c_ice hw ?_
    refine R_iload_n r_95_41 rfl ?_
    refine R_iconst r_95_42 (v := nI 1) rfl ?_
    refine R_icmpT r_95_43 (by decide) (by decide) ?_
    refine R_iconst r_95_50 (v := nI 0) rfl ?_
    refine R_icmp_eq_b0 r_95_51 (by decide) (fun h_5 => ?_) (fun h_5 => ?_)
    · refine R_iconst r_95_58 (v := nI 0) rfl ?_
      refine R_istore_n r_95_59 rfl ?_
      refine R_aload_n r_95_60 rfl (by decide) ?_
      refine R_aload_n r_95_61 rfl (by decide) ?_
      refine R_getf r_95_62 (by decide) hX.1.1 rfl ?_
      refine R_iload_n r_95_65 rfl ?_
      refine R_iload_n r_95_66 rfl ?_
      refine R_call3 r_95_67 rfl rfl (Nat.le_of_ble_eq_true rfl) (Nat.le_of_ble_eq_true rfl) ?_
      refine c_withWeather (s := true) (i := false) hw ?_
      refine R_call2 r_95_70 rfl (sm_rv1 rfl rfl hX.1.1) (Nat.le_of_ble_eq_true rfl) (Nat.le_of_ble_eq_true rfl) ?_
      refine c_change hX hW hw ?_ (fun w_6 hx_w_6 hf_w_6 => ?_)
      · exact wWeather_lt hw
      refine R_iload_n r_95_73 rfl ?_
      refine R_ifF r_95_74 (by decide) (by decide) ?_
      refine R_iload_n r_95_77 rfl ?_
      refine R_goto r_95_78 (by decide) ?_
      refine R_call1 r_95_82 rfl rfl (Nat.le_of_ble_eq_true rfl) (Nat.le_of_ble_eq_true rfl) ?_
      unfold Ct
      refine R_iload_n r_82_0 rfl ?_
      refine R_ifF r_82_1 (by decide) (by decide) ?_
      refine R_iconst r_82_4 (v := nI 1) rfl ?_
      refine R_goto r_82_5 (by decide) ?_
      refine R_iret r_82_9 (ty := .int) rfl rfl (by decide) ?_
      refine R_iret r_95_85 (ty := .int) rfl rfl (by decide) ?_
      cases e1 : sStorm w <;> cases e2 : sIce w <;> simp only [e1, e2, Bool.not_true, Bool.not_false] at hQ <;> first | exact hQ _ hx_w_6 (frm.tr frm.rf (frm.wide hf_w_6 (by decide) (by decide))) | (exfalso; simp_all; done)
    · refine R_iconst r_95_54 (v := nI 1) rfl ?_
      refine R_goto r_95_55 (by decide) ?_
      refine R_istore_n r_95_59 rfl ?_
      refine R_aload_n r_95_60 rfl (by decide) ?_
      refine R_aload_n r_95_61 rfl (by decide) ?_
      refine R_getf r_95_62 (by decide) hX.1.1 rfl ?_
      refine R_iload_n r_95_65 rfl ?_
      refine R_iload_n r_95_66 rfl ?_
      refine R_call3 r_95_67 rfl rfl (Nat.le_of_ble_eq_true rfl) (Nat.le_of_ble_eq_true rfl) ?_
      refine c_withWeather (s := true) (i := true) hw ?_
      refine R_call2 r_95_70 rfl (sm_rv1 rfl rfl hX.1.1) (Nat.le_of_ble_eq_true rfl) (Nat.le_of_ble_eq_true rfl) ?_
      refine c_change hX hW hw ?_ (fun w_7 hx_w_7 hf_w_7 => ?_)
      · exact wWeather_lt hw
      refine R_iload_n r_95_73 rfl ?_
      refine R_ifF r_95_74 (by decide) (by decide) ?_
      refine R_iload_n r_95_77 rfl ?_
      refine R_goto r_95_78 (by decide) ?_
      refine R_call1 r_95_82 rfl rfl (Nat.le_of_ble_eq_true rfl) (Nat.le_of_ble_eq_true rfl) ?_
      unfold Ct
      refine R_iload_n r_82_0 rfl ?_
      refine R_ifF r_82_1 (by decide) (by decide) ?_
      refine R_iconst r_82_4 (v := nI 1) rfl ?_
      refine R_goto r_82_5 (by decide) ?_
      refine R_iret r_82_9 (ty := .int) rfl rfl (by decide) ?_
      refine R_iret r_95_85 (ty := .int) rfl rfl (by decide) ?_
      cases e1 : sStorm w <;> cases e2 : sIce w <;> simp only [e1, e2, Bool.not_true, Bool.not_false] at hQ <;> first | exact hQ _ hx_w_7 (frm.tr frm.rf (frm.wide hf_w_7 (by decide) (by decide))) | (exfalso; simp_all; done)
theorem c_weather1 {xs : List Int32} {d : Nat} {wd : sm_W} {Q : Option Value → sm_W → Prop} {tx : List Nat} {I : sm_Is} {w : Nat} {pa sh : List Nat} {sn : List (Nat × Nat)} (hX : cX wd tx I w pa sh sn) (hW : iWF I) (hw : w < 18446744073709551616) (hQ : ∀ w2, cX w2 tx I (wWeather w (sStorm w) (!sIce w)) (pushW 8 pa w) sh sn → frm 0 21 wd w2 → Q (some (.int (b2i (!sIce w)))) w2) : Ct xs (d + 4) 95 [.ref 0, .int (nI 1)] wd Q := by
  unfold Ct
  show RT xs (d + 4) 95 0 [some (.ref 0), some (.int (nI 1)), none, none] [] wd Q
  obtain ⟨hW1, hW2, hW3, hW4, hW5, hW6, hW7, hW8, hW9, hW10, hW11, hW12, hW13, hW14, hW15⟩ := id hW
  refine R_iload_n r_95_0 rfl ?_
  refine R_call1 r_95_1 rfl rfl (Nat.le_of_ble_eq_true rfl) (Nat.le_of_ble_eq_true rfl) ?_
  unfold Ct
  refine R_iload_n r_84_0 rfl ?_
  refine R_ifF r_84_1 (by decide) (by decide) ?_
  refine R_iload_n r_84_4 rfl ?_
  refine R_iconst r_84_5 (v := nI 1) rfl ?_
  refine R_icmpF r_84_6 (by decide) (by decide) ?_
  refine R_iconst r_84_9 (v := nI 1) rfl ?_
  refine R_goto r_84_10 (by decide) ?_
  refine R_iret r_84_14 (ty := .boolean) rfl (by decide) (by decide) ?_
  refine R_ifT r_95_4 (by decide) (by decide) ?_
  refine R_aload_n r_95_9 rfl (by decide) ?_
  refine R_getf r_95_10 (by decide) hX.1.1 rfl ?_
  refine R_call1 r_95_13 rfl rfl (Nat.le_of_ble_eq_true rfl) (Nat.le_of_ble_eq_true rfl) ?_
  refine c_storm hw ?_
  refine R_iload_n r_95_16 rfl ?_
  refine R_ifT r_95_17 (by decide) (by decide) ?_
  refine R_iconst r_95_24 (v := nI 0) rfl ?_
  refine R_icmp_eq_b0 r_95_25 (by decide) (fun h_1 => ?_) (fun h_1 => ?_)
  · refine R_iconst r_95_32 (v := nI 0) rfl ?_
    refine R_istore_n r_95_33 rfl ?_
    refine R_aload_n r_95_34 rfl (by decide) ?_
    refine R_getf r_95_35 (by decide) hX.1.1 rfl ?_
    refine R_call1 r_95_38 rfl rfl (Nat.le_of_ble_eq_true rfl) (Nat.le_of_ble_eq_true rfl) ?_
    refine c_ice hw ?_
    refine R_iload_n r_95_41 rfl ?_
    refine R_iconst r_95_42 (v := nI 1) rfl ?_
    refine R_icmpF r_95_43 (by decide) (by decide) ?_
    refine R_iconst r_95_46 (v := nI 1) rfl ?_
    refine R_goto r_95_47 (by decide) ?_
    refine R_icmp_eq_b1 r_95_51 (by decide) (fun h_2 => ?_) (fun h_2 => ?_)
    · refine R_iconst r_95_58 (v := nI 0) rfl ?_
      refine R_istore_n r_95_59 rfl ?_
      refine R_aload_n r_95_60 rfl (by decide) ?_
      refine R_aload_n r_95_61 rfl (by decide) ?_
      refine R_getf r_95_62 (by decide) hX.1.1 rfl ?_
      refine R_iload_n r_95_65 rfl ?_
      refine R_iload_n r_95_66 rfl ?_
      refine R_call3 r_95_67 rfl rfl (Nat.le_of_ble_eq_true rfl) (Nat.le_of_ble_eq_true rfl) ?_
      refine c_withWeather (s := false) (i := false) hw ?_
      refine R_call2 r_95_70 rfl (sm_rv1 rfl rfl hX.1.1) (Nat.le_of_ble_eq_true rfl) (Nat.le_of_ble_eq_true rfl) ?_
      refine c_change hX hW hw ?_ (fun w_3 hx_w_3 hf_w_3 => ?_)
      · exact wWeather_lt hw
      refine R_iload_n r_95_73 rfl ?_
      refine R_ifT r_95_74 (by decide) (by decide) ?_
      refine R_iload_n r_95_81 rfl ?_
      refine R_call1 r_95_82 rfl rfl (Nat.le_of_ble_eq_true rfl) (Nat.le_of_ble_eq_true rfl) ?_
      unfold Ct
      refine R_iload_n r_82_0 rfl ?_
      refine R_ifT r_82_1 (by decide) (by decide) ?_
      refine R_iconst r_82_8 (v := nI 0) rfl ?_
      refine R_iret r_82_9 (ty := .int) rfl rfl (by decide) ?_
      refine R_iret r_95_85 (ty := .int) rfl rfl (by decide) ?_
      cases e1 : sStorm w <;> cases e2 : sIce w <;> simp only [e1, e2, Bool.not_true, Bool.not_false] at hQ <;> first | exact hQ _ hx_w_3 (frm.tr frm.rf (frm.wide hf_w_3 (by decide) (by decide))) | (exfalso; simp_all; done)
    · refine R_iconst r_95_54 (v := nI 1) rfl ?_
      refine R_goto r_95_55 (by decide) ?_
      refine R_istore_n r_95_59 rfl ?_
      refine R_aload_n r_95_60 rfl (by decide) ?_
      refine R_aload_n r_95_61 rfl (by decide) ?_
      refine R_getf r_95_62 (by decide) hX.1.1 rfl ?_
      refine R_iload_n r_95_65 rfl ?_
      refine R_iload_n r_95_66 rfl ?_
      refine R_call3 r_95_67 rfl rfl (Nat.le_of_ble_eq_true rfl) (Nat.le_of_ble_eq_true rfl) ?_
      refine c_withWeather (s := false) (i := true) hw ?_
      refine R_call2 r_95_70 rfl (sm_rv1 rfl rfl hX.1.1) (Nat.le_of_ble_eq_true rfl) (Nat.le_of_ble_eq_true rfl) ?_
      refine c_change hX hW hw ?_ (fun w_4 hx_w_4 hf_w_4 => ?_)
      · exact wWeather_lt hw
      refine R_iload_n r_95_73 rfl ?_
      refine R_ifT r_95_74 (by decide) (by decide) ?_
      refine R_iload_n r_95_81 rfl ?_
      refine R_call1 r_95_82 rfl rfl (Nat.le_of_ble_eq_true rfl) (Nat.le_of_ble_eq_true rfl) ?_
      unfold Ct
      refine R_iload_n r_82_0 rfl ?_
      refine R_ifF r_82_1 (by decide) (by decide) ?_
      refine R_iconst r_82_4 (v := nI 1) rfl ?_
      refine R_goto r_82_5 (by decide) ?_
      refine R_iret r_82_9 (ty := .int) rfl rfl (by decide) ?_
      refine R_iret r_95_85 (ty := .int) rfl rfl (by decide) ?_
      cases e1 : sStorm w <;> cases e2 : sIce w <;> simp only [e1, e2, Bool.not_true, Bool.not_false] at hQ <;> first | exact hQ _ hx_w_4 (frm.tr frm.rf (frm.wide hf_w_4 (by decide) (by decide))) | (exfalso; simp_all; done)
  · refine R_iconst r_95_28 (v := nI 1) rfl ?_
    refine R_goto r_95_29 (by decide) ?_
    refine R_istore_n r_95_33 rfl ?_
    refine R_aload_n r_95_34 rfl (by decide) ?_
    refine R_getf r_95_35 (by decide) hX.1.1 rfl ?_
    refine R_call1 r_95_38 rfl rfl (Nat.le_of_ble_eq_true rfl) (Nat.le_of_ble_eq_true rfl) ?_
    refine c_ice hw ?_
    refine R_iload_n r_95_41 rfl ?_
    refine R_iconst r_95_42 (v := nI 1) rfl ?_
    refine R_icmpF r_95_43 (by decide) (by decide) ?_
    refine R_iconst r_95_46 (v := nI 1) rfl ?_
    refine R_goto r_95_47 (by decide) ?_
    refine R_icmp_eq_b1 r_95_51 (by decide) (fun h_5 => ?_) (fun h_5 => ?_)
    · refine R_iconst r_95_58 (v := nI 0) rfl ?_
      refine R_istore_n r_95_59 rfl ?_
      refine R_aload_n r_95_60 rfl (by decide) ?_
      refine R_aload_n r_95_61 rfl (by decide) ?_
      refine R_getf r_95_62 (by decide) hX.1.1 rfl ?_
      refine R_iload_n r_95_65 rfl ?_
      refine R_iload_n r_95_66 rfl ?_
      refine R_call3 r_95_67 rfl rfl (Nat.le_of_ble_eq_true rfl) (Nat.le_of_ble_eq_true rfl) ?_
      refine c_withWeather (s := true) (i := false) hw ?_
      refine R_call2 r_95_70 rfl (sm_rv1 rfl rfl hX.1.1) (Nat.le_of_ble_eq_true rfl) (Nat.le_of_ble_eq_true rfl) ?_
      refine c_change hX hW hw ?_ (fun w_6 hx_w_6 hf_w_6 => ?_)
      · exact wWeather_lt hw
      refine R_iload_n r_95_73 rfl ?_
      refine R_ifT r_95_74 (by decide) (by decide) ?_
      refine R_iload_n r_95_81 rfl ?_
      refine R_call1 r_95_82 rfl rfl (Nat.le_of_ble_eq_true rfl) (Nat.le_of_ble_eq_true rfl) ?_
      unfold Ct
      refine R_iload_n r_82_0 rfl ?_
      refine R_ifT r_82_1 (by decide) (by decide) ?_
      refine R_iconst r_82_8 (v := nI 0) rfl ?_
      refine R_iret r_82_9 (ty := .int) rfl rfl (by decide) ?_
      refine R_iret r_95_85 (ty := .int) rfl rfl (by decide) ?_
      cases e1 : sStorm w <;> cases e2 : sIce w <;> simp only [e1, e2, Bool.not_true, Bool.not_false] at hQ <;> first | exact hQ _ hx_w_6 (frm.tr frm.rf (frm.wide hf_w_6 (by decide) (by decide))) | (exfalso; simp_all; done)
    · refine R_iconst r_95_54 (v := nI 1) rfl ?_
      refine R_goto r_95_55 (by decide) ?_
      refine R_istore_n r_95_59 rfl ?_
      refine R_aload_n r_95_60 rfl (by decide) ?_
      refine R_aload_n r_95_61 rfl (by decide) ?_
      refine R_getf r_95_62 (by decide) hX.1.1 rfl ?_
      refine R_iload_n r_95_65 rfl ?_
      refine R_iload_n r_95_66 rfl ?_
      refine R_call3 r_95_67 rfl rfl (Nat.le_of_ble_eq_true rfl) (Nat.le_of_ble_eq_true rfl) ?_
      refine c_withWeather (s := true) (i := true) hw ?_
      refine R_call2 r_95_70 rfl (sm_rv1 rfl rfl hX.1.1) (Nat.le_of_ble_eq_true rfl) (Nat.le_of_ble_eq_true rfl) ?_
      refine c_change hX hW hw ?_ (fun w_7 hx_w_7 hf_w_7 => ?_)
      · exact wWeather_lt hw
      refine R_iload_n r_95_73 rfl ?_
      refine R_ifT r_95_74 (by decide) (by decide) ?_
      refine R_iload_n r_95_81 rfl ?_
      refine R_call1 r_95_82 rfl rfl (Nat.le_of_ble_eq_true rfl) (Nat.le_of_ble_eq_true rfl) ?_
      unfold Ct
      refine R_iload_n r_82_0 rfl ?_
      refine R_ifF r_82_1 (by decide) (by decide) ?_
      refine R_iconst r_82_4 (v := nI 1) rfl ?_
      refine R_goto r_82_5 (by decide) ?_
      refine R_iret r_82_9 (ty := .int) rfl rfl (by decide) ?_
      refine R_iret r_95_85 (ty := .int) rfl rfl (by decide) ?_
      cases e1 : sStorm w <;> cases e2 : sIce w <;> simp only [e1, e2, Bool.not_true, Bool.not_false] at hQ <;> first | exact hQ _ hx_w_7 (frm.tr frm.rf (frm.wide hf_w_7 (by decide) (by decide))) | (exfalso; simp_all; done)
theorem c_weatherB {xs : List Int32} {d : Nat} {wd : sm_W} {Q : Option Value → sm_W → Prop} {tx : List Nat} {I : sm_Is} {w : Nat} {pa sh : List Nat} {sn : List (Nat × Nat)} (hX : cX wd tx I w pa sh sn) (hW : iWF I) (hw : w < 18446744073709551616) {x1 : Int32} (h : inR x1 2 = false) (hB : Q (some (.int (-1))) wd) : Ct xs (d + 4) 95 [.ref 0, .int x1] wd Q := by
  unfold Ct
  show RT xs (d + 4) 95 0 [some (.ref 0), some (.int x1), none, none] [] wd Q
  obtain ⟨hW1, hW2, hW3, hW4, hW5, hW6, hW7, hW8, hW9, hW10, hW11, hW12, hW13, hW14, hW15⟩ := id hW
  refine R_iload_n r_95_0 rfl ?_
  refine R_call1 r_95_1 rfl rfl (Nat.le_of_ble_eq_true rfl) (Nat.le_of_ble_eq_true rfl) ?_
  refine c_isEither ?_
  refine R_if_ne_b r_95_4 (by decide) (fun h_1 => ?_) (fun h_1 => ?_)
  · exact absurd h_1 (by rw [h]; decide)
  · refine R_iconst r_95_7 (v := (-1)) rfl ?_
    refine R_iret r_95_8 (ty := .int) rfl rfl (by decide) ?_
    exact hB
theorem c_keep {xs : List Int32} {d : Nat} {wd : sm_W} {Q : Option Value → sm_W → Prop} {tx : List Nat} {I : sm_Is} {w : Nat} {pa sh : List Nat} {sn : List (Nat × Nat)} (hX : cX wd tx I w pa sh sn) (hW : iWF I) (hw : w < 18446744073709551616) (hB : sh.length = 2 → Q (some (.int (-3))) wd) (hQ : sh.length < 2 → ∀ w2, cX w2 tx I w pa (sh ++ [w]) sn → frm 0 21 wd w2 → Q (some (.int (nI (sh.length + 1)))) w2) : Ct xs (d + 3) 123 [.ref 0] wd Q := by
  unfold Ct
  show RT xs (d + 3) 123 0 [some (.ref 0)] [] wd Q
  obtain ⟨hW1, hW2, hW3, hW4, hW5, hW6, hW7, hW8, hW9, hW10, hW11, hW12, hW13, hW14, hW15⟩ := id hW
  have hsl : sh.length ≤ 2 := hX.2.2.1.choose_spec.2.2.2.1
  refine R_aload_n r_123_0 rfl (by decide) ?_
  refine R_getf r_123_1 (by decide) hX.1.1 rfl ?_
  refine R_call1 r_123_4 rfl (sm_rv1 rfl rfl hX.2.2.1.choose_spec.1) (Nat.le_of_ble_eq_true rfl) (Nat.le_of_ble_eq_true rfl) ?_
  refine c_pheight17 hX.2.2.1 ?_
  refine R_iconst r_123_7 (v := nI 2) rfl ?_
  refine R_icmp_lt_N r_123_8 (by decide) (by omega) (by omega) (fun h_1 => ?_) (fun h_1 => ?_)
  · refine R_aload_n r_123_14 rfl (by decide) ?_
    refine R_getf r_123_15 (by decide) hX.1.1 rfl ?_
    refine R_aload_n r_123_18 rfl (by decide) ?_
    refine R_getf r_123_19 (by decide) hX.1.1 rfl ?_
    refine R_call2 r_123_22 rfl (sm_rv1 rfl rfl hX.2.2.1.choose_spec.1) (Nat.le_of_ble_eq_true rfl) (Nat.le_of_ble_eq_true rfl) ?_
    refine c_put17 hX.2.2.1 (fun w_2 hp_w_2 hf_w_2 => ?_)
    refine R_aload_n r_123_25 rfl (by decide) ?_
    refine R_getf r_123_26 (by decide) (cX.shelf hX hp_w_2 hf_w_2).1.1 rfl ?_
    refine R_call1 r_123_29 rfl (sm_rv1 rfl rfl (cX.shelf hX hp_w_2 hf_w_2).2.2.1.choose_spec.1) (Nat.le_of_ble_eq_true rfl) (Nat.le_of_ble_eq_true rfl) ?_
    refine c_pheight17 (cX.shelf hX hp_w_2 hf_w_2).2.2.1 ?_
    refine R_iret r_123_32 (ty := .int) rfl rfl (by decide) ?_
    have e : pushW 2 sh w = sh ++ [w] := by unfold pushW; rw [if_neg (by omega)]
    have h9 := hQ (by omega) _ (by have h8 := (cX.shelf hX hp_w_2 hf_w_2); rw [e] at h8; exact h8) (frm.tr frm.rf (frm.wide hf_w_2 (by decide) (by decide)))
    have e2 : (pushW 2 sh w).length = sh.length + 1 := by rw [e]; simp
    rw [e2]; exact h9
  · refine R_bipush r_123_11 (v := (-3)) rfl ?_
    refine R_iret r_123_13 (ty := .int) rfl rfl (by decide) ?_
    exact hB (by omega)
theorem c_back {xs : List Int32} {d : Nat} {wd : sm_W} {Q : Option Value → sm_W → Prop} {tx : List Nat} {I : sm_Is} {w : Nat} {pa sh : List Nat} {sn : List (Nat × Nat)} (hX : cX wd tx I w pa sh sn) (hW : iWF I) (hw : w < 18446744073709551616) (hB : sh = [] → Q (some (.int (-2))) wd) (hQ : ∀ sh0 s, sh = sh0 ++ [s] → ∀ w2, cX w2 tx I s [] sh0 sn → frm 0 21 wd w2 → Q (some (.int (nI sh0.length))) w2) : Ct xs (d + 2) 124 [.ref 0] wd Q := by
  unfold Ct
  show RT xs (d + 2) 124 0 [some (.ref 0)] [] wd Q
  obtain ⟨hW1, hW2, hW3, hW4, hW5, hW6, hW7, hW8, hW9, hW10, hW11, hW12, hW13, hW14, hW15⟩ := id hW
  have hsl : sh.length ≤ 2 := hX.2.2.1.choose_spec.2.2.2.1
  refine R_aload_n r_124_0 rfl (by decide) ?_
  refine R_getf r_124_1 (by decide) hX.1.1 rfl ?_
  refine R_call1 r_124_4 rfl (sm_rv1 rfl rfl hX.2.2.1.choose_spec.1) (Nat.le_of_ble_eq_true rfl) (Nat.le_of_ble_eq_true rfl) ?_
  refine c_pheight17 hX.2.2.1 ?_
  refine R_if_ne_N r_124_7 (by decide) (by omega) (fun h_1 => ?_) (fun h_1 => ?_)
  · obtain ⟨sh0, s, rfl⟩ : ∃ sh0 s, sh = sh0 ++ [s] := ⟨sh.dropLast, sh.getLast (by intro z; subst z; exact h_1 rfl), (List.dropLast_concat_getLast _).symm⟩
    refine R_aload_n r_124_13 rfl (by decide) ?_
    refine R_aload_n r_124_14 rfl (by decide) ?_
    refine R_getf r_124_15 (by decide) hX.1.1 rfl ?_
    refine R_aload_n r_124_18 rfl (by decide) ?_
    refine R_getf r_124_19 (by decide) hX.1.1 rfl ?_
    refine R_call2 r_124_22 rfl (sm_rv1 rfl rfl hX.2.2.1.choose_spec.1) (Nat.le_of_ble_eq_true rfl) (Nat.le_of_ble_eq_true rfl) ?_
    refine c_ptake17 hX.2.2.1 (fun w_2 hp_w_2 hf_w_2 => ?_)
    refine R_putf r_124_25 (cX.shelf hX hp_w_2 hf_w_2).1.1 (Nat.le_of_ble_eq_true rfl) rfl rfl ?_
    refine R_aload_n r_124_28 rfl (by decide) ?_
    refine R_getf r_124_29 (by decide) (cX.stand (cX.shelf hX hp_w_2 hf_w_2)).1.1.1 rfl ?_
    refine R_call1 r_124_32 rfl (sm_rv1 rfl rfl (cX.stand (cX.shelf hX hp_w_2 hf_w_2)).1.2.1.choose_spec.1) (Nat.le_of_ble_eq_true rfl) (Nat.le_of_ble_eq_true rfl) ?_
    refine c_pclear15 (cX.stand (cX.shelf hX hp_w_2 hf_w_2)).1.2.1 (fun w_3 hp_w_3 hf_w_3 => ?_)
    refine R_aload_n r_124_35 rfl (by decide) ?_
    refine R_getf r_124_36 (by decide) (cX.past (cX.stand (cX.shelf hX hp_w_2 hf_w_2)).1 hp_w_3 hf_w_3).1.1 rfl ?_
    refine R_call1 r_124_39 rfl (sm_rv1 rfl rfl (cX.past (cX.stand (cX.shelf hX hp_w_2 hf_w_2)).1 hp_w_3 hf_w_3).2.2.1.choose_spec.1) (Nat.le_of_ble_eq_true rfl) (Nat.le_of_ble_eq_true rfl) ?_
    refine c_pheight17 (cX.past (cX.stand (cX.shelf hX hp_w_2 hf_w_2)).1 hp_w_3 hf_w_3).2.2.1 ?_
    refine R_iret r_124_42 (ty := .int) rfl rfl (by decide) ?_
    exact hQ sh0 s rfl _ (cX.past (cX.stand (cX.shelf hX hp_w_2 hf_w_2)).1 hp_w_3 hf_w_3) (frm.tr (frm.tr (frm.tr frm.rf (frm.wide hf_w_2 (by decide) (by decide))) (frm.wide (cX.stand (cX.shelf hX hp_w_2 hf_w_2)).2 (by decide) (by decide))) (frm.wide hf_w_3 (by decide) (by decide)))
  · refine R_bipush r_124_10 (v := (-2)) rfl ?_
    refine R_iret r_124_12 (ty := .int) rfl rfl (by decide) ?_
    exact hB (List.length_eq_zero_iff.mp (by omega))
theorem c_forget {xs : List Int32} {d : Nat} {wd : sm_W} {Q : Option Value → sm_W → Prop} {tx : List Nat} {I : sm_Is} {w : Nat} {pa sh : List Nat} {sn : List (Nat × Nat)} (hX : cX wd tx I w pa sh sn) (hW : iWF I) (hw : w < 18446744073709551616) (hQ : ∀ w2, cX w2 tx I w pa sh [] → frm 0 21 wd w2 → Q (some (.int (nI sn.length))) w2) : Ct xs (d + 1) 110 [.ref 0] wd Q := by
  unfold Ct
  show RT xs (d + 1) 110 0 [some (.ref 0), none] [] wd Q
  obtain ⟨hW1, hW2, hW3, hW4, hW5, hW6, hW7, hW8, hW9, hW10, hW11, hW12, hW13, hW14, hW15⟩ := id hW
  refine R_aload_n r_110_0 rfl (by decide) ?_
  refine R_getf r_110_1 (by decide) hX.1.1 rfl ?_
  refine R_call1 r_110_4 rfl (sm_rv1 rfl rfl hX.2.2.2.1.choose_spec.choose_spec.1) (Nat.le_of_ble_eq_true rfl) (Nat.le_of_ble_eq_true rfl) ?_
  refine c_ssize hX.2.2.2.1 ?_
  refine R_istore_n r_110_7 rfl ?_
  refine R_aload_n r_110_8 rfl (by decide) ?_
  refine R_getf r_110_9 (by decide) hX.1.1 rfl ?_
  refine R_call1 r_110_12 rfl (sm_rv1 rfl rfl hX.2.2.2.1.choose_spec.choose_spec.1) (Nat.le_of_ble_eq_true rfl) (Nat.le_of_ble_eq_true rfl) ?_
  refine c_sclear hX.2.2.2.1 (fun w_1 hp_w_1 hf_w_1 => ?_)
  refine R_iload_n r_110_15 rfl ?_
  refine R_iret r_110_16 (ty := .int) rfl rfl (by decide) ?_
  exact hQ _ (cX.seen hX hp_w_1 hf_w_1) (frm.tr frm.rf (frm.wide hf_w_1 (by decide) (by decide)))
theorem c_wipe {xs : List Int32} {d : Nat} {wd : sm_W} {Q : Option Value → sm_W → Prop} {tx : List Nat} {I : sm_Is} {w : Nat} {pa sh : List Nat} {sn : List (Nat × Nat)} (hX : cX wd tx I w pa sh sn) (hW : iWF I) (hw : w < 18446744073709551616) (hQ : ∀ w2, cX w2 [] I w pa sh sn → frm 0 21 wd w2 → Q (some (.int (nI tx.length))) w2) : Ct xs (d + 1) 45 [.ref 0] wd Q := by
  unfold Ct
  show RT xs (d + 1) 45 0 [some (.ref 0), none] [] wd Q
  obtain ⟨hW1, hW2, hW3, hW4, hW5, hW6, hW7, hW8, hW9, hW10, hW11, hW12, hW13, hW14, hW15⟩ := id hW
  refine R_aload_n r_45_0 rfl (by decide) ?_
  refine R_getf r_45_1 (by decide) hX.1.1 rfl ?_
  refine R_call1 r_45_4 rfl (sm_rv1 rfl rfl hX.2.2.2.2.1.choose_spec.1) (Nat.le_of_ble_eq_true rfl) (Nat.le_of_ble_eq_true rfl) ?_
  refine c_tlength hX.2.2.2.2.1 ?_
  refine R_istore_n r_45_7 rfl ?_
  refine R_aload_n r_45_8 rfl (by decide) ?_
  refine R_getf r_45_9 (by decide) hX.1.1 rfl ?_
  refine R_call1 r_45_12 rfl (sm_rv1 rfl rfl hX.2.2.2.2.1.choose_spec.1) (Nat.le_of_ble_eq_true rfl) (Nat.le_of_ble_eq_true rfl) ?_
  refine c_tclear hX.2.2.2.2.1 (fun w_1 hp_w_1 hf_w_1 => ?_)
  refine R_iload_n r_45_15 rfl ?_
  refine R_iret r_45_16 (ty := .int) rfl rfl (by decide) ?_
  exact hQ _ (cX.text hX hp_w_1 hf_w_1) (frm.tr frm.rf (frm.wide hf_w_1 (by decide) (by decide)))
theorem rngc {x : Int32} (h : ¬ x < nI 32) (h2 : x ≤ nI 126) : ∃ ch, 32 ≤ ch ∧ ch ≤ 126 ∧ x = nI ch := by
  have h3 : ¬ x < 0 := fun z => h (by
    rw [Int32.lt_iff_toInt_lt] at z ⊢
    rw [nI_toInt (by decide)]
    have h0 : (0 : Int32).toInt = 0 := rfl
    omega)
  obtain ⟨q, hq, rfl⟩ := nI_of h3
  refine ⟨q, ?_, (nI_leI hq (by decide)).mp h2, rfl⟩
  exact Nat.not_lt.mp (fun z => h ((nI_ltI hq (by decide)).mpr z))
theorem c_write {xs : List Int32} {d : Nat} {wd : sm_W} {Q : Option Value → sm_W → Prop} {tx : List Nat} {I : sm_Is} {w : Nat} {pa sh : List Nat} {sn : List (Nat × Nat)} (hX : cX wd tx I w pa sh sn) (hW : iWF I) (hw : w < 18446744073709551616) {x1 : Int32} (hB1 : x1 < nI 32 → Q (some (.int (-1))) wd) (hB2 : ¬ x1 ≤ nI 126 → Q (some (.int (-1))) wd) (hF : ∀ ch, 32 ≤ ch → ch ≤ 126 → x1 = nI ch → tx.length = 200 → Q (some (.int (-3))) wd) (hQ : ∀ ch, 32 ≤ ch → ch ≤ 126 → x1 = nI ch → tx.length < 200 → ∀ w2, cX w2 (tx ++ [ch]) I w pa sh sn → frm 0 21 wd w2 → Q (some (.int (nI (tx.length + 1)))) w2) : Ct xs (d + 1) 44 [.ref 0, .int x1] wd Q := by
  unfold Ct
  show RT xs (d + 1) 44 0 [some (.ref 0), some (.int x1)] [] wd Q
  obtain ⟨hW1, hW2, hW3, hW4, hW5, hW6, hW7, hW8, hW9, hW10, hW11, hW12, hW13, hW14, hW15⟩ := id hW
  refine R_iload_n r_44_0 rfl ?_
  refine R_bipush r_44_1 (v := nI 32) rfl ?_
  refine R_icmp_lt r_44_3 (by decide) (fun h_1 => ?_) (fun h_1 => ?_)
  · refine R_iconst r_44_12 (v := (-1)) rfl ?_
    refine R_iret r_44_13 (ty := .int) rfl rfl (by decide) ?_
    first | exact hB1 (by assumption) | exact hB2 (by assumption)
  · refine R_iload_n r_44_6 rfl ?_
    refine R_bipush r_44_7 (v := nI 126) rfl ?_
    refine R_icmp_le r_44_9 (by decide) (fun h_2 => ?_) (fun h_2 => ?_)
    · refine R_aload_n r_44_14 rfl (by decide) ?_
      refine R_getf r_44_15 (by decide) hX.1.1 rfl ?_
      obtain ⟨ch, hc1, hc2, rfl⟩ := rngc (x := x1) (by assumption) (by assumption)
      refine R_iload_n r_44_18 rfl ?_
      refine R_call2 r_44_19 rfl (sm_rv1 rfl rfl hX.2.2.2.2.1.choose_spec.1) (Nat.le_of_ble_eq_true rfl) (Nat.le_of_ble_eq_true rfl) ?_
      refine c_append hX.2.2.2.2.1 (ch := ch) (by omega) (fun hfull => ?_) (fun hlt w_3 hp_w_3 hf_w_3 => ?_)
      · refine R_ifT r_44_22 (by decide) (by decide) ?_
        refine R_bipush r_44_35 (v := (-3)) rfl ?_
        refine R_iret r_44_37 (ty := .int) rfl rfl (by decide) ?_
        exact hF ch hc1 hc2 rfl hfull
      · refine R_ifF r_44_22 (by decide) (by decide) ?_
        refine R_aload_n r_44_25 rfl (by decide) ?_
        refine R_getf r_44_26 (by decide) (cX.text hX hp_w_3 hf_w_3).1.1 rfl ?_
        refine R_call1 r_44_29 rfl (sm_rv1 rfl rfl (cX.text hX hp_w_3 hf_w_3).2.2.2.2.1.choose_spec.1) (Nat.le_of_ble_eq_true rfl) (Nat.le_of_ble_eq_true rfl) ?_
        refine c_tlength (cX.text hX hp_w_3 hf_w_3).2.2.2.2.1 ?_
        refine R_goto r_44_32 (by decide) ?_
        refine R_iret r_44_37 (ty := .int) rfl rfl (by decide) ?_
        rw [List.length_append]
        exact hQ ch hc1 hc2 rfl hlt _ (cX.text hX hp_w_3 hf_w_3) (frm.tr frm.rf (frm.wide hf_w_3 (by decide) (by decide)))
    · refine R_iconst r_44_12 (v := (-1)) rfl ?_
      refine R_iret r_44_13 (ty := .int) rfl rfl (by decide) ?_
      first | exact hB1 (by assumption) | exact hB2 (by assumption)
theorem c_seen {xs : List Int32} {d : Nat} {wd : sm_W} {Q : Option Value → sm_W → Prop} {tx : List Nat} {I : sm_Is} {w : Nat} {pa sh : List Nat} {sn : List (Nat × Nat)} (hX : cX wd tx I w pa sh sn) (hW : iWF I) (hw : w < 18446744073709551616) {x1 x2 : Int32} (hB : (inR x1 2 && inR x2 9) = false → Q (some (.int (-1))) wd) (hF : ∀ q n, q < 2 → n < 9 → x1 = nI q → x2 = nI n → sn.length = 8 → Q (some (.int (-3))) wd) (hQ : ∀ q n, q < 2 → n < 9 → x1 = nI q → x2 = nI n → sn.length < 8 → ∀ w2, cX w2 tx I w pa sh (sn ++ [(q, n)]) → frm 0 21 wd w2 → Q (some (.int (nI (sn.length + 1)))) w2) : Ct xs (d + 1) 107 [.ref 0, .int x1, .int x2] wd Q := by
  unfold Ct
  show RT xs (d + 1) 107 0 [some (.ref 0), some (.int x1), some (.int x2)] [] wd Q
  obtain ⟨hW1, hW2, hW3, hW4, hW5, hW6, hW7, hW8, hW9, hW10, hW11, hW12, hW13, hW14, hW15⟩ := id hW
  refine R_iload_n r_107_0 rfl ?_
  refine R_call1 r_107_1 rfl rfl (Nat.le_of_ble_eq_true rfl) (Nat.le_of_ble_eq_true rfl) ?_
  refine c_isQuestion ?_
  refine R_if_eq_b r_107_4 (by decide) (fun h_1 => ?_) (fun h_1 => ?_)
  · refine R_iconst r_107_17 (v := (-1)) rfl ?_
    refine R_iret r_107_18 (ty := .int) rfl rfl (by decide) ?_
    first | exact hB (by rw [show inR x1 2 = false from by assumption]; rfl) | exact hB (by rw [inR_f1 (x := x2) (by assumption), Bool.and_false]) | exact hB (by rw [inR_g (n := 8) (x := x2) (by assumption) (by decide), Bool.and_false])
  · refine R_iload_n r_107_7 rfl ?_
    refine R_if_lt r_107_8 (by decide) (fun h_2 => ?_) (fun h_2 => ?_)
    · refine R_iconst r_107_17 (v := (-1)) rfl ?_
      refine R_iret r_107_18 (ty := .int) rfl rfl (by decide) ?_
      first | exact hB (by rw [show inR x1 2 = false from by assumption]; rfl) | exact hB (by rw [inR_f1 (x := x2) (by assumption), Bool.and_false]) | exact hB (by rw [inR_g (n := 8) (x := x2) (by assumption) (by decide), Bool.and_false])
    · refine R_iload_n r_107_11 rfl ?_
      refine R_bipush r_107_12 (v := nI 8) rfl ?_
      refine R_icmp_le r_107_14 (by decide) (fun h_3 => ?_) (fun h_3 => ?_)
      · refine R_aload_n r_107_19 rfl (by decide) ?_
        refine R_getf r_107_20 (by decide) hX.1.1 rfl ?_
        obtain ⟨n, hn, rfl⟩ := rng0 (n := 8) (x := x2) (by assumption) (by assumption) (by decide)
        obtain ⟨q, hq, rfl⟩ := inR_of (x := x1) (by assumption) (by decide)
        refine R_iload_n r_107_23 rfl ?_
        refine R_iload_n r_107_24 rfl ?_
        refine R_call3 r_107_25 rfl (sm_rv1 rfl rfl hX.2.2.2.1.choose_spec.choose_spec.1) (Nat.le_of_ble_eq_true rfl) (Nat.le_of_ble_eq_true rfl) ?_
        refine c_sadd hX.2.2.2.1 (fun hfull => ?_) (fun hlt w_4 hp_w_4 hf_w_4 => ?_)
        · refine R_ifT r_107_28 (by decide) (by decide) ?_
          refine R_bipush r_107_41 (v := (-3)) rfl ?_
          refine R_iret r_107_43 (ty := .int) rfl rfl (by decide) ?_
          exact hF q n hq hn rfl rfl hfull
        · refine R_ifF r_107_28 (by decide) (by decide) ?_
          refine R_aload_n r_107_31 rfl (by decide) ?_
          refine R_getf r_107_32 (by decide) (cX.seen hX hp_w_4 hf_w_4).1.1 rfl ?_
          refine R_call1 r_107_35 rfl (sm_rv1 rfl rfl (cX.seen hX hp_w_4 hf_w_4).2.2.2.1.choose_spec.choose_spec.1) (Nat.le_of_ble_eq_true rfl) (Nat.le_of_ble_eq_true rfl) ?_
          refine c_ssize (cX.seen hX hp_w_4 hf_w_4).2.2.2.1 ?_
          refine R_goto r_107_38 (by decide) ?_
          refine R_iret r_107_43 (ty := .int) rfl rfl (by decide) ?_
          rw [List.length_append]
          exact hQ q n hq hn rfl rfl hlt _ (cX.seen hX hp_w_4 hf_w_4) (frm.tr frm.rf (frm.wide hf_w_4 (by decide) (by decide)))
      · refine R_iconst r_107_17 (v := (-1)) rfl ?_
        refine R_iret r_107_18 (ty := .int) rfl rfl (by decide) ?_
        first | exact hB (by rw [show inR x1 2 = false from by assumption]; rfl) | exact hB (by rw [inR_f1 (x := x2) (by assumption), Bool.and_false]) | exact hB (by rw [inR_g (n := 8) (x := x2) (by assumption) (by decide), Bool.and_false])
