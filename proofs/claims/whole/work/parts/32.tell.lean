/-! islander, boat, count, asked of the class -/
theorem bit1 (i k : Nat) : (1 <<< i).testBit k = decide (i = k) := by rw [Nat.one_shiftLeft, Nat.testBit_two_pow]
theorem sumUp_one (l : List Nat) (i : Nat) : ∀ k, sumUp l (1 <<< i) k = if i < k then l.getD i 0 else 0
  | 0 => by simp [sumUp]
  | k + 1 => by
    unfold sumUp
    rw [sumUp_one l i k, bit1]
    by_cases h1 : i = k
    · subst h1; simp
    · by_cases h2 : i < k
      · have h3 : i < k + 1 := by omega
        simp [h1, h2, h3]
      · have h3 : ¬ i < k + 1 := by omega
        simp [h1, h2, h3]
def islV (I : sm_Is) (w i v : Nat) : Nat := if v = 0 then (iK I).getD i 0 else if v = 1 then sLean w i else if v = 2 then sMind w i else (iC I).getD i 0
def cntL (I : sm_Is) (w : Nat) (tx pa sh : List Nat) (sn : List (Nat × Nat)) : List Int32 := [nI (iN I), nI (iB I), nI (pc8 (sHeld w)), b2i (sStorm w), b2i (sIce w), nI (iBd I), nI (iM I), nI (iP I), nI sn.length, nI pa.length, nI sh.length, nI tx.length]
def askV (I : sm_Is) (w s : Nat) : Nat := (if lvs I w 0 = s then 1 else 0) + (if lvs I w 1 = s then 2 else 0)
theorem sHeld_lt (w : Nat) : sHeld w < 32 := spart_lt w 40 5
theorem c_islander {xs : List Int32} {d : Nat} {wd : sm_W} {Q : Option Value → sm_W → Prop} {tx : List Nat} {I : sm_Is} {w : Nat} {pa sh : List Nat} {sn : List (Nat × Nat)} (hX : cX wd tx I w pa sh sn) (hW : iWF I) (hw : w < 18446744073709551616) {x1 x2 : Int32} (hB : (inR x1 (iN I) && inR x2 4) = false → Q (some (.int (-1))) wd) (hQ : ∀ i, i < iN I → x1 = nI i → ∀ v, v < 4 → x2 = nI v → Q (some (.int (nI (islV I w i v)))) wd) : Ct xs (d + 4) 54 [.ref 0, .int x1, .int x2] wd Q := by
  unfold Ct
  show RT xs (d + 4) 54 0 [some (.ref 0), some (.int x1), some (.int x2)] [] wd Q
  obtain ⟨hW1, hW2, hW3, hW4, hW5, hW6, hW7, hW8, hW9, hW10, hW11, hW12, hW13, hW14, hW15⟩ := id hW
  refine R_aload_n r_54_0 rfl (by decide) ?_
  refine R_iload_n r_54_1 rfl ?_
  refine R_call2 r_54_2 rfl (sm_rv1 rfl rfl hX.1.1) (Nat.le_of_ble_eq_true rfl) (Nat.le_of_ble_eq_true rfl) ?_
  refine c_isIslander hX.1 hW ?_
  refine R_if_ne_b r_54_5 (by decide) (fun h_1 => ?_) (fun h_1 => ?_)
  · refine R_iload_n r_54_10 rfl ?_
    by_cases hs_2 : inR x2 4 = true
    · obtain ⟨v_3, hv_v_3, e_v_3⟩ := inR_of hs_2 (by decide)
      rcases (by omega : v_3 = 0 ∨ v_3 = 1 ∨ v_3 = 2 ∨ v_3 = 3) with e2_v_3 | e2_v_3 | e2_v_3 | e2_v_3
      · subst e2_v_3
        subst e_v_3
        refine R_tsIn r_54_11 (by decide) (by rfl) (t := 40) (by decide) ?_
        refine R_aload_n r_54_40 rfl (by decide) ?_
        refine R_getf r_54_41 (by decide) hX.1.1 rfl ?_
        obtain ⟨i, hi, rfl⟩ := inR_of (x := x1) (by assumption) (by omega)
        refine R_iload_n r_54_44 rfl ?_
        refine R_call2 r_54_45 rfl (sm_rv1 rfl rfl hX.1.2.1.1) (Nat.le_of_ble_eq_true rfl) (Nat.le_of_ble_eq_true rfl) ?_
        refine c_kind hX.1.2.1 hW (by omega) ?_
        refine R_iret r_54_48 (ty := .int) rfl rfl (by decide) ?_
        exact hQ i hi rfl 0 (by decide) rfl
      · subst e2_v_3
        subst e_v_3
        refine R_tsIn r_54_11 (by decide) (by rfl) (t := 49) (by decide) ?_
        refine R_aload_n r_54_49 rfl (by decide) ?_
        refine R_getf r_54_50 (by decide) hX.1.1 rfl ?_
        obtain ⟨i, hi, rfl⟩ := inR_of (x := x1) (by assumption) (by omega)
        refine R_iload_n r_54_53 rfl ?_
        refine R_call2 r_54_54 rfl rfl (Nat.le_of_ble_eq_true rfl) (Nat.le_of_ble_eq_true rfl) ?_
        refine c_leaning hw (by omega) ?_
        refine R_iret r_54_57 (ty := .int) rfl rfl (by decide) ?_
        exact hQ i hi rfl 1 (by decide) rfl
      · subst e2_v_3
        subst e_v_3
        refine R_tsIn r_54_11 (by decide) (by rfl) (t := 58) (by decide) ?_
        refine R_aload_n r_54_58 rfl (by decide) ?_
        refine R_getf r_54_59 (by decide) hX.1.1 rfl ?_
        obtain ⟨i, hi, rfl⟩ := inR_of (x := x1) (by assumption) (by omega)
        refine R_iload_n r_54_62 rfl ?_
        refine R_call2 r_54_63 rfl rfl (Nat.le_of_ble_eq_true rfl) (Nat.le_of_ble_eq_true rfl) ?_
        refine c_minded hw (by omega) ?_
        refine R_iret r_54_66 (ty := .int) rfl rfl (by decide) ?_
        exact hQ i hi rfl 2 (by decide) rfl
      · subst e2_v_3
        subst e_v_3
        refine R_tsIn r_54_11 (by decide) (by rfl) (t := 67) (by decide) ?_
        refine R_aload_n r_54_67 rfl (by decide) ?_
        refine R_getf r_54_68 (by decide) hX.1.1 rfl ?_
        refine R_iconst r_54_71 (v := nI 1) rfl ?_
        obtain ⟨i, hi, rfl⟩ := inR_of (x := x1) (by assumption) (by omega)
        refine R_iload_n r_54_72 rfl ?_
        refine R_ishlN r_54_73 (by omega) ?_
        refine R_call2 r_54_74 rfl (sm_rv1 rfl rfl hX.1.2.1.1) (Nat.le_of_ble_eq_true rfl) (Nat.le_of_ble_eq_true rfl) ?_
        refine c_cowsOf hX.1.2.1 hW (by have := shl_lt (k := i) (by omega); omega) ?_
        refine R_iret r_54_77 (ty := .int) rfl rfl (by decide) ?_
        rw [sumUp_one, if_pos (by omega)]
        exact hQ i hi rfl 3 (by decide) rfl
    · refine R_tsOut r_54_11 (inR_out (Bool.eq_false_iff.mpr hs_2)) (t := 78) (by decide) ?_
      refine R_iconst r_54_78 (v := (-1)) rfl ?_
      refine R_iret r_54_79 (ty := .int) rfl rfl (by decide) ?_
      exact hB (by simp [*])
  · refine R_iconst r_54_8 (v := (-1)) rfl ?_
    refine R_iret r_54_9 (ty := .int) rfl rfl (by decide) ?_
    exact hB (by simp [*])
theorem c_boat {xs : List Int32} {d : Nat} {wd : sm_W} {Q : Option Value → sm_W → Prop} {tx : List Nat} {I : sm_Is} {w : Nat} {pa sh : List Nat} {sn : List (Nat × Nat)} (hX : cX wd tx I w pa sh sn) (hW : iWF I) (hw : w < 18446744073709551616) {x1 x2 : Int32} (hB : (inR x1 (iB I) && inR x2 2) = false → Q (some (.int (-1))) wd) (hQ0 : ∀ i, i < iB I → x1 = nI i → x2 = nI 0 → Q (some (.int (nI ((iS I).getD i 0)))) wd) (hQ1 : ∀ i, i < iB I → x1 = nI i → x2 = nI 1 → Q (some (.int (b2i ((sHeld w).testBit i)))) wd) : Ct xs (d + 3) 57 [.ref 0, .int x1, .int x2] wd Q := by
  unfold Ct
  show RT xs (d + 3) 57 0 [some (.ref 0), some (.int x1), some (.int x2)] [] wd Q
  obtain ⟨hW1, hW2, hW3, hW4, hW5, hW6, hW7, hW8, hW9, hW10, hW11, hW12, hW13, hW14, hW15⟩ := id hW
  refine R_aload_n r_57_0 rfl (by decide) ?_
  refine R_iload_n r_57_1 rfl ?_
  refine R_call2 r_57_2 rfl (sm_rv1 rfl rfl hX.1.1) (Nat.le_of_ble_eq_true rfl) (Nat.le_of_ble_eq_true rfl) ?_
  refine c_isBoat hX.1 hW ?_
  refine R_if_ne_b r_57_5 (by decide) (fun h_1 => ?_) (fun h_1 => ?_)
  · refine R_iload_n r_57_10 rfl ?_
    by_cases hs_2 : inR x2 2 = true
    · obtain ⟨v_3, hv_v_3, e_v_3⟩ := inR_of hs_2 (by decide)
      rcases (by omega : v_3 = 0 ∨ v_3 = 1) with e2_v_3 | e2_v_3
      · subst e2_v_3
        subst e_v_3
        refine R_ls r_57_11 (by decide) (t := 36) (by decide) ?_
        refine R_aload_n r_57_36 rfl (by decide) ?_
        refine R_getf r_57_37 (by decide) hX.1.1 rfl ?_
        refine R_iconst r_57_40 (v := nI 1) rfl ?_
        obtain ⟨i, hi, rfl⟩ := inR_of (x := x1) (by assumption) (by omega)
        refine R_iload_n r_57_41 rfl ?_
        refine R_ishlN r_57_42 (by omega) ?_
        refine R_call2 r_57_43 rfl (sm_rv1 rfl rfl hX.1.2.1.1) (Nat.le_of_ble_eq_true rfl) (Nat.le_of_ble_eq_true rfl) ?_
        refine c_seatsOf hX.1.2.1 hW (by have := shl_lt (k := i) (by omega); omega) ?_
        refine R_iret r_57_46 (ty := .int) rfl rfl (by decide) ?_
        rw [sumUp_one, if_pos (by omega)]
        exact hQ0 i hi rfl rfl
      · subst e2_v_3
        subst e_v_3
        refine R_ls r_57_11 (by decide) (t := 47) (by decide) ?_
        refine R_aload_n r_57_47 rfl (by decide) ?_
        refine R_getf r_57_48 (by decide) hX.1.1 rfl ?_
        refine R_call1 r_57_51 rfl rfl (Nat.le_of_ble_eq_true rfl) (Nat.le_of_ble_eq_true rfl) ?_
        refine c_held hw ?_
        obtain ⟨i, hi, rfl⟩ := inR_of (x := x1) (by assumption) (by omega)
        refine R_iload_n r_57_54 rfl ?_
        refine R_iushrN r_57_55 (by have := sHeld_lt w; omega) (by omega) ?_
        refine R_iconst r_57_56 (v := nI 1) rfl ?_
        refine R_iandBit r_57_57 ?_
        refine R_iret r_57_58 (ty := .int) rfl rfl (by decide) ?_
        exact hQ1 i hi rfl rfl
    · refine R_ls r_57_11 (by decide) (t := 59) ?_ ?_
      · show (11 : Int) + Op.lookupswitch.offset [(0, 25), (1, 36)] 48 x2.toInt = 59
        rw [lv_osw (k := nI 0) (fun z => hs_2 (by rw [z]; decide)) (by decide), lv_osw (k := nI 1) (fun z => hs_2 (by rw [z]; decide)) (by decide)]; rfl
      · refine R_iconst r_57_59 (v := (-1)) rfl ?_
        refine R_iret r_57_60 (ty := .int) rfl rfl (by decide) ?_
        exact hB (by simp [*])
  · refine R_iconst r_57_8 (v := (-1)) rfl ?_
    refine R_iret r_57_9 (ty := .int) rfl rfl (by decide) ?_
    exact hB (by simp [*])
theorem c_count {xs : List Int32} {d : Nat} {wd : sm_W} {Q : Option Value → sm_W → Prop} {tx : List Nat} {I : sm_Is} {w : Nat} {pa sh : List Nat} {sn : List (Nat × Nat)} (hX : cX wd tx I w pa sh sn) (hW : iWF I) (hw : w < 18446744073709551616) {x1 : Int32} (hB : inR x1 12 = false → Q (some (.int (-1))) wd) (hQ : ∀ v e, (cntL I w tx pa sh sn)[v]? = some e → v < 12 → x1 = nI v → Q (some (.int e)) wd) : Ct xs (d + 2) 125 [.ref 0, .int x1] wd Q := by
  unfold Ct
  show RT xs (d + 2) 125 0 [some (.ref 0), some (.int x1)] [] wd Q
  obtain ⟨hW1, hW2, hW3, hW4, hW5, hW6, hW7, hW8, hW9, hW10, hW11, hW12, hW13, hW14, hW15⟩ := id hW
  refine R_iload_n r_125_0 rfl ?_
  by_cases hs_1 : inR x1 12 = true
  · obtain ⟨v_2, hv_v_2, e_v_2⟩ := inR_of hs_1 (by decide)
    rcases (by omega : v_2 = 0 ∨ v_2 = 1 ∨ v_2 = 2 ∨ v_2 = 3 ∨ v_2 = 4 ∨ v_2 = 5 ∨ v_2 = 6 ∨ v_2 = 7 ∨ v_2 = 8 ∨ v_2 = 9 ∨ v_2 = 10 ∨ v_2 = 11) with e2_v_2 | e2_v_2 | e2_v_2 | e2_v_2 | e2_v_2 | e2_v_2 | e2_v_2 | e2_v_2 | e2_v_2 | e2_v_2 | e2_v_2 | e2_v_2
    · subst e2_v_2
      subst e_v_2
      refine R_tsIn r_125_1 (by decide) (by rfl) (t := 64) (by decide) ?_
      refine R_aload_n r_125_64 rfl (by decide) ?_
      refine R_getf r_125_65 (by decide) hX.1.1 rfl ?_
      refine R_call1 r_125_68 rfl (sm_rv1 rfl rfl hX.1.2.1.1) (Nat.le_of_ble_eq_true rfl) (Nat.le_of_ble_eq_true rfl) ?_
      refine c_islanders hX.1.2.1 ?_
      refine R_iret r_125_71 (ty := .int) rfl rfl (by decide) ?_
      exact hQ 0 _ rfl (by decide) rfl
    · subst e2_v_2
      subst e_v_2
      refine R_tsIn r_125_1 (by decide) (by rfl) (t := 72) (by decide) ?_
      refine R_aload_n r_125_72 rfl (by decide) ?_
      refine R_getf r_125_73 (by decide) hX.1.1 rfl ?_
      refine R_call1 r_125_76 rfl (sm_rv1 rfl rfl hX.1.2.1.1) (Nat.le_of_ble_eq_true rfl) (Nat.le_of_ble_eq_true rfl) ?_
      refine c_boats hX.1.2.1 ?_
      refine R_iret r_125_79 (ty := .int) rfl rfl (by decide) ?_
      exact hQ 1 _ rfl (by decide) rfl
    · subst e2_v_2
      subst e_v_2
      refine R_tsIn r_125_1 (by decide) (by rfl) (t := 80) (by decide) ?_
      refine R_aload_n r_125_80 rfl (by decide) ?_
      refine R_getf r_125_81 (by decide) hX.1.1 rfl ?_
      refine R_call1 r_125_84 rfl rfl (Nat.le_of_ble_eq_true rfl) (Nat.le_of_ble_eq_true rfl) ?_
      refine c_held hw ?_
      refine R_call1 r_125_87 rfl rfl (Nat.le_of_ble_eq_true rfl) (Nat.le_of_ble_eq_true rfl) ?_
      refine c_bitCount (by have := sHeld_lt w; omega) ?_
      refine R_iret r_125_90 (ty := .int) rfl rfl (by decide) ?_
      exact hQ 2 _ rfl (by decide) rfl
    · subst e2_v_2
      subst e_v_2
      refine R_tsIn r_125_1 (by decide) (by rfl) (t := 91) (by decide) ?_
      refine R_aload_n r_125_91 rfl (by decide) ?_
      refine R_getf r_125_92 (by decide) hX.1.1 rfl ?_
      refine R_call1 r_125_95 rfl rfl (Nat.le_of_ble_eq_true rfl) (Nat.le_of_ble_eq_true rfl) ?_
      refine c_storm hw ?_
      refine R_call1 r_125_98 rfl rfl (Nat.le_of_ble_eq_true rfl) (Nat.le_of_ble_eq_true rfl) ?_
      refine c_oneIf ?_
      refine R_iret r_125_101 (ty := .int) rfl rfl (by decide) ?_
      exact hQ 3 _ rfl (by decide) rfl
    · subst e2_v_2
      subst e_v_2
      refine R_tsIn r_125_1 (by decide) (by rfl) (t := 102) (by decide) ?_
      refine R_aload_n r_125_102 rfl (by decide) ?_
      refine R_getf r_125_103 (by decide) hX.1.1 rfl ?_
      refine R_call1 r_125_106 rfl rfl (Nat.le_of_ble_eq_true rfl) (Nat.le_of_ble_eq_true rfl) ?_
      refine c_ice hw ?_
      refine R_call1 r_125_109 rfl rfl (Nat.le_of_ble_eq_true rfl) (Nat.le_of_ble_eq_true rfl) ?_
      refine c_oneIf ?_
      refine R_iret r_125_112 (ty := .int) rfl rfl (by decide) ?_
      exact hQ 4 _ rfl (by decide) rfl
    · subst e2_v_2
      subst e_v_2
      refine R_tsIn r_125_1 (by decide) (by rfl) (t := 113) (by decide) ?_
      refine R_aload_n r_125_113 rfl (by decide) ?_
      refine R_getf r_125_114 (by decide) hX.1.1 rfl ?_
      refine R_call1 r_125_117 rfl (sm_rv1 rfl rfl hX.1.2.1.1) (Nat.le_of_ble_eq_true rfl) (Nat.le_of_ble_eq_true rfl) ?_
      refine c_bedsAshore hX.1.2.1 ?_
      refine R_iret r_125_120 (ty := .int) rfl rfl (by decide) ?_
      exact hQ 5 _ rfl (by decide) rfl
    · subst e2_v_2
      subst e_v_2
      refine R_tsIn r_125_1 (by decide) (by rfl) (t := 121) (by decide) ?_
      refine R_aload_n r_125_121 rfl (by decide) ?_
      refine R_getf r_125_122 (by decide) hX.1.1 rfl ?_
      refine R_call1 r_125_125 rfl (sm_rv1 rfl rfl hX.1.2.1.1) (Nat.le_of_ble_eq_true rfl) (Nat.le_of_ble_eq_true rfl) ?_
      refine c_cowsToMilk hX.1.2.1 ?_
      refine R_iret r_125_128 (ty := .int) rfl rfl (by decide) ?_
      exact hQ 6 _ rfl (by decide) rfl
    · subst e2_v_2
      subst e_v_2
      refine R_tsIn r_125_1 (by decide) (by rfl) (t := 129) (by decide) ?_
      refine R_aload_n r_125_129 rfl (by decide) ?_
      refine R_getf r_125_130 (by decide) hX.1.1 rfl ?_
      refine R_call1 r_125_133 rfl (sm_rv1 rfl rfl hX.1.2.1.1) (Nat.le_of_ble_eq_true rfl) (Nat.le_of_ble_eq_true rfl) ?_
      refine c_tenths hX.1.2.1 ?_
      refine R_iret r_125_136 (ty := .int) rfl rfl (by decide) ?_
      exact hQ 7 _ rfl (by decide) rfl
    · subst e2_v_2
      subst e_v_2
      refine R_tsIn r_125_1 (by decide) (by rfl) (t := 137) (by decide) ?_
      refine R_aload_n r_125_137 rfl (by decide) ?_
      refine R_getf r_125_138 (by decide) hX.1.1 rfl ?_
      refine R_call1 r_125_141 rfl (sm_rv1 rfl rfl hX.2.2.2.1.choose_spec.choose_spec.1) (Nat.le_of_ble_eq_true rfl) (Nat.le_of_ble_eq_true rfl) ?_
      refine c_ssize hX.2.2.2.1 ?_
      refine R_iret r_125_144 (ty := .int) rfl rfl (by decide) ?_
      exact hQ 8 _ rfl (by decide) rfl
    · subst e2_v_2
      subst e_v_2
      refine R_tsIn r_125_1 (by decide) (by rfl) (t := 145) (by decide) ?_
      refine R_aload_n r_125_145 rfl (by decide) ?_
      refine R_getf r_125_146 (by decide) hX.1.1 rfl ?_
      refine R_call1 r_125_149 rfl (sm_rv1 rfl rfl hX.2.1.choose_spec.1) (Nat.le_of_ble_eq_true rfl) (Nat.le_of_ble_eq_true rfl) ?_
      refine c_pheight15 hX.2.1 ?_
      refine R_iret r_125_152 (ty := .int) rfl rfl (by decide) ?_
      exact hQ 9 _ rfl (by decide) rfl
    · subst e2_v_2
      subst e_v_2
      refine R_tsIn r_125_1 (by decide) (by rfl) (t := 153) (by decide) ?_
      refine R_aload_n r_125_153 rfl (by decide) ?_
      refine R_getf r_125_154 (by decide) hX.1.1 rfl ?_
      refine R_call1 r_125_157 rfl (sm_rv1 rfl rfl hX.2.2.1.choose_spec.1) (Nat.le_of_ble_eq_true rfl) (Nat.le_of_ble_eq_true rfl) ?_
      refine c_pheight17 hX.2.2.1 ?_
      refine R_iret r_125_160 (ty := .int) rfl rfl (by decide) ?_
      exact hQ 10 _ rfl (by decide) rfl
    · subst e2_v_2
      subst e_v_2
      refine R_tsIn r_125_1 (by decide) (by rfl) (t := 161) (by decide) ?_
      refine R_aload_n r_125_161 rfl (by decide) ?_
      refine R_getf r_125_162 (by decide) hX.1.1 rfl ?_
      refine R_call1 r_125_165 rfl (sm_rv1 rfl rfl hX.2.2.2.2.1.choose_spec.1) (Nat.le_of_ble_eq_true rfl) (Nat.le_of_ble_eq_true rfl) ?_
      refine c_tlength hX.2.2.2.2.1 ?_
      refine R_iret r_125_168 (ty := .int) rfl rfl (by decide) ?_
      exact hQ 11 _ rfl (by decide) rfl
  · refine R_tsOut r_125_1 (inR_out (Bool.eq_false_iff.mpr hs_1)) (t := 169) (by decide) ?_
    refine R_iconst r_125_169 (v := (-1)) rfl ?_
    refine R_iret r_125_170 (ty := .int) rfl rfl (by decide) ?_
    exact hB (by simp [*])
theorem c_asked {xs : List Int32} {d : Nat} {wd : sm_W} {Q : Option Value → sm_W → Prop} {tx : List Nat} {I : sm_Is} {w : Nat} {pa sh : List Nat} {sn : List (Nat × Nat)} (hX : cX wd tx I w pa sh sn) (hW : iWF I) (hw : w < 18446744073709551616) {x1 : Int32} (hB : inR x1 (allOf I + 1) = false → Q (some (.int (-1))) wd) (hQ : ∀ s, s < allOf I + 1 → x1 = nI s → ∀ v, v = askV I w s → ∀ w2, cX w2 tx I w pa sh sn → frm 0 21 wd w2 → Q (some (.int (nI v))) w2) : Ct xs (d + 6) 120 [.ref 0, .int x1] wd Q := by
  unfold Ct
  show RT xs (d + 6) 120 0 [some (.ref 0), some (.int x1), none, none] [] wd Q
  obtain ⟨hW1, hW2, hW3, hW4, hW5, hW6, hW7, hW8, hW9, hW10, hW11, hW12, hW13, hW14, hW15⟩ := id hW
  have hal := all_lt hW
  refine R_iload_n r_120_0 rfl ?_
  refine R_if_lt r_120_1 (by decide) (fun h_1 => ?_) (fun h_1 => ?_)
  · refine R_iconst r_120_15 (v := (-1)) rfl ?_
    refine R_iret r_120_16 (ty := .int) rfl rfl (by decide) ?_
    first | exact hB (inR_f1 (by assumption)) | exact hB (inR_g (by assumption) (by omega))
  · refine R_iload_n r_120_4 rfl ?_
    refine R_aload_n r_120_5 rfl (by decide) ?_
    refine R_getf r_120_6 (by decide) hX.1.1 rfl ?_
    refine R_call1 r_120_9 rfl (sm_rv1 rfl rfl hX.1.2.1.1) (Nat.le_of_ble_eq_true rfl) (Nat.le_of_ble_eq_true rfl) ?_
    refine c_everybody hX.1.2.1 hW ?_
    refine R_icmp_le r_120_12 (by decide) (fun h_2 => ?_) (fun h_2 => ?_)
    · obtain ⟨s, hs, rfl⟩ := rng0 (x := x1) (by assumption) (by assumption) (by omega)
      have hl0 := lvs_lt I w 0
      have hl1 := lvs_lt I w 1
      refine R_iconst r_120_17 (v := nI 0) rfl ?_
      refine R_istore_n r_120_18 rfl ?_
      refine R_iconst r_120_19 (v := nI 0) rfl ?_
      refine R_istore_n r_120_20 rfl ?_
      refine R_iload_n r_120_21 rfl ?_
      refine R_iconst r_120_22 (v := nI 2) rfl ?_
      refine R_icmpF r_120_23 (by decide) (by decide) ?_
      refine R_aload_n r_120_26 rfl (by decide) ?_
      refine R_aload_n r_120_27 rfl (by decide) ?_
      refine R_getf r_120_28 (by decide) hX.1.1 rfl ?_
      refine R_iload_n r_120_31 rfl ?_
      refine R_call3 r_120_32 rfl (sm_rv1 rfl rfl hX.1.1) (Nat.le_of_ble_eq_true rfl) (Nat.le_of_ble_eq_true rfl) ?_
      refine c_leavers hX.1 hW hw (q := 0) (by decide) ?_
      refine R_iload_n r_120_35 rfl ?_
      refine R_icmp_ne_N r_120_36 (by decide) (by omega) (by omega) (fun h_3 => ?_) (fun h_3 => ?_)
      · refine R_iinc1 r_120_45 rfl rfl ?_
        refine R_goto r_120_48 (by decide) ?_
        refine R_iload_n r_120_21 rfl ?_
        refine R_iconst r_120_22 (v := nI 2) rfl ?_
        refine R_icmpF r_120_23 (by decide) (by decide) ?_
        refine R_aload_n r_120_26 rfl (by decide) ?_
        refine R_aload_n r_120_27 rfl (by decide) ?_
        refine R_getf r_120_28 (by decide) (cX.night hX hW I w hW).1.1.1 rfl ?_
        refine R_iload_n r_120_31 rfl ?_
        refine R_call3 r_120_32 rfl (sm_rv1 rfl rfl (cX.night hX hW I w hW).1.1.1) (Nat.le_of_ble_eq_true rfl) (Nat.le_of_ble_eq_true rfl) ?_
        refine c_leavers (cX.night hX hW I w hW).1.1 hW hw (q := 1) (by decide) ?_
        refine R_iload_n r_120_35 rfl ?_
        refine R_icmp_ne_N r_120_36 (by decide) (by omega) (by omega) (fun h_4 => ?_) (fun h_4 => ?_)
        · refine R_iinc1 r_120_45 rfl rfl ?_
          refine R_goto r_120_48 (by decide) ?_
          refine R_iload_n r_120_21 rfl ?_
          refine R_iconst r_120_22 (v := nI 2) rfl ?_
          refine R_icmpT r_120_23 (by decide) (by decide) ?_
          refine R_iload_n r_120_51 rfl ?_
          refine R_iret r_120_52 (ty := .int) rfl rfl (by decide) ?_
          refine hQ s hs rfl _ ?_ _ (cX.night (cX.night hX hW I w hW).1 hW I w hW).1 (frm.tr (frm.tr frm.rf (frm.wide (cX.night hX hW I w hW).2 (by decide) (by decide))) (frm.wide (cX.night (cX.night hX hW I w hW).1 hW I w hW).2 (by decide) (by decide))); unfold askV; simp [*]
        · refine R_iload_n r_120_39 rfl ?_
          refine R_iconst r_120_40 (v := nI 1) rfl ?_
          refine R_iload_n r_120_41 rfl ?_
          refine R_ishlN r_120_42 (by omega) ?_
          refine R_iorN r_120_43 ?_
          refine R_istore_n r_120_44 rfl ?_
          refine R_iinc1 r_120_45 rfl rfl ?_
          refine R_goto r_120_48 (by decide) ?_
          refine R_iload_n r_120_21 rfl ?_
          refine R_iconst r_120_22 (v := nI 2) rfl ?_
          refine R_icmpT r_120_23 (by decide) (by decide) ?_
          refine R_iload_n r_120_51 rfl ?_
          refine R_iret r_120_52 (ty := .int) rfl rfl (by decide) ?_
          refine hQ s hs rfl _ ?_ _ (cX.night (cX.night hX hW I w hW).1 hW I w hW).1 (frm.tr (frm.tr frm.rf (frm.wide (cX.night hX hW I w hW).2 (by decide) (by decide))) (frm.wide (cX.night (cX.night hX hW I w hW).1 hW I w hW).2 (by decide) (by decide))); unfold askV; simp [*]
      · refine R_iload_n r_120_39 rfl ?_
        refine R_iconst r_120_40 (v := nI 1) rfl ?_
        refine R_iload_n r_120_41 rfl ?_
        refine R_ishlN r_120_42 (by omega) ?_
        refine R_iorN r_120_43 ?_
        refine R_istore_n r_120_44 rfl ?_
        refine R_iinc1 r_120_45 rfl rfl ?_
        refine R_goto r_120_48 (by decide) ?_
        refine R_iload_n r_120_21 rfl ?_
        refine R_iconst r_120_22 (v := nI 2) rfl ?_
        refine R_icmpF r_120_23 (by decide) (by decide) ?_
        refine R_aload_n r_120_26 rfl (by decide) ?_
        refine R_aload_n r_120_27 rfl (by decide) ?_
        refine R_getf r_120_28 (by decide) (cX.night hX hW I w hW).1.1.1 rfl ?_
        refine R_iload_n r_120_31 rfl ?_
        refine R_call3 r_120_32 rfl (sm_rv1 rfl rfl (cX.night hX hW I w hW).1.1.1) (Nat.le_of_ble_eq_true rfl) (Nat.le_of_ble_eq_true rfl) ?_
        refine c_leavers (cX.night hX hW I w hW).1.1 hW hw (q := 1) (by decide) ?_
        refine R_iload_n r_120_35 rfl ?_
        refine R_icmp_ne_N r_120_36 (by decide) (by omega) (by omega) (fun h_5 => ?_) (fun h_5 => ?_)
        · refine R_iinc1 r_120_45 rfl rfl ?_
          refine R_goto r_120_48 (by decide) ?_
          refine R_iload_n r_120_21 rfl ?_
          refine R_iconst r_120_22 (v := nI 2) rfl ?_
          refine R_icmpT r_120_23 (by decide) (by decide) ?_
          refine R_iload_n r_120_51 rfl ?_
          refine R_iret r_120_52 (ty := .int) rfl rfl (by decide) ?_
          refine hQ s hs rfl _ ?_ _ (cX.night (cX.night hX hW I w hW).1 hW I w hW).1 (frm.tr (frm.tr frm.rf (frm.wide (cX.night hX hW I w hW).2 (by decide) (by decide))) (frm.wide (cX.night (cX.night hX hW I w hW).1 hW I w hW).2 (by decide) (by decide))); unfold askV; simp [*]
        · refine R_iload_n r_120_39 rfl ?_
          refine R_iconst r_120_40 (v := nI 1) rfl ?_
          refine R_iload_n r_120_41 rfl ?_
          refine R_ishlN r_120_42 (by omega) ?_
          refine R_iorN r_120_43 ?_
          refine R_istore_n r_120_44 rfl ?_
          refine R_iinc1 r_120_45 rfl rfl ?_
          refine R_goto r_120_48 (by decide) ?_
          refine R_iload_n r_120_21 rfl ?_
          refine R_iconst r_120_22 (v := nI 2) rfl ?_
          refine R_icmpT r_120_23 (by decide) (by decide) ?_
          refine R_iload_n r_120_51 rfl ?_
          refine R_iret r_120_52 (ty := .int) rfl rfl (by decide) ?_
          refine hQ s hs rfl _ ?_ _ (cX.night (cX.night hX hW I w hW).1 hW I w hW).1 (frm.tr (frm.tr frm.rf (frm.wide (cX.night hX hW I w hW).2 (by decide) (by decide))) (frm.wide (cX.night (cX.night hX hW I w hW).1 hW I w hW).2 (by decide) (by decide))); unfold askV; simp [*]
    · refine R_iconst r_120_15 (v := (-1)) rfl ?_
      refine R_iret r_120_16 (ty := .int) rfl rfl (by decide) ?_
      first | exact hB (inR_f1 (by assumption)) | exact hB (inR_g (by assumption) (by omega))
