/-! decides, win, fill, help of the class -/
section RBB
variable {xs : List Int32} {d j pc : Nat} {L : sm_L} {st : List Value} {wd : sm_W} {Q : Option Value → sm_W → Prop} {a b c : Nat}
theorem b2i_inj (u v : Bool) : b2i u = b2i v ↔ u = v := by cases u <;> cases v <;> decide
theorem R_icmp_eq_bb {off : Int} {u v : Bool} (h : sm_ic j pc = some (.if_icmp .eq off, a, b, c)) (ht : (pc : Int) + off = (a : Int)) (kt : v = u → RT xs d j a L st wd Q) (kf : v ≠ u → RT xs d j (pc + 3) L st wd Q) : RT xs d j pc L (.int (b2i u) :: .int (b2i v) :: st) wd Q := R_icmp_eq h ht (fun z => kt ((b2i_inj v u).mp z)) (fun z => kf (fun y => z ((b2i_inj v u).mpr y)))
end RBB
def noI (r : Nat) : Int32 := if r = 999 then -4 else nI r
theorem noI_n {r : Nat} (h : r < 999) : noI r = nI r := if_neg (by omega)
def fallA (I : sm_Is) (w ag : Nat) : Bool := lawF I (pc8 (lowUp (wnt (ntG I w) (ntB w) (ntV I w) ag 0) (min (ntS I w) (iBd I)) 8).1)
def fallN (I : sm_Is) (w q : Nat) : Bool := lawF I (pc8 (lvs I w q))
def decS (I : sm_Is) (w q : Nat) : Nat → Nat
  | 0 => 0
  | k + 1 => if fallA I w (sAg w q ^^^ 1 <<< k) ≠ fallN I w q then decS I w q k ||| 1 <<< k else decS I w q k
theorem decS_t {I : sm_Is} {w q k : Nat} (h : fallA I w (sAg w q ^^^ 1 <<< k) ≠ fallN I w q) : decS I w q (k + 1) = decS I w q k ||| 1 <<< k := by rw [decS, if_pos h]
theorem decS_f {I : sm_Is} {w q k : Nat} (h : fallA I w (sAg w q ^^^ 1 <<< k) = fallN I w q) : decS I w q (k + 1) = decS I w q k := by rw [decS, if_neg (by rw [h]; simp)]
def winS (I : sm_Is) (w q : Nat) : Nat → Nat × Nat
  | 0 => (999, 9)
  | n + 1 => if pc8 (n + 1) < (winS I w q n).2 ∧ fallA I w (sAg w q ^^^ (n + 1)) ≠ fallN I w q then (n + 1, pc8 (n + 1)) else winS I w q n
theorem winS_t {I : sm_Is} {w q n : Nat} (h1 : pc8 (n + 1) < (winS I w q n).2) (h2 : fallA I w (sAg w q ^^^ (n + 1)) ≠ fallN I w q) : winS I w q (n + 1) = (n + 1, pc8 (n + 1)) := by rw [winS, if_pos ⟨h1, h2⟩]
theorem winS_1 {I : sm_Is} {w q n : Nat} (h1 : (winS I w q n).2 ≤ pc8 (n + 1)) : winS I w q (n + 1) = winS I w q n := by rw [winS, if_neg (by omega)]
theorem winS_2 {I : sm_Is} {w q n : Nat} (h2 : fallA I w (sAg w q ^^^ (n + 1)) = fallN I w q) : winS I w q (n + 1) = winS I w q n := by rw [winS, if_neg (by simp [h2])]
theorem winS_le (I : sm_Is) (w q : Nat) : ∀ n, (winS I w q n).2 ≤ 9
  | 0 => Nat.le_refl _
  | n + 1 => by
    have h1 := winS_le I w q n
    have h2 : pc8 (n + 1) ≤ 8 := pcUp_le _ 8
    unfold winS
    split
    · show pc8 (n + 1) ≤ 9; omega
    · exact h1
def filS (I : sm_Is) (room bar : Nat) : Nat → Nat × Nat
  | 0 => (999, room + 1)
  | n + 1 => if pc8 n < (filS I room bar n).2 ∧ n &&& bar = 0 ∧ lawF I (pc8 n) = true ∧ iM I ≤ cowW I n then (n, pc8 n) else filS I room bar n
theorem filS_t {I : sm_Is} {r b n : Nat} (h : pc8 n < (filS I r b n).2 ∧ n &&& b = 0 ∧ lawF I (pc8 n) = true ∧ iM I ≤ cowW I n) : filS I r b (n + 1) = (n, pc8 n) := by rw [filS, if_pos h]
theorem filS_f {I : sm_Is} {r b n : Nat} (h : ¬ (pc8 n < (filS I r b n).2 ∧ n &&& b = 0 ∧ lawF I (pc8 n) = true ∧ iM I ≤ cowW I n)) : filS I r b (n + 1) = filS I r b n := by rw [filS, if_neg h]
theorem filS_le (I : sm_Is) {r : Nat} (b : Nat) (hr : r ≤ 40) : ∀ n, (filS I r b n).2 ≤ 41
  | 0 => by show r + 1 ≤ 41; omega
  | n + 1 => by
    have h1 := filS_le I b hr n
    have h2 : pc8 n ≤ 8 := pcUp_le _ 8
    unfold filS
    split
    · show pc8 n ≤ 41; omega
    · exact h1
def hlN (I : sm_Is) (w q b : Nat) : Nat := pc8 (lvs I (wHeld w (sHeld w ^^^ 1 <<< b)) q)
def hlS (I : sm_Is) (w q : Nat) : Nat → Nat × Nat
  | 0 => (999, 999)
  | b + 1 => if (sHeld w).testBit b = true ∧ ((hlS I w q b).2 = 999 ∨ (hlS I w q b).2 < hlN I w q b) then (b, hlN I w q b) else hlS I w q b
theorem hlS_t {I : sm_Is} {w q b : Nat} (h1 : (sHeld w).testBit b = true) (h2 : (hlS I w q b).2 = 999 ∨ (hlS I w q b).2 < hlN I w q b) : hlS I w q (b + 1) = (b, hlN I w q b) := by rw [hlS, if_pos ⟨h1, h2⟩]
theorem hlS_1 {I : sm_Is} {w q b : Nat} (h1 : (sHeld w).testBit b = false) : hlS I w q (b + 1) = hlS I w q b := by rw [hlS, if_neg (by simp [h1])]
theorem hlS_2 {I : sm_Is} {w q b : Nat} (h2 : ¬ ((hlS I w q b).2 = 999 ∨ (hlS I w q b).2 < hlN I w q b)) : hlS I w q (b + 1) = hlS I w q b := by rw [hlS, if_neg (fun z => h2 z.2)]
theorem hlS_le (I : sm_Is) (w q : Nat) : ∀ n, (hlS I w q n).2 ≤ 8 ∨ (hlS I w q n).2 = 999
  | 0 => Or.inr rfl
  | n + 1 => by
    have h1 := hlS_le I w q n
    have h2 : hlN I w q n ≤ 8 := pcUp_le _ 8
    unfold hlS
    split
    · exact Or.inl h2
    · exact h1
theorem noI_le {n m : Nat} (hn : n ≤ 8) (hm : m ≤ 8 ∨ m = 999) : nI n ≤ noI m ↔ ¬ (m = 999 ∨ m < n) := by
  rcases hm with hm | hm
  · rw [noI_n (by omega), nI_leI (by omega) (by omega)]
    omega
  · subst hm
    have h : ¬ nI n ≤ noI 999 := by
      rw [Int32.le_iff_toInt_le, nI_toInt (by omega)]
      have h0 : (noI 999).toInt = -4 := by decide
      omega
    simp [h]
theorem lp_decides {xs : List Int32} {d : Nat} {wd : sm_W} {Q : Option Value → sm_W → Prop} {tx : List Nat} {I : sm_Is} {w : Nat} {pa sh : List Nat} {sn : List (Nat × Nat)} (hX : cX wd tx I w pa sh sn) (hW : iWF I) (hw : w < 18446744073709551616) (hN : isN wd (ntG I w) (ntV I w) (ntS I w) (iBd I) (ntB w)) {q : Nat} {x1 : Int32} (hQ : Q (some (.int (nI (decS I w q (iN I))))) wd) : ∀ (k : Nat) (b : Nat), (b + k = iN I) → RT xs (d + 6) 100 41 [some (.ref 0), some (.int x1), some (.int (b2i (fallN I w q))), some (.int (nI (sAg w q))), some (.int (nI (decS I w q b))), some (.int (nI b))] [] wd Q := by
  intro k
  induction k with
  | zero =>
    intro b hk
    obtain ⟨hW1, hW2, hW3, hW4, hW5, hW6, hW7, hW8, hW9, hW10, hW11, hW12, hW13, hW14, hW15⟩ := id hW
    have hal := all_lt hW
    have hag := sAg_lt w q
    refine R_iload r_100_41 rfl ?_
    refine R_aload_n r_100_43 rfl (by decide) ?_
    refine R_getf r_100_44 (by decide) hX.1.1 rfl ?_
    refine R_call1 r_100_47 rfl (sm_rv1 rfl rfl hX.1.2.1.1) (Nat.le_of_ble_eq_true rfl) (Nat.le_of_ble_eq_true rfl) ?_
    refine c_islanders hX.1.2.1 ?_
    refine R_icmp_ge_N r_100_50 (by decide) (by omega) (by omega) (fun h_1 => ?_) (fun h_1 => ?_)
    · refine R_iload r_100_93 rfl ?_
      refine R_iret r_100_95 (ty := .int) rfl rfl (by decide) ?_
      rw [show b = iN I by omega]; exact hQ
    · exfalso; omega
  | succ k ih =>
    intro b hk
    obtain ⟨hW1, hW2, hW3, hW4, hW5, hW6, hW7, hW8, hW9, hW10, hW11, hW12, hW13, hW14, hW15⟩ := id hW
    have hal := all_lt hW
    have hag := sAg_lt w q
    refine R_iload r_100_41 rfl ?_
    refine R_aload_n r_100_43 rfl (by decide) ?_
    refine R_getf r_100_44 (by decide) hX.1.1 rfl ?_
    refine R_call1 r_100_47 rfl (sm_rv1 rfl rfl hX.1.2.1.1) (Nat.le_of_ble_eq_true rfl) (Nat.le_of_ble_eq_true rfl) ?_
    refine c_islanders hX.1.2.1 ?_
    refine R_icmp_ge_N r_100_50 (by decide) (by omega) (by omega) (fun h_1 => ?_) (fun h_1 => ?_)
    · exfalso; omega
    · refine R_aload_n r_100_53 rfl (by decide) ?_
      refine R_getf r_100_54 (by decide) hX.1.1 rfl ?_
      refine R_aload_n r_100_57 rfl (by decide) ?_
      refine R_getf r_100_58 (by decide) hX.1.1 rfl ?_
      refine R_iload_n r_100_61 rfl ?_
      refine R_iconst r_100_62 (v := nI 1) rfl ?_
      refine R_iload r_100_63 rfl ?_
      refine R_ishlN r_100_65 (by omega) ?_
      refine R_ixorN r_100_66 ?_
      refine R_iconst r_100_67 (v := nI 0) rfl ?_
      refine R_call3 r_100_68 rfl (sm_rv1 rfl rfl hX.1.2.2.choose_spec.choose_spec.choose_spec.choose_spec.choose_spec.1) (Nat.le_of_ble_eq_true rfl) (Nat.le_of_ble_eq_true rfl) ?_
      refine c_leaving hN (Nat.xor_lt_two_pow (n := 8) hag (by rw [Nat.one_shiftLeft]; exact Nat.pow_lt_pow_right (by decide) (by omega))) ?_
      refine R_call2 r_100_71 rfl (sm_rv1 rfl rfl hX.1.2.1.1) (Nat.le_of_ble_eq_true rfl) (Nat.le_of_ble_eq_true rfl) ?_
      refine c_lawFalls hX.1.2.1 hW (lowUp_lt _ _ 8) ?_
      refine R_iload_n r_100_74 rfl ?_
      refine R_icmp_eq_bb r_100_75 (by decide) (fun h_2 => ?_) (fun h_2 => ?_)
      · refine R_iinc1 r_100_87 rfl rfl ?_
        refine R_goto r_100_90 (by decide) ?_
        have := ih (b + 1) (by omega)
        first | rw [decS_t (by assumption)] at this | rw [decS_f (by assumption)] at this
        exact this
      · refine R_iload r_100_78 rfl ?_
        refine R_iconst r_100_80 (v := nI 1) rfl ?_
        refine R_iload r_100_81 rfl ?_
        refine R_ishlN r_100_83 (by omega) ?_
        refine R_iorN r_100_84 ?_
        refine R_istore r_100_85 rfl ?_
        refine R_iinc1 r_100_87 rfl rfl ?_
        refine R_goto r_100_90 (by decide) ?_
        have := ih (b + 1) (by omega)
        first | rw [decS_t (by assumption)] at this | rw [decS_f (by assumption)] at this
        exact this
theorem c_decides {xs : List Int32} {d : Nat} {wd : sm_W} {Q : Option Value → sm_W → Prop} {tx : List Nat} {I : sm_Is} {w : Nat} {pa sh : List Nat} {sn : List (Nat × Nat)} (hX : cX wd tx I w pa sh sn) (hW : iWF I) (hw : w < 18446744073709551616) {x1 : Int32} (hB : inR x1 2 = false → Q (some (.int (-1))) wd) (hQ : ∀ q, q < 2 → x1 = nI q → ∀ w2, cX w2 tx I w pa sh sn → frm 0 21 wd w2 → Q (some (.int (nI (decS I w q (iN I))))) w2) : Ct xs (d + 6) 100 [.ref 0, .int x1] wd Q := by
  unfold Ct
  show RT xs (d + 6) 100 0 [some (.ref 0), some (.int x1), none, none, none, none] [] wd Q
  obtain ⟨hW1, hW2, hW3, hW4, hW5, hW6, hW7, hW8, hW9, hW10, hW11, hW12, hW13, hW14, hW15⟩ := id hW
  refine R_iload_n r_100_0 rfl ?_
  refine R_call1 r_100_1 rfl rfl (Nat.le_of_ble_eq_true rfl) (Nat.le_of_ble_eq_true rfl) ?_
  refine c_isQuestion ?_
  refine R_if_ne_b r_100_4 (by decide) (fun h_1 => ?_) (fun h_1 => ?_)
  · refine R_aload_n r_100_9 rfl (by decide) ?_
    refine R_getf r_100_10 (by decide) hX.1.1 rfl ?_
    refine R_aload_n r_100_13 rfl (by decide) ?_
    refine R_aload_n r_100_14 rfl (by decide) ?_
    refine R_getf r_100_15 (by decide) hX.1.1 rfl ?_
    obtain ⟨q, hq, rfl⟩ := inR_of (x := x1) (by assumption) (by decide)
    refine R_iload_n r_100_18 rfl ?_
    refine R_call3 r_100_19 rfl (sm_rv1 rfl rfl hX.1.1) (Nat.le_of_ble_eq_true rfl) (Nat.le_of_ble_eq_true rfl) ?_
    refine c_leavers hX.1 hW hw hq ?_
    refine R_call2 r_100_22 rfl (sm_rv1 rfl rfl (cX.night hX hW I w hW).1.1.2.1.1) (Nat.le_of_ble_eq_true rfl) (Nat.le_of_ble_eq_true rfl) ?_
    refine c_lawFalls (cX.night hX hW I w hW).1.1.2.1 hW (lvs_lt I w q) ?_
    refine R_istore_n r_100_25 rfl ?_
    refine R_aload_n r_100_26 rfl (by decide) ?_
    refine R_getf r_100_27 (by decide) (cX.night hX hW I w hW).1.1.1 rfl ?_
    refine R_iload_n r_100_30 rfl ?_
    refine R_call2 r_100_31 rfl rfl (Nat.le_of_ble_eq_true rfl) (Nat.le_of_ble_eq_true rfl) ?_
    refine c_against hw hq ?_
    refine R_istore_n r_100_34 rfl ?_
    refine R_iconst r_100_35 (v := nI 0) rfl ?_
    refine R_istore r_100_36 rfl ?_
    refine R_iconst r_100_38 (v := nI 0) rfl ?_
    refine R_istore r_100_39 rfl ?_
    exact lp_decides (cX.night hX hW I w hW).1 hW hw (nightSet_isN hX.1.2.2 hW) (hQ q hq rfl _ (cX.night hX hW I w hW).1 (frm.tr frm.rf (frm.wide (cX.night hX hW I w hW).2 (by decide) (by decide)))) (iN I) 0 (by omega)
  · refine R_iconst r_100_7 (v := (-1)) rfl ?_
    refine R_iret r_100_8 (ty := .int) rfl rfl (by decide) ?_
    exact hB (by assumption)
theorem lp_win {xs : List Int32} {d : Nat} {wd : sm_W} {Q : Option Value → sm_W → Prop} {tx : List Nat} {I : sm_Is} {w : Nat} {pa sh : List Nat} {sn : List (Nat × Nat)} (hX : cX wd tx I w pa sh sn) (hW : iWF I) (hw : w < 18446744073709551616) (hN : isN wd (ntG I w) (ntV I w) (ntS I w) (iBd I) (ntB w)) {q : Nat} {x1 : Int32} (hQ : Q (some (.int (noI (winS I w q (allOf I)).1))) wd) : ∀ (k : Nat) (n : Nat) (h7 : Option Value), (n + k = allOf I) → RT xs (d + 6) 101 46 [some (.ref 0), some (.int x1), some (.int (b2i (fallN I w q))), some (.int (nI (sAg w q))), some (.int (noI (winS I w q n).1)), some (.int (nI (winS I w q n).2)), some (.int (nI (n + 1))), h7] [] wd Q := by
  intro k
  induction k with
  | zero =>
    intro n h7 hk
    obtain ⟨hW1, hW2, hW3, hW4, hW5, hW6, hW7, hW8, hW9, hW10, hW11, hW12, hW13, hW14, hW15⟩ := id hW
    have hal := all_lt hW
    have hag := sAg_lt w q
    have hwl := winS_le I w q n
    refine R_iload r_101_46 rfl ?_
    refine R_aload_n r_101_48 rfl (by decide) ?_
    refine R_getf r_101_49 (by decide) hX.1.1 rfl ?_
    refine R_call1 r_101_52 rfl (sm_rv1 rfl rfl hX.1.2.1.1) (Nat.le_of_ble_eq_true rfl) (Nat.le_of_ble_eq_true rfl) ?_
    refine c_everybody hX.1.2.1 hW ?_
    refine R_icmp_gt_N r_101_55 (by decide) (by omega) (by omega) (fun h_1 => ?_) (fun h_1 => ?_)
    · refine R_iload r_101_120 rfl ?_
      refine R_iret r_101_122 (ty := .int) rfl rfl (by decide) ?_
      rw [show n = allOf I by omega]; exact hQ
    · exfalso; omega
  | succ k ih =>
    intro n h7 hk
    obtain ⟨hW1, hW2, hW3, hW4, hW5, hW6, hW7, hW8, hW9, hW10, hW11, hW12, hW13, hW14, hW15⟩ := id hW
    have hal := all_lt hW
    have hag := sAg_lt w q
    have hwl := winS_le I w q n
    have hp8 : pc8 (n + 1) ≤ 8 := pcUp_le _ 8
    refine R_iload r_101_46 rfl ?_
    refine R_aload_n r_101_48 rfl (by decide) ?_
    refine R_getf r_101_49 (by decide) hX.1.1 rfl ?_
    refine R_call1 r_101_52 rfl (sm_rv1 rfl rfl hX.1.2.1.1) (Nat.le_of_ble_eq_true rfl) (Nat.le_of_ble_eq_true rfl) ?_
    refine c_everybody hX.1.2.1 hW ?_
    refine R_icmp_gt_N r_101_55 (by decide) (by omega) (by omega) (fun h_1 => ?_) (fun h_1 => ?_)
    · exfalso; omega
    · refine R_iload r_101_58 rfl ?_
      refine R_call1 r_101_60 rfl rfl (Nat.le_of_ble_eq_true rfl) (Nat.le_of_ble_eq_true rfl) ?_
      refine c_bitCount (by omega) ?_
      refine R_iload r_101_63 rfl ?_
      refine R_icmp_ge_N r_101_65 (by decide) (by omega) (by omega) (fun h_2 => ?_) (fun h_2 => ?_)
      · refine R_iconst r_101_72 (v := nI 0) rfl ?_
        refine R_istore r_101_73 rfl ?_
        refine R_iload r_101_75 rfl ?_
        refine R_ifT r_101_77 (by decide) (by decide) ?_
        refine R_iinc1 r_101_114 rfl rfl ?_
        refine R_goto r_101_117 (by decide) ?_
        have := fun h7 => ih (n + 1) h7 (by omega)
        first | (rw [winS_t (by assumption) (by assumption), noI_n (by omega)] at this; exact this _) | (rw [winS_1 (by assumption)] at this; exact this _) | (rw [winS_2 (by assumption)] at this; exact this _)
      · refine R_iconst r_101_68 (v := nI 1) rfl ?_
        refine R_goto r_101_69 (by decide) ?_
        refine R_istore r_101_73 rfl ?_
        refine R_iload r_101_75 rfl ?_
        refine R_ifF r_101_77 (by decide) (by decide) ?_
        refine R_aload_n r_101_80 rfl (by decide) ?_
        refine R_getf r_101_81 (by decide) hX.1.1 rfl ?_
        refine R_aload_n r_101_84 rfl (by decide) ?_
        refine R_getf r_101_85 (by decide) hX.1.1 rfl ?_
        refine R_iload_n r_101_88 rfl ?_
        refine R_iload r_101_89 rfl ?_
        refine R_ixorN r_101_91 ?_
        refine R_iconst r_101_92 (v := nI 0) rfl ?_
        refine R_call3 r_101_93 rfl (sm_rv1 rfl rfl hX.1.2.2.choose_spec.choose_spec.choose_spec.choose_spec.choose_spec.1) (Nat.le_of_ble_eq_true rfl) (Nat.le_of_ble_eq_true rfl) ?_
        refine c_leaving hN (Nat.xor_lt_two_pow (n := 8) hag (by omega)) ?_
        refine R_call2 r_101_96 rfl (sm_rv1 rfl rfl hX.1.2.1.1) (Nat.le_of_ble_eq_true rfl) (Nat.le_of_ble_eq_true rfl) ?_
        refine c_lawFalls hX.1.2.1 hW (lowUp_lt _ _ 8) ?_
        refine R_iload_n r_101_99 rfl ?_
        refine R_icmp_eq_bb r_101_100 (by decide) (fun h_3 => ?_) (fun h_3 => ?_)
        · refine R_iinc1 r_101_114 rfl rfl ?_
          refine R_goto r_101_117 (by decide) ?_
          have := fun h7 => ih (n + 1) h7 (by omega)
          first | (rw [winS_t (by assumption) (by assumption), noI_n (by omega)] at this; exact this _) | (rw [winS_1 (by assumption)] at this; exact this _) | (rw [winS_2 (by assumption)] at this; exact this _)
        · refine R_iload r_101_103 rfl ?_
          refine R_istore r_101_105 rfl ?_
          refine R_iload r_101_107 rfl ?_
          refine R_call1 r_101_109 rfl rfl (Nat.le_of_ble_eq_true rfl) (Nat.le_of_ble_eq_true rfl) ?_
          refine c_bitCount (by omega) ?_
          refine R_istore r_101_112 rfl ?_
          refine R_iinc1 r_101_114 rfl rfl ?_
          refine R_goto r_101_117 (by decide) ?_
          have := fun h7 => ih (n + 1) h7 (by omega)
          first | (rw [winS_t (by assumption) (by assumption), noI_n (by omega)] at this; exact this _) | (rw [winS_1 (by assumption)] at this; exact this _) | (rw [winS_2 (by assumption)] at this; exact this _)
theorem c_win {xs : List Int32} {d : Nat} {wd : sm_W} {Q : Option Value → sm_W → Prop} {tx : List Nat} {I : sm_Is} {w : Nat} {pa sh : List Nat} {sn : List (Nat × Nat)} (hX : cX wd tx I w pa sh sn) (hW : iWF I) (hw : w < 18446744073709551616) {x1 : Int32} (hB : inR x1 2 = false → Q (some (.int (-1))) wd) (hQ : ∀ q, q < 2 → x1 = nI q → ∀ w2, cX w2 tx I w pa sh sn → frm 0 21 wd w2 → Q (some (.int (noI (winS I w q (allOf I)).1))) w2) : Ct xs (d + 6) 101 [.ref 0, .int x1] wd Q := by
  unfold Ct
  show RT xs (d + 6) 101 0 [some (.ref 0), some (.int x1), none, none, none, none, none, none] [] wd Q
  obtain ⟨hW1, hW2, hW3, hW4, hW5, hW6, hW7, hW8, hW9, hW10, hW11, hW12, hW13, hW14, hW15⟩ := id hW
  refine R_iload_n r_101_0 rfl ?_
  refine R_call1 r_101_1 rfl rfl (Nat.le_of_ble_eq_true rfl) (Nat.le_of_ble_eq_true rfl) ?_
  refine c_isQuestion ?_
  refine R_if_ne_b r_101_4 (by decide) (fun h_1 => ?_) (fun h_1 => ?_)
  · refine R_aload_n r_101_9 rfl (by decide) ?_
    refine R_getf r_101_10 (by decide) hX.1.1 rfl ?_
    refine R_aload_n r_101_13 rfl (by decide) ?_
    refine R_aload_n r_101_14 rfl (by decide) ?_
    refine R_getf r_101_15 (by decide) hX.1.1 rfl ?_
    obtain ⟨q, hq, rfl⟩ := inR_of (x := x1) (by assumption) (by decide)
    refine R_iload_n r_101_18 rfl ?_
    refine R_call3 r_101_19 rfl (sm_rv1 rfl rfl hX.1.1) (Nat.le_of_ble_eq_true rfl) (Nat.le_of_ble_eq_true rfl) ?_
    refine c_leavers hX.1 hW hw hq ?_
    refine R_call2 r_101_22 rfl (sm_rv1 rfl rfl (cX.night hX hW I w hW).1.1.2.1.1) (Nat.le_of_ble_eq_true rfl) (Nat.le_of_ble_eq_true rfl) ?_
    refine c_lawFalls (cX.night hX hW I w hW).1.1.2.1 hW (lvs_lt I w q) ?_
    refine R_istore_n r_101_25 rfl ?_
    refine R_aload_n r_101_26 rfl (by decide) ?_
    refine R_getf r_101_27 (by decide) (cX.night hX hW I w hW).1.1.1 rfl ?_
    refine R_iload_n r_101_30 rfl ?_
    refine R_call2 r_101_31 rfl rfl (Nat.le_of_ble_eq_true rfl) (Nat.le_of_ble_eq_true rfl) ?_
    refine c_against hw hq ?_
    refine R_istore_n r_101_34 rfl ?_
    refine R_bipush r_101_35 (v := (-4)) rfl ?_
    refine R_istore r_101_37 rfl ?_
    refine R_bipush r_101_39 (v := nI 9) rfl ?_
    refine R_istore r_101_41 rfl ?_
    refine R_iconst r_101_43 (v := nI 1) rfl ?_
    refine R_istore r_101_44 rfl ?_
    exact lp_win (cX.night hX hW I w hW).1 hW hw (nightSet_isN hX.1.2.2 hW) (hQ q hq rfl _ (cX.night hX hW I w hW).1 (frm.tr frm.rf (frm.wide (cX.night hX hW I w hW).2 (by decide) (by decide)))) (allOf I) 0 _ (by omega)
  · refine R_iconst r_101_7 (v := (-1)) rfl ?_
    refine R_iret r_101_8 (ty := .int) rfl rfl (by decide) ?_
    exact hB (by assumption)
theorem lp_fill {xs : List Int32} {d : Nat} {wd : sm_W} {Q : Option Value → sm_W → Prop} {tx : List Nat} {I : sm_Is} {w : Nat} {pa sh : List Nat} {sn : List (Nat × Nat)} (hX : cX wd tx I w pa sh sn) (hW : iWF I) (hw : w < 18446744073709551616) {room bar : Nat} (hr : room ≤ 40) (hbar : bar < 256) (hQ : Q (some (.int (noI (filS I room bar (allOf I + 1)).1))) wd) : ∀ (k : Nat) (n : Nat) (h6 : Option Value), (n + k = allOf I + 1) → RT xs (d + 6) 102 51 [some (.ref 0), some (.int (nI room)), some (.int (nI bar)), some (.int (noI (filS I room bar n).1)), some (.int (nI (filS I room bar n).2)), some (.int (nI n)), h6] [] wd Q := by
  intro k
  induction k with
  | zero =>
    intro n h6 hk
    obtain ⟨hW1, hW2, hW3, hW4, hW5, hW6, hW7, hW8, hW9, hW10, hW11, hW12, hW13, hW14, hW15⟩ := id hW
    have hal := all_lt hW
    have hfl := filS_le I bar hr n
    refine R_iload r_102_51 rfl ?_
    refine R_aload_n r_102_53 rfl (by decide) ?_
    refine R_getf r_102_54 (by decide) hX.1.1 rfl ?_
    refine R_call1 r_102_57 rfl (sm_rv1 rfl rfl hX.1.2.1.1) (Nat.le_of_ble_eq_true rfl) (Nat.le_of_ble_eq_true rfl) ?_
    refine c_everybody hX.1.2.1 hW ?_
    refine R_icmp_gt_N r_102_60 (by decide) (by omega) (by omega) (fun h_1 => ?_) (fun h_1 => ?_)
    · refine R_iload_n r_102_132 rfl ?_
      refine R_iret r_102_133 (ty := .int) rfl rfl (by decide) ?_
      rw [show n = allOf I + 1 by omega]; exact hQ
    · exfalso; omega
  | succ k ih =>
    intro n h6 hk
    obtain ⟨hW1, hW2, hW3, hW4, hW5, hW6, hW7, hW8, hW9, hW10, hW11, hW12, hW13, hW14, hW15⟩ := id hW
    have hal := all_lt hW
    have hfl := filS_le I bar hr n
    have hp8 : pc8 n ≤ 8 := pcUp_le _ 8
    have hba : n &&& bar ≤ bar := Nat.and_le_right
    refine R_iload r_102_51 rfl ?_
    refine R_aload_n r_102_53 rfl (by decide) ?_
    refine R_getf r_102_54 (by decide) hX.1.1 rfl ?_
    refine R_call1 r_102_57 rfl (sm_rv1 rfl rfl hX.1.2.1.1) (Nat.le_of_ble_eq_true rfl) (Nat.le_of_ble_eq_true rfl) ?_
    refine c_everybody hX.1.2.1 hW ?_
    refine R_icmp_gt_N r_102_60 (by decide) (by omega) (by omega) (fun h_1 => ?_) (fun h_1 => ?_)
    · exfalso; omega
    · refine R_iload r_102_63 rfl ?_
      refine R_call1 r_102_65 rfl rfl (Nat.le_of_ble_eq_true rfl) (Nat.le_of_ble_eq_true rfl) ?_
      refine c_bitCount (by omega) ?_
      refine R_iload r_102_68 rfl ?_
      refine R_icmp_ge_N r_102_70 (by decide) (by omega) (by omega) (fun h_2 => ?_) (fun h_2 => ?_)
      · refine R_iconst r_102_77 (v := nI 0) rfl ?_
        refine R_istore r_102_78 rfl ?_
        refine R_iload r_102_80 rfl ?_
        refine R_ifT r_102_82 (by decide) (by decide) ?_
        refine R_iinc1 r_102_126 rfl rfl ?_
        refine R_goto r_102_129 (by decide) ?_
        have := fun h7 => ih (n + 1) h7 (by omega)
        first | (rw [filS_t ⟨by assumption, by assumption, by assumption, of_decide_eq_true (by assumption)⟩, noI_n (by omega)] at this; exact this _) | (rw [filS_f (by first | omega | (intro z; simp_all; done))] at this; exact this _)
      · refine R_iconst r_102_73 (v := nI 1) rfl ?_
        refine R_goto r_102_74 (by decide) ?_
        refine R_istore r_102_78 rfl ?_
        refine R_iload r_102_80 rfl ?_
        refine R_ifF r_102_82 (by decide) (by decide) ?_
        refine R_iload r_102_85 rfl ?_
        refine R_iload_n r_102_87 rfl ?_
        refine R_iandN r_102_88 ?_
        refine R_if_ne_N r_102_89 (by decide) (by omega) (fun h_3 => ?_) (fun h_3 => ?_)
        · refine R_iinc1 r_102_126 rfl rfl ?_
          refine R_goto r_102_129 (by decide) ?_
          have := fun h7 => ih (n + 1) h7 (by omega)
          first | (rw [filS_t ⟨by assumption, by assumption, by assumption, of_decide_eq_true (by assumption)⟩, noI_n (by omega)] at this; exact this _) | (rw [filS_f (by first | omega | (intro z; simp_all; done))] at this; exact this _)
        · refine R_aload_n r_102_92 rfl (by decide) ?_
          refine R_getf r_102_93 (by decide) hX.1.1 rfl ?_
          refine R_iload r_102_96 rfl ?_
          refine R_call2 r_102_98 rfl (sm_rv1 rfl rfl hX.1.2.1.1) (Nat.le_of_ble_eq_true rfl) (Nat.le_of_ble_eq_true rfl) ?_
          refine c_lawFalls hX.1.2.1 hW (by omega) ?_
          refine R_if_eq_b r_102_101 (by decide) (fun h_4 => ?_) (fun h_4 => ?_)
          · refine R_iinc1 r_102_126 rfl rfl ?_
            refine R_goto r_102_129 (by decide) ?_
            have := fun h7 => ih (n + 1) h7 (by omega)
            first | (rw [filS_t ⟨by assumption, by assumption, by assumption, of_decide_eq_true (by assumption)⟩, noI_n (by omega)] at this; exact this _) | (rw [filS_f (by first | omega | (intro z; simp_all; done))] at this; exact this _)
          · refine R_aload_n r_102_104 rfl (by decide) ?_
            refine R_getf r_102_105 (by decide) hX.1.1 rfl ?_
            refine R_iload r_102_108 rfl ?_
            refine R_call2 r_102_110 rfl (sm_rv1 rfl rfl hX.1.2.1.1) (Nat.le_of_ble_eq_true rfl) (Nat.le_of_ble_eq_true rfl) ?_
            refine c_cowsMilked hX.1.2.1 hW ?_
            refine R_if_eq_b r_102_113 (by decide) (fun h_5 => ?_) (fun h_5 => ?_)
            · refine R_iinc1 r_102_126 rfl rfl ?_
              refine R_goto r_102_129 (by decide) ?_
              have := fun h7 => ih (n + 1) h7 (by omega)
              first | (rw [filS_t ⟨by assumption, by assumption, by assumption, of_decide_eq_true (by assumption)⟩, noI_n (by omega)] at this; exact this _) | (rw [filS_f (by first | omega | (intro z; simp_all; done))] at this; exact this _)
            · refine R_iload r_102_116 rfl ?_
              refine R_istore_n r_102_118 rfl ?_
              refine R_iload r_102_119 rfl ?_
              refine R_call1 r_102_121 rfl rfl (Nat.le_of_ble_eq_true rfl) (Nat.le_of_ble_eq_true rfl) ?_
              refine c_bitCount (by omega) ?_
              refine R_istore r_102_124 rfl ?_
              refine R_iinc1 r_102_126 rfl rfl ?_
              refine R_goto r_102_129 (by decide) ?_
              have := fun h7 => ih (n + 1) h7 (by omega)
              first | (rw [filS_t ⟨by assumption, by assumption, by assumption, of_decide_eq_true (by assumption)⟩, noI_n (by omega)] at this; exact this _) | (rw [filS_f (by first | omega | (intro z; simp_all; done))] at this; exact this _)
def filR (I : sm_Is) (w : Nat) : Nat := min (stIn I w 31) (iBd I)
theorem c_fill {xs : List Int32} {d : Nat} {wd : sm_W} {Q : Option Value → sm_W → Prop} {tx : List Nat} {I : sm_Is} {w : Nat} {pa sh : List Nat} {sn : List (Nat × Nat)} (hX : cX wd tx I w pa sh sn) (hW : iWF I) (hw : w < 18446744073709551616) (hQ : ∀ w2, cX w2 tx I w pa sh sn → frm 0 21 wd w2 → Q (some (.int (noI (filS I (filR I w) (ntV I w) (allOf I + 1)).1))) w2) : Ct xs (d + 6) 102 [.ref 0] wd Q := by
  unfold Ct
  show RT xs (d + 6) 102 0 [some (.ref 0), none, none, none, none, none, none] [] wd Q
  obtain ⟨hW1, hW2, hW3, hW4, hW5, hW6, hW7, hW8, hW9, hW10, hW11, hW12, hW13, hW14, hW15⟩ := id hW
  have hsi := stIn_le hW w 31
  refine R_aload_n r_102_0 rfl (by decide) ?_
  refine R_bipush r_102_1 (v := nI 31) rfl ?_
  refine R_call2 r_102_3 rfl (sm_rv1 rfl rfl hX.1.1) (Nat.le_of_ble_eq_true rfl) (Nat.le_of_ble_eq_true rfl) ?_
  refine c_seatsIn hX.1 hW hw (by decide) ?_
  refine R_aload_n r_102_6 rfl (by decide) ?_
  refine R_getf r_102_7 (by decide) hX.1.1 rfl ?_
  refine R_call1 r_102_10 rfl (sm_rv1 rfl rfl hX.1.2.1.1) (Nat.le_of_ble_eq_true rfl) (Nat.le_of_ble_eq_true rfl) ?_
  refine c_bedsAshore hX.1.2.1 ?_
  refine R_minN r_102_13 (by omega) (Nat.le_of_ble_eq_true rfl) (by omega) (by omega) ?_
  refine R_istore_n r_102_16 rfl ?_
  refine R_aload_n r_102_17 rfl (by decide) ?_
  refine R_getf r_102_18 (by decide) hX.1.1 rfl ?_
  refine R_call1 r_102_21 rfl rfl (Nat.le_of_ble_eq_true rfl) (Nat.le_of_ble_eq_true rfl) ?_
  refine c_ice hw ?_
  refine R_if_eq_b r_102_24 (by decide) (fun h_1 => ?_) (fun h_1 => ?_)
  · refine R_aload_n r_102_31 rfl (by decide) ?_
    refine R_getf r_102_32 (by decide) hX.1.1 rfl ?_
    refine R_iconst r_102_35 (v := nI 3) rfl ?_
    refine R_call2 r_102_36 rfl (sm_rv1 rfl rfl hX.1.2.1.1) (Nat.le_of_ble_eq_true rfl) (Nat.le_of_ble_eq_true rfl) ?_
    refine c_ofKind hX.1.2.1 hW (by decide) ?_
    refine R_istore_n r_102_39 rfl ?_
    refine R_bipush r_102_40 (v := (-4)) rfl ?_
    refine R_istore_n r_102_42 rfl ?_
    refine R_iload_n r_102_43 rfl ?_
    refine R_iconst r_102_44 (v := nI 1) rfl ?_
    refine R_iaddN r_102_45 ?_
    refine R_istore r_102_46 rfl ?_
    refine R_iconst r_102_48 (v := nI 0) rfl ?_
    refine R_istore r_102_49 rfl ?_
    exact lp_fill hX hW hw (by omega) (by first | decide | exact kindN_lt hW 3) (by first | (have h9 := hQ _ hX frm.rf; unfold ntV at h9; rw [if_pos (by assumption)] at h9; exact h9) | (have h9 := hQ _ hX frm.rf; unfold ntV at h9; rw [if_neg (by simp [*])] at h9; exact h9)) (allOf I + 1) 0 _ (by omega)
  · refine R_iconst r_102_27 (v := nI 0) rfl ?_
    refine R_goto r_102_28 (by decide) ?_
    refine R_istore_n r_102_39 rfl ?_
    refine R_bipush r_102_40 (v := (-4)) rfl ?_
    refine R_istore_n r_102_42 rfl ?_
    refine R_iload_n r_102_43 rfl ?_
    refine R_iconst r_102_44 (v := nI 1) rfl ?_
    refine R_iaddN r_102_45 ?_
    refine R_istore r_102_46 rfl ?_
    refine R_iconst r_102_48 (v := nI 0) rfl ?_
    refine R_istore r_102_49 rfl ?_
    exact lp_fill hX hW hw (by omega) (by first | decide | exact kindN_lt hW 3) (by first | (have h9 := hQ _ hX frm.rf; unfold ntV at h9; rw [if_pos (by assumption)] at h9; exact h9) | (have h9 := hQ _ hX frm.rf; unfold ntV at h9; rw [if_neg (by simp [*])] at h9; exact h9)) (allOf I + 1) 0 _ (by omega)
theorem lp_help {xs : List Int32} {d : Nat} {Q : Option Value → sm_W → Prop} {tx : List Nat} {I : sm_Is} {w : Nat} {pa sh : List Nat} {sn : List (Nat × Nat)} (hW : iWF I) (hw : w < 18446744073709551616) {q : Nat} (hq : q < 2) {x2 : Int32} {wd0 : sm_W} (hQ : ∀ w2, cX w2 tx I w pa sh sn → frm 0 21 wd0 w2 → Q (some (.int (if x2 = 0 then noI (hlS I w q (iB I)).1 else noI (hlS I w q (iB I)).2))) w2) : ∀ (k : Nat) (b : Nat) (h7 : Option Value) (wd : sm_W), (b + k = iB I) → (cX wd tx I w pa sh sn) → (frm 0 21 wd0 wd) → RT xs (d + 6) 105 35 [some (.ref 0), some (.int (nI q)), some (.int x2), some (.int (nI (sHeld w))), some (.int (noI (hlS I w q b).1)), some (.int (noI (hlS I w q b).2)), some (.int (nI b)), h7] [] wd Q := by
  intro k
  induction k with
  | zero =>
    intro b h7 wd hk hX hf
    obtain ⟨hW1, hW2, hW3, hW4, hW5, hW6, hW7, hW8, hW9, hW10, hW11, hW12, hW13, hW14, hW15⟩ := id hW
    have hhl := hlS_le I w q b
    have hhn : hlN I w q b ≤ 8 := pcUp_le _ 8
    have hsh := sHeld_lt w
    refine R_iload r_105_35 rfl ?_
    refine R_aload_n r_105_37 rfl (by decide) ?_
    refine R_getf r_105_38 (by decide) hX.1.1 rfl ?_
    refine R_call1 r_105_41 rfl (sm_rv1 rfl rfl hX.1.2.1.1) (Nat.le_of_ble_eq_true rfl) (Nat.le_of_ble_eq_true rfl) ?_
    refine c_boats hX.1.2.1 ?_
    refine R_icmp_ge_N r_105_44 (by decide) (by omega) (by omega) (fun h_1 => ?_) (fun h_1 => ?_)
    · refine R_iload_n r_105_103 rfl ?_
      refine R_if_ne r_105_104 (by decide) (fun h_2 => ?_) (fun h_2 => ?_)
      · refine R_iload r_105_112 rfl ?_
        refine R_iret r_105_114 (ty := .int) rfl rfl (by decide) ?_
        have h9 := hQ _ hX hf; rw [show iB I = b by omega] at h9; first | (rw [if_pos (by assumption)] at h9; exact h9) | (rw [if_neg (by assumption)] at h9; exact h9)
      · refine R_iload r_105_107 rfl ?_
        refine R_goto r_105_109 (by decide) ?_
        refine R_iret r_105_114 (ty := .int) rfl rfl (by decide) ?_
        have h9 := hQ _ hX hf; rw [show iB I = b by omega] at h9; first | (rw [if_pos (by assumption)] at h9; exact h9) | (rw [if_neg (by assumption)] at h9; exact h9)
    · exfalso; omega
  | succ k ih =>
    intro b h7 wd hk hX hf
    obtain ⟨hW1, hW2, hW3, hW4, hW5, hW6, hW7, hW8, hW9, hW10, hW11, hW12, hW13, hW14, hW15⟩ := id hW
    have hhl := hlS_le I w q b
    have hhn : hlN I w q b ≤ 8 := pcUp_le _ 8
    have hsh := sHeld_lt w
    refine R_iload r_105_35 rfl ?_
    refine R_aload_n r_105_37 rfl (by decide) ?_
    refine R_getf r_105_38 (by decide) hX.1.1 rfl ?_
    refine R_call1 r_105_41 rfl (sm_rv1 rfl rfl hX.1.2.1.1) (Nat.le_of_ble_eq_true rfl) (Nat.le_of_ble_eq_true rfl) ?_
    refine c_boats hX.1.2.1 ?_
    refine R_icmp_ge_N r_105_44 (by decide) (by omega) (by omega) (fun h_1 => ?_) (fun h_1 => ?_)
    · exfalso; omega
    · refine R_iload_n r_105_47 rfl ?_
      refine R_iload r_105_48 rfl ?_
      refine R_iushrN r_105_50 (by omega) (by omega) ?_
      refine R_iconst r_105_51 (v := nI 1) rfl ?_
      refine R_iandBit r_105_52 ?_
      refine R_if_ne_b r_105_53 (by decide) (fun h_2 => ?_) (fun h_2 => ?_)
      · refine R_aload_n r_105_59 rfl (by decide) ?_
        refine R_aload_n r_105_60 rfl (by decide) ?_
        refine R_getf r_105_61 (by decide) hX.1.1 rfl ?_
        refine R_iload_n r_105_64 rfl ?_
        refine R_iconst r_105_65 (v := nI 1) rfl ?_
        refine R_iload r_105_66 rfl ?_
        refine R_ishlN r_105_68 (by omega) ?_
        refine R_ixorN r_105_69 ?_
        refine R_call2 r_105_70 rfl rfl (Nat.le_of_ble_eq_true rfl) (Nat.le_of_ble_eq_true rfl) ?_
        refine c_withHeld hw (hb_lt (by omega)) ?_
        refine R_iload_n r_105_73 rfl ?_
        refine R_call3 r_105_74 rfl (sm_rv1 rfl rfl hX.1.1) (Nat.le_of_ble_eq_true rfl) (Nat.le_of_ble_eq_true rfl) ?_
        refine c_leavers hX.1 hW (wHeld_lt hw) hq ?_
        refine R_call1 r_105_77 rfl rfl (Nat.le_of_ble_eq_true rfl) (Nat.le_of_ble_eq_true rfl) ?_
        refine c_bitCount (lvs_lt _ _ _) ?_
        refine R_istore r_105_80 rfl ?_
        refine R_iload r_105_82 rfl ?_
        refine R_iload r_105_84 rfl ?_
        refine R_icmp_le r_105_86 (by decide) (fun h_3 => ?_) (fun h_3 => ?_)
        · refine R_iinc1 r_105_97 rfl rfl ?_
          refine R_goto r_105_100 (by decide) ?_
          have := fun h7 => ih (b + 1) h7 _ (by omega) (cX.night hX hW I (wHeld w (sHeld w ^^^ 1 <<< b)) hW).1 (frm.tr hf (frm.wide (cX.night hX hW I (wHeld w (sHeld w ^^^ 1 <<< b)) hW).2 (by decide) (by decide)))
          first | (rw [hlS_1 (by assumption)] at this; exact this _) | (rw [hlS_2 ((noI_le hhn hhl).mp (by assumption))] at this; exact this _) | (rw [hlS_t (by assumption) (Classical.byContradiction (fun z => (by assumption : ¬ _ ≤ _) ((noI_le hhn hhl).mpr z))), noI_n (by omega), noI_n (by omega)] at this; exact this _)
        · refine R_iload r_105_89 rfl ?_
          refine R_istore r_105_91 rfl ?_
          refine R_iload r_105_93 rfl ?_
          refine R_istore r_105_95 rfl ?_
          refine R_iinc1 r_105_97 rfl rfl ?_
          refine R_goto r_105_100 (by decide) ?_
          have := fun h7 => ih (b + 1) h7 _ (by omega) (cX.night hX hW I (wHeld w (sHeld w ^^^ 1 <<< b)) hW).1 (frm.tr hf (frm.wide (cX.night hX hW I (wHeld w (sHeld w ^^^ 1 <<< b)) hW).2 (by decide) (by decide)))
          first | (rw [hlS_1 (by assumption)] at this; exact this _) | (rw [hlS_2 ((noI_le hhn hhl).mp (by assumption))] at this; exact this _) | (rw [hlS_t (by assumption) (Classical.byContradiction (fun z => (by assumption : ¬ _ ≤ _) ((noI_le hhn hhl).mpr z))), noI_n (by omega), noI_n (by omega)] at this; exact this _)
      · refine R_goto r_105_56 (by decide) ?_
        refine R_iinc1 r_105_97 rfl rfl ?_
        refine R_goto r_105_100 (by decide) ?_
        have := fun h7 => ih (b + 1) h7 _ (by omega) hX hf
        first | (rw [hlS_1 (by assumption)] at this; exact this _) | (rw [hlS_2 ((noI_le hhn hhl).mp (by assumption))] at this; exact this _) | (rw [hlS_t (by assumption) (Classical.byContradiction (fun z => (by assumption : ¬ _ ≤ _) ((noI_le hhn hhl).mpr z))), noI_n (by omega), noI_n (by omega)] at this; exact this _)
theorem c_help {xs : List Int32} {d : Nat} {wd : sm_W} {Q : Option Value → sm_W → Prop} {tx : List Nat} {I : sm_Is} {w : Nat} {pa sh : List Nat} {sn : List (Nat × Nat)} (hX : cX wd tx I w pa sh sn) (hW : iWF I) (hw : w < 18446744073709551616) {x1 x2 : Int32} (hB : (inR x1 2 && inR x2 2) = false → Q (some (.int (-1))) wd) (hQ : ∀ q, q < 2 → x1 = nI q → inR x2 2 = true → ∀ w2, cX w2 tx I w pa sh sn → frm 0 21 wd w2 → Q (some (.int (if x2 = 0 then noI (hlS I w q (iB I)).1 else noI (hlS I w q (iB I)).2))) w2) : Ct xs (d + 6) 105 [.ref 0, .int x1, .int x2] wd Q := by
  unfold Ct
  show RT xs (d + 6) 105 0 [some (.ref 0), some (.int x1), some (.int x2), none, none, none, none, none] [] wd Q
  obtain ⟨hW1, hW2, hW3, hW4, hW5, hW6, hW7, hW8, hW9, hW10, hW11, hW12, hW13, hW14, hW15⟩ := id hW
  refine R_iload_n r_105_0 rfl ?_
  refine R_call1 r_105_1 rfl rfl (Nat.le_of_ble_eq_true rfl) (Nat.le_of_ble_eq_true rfl) ?_
  refine c_isQuestion ?_
  refine R_if_eq_b r_105_4 (by decide) (fun h_1 => ?_) (fun h_1 => ?_)
  · refine R_iconst r_105_14 (v := (-1)) rfl ?_
    refine R_iret r_105_15 (ty := .int) rfl rfl (by decide) ?_
    exact hB (by simp [*])
  · refine R_iload_n r_105_7 rfl ?_
    refine R_call1 r_105_8 rfl rfl (Nat.le_of_ble_eq_true rfl) (Nat.le_of_ble_eq_true rfl) ?_
    refine c_isEither ?_
    refine R_if_ne_b r_105_11 (by decide) (fun h_2 => ?_) (fun h_2 => ?_)
    · refine R_aload_n r_105_16 rfl (by decide) ?_
      refine R_getf r_105_17 (by decide) hX.1.1 rfl ?_
      refine R_call1 r_105_20 rfl rfl (Nat.le_of_ble_eq_true rfl) (Nat.le_of_ble_eq_true rfl) ?_
      refine c_held hw ?_
      refine R_istore_n r_105_23 rfl ?_
      refine R_bipush r_105_24 (v := (-4)) rfl ?_
      refine R_istore r_105_26 rfl ?_
      refine R_bipush r_105_28 (v := (-4)) rfl ?_
      refine R_istore r_105_30 rfl ?_
      refine R_iconst r_105_32 (v := nI 0) rfl ?_
      refine R_istore r_105_33 rfl ?_
      obtain ⟨q, hq, rfl⟩ := inR_of (x := x1) (by assumption) (by decide)
      exact lp_help hW hw hq (hQ q hq rfl (by assumption)) (iB I) 0 _ _ (by omega) hX frm.rf
    · refine R_iconst r_105_14 (v := (-1)) rfl ?_
      refine R_iret r_105_15 (ty := .int) rfl rfl (by decide) ?_
      exact hB (by simp [*])
