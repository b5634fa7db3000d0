/-! by, both, beds of the class -/
theorem sumUp_congr {l : List Nat} {s s2 : Nat} : ∀ k, (∀ t, t < k → s.testBit t = s2.testBit t) → sumUp l s k = sumUp l s2 k
  | 0, _ => rfl
  | k + 1, h => by
    unfold sumUp
    rw [sumUp_congr k (fun t ht => h t (by omega)), h k (by omega)]
theorem sumUp_zero {l : List Nat} {s : Nat} : ∀ k, (∀ t, t < k → s.testBit t = false) → sumUp l s k = 0
  | 0, _ => rfl
  | k + 1, h => by
    unfold sumUp
    rw [sumUp_zero k (fun t ht => h t (by omega)), h k (by omega)]
    rfl
theorem not_bit {x t : Nat} (ht : t < 32) : (x ^^^ 4294967295).testBit t = !x.testBit t := by
  rw [Nat.testBit_xor, show (4294967295 : Nat) = 2 ^ 32 - 1 from rfl, Nat.testBit_two_pow_sub_one]
  simp [ht]
def frF (I : sm_Is) (held b : Nat) : Nat := if held.testBit b = true then 0 else (iS I).getD b 0
theorem frF_eq (I : sm_Is) (held : Nat) {b : Nat} (hb : b < 5) : sumUp (iS I) (1 <<< b &&& (held ^^^ 4294967295)) 5 = frF I held b := by
  unfold frF
  cases h : held.testBit b with
  | true =>
    rw [if_pos rfl]
    refine sumUp_zero 5 (fun t ht => ?_)
    rw [Nat.testBit_and, bit1, not_bit (by omega)]
    by_cases e : b = t
    · subst e; simp [h]
    · simp [e]
  | false =>
    rw [if_neg (by decide), sumUp_congr (s2 := 1 <<< b) 5 (fun t ht => ?_), sumUp_one, if_pos hb]
    rw [Nat.testBit_and, bit1, not_bit (by omega)]
    by_cases e : b = t
    · subst e; simp [h]
    · simp [e]
theorem frF_le {I : sm_Is} (hW : iWF I) (held b : Nat) : frF I held b ≤ 8 := by
  unfold frF
  split
  · decide
  · exact hW.2.2.2.2.2.2.2.1 b
def bosF (fr : Nat → Nat) : Nat → Nat → Nat → Nat
  | 0, _, _ => 99
  | k + 1, b, left => if left < fr b then b else bosF fr k (b + 1) (left - fr b)
def bosI (r : Nat) : Int32 := if r = 99 then -4 else nI r
theorem bosF_t {fr : Nat → Nat} {k b left : Nat} (h : left < fr b) : bosF fr (k + 1) b left = b := by rw [bosF, if_pos h]
theorem bosF_f {fr : Nat → Nat} {k b left : Nat} (h : fr b ≤ left) : bosF fr (k + 1) b left = bosF fr k (b + 1) (left - fr b) := by rw [bosF, if_neg (by omega)]
def byV (I : sm_Is) (w q i : Nat) : Int32 := if (lvs I w q).testBit i = false ∨ sIce w = true then -4 else bosI (bosF (frF I (sHeld w)) (iB I) 0 (pc8 (lvs I w q &&& (1 <<< i - 1))))
def wntq (I : sm_Is) (w q : Nat) : Nat := wnt (ntG I w) (ntB w) (ntV I w) (sAg w q) 0
def bo1 (I : sm_Is) (w : Nat) : Nat := min (min (pc8 (wntq I w 0)) (stIn I w 21)) (iBd I)
def bo2 (I : sm_Is) (w : Nat) : Nat := min (min (pc8 (wntq I w 1 &&& (wntq I w 0 ^^^ 4294967295))) (stIn I w 10)) (iBd I - bo1 I w)
theorem stIn_le {I : sm_Is} (hW : iWF I) (w m : Nat) : stIn I w m ≤ 40 := by
  unfold stIn
  split
  · decide
  · exact seats_le hW _
def bdF (I : sm_Is) (wn se : Nat) : Nat → Nat → Nat
  | 0, _ => 99
  | k + 1, b => if lawF I (pc8 (lowUp wn (min se b) 8).1) = true then b else bdF I wn se k (b + 1)
theorem bdF_t {I : sm_Is} {wn se k b : Nat} (h : lawF I (pc8 (lowUp wn (min se b) 8).1) = true) : bdF I wn se (k + 1) b = b := by rw [bdF, if_pos h]
theorem bdF_f {I : sm_Is} {wn se k b : Nat} (h : lawF I (pc8 (lowUp wn (min se b) 8).1) = false) : bdF I wn se (k + 1) b = bdF I wn se k (b + 1) := by rw [bdF, if_neg (by rw [h]; decide)]
theorem lp_boatOfSeat {xs : List Int32} {d : Nat} {wd : sm_W} {Q : Option Value → sm_W → Prop} {a : Nat} {I : sm_Is} (hI : isI wd a I) (hW : iWF I) {before held : Nat} : ∀ (k : Nat) (b left : Nat) (h5 : Option Value), (b + k = iB I) → (left < 2147483648) → (Q (some (.int (bosI (bosF (frF I held) k b left)))) wd) → RT xs (d + 1) 79 5 [some (.ref a), some (.int (nI before)), some (.int (nI held)), some (.int (nI left)), some (.int (nI b)), h5] [] wd Q := by
  intro k
  induction k with
  | zero =>
    intro b left h5 hk hleft hq
    obtain ⟨hI1, hI2, hI3, hI4, ha⟩ := id hI
    obtain ⟨hW1, hW2, hW3, hW4, hW5, hW6, hW7, hW8, hW9, hW10, hW11, hW12, hW13, hW14, hW15⟩ := id hW
    refine R_iload r_79_5 rfl ?_
    refine R_aload_n r_79_7 rfl (by omega) ?_
    refine R_getf r_79_8 (by decide) hI.1 rfl ?_
    refine R_icmp_ge_N r_79_11 (by decide) (by omega) (by omega) (fun h_1 => ?_) (fun h_1 => ?_)
    · refine R_bipush r_79_48 (v := (-4)) rfl ?_
      refine R_iret r_79_50 (ty := .int) rfl rfl (by decide) ?_
      exact hq
    · exfalso; omega
  | succ k ih =>
    intro b left h5 hk hleft hq
    obtain ⟨hI1, hI2, hI3, hI4, ha⟩ := id hI
    obtain ⟨hW1, hW2, hW3, hW4, hW5, hW6, hW7, hW8, hW9, hW10, hW11, hW12, hW13, hW14, hW15⟩ := id hW
    have hfr := frF_le hW held b
    refine R_iload r_79_5 rfl ?_
    refine R_aload_n r_79_7 rfl (by omega) ?_
    refine R_getf r_79_8 (by decide) hI.1 rfl ?_
    refine R_icmp_ge_N r_79_11 (by decide) (by omega) (by omega) (fun h_1 => ?_) (fun h_1 => ?_)
    · exfalso; omega
    · refine R_aload_n r_79_14 rfl (by omega) ?_
      refine R_iconst r_79_15 (v := nI 1) rfl ?_
      refine R_iload r_79_16 rfl ?_
      refine R_ishlN r_79_18 (by omega) ?_
      refine R_iload_n r_79_19 rfl ?_
      refine R_iconst r_79_20 (v := (-1)) rfl ?_
      refine R_ixorM r_79_21 ?_
      refine R_iandN r_79_22 ?_
      refine R_call2 r_79_23 rfl (sm_rv1 rfl rfl hI.1) (Nat.le_of_ble_eq_true rfl) (Nat.le_of_ble_eq_true rfl) ?_
      refine c_seatsOf hI hW (Nat.lt_of_le_of_lt Nat.and_le_left (by have := shl_lt (k := b) (by omega); omega)) ?_
      rw [frF_eq I held (by omega)]
      refine R_istore r_79_26 rfl ?_
      refine R_iload_n r_79_28 rfl ?_
      refine R_iload r_79_29 rfl ?_
      refine R_icmp_ge_N r_79_31 (by decide) (by omega) (by omega) (fun h_2 => ?_) (fun h_2 => ?_)
      · refine R_iload_n r_79_37 rfl ?_
        refine R_iload r_79_38 rfl ?_
        refine R_isubN r_79_40 (by omega) ?_
        refine R_istore_n r_79_41 rfl ?_
        refine R_iinc1 r_79_42 rfl rfl ?_
        refine R_goto r_79_45 (by decide) ?_
        rw [bosF_f (by assumption)] at hq
        exact ih (b + 1) _ _ (by omega) (by omega) hq
      · refine R_iload r_79_34 rfl ?_
        refine R_iret r_79_36 (ty := .int) rfl rfl (by decide) ?_
        rw [bosF_t (by assumption)] at hq
        unfold bosI at hq
        rw [if_neg (by omega)] at hq
        exact hq
theorem c_boatOfSeat {xs : List Int32} {d : Nat} {wd : sm_W} {Q : Option Value → sm_W → Prop} {a : Nat} {I : sm_Is} (hI : isI wd a I) (hW : iWF I) {before held : Nat} (hbf : before < 2147483648) (hQ : Q (some (.int (bosI (bosF (frF I held) (iB I) 0 before)))) wd) : Ct xs (d + 1) 79 [.ref a, .int (nI before), .int (nI held)] wd Q := by
  unfold Ct
  show RT xs (d + 1) 79 0 [some (.ref a), some (.int (nI before)), some (.int (nI held)), none, none, none] [] wd Q
  refine R_iload_n r_79_0 rfl ?_
  refine R_istore_n r_79_1 rfl ?_
  refine R_iconst r_79_2 (v := nI 0) rfl ?_
  refine R_istore r_79_3 rfl ?_
  exact lp_boatOfSeat hI hW (iB I) 0 before _ (by omega) hbf hQ
theorem c_by {xs : List Int32} {d : Nat} {wd : sm_W} {Q : Option Value → sm_W → Prop} {tx : List Nat} {I : sm_Is} {w : Nat} {pa sh : List Nat} {sn : List (Nat × Nat)} (hX : cX wd tx I w pa sh sn) (hW : iWF I) (hw : w < 18446744073709551616) {x1 x2 : Int32} (hB : (inR x1 2 && inR x2 (iN I)) = false → Q (some (.int (-1))) wd) (hQ : ∀ q i, q < 2 → i < iN I → x1 = nI q → x2 = nI i → ∀ v, v = byV I w q i → ∀ w2, cX w2 tx I w pa sh sn → frm 0 21 wd w2 → Q (some (.int v)) w2) : Ct xs (d + 6) 77 [.ref 0, .int x1, .int x2] wd Q := by
  unfold Ct
  show RT xs (d + 6) 77 0 [some (.ref 0), some (.int x1), some (.int x2), none, none] [] wd Q
  obtain ⟨hW1, hW2, hW3, hW4, hW5, hW6, hW7, hW8, hW9, hW10, hW11, hW12, hW13, hW14, hW15⟩ := id hW
  refine R_iload_n r_77_0 rfl ?_
  refine R_call1 r_77_1 rfl rfl (Nat.le_of_ble_eq_true rfl) (Nat.le_of_ble_eq_true rfl) ?_
  refine c_isQuestion ?_
  refine R_if_eq_b r_77_4 (by decide) (fun h_1 => ?_) (fun h_1 => ?_)
  · refine R_iconst r_77_15 (v := (-1)) rfl ?_
    refine R_iret r_77_16 (ty := .int) rfl rfl (by decide) ?_
    exact hB (by simp [*])
  · refine R_aload_n r_77_7 rfl (by decide) ?_
    refine R_iload_n r_77_8 rfl ?_
    refine R_call2 r_77_9 rfl (sm_rv1 rfl rfl hX.1.1) (Nat.le_of_ble_eq_true rfl) (Nat.le_of_ble_eq_true rfl) ?_
    refine c_isIslander hX.1 hW ?_
    refine R_if_ne_b r_77_12 (by decide) (fun h_2 => ?_) (fun h_2 => ?_)
    · refine R_aload_n r_77_17 rfl (by decide) ?_
      refine R_aload_n r_77_18 rfl (by decide) ?_
      refine R_getf r_77_19 (by decide) hX.1.1 rfl ?_
      obtain ⟨q, hq, rfl⟩ := inR_of (x := x1) (by assumption) (by decide)
      obtain ⟨i, hi, rfl⟩ := inR_of (x := x2) (by assumption) (by omega)
      have hlv := lvs_lt I w q
      refine R_iload_n r_77_22 rfl ?_
      refine R_call3 r_77_23 rfl (sm_rv1 rfl rfl hX.1.1) (Nat.le_of_ble_eq_true rfl) (Nat.le_of_ble_eq_true rfl) ?_
      refine c_leavers hX.1 hW hw hq ?_
      refine R_istore_n r_77_26 rfl ?_
      refine R_iload_n r_77_27 rfl ?_
      refine R_iload_n r_77_28 rfl ?_
      refine R_iushrN r_77_29 (by omega) (by omega) ?_
      refine R_iconst r_77_30 (v := nI 1) rfl ?_
      refine R_iandBit r_77_31 ?_
      refine R_if_eq_b r_77_32 (by decide) (fun h_3 => ?_) (fun h_3 => ?_)
      · refine R_bipush r_77_45 (v := (-4)) rfl ?_
        refine R_iret r_77_47 (ty := .int) rfl rfl (by decide) ?_
        refine hQ q i hq hi rfl rfl _ ?_ _ (cX.night hX hW I w hW).1 (frm.tr frm.rf (frm.wide (cX.night hX hW I w hW).2 (by decide) (by decide))); unfold byV; simp [*]
      · refine R_aload_n r_77_35 rfl (by decide) ?_
        refine R_getf r_77_36 (by decide) (cX.night hX hW I w hW).1.1.1 rfl ?_
        refine R_call1 r_77_39 rfl rfl (Nat.le_of_ble_eq_true rfl) (Nat.le_of_ble_eq_true rfl) ?_
        refine c_ice hw ?_
        refine R_if_eq_b r_77_42 (by decide) (fun h_4 => ?_) (fun h_4 => ?_)
        · refine R_iload_n r_77_48 rfl ?_
          refine R_iconst r_77_49 (v := nI 1) rfl ?_
          refine R_iload_n r_77_50 rfl ?_
          refine R_ishlN r_77_51 (by omega) ?_
          refine R_iconst r_77_52 (v := nI 1) rfl ?_
          refine R_isubN r_77_53 (shl_pos _) ?_
          refine R_iandN r_77_54 ?_
          refine R_call1 r_77_55 rfl rfl (Nat.le_of_ble_eq_true rfl) (Nat.le_of_ble_eq_true rfl) ?_
          refine c_bitCount (Nat.lt_of_le_of_lt Nat.and_le_left (lvs_lt I w q)) ?_
          refine R_istore r_77_58 rfl ?_
          refine R_aload_n r_77_60 rfl (by decide) ?_
          refine R_getf r_77_61 (by decide) (cX.night hX hW I w hW).1.1.1 rfl ?_
          refine R_iload r_77_64 rfl ?_
          refine R_aload_n r_77_66 rfl (by decide) ?_
          refine R_getf r_77_67 (by decide) (cX.night hX hW I w hW).1.1.1 rfl ?_
          refine R_call1 r_77_70 rfl rfl (Nat.le_of_ble_eq_true rfl) (Nat.le_of_ble_eq_true rfl) ?_
          refine c_held hw ?_
          refine R_call3 r_77_73 rfl (sm_rv1 rfl rfl (cX.night hX hW I w hW).1.1.2.1.1) (Nat.le_of_ble_eq_true rfl) (Nat.le_of_ble_eq_true rfl) ?_
          refine c_boatOfSeat (cX.night hX hW I w hW).1.1.2.1 hW (by have : pc8 (lvs I w q &&& (1 <<< i - 1)) ≤ 8 := pcUp_le _ 8; omega) ?_
          refine R_iret r_77_76 (ty := .int) rfl rfl (by decide) ?_
          refine hQ q i hq hi rfl rfl _ ?_ _ (cX.night hX hW I w hW).1 (frm.tr frm.rf (frm.wide (cX.night hX hW I w hW).2 (by decide) (by decide))); unfold byV; simp [*]
        · refine R_bipush r_77_45 (v := (-4)) rfl ?_
          refine R_iret r_77_47 (ty := .int) rfl rfl (by decide) ?_
          refine hQ q i hq hi rfl rfl _ ?_ _ (cX.night hX hW I w hW).1 (frm.tr frm.rf (frm.wide (cX.night hX hW I w hW).2 (by decide) (by decide))); unfold byV; simp [*]
    · refine R_iconst r_77_15 (v := (-1)) rfl ?_
      refine R_iret r_77_16 (ty := .int) rfl rfl (by decide) ?_
      exact hB (by simp [*])
theorem c_both {xs : List Int32} {d : Nat} {wd : sm_W} {Q : Option Value → sm_W → Prop} {tx : List Nat} {I : sm_Is} {w : Nat} {pa sh : List Nat} {sn : List (Nat × Nat)} (hX : cX wd tx I w pa sh sn) (hW : iWF I) (hw : w < 18446744073709551616) {x1 : Int32} (hB : inR x1 2 = false → Q (some (.int (-1))) wd) (hQ0 : x1 = nI 0 → ∀ w2, cX w2 tx I w pa sh sn → frm 0 21 wd w2 → Q (some (.int (nI (bo1 I w)))) w2) (hQ1 : x1 = nI 1 → ∀ w2, cX w2 tx I w pa sh sn → frm 0 21 wd w2 → Q (some (.int (nI (bo2 I w)))) w2) : Ct xs (d + 6) 106 [.ref 0, .int x1] wd Q := by
  unfold Ct
  show RT xs (d + 6) 106 0 [some (.ref 0), some (.int x1), none, none, none, none] [] wd Q
  obtain ⟨hW1, hW2, hW3, hW4, hW5, hW6, hW7, hW8, hW9, hW10, hW11, hW12, hW13, hW14, hW15⟩ := id hW
  have hp1 : pc8 (wntq I w 0) ≤ 8 := pcUp_le _ 8
  have hp2 : pc8 (wntq I w 1 &&& (wntq I w 0 ^^^ 4294967295)) ≤ 8 := pcUp_le _ 8
  have hs1 := stIn_le hW w 21
  have hs2 := stIn_le hW w 10
  unfold wntq at hp1 hp2
  refine R_iload_n r_106_0 rfl ?_
  refine R_call1 r_106_1 rfl rfl (Nat.le_of_ble_eq_true rfl) (Nat.le_of_ble_eq_true rfl) ?_
  refine c_isQuestion ?_
  refine R_if_ne_b r_106_4 (by decide) (fun h_1 => ?_) (fun h_1 => ?_)
  · refine R_aload_n r_106_9 rfl (by decide) ?_
    refine R_getf r_106_10 (by decide) hX.1.1 rfl ?_
    refine R_aload_n r_106_13 rfl (by decide) ?_
    refine R_getf r_106_14 (by decide) hX.1.1 rfl ?_
    refine R_aload_n r_106_17 rfl (by decide) ?_
    refine R_getf r_106_18 (by decide) hX.1.1 rfl ?_
    refine R_call3 r_106_21 rfl (sm_rv1 rfl rfl hX.1.2.2.choose_spec.choose_spec.choose_spec.choose_spec.choose_spec.1) (Nat.le_of_ble_eq_true rfl) (Nat.le_of_ble_eq_true rfl) ?_
    refine c_set hX.1.2.1 hW hw (by decide) hX.1.2.2 ?_
    refine R_aload_n r_106_24 rfl (by decide) ?_
    refine R_getf r_106_25 (by decide) (cX.night hX hW I w hW).1.1.1 rfl ?_
    refine R_aload_n r_106_28 rfl (by decide) ?_
    refine R_getf r_106_29 (by decide) (cX.night hX hW I w hW).1.1.1 rfl ?_
    refine R_iconst r_106_32 (v := nI 0) rfl ?_
    refine R_call2 r_106_33 rfl rfl (Nat.le_of_ble_eq_true rfl) (Nat.le_of_ble_eq_true rfl) ?_
    refine c_against hw (q := 0) (by decide) ?_
    refine R_iconst r_106_36 (v := nI 0) rfl ?_
    refine R_call3 r_106_37 rfl (sm_rv1 rfl rfl (cX.night hX hW I w hW).1.1.2.2.choose_spec.choose_spec.choose_spec.choose_spec.choose_spec.1) (Nat.le_of_ble_eq_true rfl) (Nat.le_of_ble_eq_true rfl) ?_
    refine c_wanting (nightSet_isN hX.1.2.2 hW) (sAg_lt _ _) ?_
    refine R_istore_n r_106_40 rfl ?_
    refine R_aload_n r_106_41 rfl (by decide) ?_
    refine R_getf r_106_42 (by decide) (cX.night hX hW I w hW).1.1.1 rfl ?_
    refine R_aload_n r_106_45 rfl (by decide) ?_
    refine R_getf r_106_46 (by decide) (cX.night hX hW I w hW).1.1.1 rfl ?_
    refine R_iconst r_106_49 (v := nI 1) rfl ?_
    refine R_call2 r_106_50 rfl rfl (Nat.le_of_ble_eq_true rfl) (Nat.le_of_ble_eq_true rfl) ?_
    refine c_against hw (q := 1) (by decide) ?_
    refine R_iconst r_106_53 (v := nI 0) rfl ?_
    refine R_call3 r_106_54 rfl (sm_rv1 rfl rfl (cX.night hX hW I w hW).1.1.2.2.choose_spec.choose_spec.choose_spec.choose_spec.choose_spec.1) (Nat.le_of_ble_eq_true rfl) (Nat.le_of_ble_eq_true rfl) ?_
    refine c_wanting (nightSet_isN hX.1.2.2 hW) (sAg_lt _ _) ?_
    refine R_iload_n r_106_57 rfl ?_
    refine R_iconst r_106_58 (v := (-1)) rfl ?_
    refine R_ixorM r_106_59 ?_
    refine R_iandN r_106_60 ?_
    refine R_istore_n r_106_61 rfl ?_
    refine R_aload_n r_106_62 rfl (by decide) ?_
    refine R_getf r_106_63 (by decide) (cX.night hX hW I w hW).1.1.1 rfl ?_
    refine R_call1 r_106_66 rfl (sm_rv1 rfl rfl (cX.night hX hW I w hW).1.1.2.1.1) (Nat.le_of_ble_eq_true rfl) (Nat.le_of_ble_eq_true rfl) ?_
    refine c_bedsAshore (cX.night hX hW I w hW).1.1.2.1 ?_
    refine R_istore r_106_69 rfl ?_
    refine R_iload_n r_106_71 rfl ?_
    refine R_call1 r_106_72 rfl rfl (Nat.le_of_ble_eq_true rfl) (Nat.le_of_ble_eq_true rfl) ?_
    refine c_bitCount (by first | exact wnt_lt _ _ _ _ _ | exact Nat.lt_of_le_of_lt Nat.and_le_left (wnt_lt _ _ _ _ _)) ?_
    refine R_aload_n r_106_75 rfl (by decide) ?_
    refine R_bipush r_106_76 (v := nI 21) rfl ?_
    refine R_call2 r_106_78 rfl (sm_rv1 rfl rfl (cX.night hX hW I w hW).1.1.1) (Nat.le_of_ble_eq_true rfl) (Nat.le_of_ble_eq_true rfl) ?_
    refine c_seatsIn (cX.night hX hW I w hW).1.1 hW hw (by decide) ?_
    refine R_minN r_106_81 (by omega) (Nat.le_of_ble_eq_true rfl) (by omega) (by omega) ?_
    refine R_iload r_106_84 rfl ?_
    refine R_minN r_106_86 (by omega) (Nat.le_of_ble_eq_true rfl) (by omega) (by omega) ?_
    refine R_istore r_106_89 rfl ?_
    refine R_iload_n r_106_91 rfl ?_
    refine R_if_ne r_106_92 (by decide) (fun h_2 => ?_) (fun h_2 => ?_)
    · refine R_iload_n r_106_98 rfl ?_
      refine R_call1 r_106_99 rfl rfl (Nat.le_of_ble_eq_true rfl) (Nat.le_of_ble_eq_true rfl) ?_
      refine c_bitCount (by first | exact wnt_lt _ _ _ _ _ | exact Nat.lt_of_le_of_lt Nat.and_le_left (wnt_lt _ _ _ _ _)) ?_
      refine R_aload_n r_106_102 rfl (by decide) ?_
      refine R_bipush r_106_103 (v := nI 10) rfl ?_
      refine R_call2 r_106_105 rfl (sm_rv1 rfl rfl (cX.night hX hW I w hW).1.1.1) (Nat.le_of_ble_eq_true rfl) (Nat.le_of_ble_eq_true rfl) ?_
      refine c_seatsIn (cX.night hX hW I w hW).1.1 hW hw (by decide) ?_
      refine R_minN r_106_108 (by omega) (Nat.le_of_ble_eq_true rfl) (by omega) (by omega) ?_
      refine R_iload r_106_111 rfl ?_
      refine R_iload r_106_113 rfl ?_
      refine R_isubN r_106_115 (Nat.min_le_right _ _) ?_
      refine R_minN r_106_116 (by omega) (Nat.le_of_ble_eq_true rfl) (by omega) (by omega) ?_
      refine R_iret r_106_119 (ty := .int) rfl rfl (by decide) ?_
      first | exact hQ0 (by rw [h_2]; rfl) _ (cX.night hX hW I w hW).1 (frm.tr frm.rf (frm.wide (cX.night hX hW I w hW).2 (by decide) (by decide))) | (refine hQ1 ?_ _ (cX.night hX hW I w hW).1 (frm.tr frm.rf (frm.wide (cX.night hX hW I w hW).2 (by decide) (by decide))); obtain ⟨q, hq, rfl⟩ := inR_of (x := x1) (by assumption) (by decide); rcases (by omega : q = 0 ∨ q = 1) with rfl | rfl; exact absurd rfl h_2; rfl)
    · refine R_iload r_106_95 rfl ?_
      refine R_iret r_106_97 (ty := .int) rfl rfl (by decide) ?_
      first | exact hQ0 (by rw [h_2]; rfl) _ (cX.night hX hW I w hW).1 (frm.tr frm.rf (frm.wide (cX.night hX hW I w hW).2 (by decide) (by decide))) | (refine hQ1 ?_ _ (cX.night hX hW I w hW).1 (frm.tr frm.rf (frm.wide (cX.night hX hW I w hW).2 (by decide) (by decide))); obtain ⟨q, hq, rfl⟩ := inR_of (x := x1) (by assumption) (by decide); rcases (by omega : q = 0 ∨ q = 1) with rfl | rfl; exact absurd rfl h_2; rfl)
  · refine R_iconst r_106_7 (v := (-1)) rfl ?_
    refine R_iret r_106_8 (ty := .int) rfl rfl (by decide) ?_
    exact hB (by assumption)
theorem lp_beds {xs : List Int32} {d : Nat} {wd : sm_W} {Q : Option Value → sm_W → Prop} {tx : List Nat} {I : sm_Is} {w : Nat} {pa sh : List Nat} {sn : List (Nat × Nat)} (hX : cX wd tx I w pa sh sn) (hW : iWF I) (hw : w < 18446744073709551616) {gs : List Nat} {nv se bd : Nat} {nb : Bool} (hN : isN wd gs nv se bd nb) {wn : Nat} (hwn : wn < 2147483648) {x1 : Int32} : ∀ (k : Nat) (b : Nat), (b + k = 10) → (Q (some (.int (bosI (bdF I wn se k b)))) wd) → RT xs (d + 5) 104 43 [some (.ref 0), some (.int x1), some (.int (nI wn)), some (.int (nI b))] [] wd Q := by
  intro k
  induction k with
  | zero =>
    intro b hk hq
    refine R_iload_n r_104_43 rfl ?_
    refine R_bipush r_104_44 (v := nI 9) rfl ?_
    refine R_icmp_gt_N r_104_46 (by decide) (by omega) (by omega) (fun h_1 => ?_) (fun h_1 => ?_)
    · refine R_bipush r_104_76 (v := (-4)) rfl ?_
      refine R_iret r_104_78 (ty := .int) rfl rfl (by decide) ?_
      exact hq
    · exfalso; omega
  | succ k ih =>
    intro b hk hq
    refine R_iload_n r_104_43 rfl ?_
    refine R_bipush r_104_44 (v := nI 9) rfl ?_
    refine R_icmp_gt_N r_104_46 (by decide) (by omega) (by omega) (fun h_1 => ?_) (fun h_1 => ?_)
    · exfalso; omega
    · refine R_aload_n r_104_49 rfl (by decide) ?_
      refine R_getf r_104_50 (by decide) hX.1.1 rfl ?_
      refine R_aload_n r_104_53 rfl (by decide) ?_
      refine R_getf r_104_54 (by decide) hX.1.1 rfl ?_
      refine R_iload_n r_104_57 rfl ?_
      refine R_iload_n r_104_58 rfl ?_
      refine R_call3 r_104_59 rfl (sm_rv1 rfl rfl hX.1.2.2.choose_spec.choose_spec.choose_spec.choose_spec.choose_spec.1) (Nat.le_of_ble_eq_true rfl) (Nat.le_of_ble_eq_true rfl) ?_
      refine c_leavingOf hN hwn (by omega) ?_
      refine R_call2 r_104_62 rfl (sm_rv1 rfl rfl hX.1.2.1.1) (Nat.le_of_ble_eq_true rfl) (Nat.le_of_ble_eq_true rfl) ?_
      refine c_lawFalls hX.1.2.1 hW (lowUp_lt _ _ 8) ?_
      refine R_if_eq_b r_104_65 (by decide) (fun h_2 => ?_) (fun h_2 => ?_)
      · refine R_iinc1 r_104_70 rfl rfl ?_
        refine R_goto r_104_73 (by decide) ?_
        rw [bdF_f (by assumption)] at hq
        exact ih (b + 1) (by omega) hq
      · refine R_iload_n r_104_68 rfl ?_
        refine R_iret r_104_69 (ty := .int) rfl rfl (by decide) ?_
        rw [bdF_t (by assumption)] at hq
        unfold bosI at hq
        rw [if_neg (by omega)] at hq
        exact hq
theorem c_beds {xs : List Int32} {d : Nat} {wd : sm_W} {Q : Option Value → sm_W → Prop} {tx : List Nat} {I : sm_Is} {w : Nat} {pa sh : List Nat} {sn : List (Nat × Nat)} (hX : cX wd tx I w pa sh sn) (hW : iWF I) (hw : w < 18446744073709551616) {x1 : Int32} (hB : inR x1 2 = false → Q (some (.int (-1))) wd) (hQ : ∀ q, q < 2 → x1 = nI q → ∀ w2, cX w2 tx I w pa sh sn → frm 0 21 wd w2 → Q (some (.int (bosI (bdF I (wntq I w q) (ntS I w) 10 0)))) w2) : Ct xs (d + 5) 104 [.ref 0, .int x1] wd Q := by
  unfold Ct
  show RT xs (d + 5) 104 0 [some (.ref 0), some (.int x1), none, none] [] wd Q
  obtain ⟨hW1, hW2, hW3, hW4, hW5, hW6, hW7, hW8, hW9, hW10, hW11, hW12, hW13, hW14, hW15⟩ := id hW
  refine R_iload_n r_104_0 rfl ?_
  refine R_call1 r_104_1 rfl rfl (Nat.le_of_ble_eq_true rfl) (Nat.le_of_ble_eq_true rfl) ?_
  refine c_isQuestion ?_
  refine R_if_ne_b r_104_4 (by decide) (fun h_1 => ?_) (fun h_1 => ?_)
  · refine R_aload_n r_104_9 rfl (by decide) ?_
    refine R_getf r_104_10 (by decide) hX.1.1 rfl ?_
    refine R_aload_n r_104_13 rfl (by decide) ?_
    refine R_getf r_104_14 (by decide) hX.1.1 rfl ?_
    refine R_aload_n r_104_17 rfl (by decide) ?_
    refine R_getf r_104_18 (by decide) hX.1.1 rfl ?_
    refine R_call3 r_104_21 rfl (sm_rv1 rfl rfl hX.1.2.2.choose_spec.choose_spec.choose_spec.choose_spec.choose_spec.1) (Nat.le_of_ble_eq_true rfl) (Nat.le_of_ble_eq_true rfl) ?_
    refine c_set hX.1.2.1 hW hw (by decide) hX.1.2.2 ?_
    refine R_aload_n r_104_24 rfl (by decide) ?_
    refine R_getf r_104_25 (by decide) (cX.night hX hW I w hW).1.1.1 rfl ?_
    refine R_aload_n r_104_28 rfl (by decide) ?_
    refine R_getf r_104_29 (by decide) (cX.night hX hW I w hW).1.1.1 rfl ?_
    obtain ⟨q, hq, rfl⟩ := inR_of (x := x1) (by assumption) (by decide)
    refine R_iload_n r_104_32 rfl ?_
    refine R_call2 r_104_33 rfl rfl (Nat.le_of_ble_eq_true rfl) (Nat.le_of_ble_eq_true rfl) ?_
    refine c_against hw hq ?_
    refine R_iconst r_104_36 (v := nI 0) rfl ?_
    refine R_call3 r_104_37 rfl (sm_rv1 rfl rfl (cX.night hX hW I w hW).1.1.2.2.choose_spec.choose_spec.choose_spec.choose_spec.choose_spec.1) (Nat.le_of_ble_eq_true rfl) (Nat.le_of_ble_eq_true rfl) ?_
    refine c_wanting (nightSet_isN hX.1.2.2 hW) (sAg_lt _ _) ?_
    refine R_istore_n r_104_40 rfl ?_
    refine R_iconst r_104_41 (v := nI 0) rfl ?_
    refine R_istore_n r_104_42 rfl ?_
    exact lp_beds (cX.night hX hW I w hW).1 hW hw (nightSet_isN hX.1.2.2 hW) (Nat.lt_trans (wnt_lt _ _ _ _ _) (by decide)) 10 0 (by decide) (hQ q hq rfl _ (cX.night hX hW I w hW).1 (frm.tr frm.rf (frm.wide (cX.night hX hW I w hW).2 (by decide) (by decide))))
  · refine R_iconst r_104_7 (v := (-1)) rfl ?_
    refine R_iret r_104_8 (ty := .int) rfl rfl (by decide) ?_
    exact hB (by assumption)
