/-! the class's object: helpers, wants, leave, falls, milked -/
def inR (x : Int32) (n : Nat) : Bool := decide (0 ≤ x ∧ x < nI n)
theorem inR_of {x : Int32} {n : Nat} (h : inR x n = true) (hn : n < 2147483648) : ∃ q, q < n ∧ x = nI q := by
  have h1 := of_decide_eq_true h
  obtain ⟨q, hq, rfl⟩ := nI_of (x := x) (fun z => by
    have := h1.1
    rw [Int32.le_iff_toInt_le] at this
    rw [Int32.lt_iff_toInt_lt] at z
    omega)
  exact ⟨q, (nI_ltI hq hn).mp h1.2, rfl⟩
theorem inR_N {q n : Nat} (hq : q < 2147483648) (hn : n < 2147483648) : inR (nI q) n = decide (q < n) := by
  unfold inR
  have h1 : (0 ≤ nI q ∧ nI q < nI n) ↔ q < n := ⟨fun h => (nI_ltI hq hn).mp h.2, fun h => ⟨nI_pos' hq, (nI_ltI hq hn).mpr h⟩⟩
  simp [h1]
theorem inR_f1 {x : Int32} {n : Nat} (h : x < 0) : inR x n = false := by
  refine decide_eq_false (fun z => ?_)
  have h1 := z.1
  rw [Int32.le_iff_toInt_le] at h1
  rw [Int32.lt_iff_toInt_lt] at h
  omega
theorem inR_f2 {x : Int32} {n : Nat} (h : nI n ≤ x) : inR x n = false := by
  refine decide_eq_false (fun z => ?_)
  have h1 := z.2
  rw [Int32.le_iff_toInt_le] at h
  rw [Int32.lt_iff_toInt_lt] at h1
  omega
theorem inR_t {x : Int32} {n : Nat} (h : ¬ x < 0) (h2 : ¬ nI n ≤ x) : inR x n = true := by
  refine decide_eq_true ⟨?_, ?_⟩
  · rw [Int32.lt_iff_toInt_lt] at h
    rw [Int32.le_iff_toInt_le]
    omega
  · rw [Int32.le_iff_toInt_le] at h2
    rw [Int32.lt_iff_toInt_lt]
    omega
def lvO (w : Nat) : sm_E := .inr (.inr (0, [.ref 1, .ref 3, .ref 5, .ref 9, .ref 13, .ref 15, .ref 17, .ref 19, .long (lN w)]))
def isV (wd : sm_W) (I : sm_Is) (w : Nat) : Prop := wd[0]? = some (lvO w) ∧ isI wd 9 I ∧ isN0 wd
theorem isN0_set {wd : sm_W} {k : Nat} {e : sm_E} (hk : k ≠ 13 ∧ k ≠ 14) (h : isN0 wd) : isN0 (wd.set k e) := by
  obtain ⟨v1, v2, v3, v4, l, h1, h2, h3⟩ := h
  exact ⟨v1, v2, v3, v4, l, sm_gn hk.1 h1, sm_gn hk.2 h2, h3⟩
theorem isV_set {wd : sm_W} {I : sm_Is} {w k : Nat} {e : sm_E} (hk : k ≠ 0 ∧ (k < 9 ∨ 14 < k)) (h : isV wd I w) : isV (wd.set k e) I w := ⟨sm_gn hk.1 h.1, isI_set (by omega) h.2.1, isN0_set (by omega) h.2.2⟩
theorem nightSet_isV {wd : sm_W} {I I2 : sm_Is} {w w2 : Nat} (hW : iWF I) (h : isV wd I2 w2) : isV (nightSet wd I w) I2 w2 := ⟨nightSet_gn (by decide) h.1, nightSet_isI (by decide) h.2.1, nightSet_isN0 hW h.2.2⟩
def lvs (I : sm_Is) (w q : Nat) : Nat := (lowUp (wnt (ntG I w) (ntB w) (ntV I w) (sAg w q) 0) (min (ntS I w) (iBd I)) 8).1
theorem lowUp_lt (s m : Nat) : ∀ k, (lowUp s m k).1 < 2 ^ k
  | 0 => Nat.lt_of_lt_of_le (by decide : 0 < 1) (Nat.le_refl _)
  | k + 1 => by
    have h1 := lowUp_lt s m k
    unfold lowUp
    split
    · refine Nat.or_lt_two_pow (Nat.lt_of_lt_of_le h1 (Nat.pow_le_pow_right (by decide) (Nat.le_succ k))) ?_
      rw [Nat.one_shiftLeft]
      exact Nat.pow_lt_pow_right (by decide) (Nat.lt_succ_self k)
    · exact Nat.lt_of_lt_of_le h1 (Nat.pow_le_pow_right (by decide) (Nat.le_succ k))
theorem lvs_lt (I : sm_Is) (w q : Nat) : lvs I w q < 256 := lowUp_lt _ _ 8
theorem sAg_lt (w q : Nat) : sAg w q < 256 := spart_lt w _ 8
theorem inR_2 (x : Int32) : inR x 2 = (decide (x = 0) || decide (x = nI 1)) := by
  by_cases h : inR x 2 = true
  · obtain ⟨q, hq, rfl⟩ := inR_of h (by decide)
    rcases (by omega : q = 0 ∨ q = 1) with rfl | rfl <;> decide
  · have h2 : ¬ x = 0 := fun z => h (by subst z; decide)
    have h3 : ¬ x = nI 1 := fun z => h (by subst z; decide)
    simp [h2, h3, h]
theorem c_isQuestion {xs : List Int32} {d : Nat} {wd : sm_W} {Q : Option Value → sm_W → Prop} {x : Int32} (hQ : Q (some (.int (b2i (inR x 2)))) wd) : Ct xs (d) 62 [.int x] wd Q := by
  unfold Ct
  show RT xs (d) 62 0 [some (.int x)] [] wd Q
  refine R_iload_n r_62_0 rfl ?_
  refine R_if_lt r_62_1 (by decide) (fun h_1 => ?_) (fun h_1 => ?_)
  · refine R_iconst r_62_13 (v := nI 0) rfl ?_
    refine R_iret r_62_14 (ty := .boolean) rfl (by decide) (by decide) ?_
    rw [show inR x 2 = false from by first | exact inR_f1 (by assumption) | exact inR_f2 (by assumption) | exact inR_t (by assumption) (by assumption)] at hQ; exact hQ
  · refine R_iload_n r_62_4 rfl ?_
    refine R_iconst r_62_5 (v := nI 2) rfl ?_
    refine R_icmp_ge r_62_6 (by decide) (fun h_2 => ?_) (fun h_2 => ?_)
    · refine R_iconst r_62_13 (v := nI 0) rfl ?_
      refine R_iret r_62_14 (ty := .boolean) rfl (by decide) (by decide) ?_
      rw [show inR x 2 = false from by first | exact inR_f1 (by assumption) | exact inR_f2 (by assumption) | exact inR_t (by assumption) (by assumption)] at hQ; exact hQ
    · refine R_iconst r_62_9 (v := nI 1) rfl ?_
      refine R_goto r_62_10 (by decide) ?_
      refine R_iret r_62_14 (ty := .boolean) rfl (by decide) (by decide) ?_
      rw [show inR x 2 = true from by first | exact inR_f1 (by assumption) | exact inR_f2 (by assumption) | exact inR_t (by assumption) (by assumption)] at hQ; exact hQ
theorem c_isEither {xs : List Int32} {d : Nat} {wd : sm_W} {Q : Option Value → sm_W → Prop} {x : Int32} (hQ : Q (some (.int (b2i (inR x 2)))) wd) : Ct xs (d) 84 [.int x] wd Q := by
  unfold Ct
  show RT xs (d) 84 0 [some (.int x)] [] wd Q
  refine R_iload_n r_84_0 rfl ?_
  refine R_if_eq r_84_1 (by decide) (fun h_1 => ?_) (fun h_1 => ?_)
  · refine R_iconst r_84_9 (v := nI 1) rfl ?_
    refine R_goto r_84_10 (by decide) ?_
    refine R_iret r_84_14 (ty := .boolean) rfl (by decide) (by decide) ?_
    rw [inR_2, show (decide (x = 0) || decide (x = nI 1)) = true from by simp [*]] at hQ; exact hQ
  · refine R_iload_n r_84_4 rfl ?_
    refine R_iconst r_84_5 (v := nI 1) rfl ?_
    refine R_icmp_ne r_84_6 (by decide) (fun h_2 => ?_) (fun h_2 => ?_)
    · refine R_iconst r_84_13 (v := nI 0) rfl ?_
      refine R_iret r_84_14 (ty := .boolean) rfl (by decide) (by decide) ?_
      rw [inR_2, show (decide (x = 0) || decide (x = nI 1)) = false from by simp [*]] at hQ; exact hQ
    · refine R_iconst r_84_9 (v := nI 1) rfl ?_
      refine R_goto r_84_10 (by decide) ?_
      refine R_iret r_84_14 (ty := .boolean) rfl (by decide) (by decide) ?_
      rw [inR_2, show (decide (x = 0) || decide (x = nI 1)) = true from by simp [*]] at hQ; exact hQ
theorem c_islanders {xs : List Int32} {d : Nat} {wd : sm_W} {Q : Option Value → sm_W → Prop} {a : Nat} {I : sm_Is} (hI : isI wd a I) (hQ : Q (some (.int (nI (iN I)))) wd) : Ct xs (d) 53 [.ref a] wd Q := by
  unfold Ct
  show RT xs (d) 53 0 [some (.ref a)] [] wd Q
  have ha := hI.2.2.2.2
  refine R_aload_n r_53_0 rfl (by omega) ?_
  refine R_getf r_53_1 (by decide) hI.1 rfl ?_
  refine R_iret r_53_4 (ty := .int) rfl rfl (by decide) ?_
  exact hQ
theorem c_boats {xs : List Int32} {d : Nat} {wd : sm_W} {Q : Option Value → sm_W → Prop} {a : Nat} {I : sm_Is} (hI : isI wd a I) (hQ : Q (some (.int (nI (iB I)))) wd) : Ct xs (d) 59 [.ref a] wd Q := by
  unfold Ct
  show RT xs (d) 59 0 [some (.ref a)] [] wd Q
  have ha := hI.2.2.2.2
  refine R_aload_n r_59_0 rfl (by omega) ?_
  refine R_getf r_59_1 (by decide) hI.1 rfl ?_
  refine R_iret r_59_4 (ty := .int) rfl rfl (by decide) ?_
  exact hQ
theorem c_bedsAshore {xs : List Int32} {d : Nat} {wd : sm_W} {Q : Option Value → sm_W → Prop} {a : Nat} {I : sm_Is} (hI : isI wd a I) (hQ : Q (some (.int (nI (iBd I)))) wd) : Ct xs (d) 68 [.ref a] wd Q := by
  unfold Ct
  show RT xs (d) 68 0 [some (.ref a)] [] wd Q
  have ha := hI.2.2.2.2
  refine R_aload_n r_68_0 rfl (by omega) ?_
  refine R_getf r_68_1 (by decide) hI.1 rfl ?_
  refine R_iret r_68_4 (ty := .int) rfl rfl (by decide) ?_
  exact hQ
theorem c_cowsToMilk {xs : List Int32} {d : Nat} {wd : sm_W} {Q : Option Value → sm_W → Prop} {a : Nat} {I : sm_Is} (hI : isI wd a I) (hQ : Q (some (.int (nI (iM I)))) wd) : Ct xs (d) 126 [.ref a] wd Q := by
  unfold Ct
  show RT xs (d) 126 0 [some (.ref a)] [] wd Q
  have ha := hI.2.2.2.2
  refine R_aload_n r_126_0 rfl (by omega) ?_
  refine R_getf r_126_1 (by decide) hI.1 rfl ?_
  refine R_iret r_126_4 (ty := .int) rfl rfl (by decide) ?_
  exact hQ
theorem c_tenths {xs : List Int32} {d : Nat} {wd : sm_W} {Q : Option Value → sm_W → Prop} {a : Nat} {I : sm_Is} (hI : isI wd a I) (hQ : Q (some (.int (nI (iP I)))) wd) : Ct xs (d) 127 [.ref a] wd Q := by
  unfold Ct
  show RT xs (d) 127 0 [some (.ref a)] [] wd Q
  have ha := hI.2.2.2.2
  refine R_aload_n r_127_0 rfl (by omega) ?_
  refine R_getf r_127_1 (by decide) hI.1 rfl ?_
  refine R_iret r_127_4 (ty := .int) rfl rfl (by decide) ?_
  exact hQ
theorem c_seasickTenths {xs : List Int32} {d : Nat} {wd : sm_W} {Q : Option Value → sm_W → Prop} {a : Nat} {I : sm_Is} (hI : isI wd a I) (hQ : Q (some (.int (nI (iX I)))) wd) : Ct xs (d) 117 [.ref a] wd Q := by
  unfold Ct
  show RT xs (d) 117 0 [some (.ref a)] [] wd Q
  have ha := hI.2.2.2.2
  refine R_aload_n r_117_0 rfl (by omega) ?_
  refine R_getf r_117_1 (by decide) hI.1 rfl ?_
  refine R_iret r_117_4 (ty := .int) rfl rfl (by decide) ?_
  exact hQ
theorem c_firstStanding {xs : List Int32} {d : Nat} {wd : sm_W} {Q : Option Value → sm_W → Prop} {a : Nat} {I : sm_Is} (hI : isI wd a I) (hQ : Q (some (.long (lN (iF I)))) wd) : Ct xs (d) 42 [.ref a] wd Q := by
  unfold Ct
  show RT xs (d) 42 0 [some (.ref a)] [] wd Q
  have ha := hI.2.2.2.2
  refine R_aload_n r_42_0 rfl (by omega) ?_
  refine R_getf r_42_1 (by decide) hI.1 rfl ?_
  refine R_lret r_42_4 rfl ?_
  exact hQ
theorem c_isIslander {xs : List Int32} {d : Nat} {wd : sm_W} {Q : Option Value → sm_W → Prop} {I : sm_Is} {w : Nat} (hV : isV wd I w) (hW : iWF I) {x : Int32} (hQ : Q (some (.int (b2i (inR x (iN I))))) wd) : Ct xs (d + 1) 55 [.ref 0, .int x] wd Q := by
  unfold Ct
  show RT xs (d + 1) 55 0 [some (.ref 0), some (.int x)] [] wd Q
  refine R_iload_n r_55_0 rfl ?_
  refine R_if_lt r_55_1 (by decide) (fun h_1 => ?_) (fun h_1 => ?_)
  · refine R_iconst r_55_19 (v := nI 0) rfl ?_
    refine R_iret r_55_20 (ty := .boolean) rfl (by decide) (by decide) ?_
    rw [show inR x (iN I) = false from by first | exact inR_f1 (by assumption) | exact inR_f2 (by assumption) | exact inR_t (by assumption) (by assumption)] at hQ; exact hQ
  · refine R_iload_n r_55_4 rfl ?_
    refine R_aload_n r_55_5 rfl (by decide) ?_
    refine R_getf r_55_6 (by decide) hV.1 rfl ?_
    refine R_call1 r_55_9 rfl (sm_rv1 rfl rfl hV.2.1.1) (Nat.le_of_ble_eq_true rfl) (Nat.le_of_ble_eq_true rfl) ?_
    refine c_islanders hV.2.1 ?_
    refine R_icmp_ge r_55_12 (by decide) (fun h_2 => ?_) (fun h_2 => ?_)
    · refine R_iconst r_55_19 (v := nI 0) rfl ?_
      refine R_iret r_55_20 (ty := .boolean) rfl (by decide) (by decide) ?_
      rw [show inR x (iN I) = false from by first | exact inR_f1 (by assumption) | exact inR_f2 (by assumption) | exact inR_t (by assumption) (by assumption)] at hQ; exact hQ
    · refine R_iconst r_55_15 (v := nI 1) rfl ?_
      refine R_goto r_55_16 (by decide) ?_
      refine R_iret r_55_20 (ty := .boolean) rfl (by decide) (by decide) ?_
      rw [show inR x (iN I) = true from by first | exact inR_f1 (by assumption) | exact inR_f2 (by assumption) | exact inR_t (by assumption) (by assumption)] at hQ; exact hQ
theorem c_isBoat {xs : List Int32} {d : Nat} {wd : sm_W} {Q : Option Value → sm_W → Prop} {I : sm_Is} {w : Nat} (hV : isV wd I w) (hW : iWF I) {x : Int32} (hQ : Q (some (.int (b2i (inR x (iB I))))) wd) : Ct xs (d + 1) 58 [.ref 0, .int x] wd Q := by
  unfold Ct
  show RT xs (d + 1) 58 0 [some (.ref 0), some (.int x)] [] wd Q
  refine R_iload_n r_58_0 rfl ?_
  refine R_if_lt r_58_1 (by decide) (fun h_1 => ?_) (fun h_1 => ?_)
  · refine R_iconst r_58_19 (v := nI 0) rfl ?_
    refine R_iret r_58_20 (ty := .boolean) rfl (by decide) (by decide) ?_
    rw [show inR x (iB I) = false from by first | exact inR_f1 (by assumption) | exact inR_f2 (by assumption) | exact inR_t (by assumption) (by assumption)] at hQ; exact hQ
  · refine R_iload_n r_58_4 rfl ?_
    refine R_aload_n r_58_5 rfl (by decide) ?_
    refine R_getf r_58_6 (by decide) hV.1 rfl ?_
    refine R_call1 r_58_9 rfl (sm_rv1 rfl rfl hV.2.1.1) (Nat.le_of_ble_eq_true rfl) (Nat.le_of_ble_eq_true rfl) ?_
    refine c_boats hV.2.1 ?_
    refine R_icmp_ge r_58_12 (by decide) (fun h_2 => ?_) (fun h_2 => ?_)
    · refine R_iconst r_58_19 (v := nI 0) rfl ?_
      refine R_iret r_58_20 (ty := .boolean) rfl (by decide) (by decide) ?_
      rw [show inR x (iB I) = false from by first | exact inR_f1 (by assumption) | exact inR_f2 (by assumption) | exact inR_t (by assumption) (by assumption)] at hQ; exact hQ
    · refine R_iconst r_58_15 (v := nI 1) rfl ?_
      refine R_goto r_58_16 (by decide) ?_
      refine R_iret r_58_20 (ty := .boolean) rfl (by decide) (by decide) ?_
      rw [show inR x (iB I) = true from by first | exact inR_f1 (by assumption) | exact inR_f2 (by assumption) | exact inR_t (by assumption) (by assumption)] at hQ; exact hQ
theorem c_leavers {xs : List Int32} {d : Nat} {wd : sm_W} {Q : Option Value → sm_W → Prop} {I : sm_Is} {w0 : Nat} (hV : isV wd I w0) (hW : iWF I) {w q : Nat} (hw : w < 18446744073709551616) (hq : q < 2) (hQ : Q (some (.int (nI (lvs I w q)))) (nightSet wd I w)) : Ct xs (d + 5) 73 [.ref 0, .long (lN w), .int (nI q)] wd Q := by
  unfold Ct
  show RT xs (d + 5) 73 0 [some (.ref 0), some (.long (lN w)), none, some (.int (nI q))] [] wd Q
  obtain ⟨v1, v2, v3, v4, l0, h13, h14, hlen⟩ := id hV.2.2
  refine R_aload_n r_73_0 rfl (by decide) ?_
  refine R_getf r_73_1 (by decide) hV.1 rfl ?_
  refine R_aload_n r_73_4 rfl (by decide) ?_
  refine R_getf r_73_5 (by decide) hV.1 rfl ?_
  refine R_lload_n r_73_8 rfl ?_
  refine R_call3 r_73_9 rfl (sm_rv1 rfl rfl h13) (Nat.le_of_ble_eq_true rfl) (Nat.le_of_ble_eq_true rfl) ?_
  refine c_set hV.2.1 hW hw (by decide) hV.2.2 ?_
  refine R_aload_n r_73_12 rfl (by decide) ?_
  refine R_getf r_73_13 (by decide) (nightSet_gn (by decide) hV.1) rfl ?_
  refine R_lload_n r_73_16 rfl ?_
  refine R_iload_n r_73_17 rfl ?_
  refine R_call2 r_73_18 rfl rfl (Nat.le_of_ble_eq_true rfl) (Nat.le_of_ble_eq_true rfl) ?_
  refine c_against hw (by omega) ?_
  refine R_iconst r_73_21 (v := nI 0) rfl ?_
  refine R_call3 r_73_22 rfl (sm_rv1 rfl rfl (nightSet_isN hV.2.2 hW).1) (Nat.le_of_ble_eq_true rfl) (Nat.le_of_ble_eq_true rfl) ?_
  refine c_leaving (nightSet_isN hV.2.2 hW) (by have := sAg_lt w q; omega) ?_
  refine R_iret r_73_25 (ty := .int) rfl rfl (by decide) ?_
  exact hQ
def stIn (I : sm_Is) (w m : Nat) : Nat := if sIce w = true then 8 else sumUp (iS I) (m &&& (sHeld w ^^^ 4294967295)) 5
theorem c_seatsIn {xs : List Int32} {d : Nat} {wd : sm_W} {Q : Option Value → sm_W → Prop} {I : sm_Is} {w : Nat} (hV : isV wd I w) (hW : iWF I) (hw : w < 18446744073709551616) {m : Nat} (hm : m < 256) (hQ : Q (some (.int (nI (stIn I w m)))) wd) : Ct xs (d + 2) 103 [.ref 0, .int (nI m)] wd Q := by
  unfold Ct
  show RT xs (d + 2) 103 0 [some (.ref 0), some (.int (nI m))] [] wd Q
  obtain ⟨v1, v2, v3, v4, l0, h13, h14, hlen⟩ := id hV.2.2
  refine R_aload_n r_103_0 rfl (by decide) ?_
  refine R_getf r_103_1 (by decide) hV.1 rfl ?_
  refine R_call1 r_103_4 rfl rfl (Nat.le_of_ble_eq_true rfl) (Nat.le_of_ble_eq_true rfl) ?_
  refine c_ice hw ?_
  refine R_if_eq_b r_103_7 (by decide) (fun h_1 => ?_) (fun h_1 => ?_)
  · refine R_aload_n r_103_15 rfl (by decide) ?_
    refine R_getf r_103_16 (by decide) hV.1 rfl ?_
    refine R_iload_n r_103_19 rfl ?_
    refine R_aload_n r_103_20 rfl (by decide) ?_
    refine R_getf r_103_21 (by decide) hV.1 rfl ?_
    refine R_call1 r_103_24 rfl rfl (Nat.le_of_ble_eq_true rfl) (Nat.le_of_ble_eq_true rfl) ?_
    refine c_held hw ?_
    refine R_iconst r_103_27 (v := (-1)) rfl ?_
    refine R_ixorM r_103_28 ?_
    refine R_iandN r_103_29 ?_
    refine R_call2 r_103_30 rfl (sm_rv1 rfl rfl hV.2.1.1) (Nat.le_of_ble_eq_true rfl) (Nat.le_of_ble_eq_true rfl) ?_
    refine c_seatsOf hV.2.1 hW (Nat.lt_of_le_of_lt Nat.and_le_left (Nat.lt_trans hm (by decide))) ?_
    refine R_iret r_103_33 (ty := .int) rfl rfl (by decide) ?_
    unfold stIn at hQ; first | (rw [if_pos (by assumption)] at hQ; exact hQ) | (rw [if_neg (by simp [*])] at hQ; exact hQ)
  · refine R_bipush r_103_10 (v := nI 8) rfl ?_
    refine R_goto r_103_12 (by decide) ?_
    refine R_iret r_103_33 (ty := .int) rfl rfl (by decide) ?_
    unfold stIn at hQ; first | (rw [if_pos (by assumption)] at hQ; exact hQ) | (rw [if_neg (by simp [*])] at hQ; exact hQ)
theorem c_wants {xs : List Int32} {d : Nat} {wd : sm_W} {Q : Option Value → sm_W → Prop} {I : sm_Is} {w : Nat} (hV : isV wd I w) (hW : iWF I) (hw : w < 18446744073709551616) {x1 : Int32} (hB : inR x1 2 = false → Q (some (.int (-1))) wd) (hQ : ∀ q, q < 2 → x1 = nI q → Q (some (.int (nI (wnt (ntG I w) (ntB w) (ntV I w) (sAg w q) 0)))) (nightSet wd I w)) : Ct xs (d + 5) 61 [.ref 0, .int x1] wd Q := by
  unfold Ct
  show RT xs (d + 5) 61 0 [some (.ref 0), some (.int x1)] [] wd Q
  obtain ⟨v1, v2, v3, v4, l0, h13, h14, hlen⟩ := id hV.2.2
  refine R_iload_n r_61_0 rfl ?_
  refine R_call1 r_61_1 rfl rfl (Nat.le_of_ble_eq_true rfl) (Nat.le_of_ble_eq_true rfl) ?_
  refine c_isQuestion ?_
  refine R_if_ne_b r_61_4 (by decide) (fun h_1 => ?_) (fun h_1 => ?_)
  · refine R_aload_n r_61_9 rfl (by decide) ?_
    refine R_getf r_61_10 (by decide) hV.1 rfl ?_
    refine R_aload_n r_61_13 rfl (by decide) ?_
    refine R_getf r_61_14 (by decide) hV.1 rfl ?_
    refine R_aload_n r_61_17 rfl (by decide) ?_
    refine R_getf r_61_18 (by decide) hV.1 rfl ?_
    refine R_call3 r_61_21 rfl (sm_rv1 rfl rfl h13) (Nat.le_of_ble_eq_true rfl) (Nat.le_of_ble_eq_true rfl) ?_
    refine c_set hV.2.1 hW hw (by decide) hV.2.2 ?_
    refine R_aload_n r_61_24 rfl (by decide) ?_
    refine R_getf r_61_25 (by decide) (nightSet_gn (by decide) hV.1) rfl ?_
    refine R_aload_n r_61_28 rfl (by decide) ?_
    refine R_getf r_61_29 (by decide) (nightSet_gn (by decide) hV.1) rfl ?_
    obtain ⟨q, hq, rfl⟩ := inR_of (by assumption) (by decide)
    refine R_iload_n r_61_32 rfl ?_
    refine R_call2 r_61_33 rfl rfl (Nat.le_of_ble_eq_true rfl) (Nat.le_of_ble_eq_true rfl) ?_
    refine c_against hw (by omega) ?_
    refine R_iconst r_61_36 (v := nI 0) rfl ?_
    refine R_call3 r_61_37 rfl (sm_rv1 rfl rfl (nightSet_isN hV.2.2 hW).1) (Nat.le_of_ble_eq_true rfl) (Nat.le_of_ble_eq_true rfl) ?_
    refine c_wanting (nightSet_isN hV.2.2 hW) (by have := sAg_lt w q; omega) ?_
    refine R_iret r_61_40 (ty := .int) rfl rfl (by decide) ?_
    exact hQ q hq rfl
  · refine R_iconst r_61_7 (v := (-1)) rfl ?_
    refine R_iret r_61_8 (ty := .int) rfl rfl (by decide) ?_
    exact hB (by assumption)
theorem c_leave {xs : List Int32} {d : Nat} {wd : sm_W} {Q : Option Value → sm_W → Prop} {I : sm_Is} {w : Nat} (hV : isV wd I w) (hW : iWF I) (hw : w < 18446744073709551616) {x1 : Int32} (hB : inR x1 2 = false → Q (some (.int (-1))) wd) (hQ : ∀ q, q < 2 → x1 = nI q → Q (some (.int (nI (lvs I w q)))) (nightSet wd I w)) : Ct xs (d + 6) 72 [.ref 0, .int x1] wd Q := by
  unfold Ct
  show RT xs (d + 6) 72 0 [some (.ref 0), some (.int x1)] [] wd Q
  obtain ⟨v1, v2, v3, v4, l0, h13, h14, hlen⟩ := id hV.2.2
  refine R_iload_n r_72_0 rfl ?_
  refine R_call1 r_72_1 rfl rfl (Nat.le_of_ble_eq_true rfl) (Nat.le_of_ble_eq_true rfl) ?_
  refine c_isQuestion ?_
  refine R_if_eq_b r_72_4 (by decide) (fun h_1 => ?_) (fun h_1 => ?_)
  · refine R_iconst r_72_19 (v := (-1)) rfl ?_
    refine R_iret r_72_20 (ty := .int) rfl rfl (by decide) ?_
    exact hB (by assumption)
  · refine R_aload_n r_72_7 rfl (by decide) ?_
    refine R_aload_n r_72_8 rfl (by decide) ?_
    refine R_getf r_72_9 (by decide) hV.1 rfl ?_
    obtain ⟨q, hq, rfl⟩ := inR_of (by assumption) (by decide)
    refine R_iload_n r_72_12 rfl ?_
    refine R_call3 r_72_13 rfl (sm_rv1 rfl rfl hV.1) (Nat.le_of_ble_eq_true rfl) (Nat.le_of_ble_eq_true rfl) ?_
    refine c_leavers hV hW hw hq ?_
    refine R_goto r_72_16 (by decide) ?_
    refine R_iret r_72_20 (ty := .int) rfl rfl (by decide) ?_
    exact hQ q hq rfl
theorem c_falls {xs : List Int32} {d : Nat} {wd : sm_W} {Q : Option Value → sm_W → Prop} {I : sm_Is} {w : Nat} (hV : isV wd I w) (hW : iWF I) (hw : w < 18446744073709551616) {x1 : Int32} (hB : inR x1 2 = false → Q (some (.int (-1))) wd) (hQ : ∀ q, q < 2 → x1 = nI q → Q (some (.int (b2i (lawF I (pc8 (lvs I w q)))))) (nightSet wd I w)) : Ct xs (d + 6) 80 [.ref 0, .int x1] wd Q := by
  unfold Ct
  show RT xs (d + 6) 80 0 [some (.ref 0), some (.int x1)] [] wd Q
  obtain ⟨v1, v2, v3, v4, l0, h13, h14, hlen⟩ := id hV.2.2
  refine R_iload_n r_80_0 rfl ?_
  refine R_call1 r_80_1 rfl rfl (Nat.le_of_ble_eq_true rfl) (Nat.le_of_ble_eq_true rfl) ?_
  refine c_isQuestion ?_
  refine R_if_eq_b r_80_4 (by decide) (fun h_1 => ?_) (fun h_1 => ?_)
  · refine R_iconst r_80_29 (v := (-1)) rfl ?_
    refine R_iret r_80_30 (ty := .int) rfl rfl (by decide) ?_
    exact hB (by assumption)
  · refine R_aload_n r_80_7 rfl (by decide) ?_
    refine R_getf r_80_8 (by decide) hV.1 rfl ?_
    refine R_aload_n r_80_11 rfl (by decide) ?_
    refine R_aload_n r_80_12 rfl (by decide) ?_
    refine R_getf r_80_13 (by decide) hV.1 rfl ?_
    obtain ⟨q, hq, rfl⟩ := inR_of (by assumption) (by decide)
    refine R_iload_n r_80_16 rfl ?_
    refine R_call3 r_80_17 rfl (sm_rv1 rfl rfl hV.1) (Nat.le_of_ble_eq_true rfl) (Nat.le_of_ble_eq_true rfl) ?_
    refine c_leavers hV hW hw hq ?_
    refine R_call2 r_80_20 rfl (sm_rv1 rfl rfl (nightSet_gn (by decide) hV.2.1.1)) (Nat.le_of_ble_eq_true rfl) (Nat.le_of_ble_eq_true rfl) ?_
    refine c_lawFalls (nightSet_isI (by decide) hV.2.1) hW (lvs_lt _ _ _) ?_
    refine R_call1 r_80_23 rfl rfl (Nat.le_of_ble_eq_true rfl) (Nat.le_of_ble_eq_true rfl) ?_
    refine c_oneIf ?_
    refine R_goto r_80_26 (by decide) ?_
    refine R_iret r_80_30 (ty := .int) rfl rfl (by decide) ?_
    exact hQ q hq rfl
theorem c_milked {xs : List Int32} {d : Nat} {wd : sm_W} {Q : Option Value → sm_W → Prop} {I : sm_Is} {w : Nat} (hV : isV wd I w) (hW : iWF I) (hw : w < 18446744073709551616) {x1 : Int32} {x2 : Int32} (hB : (inR x1 2 && inR x2 2) = false → Q (some (.int (-1))) wd) (hQ0 : ∀ q, q < 2 → x1 = nI q → x2 = 0 → Q (some (.int (nI (cowW I (lvs I w q))))) (nightSet wd I w)) (hQ1 : ∀ q, q < 2 → x1 = nI q → ¬ x2 = 0 → inR x2 2 = true → Q (some (.int (b2i (decide (iM I ≤ cowW I (lvs I w q)))))) (nightSet wd I w)) : Ct xs (d + 6) 83 [.ref 0, .int x1, .int x2] wd Q := by
  unfold Ct
  show RT xs (d + 6) 83 0 [some (.ref 0), some (.int x1), some (.int x2), none] [] wd Q
  obtain ⟨v1, v2, v3, v4, l0, h13, h14, hlen⟩ := id hV.2.2
  refine R_iload_n r_83_0 rfl ?_
  refine R_call1 r_83_1 rfl rfl (Nat.le_of_ble_eq_true rfl) (Nat.le_of_ble_eq_true rfl) ?_
  refine c_isQuestion ?_
  refine R_if_eq_b r_83_4 (by decide) (fun h_1 => ?_) (fun h_1 => ?_)
  · refine R_iconst r_83_14 (v := (-1)) rfl ?_
    refine R_iret r_83_15 (ty := .int) rfl rfl (by decide) ?_
    exact hB (by simp [*])
  · refine R_iload_n r_83_7 rfl ?_
    refine R_call1 r_83_8 rfl rfl (Nat.le_of_ble_eq_true rfl) (Nat.le_of_ble_eq_true rfl) ?_
    refine c_isEither ?_
    refine R_if_ne_b r_83_11 (by decide) (fun h_2 => ?_) (fun h_2 => ?_)
    · refine R_aload_n r_83_16 rfl (by decide) ?_
      refine R_aload_n r_83_17 rfl (by decide) ?_
      refine R_getf r_83_18 (by decide) hV.1 rfl ?_
      obtain ⟨q, hq, rfl⟩ := inR_of (x := x1) (by assumption) (by decide)
      refine R_iload_n r_83_21 rfl ?_
      refine R_call3 r_83_22 rfl (sm_rv1 rfl rfl hV.1) (Nat.le_of_ble_eq_true rfl) (Nat.le_of_ble_eq_true rfl) ?_
      refine c_leavers hV hW hw hq ?_
      refine R_istore_n r_83_25 rfl ?_
      refine R_iload_n r_83_26 rfl ?_
      refine R_if_ne r_83_27 (by decide) (fun h_3 => ?_) (fun h_3 => ?_)
      · refine R_aload_n r_83_41 rfl (by decide) ?_
        refine R_getf r_83_42 (by decide) (nightSet_gn (by decide) hV.1) rfl ?_
        refine R_iload_n r_83_45 rfl ?_
        refine R_call2 r_83_46 rfl (sm_rv1 rfl rfl (nightSet_gn (by decide) hV.2.1.1)) (Nat.le_of_ble_eq_true rfl) (Nat.le_of_ble_eq_true rfl) ?_
        refine c_cowsMilked (nightSet_isI (by decide) hV.2.1) hW ?_
        refine R_call1 r_83_49 rfl rfl (Nat.le_of_ble_eq_true rfl) (Nat.le_of_ble_eq_true rfl) ?_
        refine c_oneIf ?_
        refine R_iret r_83_52 (ty := .int) rfl rfl (by decide) ?_
        first | exact hQ0 q hq rfl (by assumption) | exact hQ1 q hq rfl (by assumption) (by assumption)
      · refine R_aload_n r_83_30 rfl (by decide) ?_
        refine R_getf r_83_31 (by decide) (nightSet_gn (by decide) hV.1) rfl ?_
        refine R_iload_n r_83_34 rfl ?_
        refine R_call2 r_83_35 rfl (sm_rv1 rfl rfl (nightSet_gn (by decide) hV.2.1.1)) (Nat.le_of_ble_eq_true rfl) (Nat.le_of_ble_eq_true rfl) ?_
        refine c_cowsWithout (nightSet_isI (by decide) hV.2.1) hW ?_
        refine R_goto r_83_38 (by decide) ?_
        refine R_iret r_83_52 (ty := .int) rfl rfl (by decide) ?_
        first | exact hQ0 q hq rfl (by assumption) | exact hQ1 q hq rfl (by assumption) (by assumption)
    · refine R_iconst r_83_14 (v := (-1)) rfl ?_
      refine R_iret r_83_15 (ty := .int) rfl rfl (by decide) ?_
      exact hB (by simp [*])
