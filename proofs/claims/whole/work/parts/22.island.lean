/-! an island, as it lies in a world; what its reading methods answer -/
theorem R_alenIm {xs : List Int32} {d j pc : Nat} {L : sm_L} {st : List Value} {wd : sm_W} {Q : Option Value → sm_W → Prop} {a b c k0 t m : Nat} {l : List Int32} (h : sm_ic j pc = some (.arraylength, a, b, c)) (hk : ¬ k0 = 1000002 ∧ ¬ k0 = 1000004) (hw : wd[k0]? = some (.inl (t, l))) (hl : l.length = m) (k : RT xs d j (pc + 1) L (.int (nI m) :: st) wd Q) : RT xs d j pc L (.ref k0 :: st) wd Q := R_alenI h hk hw (by rw [hl]; exact k)
theorem R_alenLm {xs : List Int32} {d j pc : Nat} {L : sm_L} {st : List Value} {wd : sm_W} {Q : Option Value → sm_W → Prop} {a b c k0 m : Nat} {l : List Int64} (h : sm_ic j pc = some (.arraylength, a, b, c)) (hk : ¬ k0 = 1000002 ∧ ¬ k0 = 1000004) (hw : wd[k0]? = some (.inr (.inl l))) (hl : l.length = m) (k : RT xs d j (pc + 1) L (.int (nI m) :: st) wd Q) : RT xs d j pc L (.ref k0 :: st) wd Q := R_alenL h hk hw (by rw [hl]; exact k)
theorem tb_nat (s i : Nat) : s >>> i &&& 1 = (s.testBit i).toNat := by
  rw [Nat.and_comm]
  simp only [Nat.testBit]
  have h : 1 &&& s >>> i = 0 ∨ 1 &&& s >>> i = 1 := by
    have := Nat.and_le_left (n := 1) (m := s >>> i)
    omega
  rcases h with h | h <;> rw [h] <;> rfl
section RB
variable {xs : List Int32} {d j pc : Nat} {L : sm_L} {st : List Value} {wd : sm_W} {Q : Option Value → sm_W → Prop} {a b c : Nat}
theorem R_iandBit {s i : Nat} (h : sm_ic j pc = some (.iand, a, b, c)) (k : RT xs d j (pc + 1) L (.int (b2i (s.testBit i)) :: st) wd Q) : RT xs d j pc L (.int (nI 1) :: .int (nI (s >>> i)) :: st) wd Q := R_iandN h (by rw [tb_nat]; exact k)
theorem b2i_eq1 (v : Bool) : b2i v = nI 1 ↔ v = true := by cases v <;> decide
theorem R_icmp_ne_b1 {off : Int} {v : Bool} (h : sm_ic j pc = some (.if_icmp .ne off, a, b, c)) (ht : (pc : Int) + off = (a : Int)) (kt : v = false → RT xs d j a L st wd Q) (kf : v = true → RT xs d j (pc + 3) L st wd Q) : RT xs d j pc L (.int (nI 1) :: .int (b2i v) :: st) wd Q := R_icmp_ne h ht (fun z => kt (by cases v; rfl; exact absurd rfl z)) (fun z => kf ((b2i_eq1 v).mp z))
theorem R_icmp_eq_b1 {off : Int} {v : Bool} (h : sm_ic j pc = some (.if_icmp .eq off, a, b, c)) (ht : (pc : Int) + off = (a : Int)) (kt : v = true → RT xs d j a L st wd Q) (kf : v = false → RT xs d j (pc + 3) L st wd Q) : RT xs d j pc L (.int (nI 1) :: .int (b2i v) :: st) wd Q := R_icmp_eq h ht (fun z => kt ((b2i_eq1 v).mp z)) (fun z => kf (by cases v; rfl; exact absurd rfl z))
end RB
theorem sm_ixM {l : List Nat} {i : Nat} (h : i < l.length) (h2 : i < 2147483648) : sm_ix (l.map nI) (nI i) = some (nI (l.getD i 0)) := by
  rw [sm_ixN h2, List.getElem?_map, List.getElem?_eq_getElem h, List.getD_eq_getElem?_getD, List.getElem?_eq_getElem h]
  rfl
/-- an island: kinds, cows, seats; how many islanders, boats; beds, cows to be milked, tenths, the seasick's tenths; its first standing -/
abbrev sm_Is : Type := List Nat × List Nat × List Nat × (Nat × Nat) × (Nat × Nat × Nat × Nat) × Nat
abbrev iK (I : sm_Is) : List Nat := I.1
abbrev iC (I : sm_Is) : List Nat := I.2.1
abbrev iS (I : sm_Is) : List Nat := I.2.2.1
abbrev iN (I : sm_Is) : Nat := I.2.2.2.1.1
abbrev iB (I : sm_Is) : Nat := I.2.2.2.1.2
abbrev iBd (I : sm_Is) : Nat := I.2.2.2.2.1.1
abbrev iM (I : sm_Is) : Nat := I.2.2.2.2.1.2.1
abbrev iP (I : sm_Is) : Nat := I.2.2.2.2.1.2.2.1
abbrev iX (I : sm_Is) : Nat := I.2.2.2.2.1.2.2.2
abbrev iF (I : sm_Is) : Nat := I.2.2.2.2.2
def sm_isO (a : Nat) (I : sm_Is) : sm_E := .inr (.inr (1, [.ref (a + 1), .ref (a + 2), .ref (a + 3), .int (nI (iN I)), .int (nI (iB I)), .int (nI (iBd I)), .int (nI (iM I)), .int (nI (iP I)), .int (nI (iX I)), .long (lN (iF I))]))
/-- it lies at a, its rows behind it -/
def isI (wd : sm_W) (a : Nat) (I : sm_Is) : Prop := wd[a]? = some (sm_isO a I) ∧ wd[a + 1]? = some (.inl (0, (iK I).map nI)) ∧ wd[a + 2]? = some (.inl (0, (iC I).map nI)) ∧ wd[a + 3]? = some (.inl (0, (iS I).map nI)) ∧ a < 1000
/-- its numbers are such as a text tells -/
def iWF (I : sm_Is) : Prop := (iK I).length = 8 ∧ (iC I).length = 8 ∧ (iS I).length = 5 ∧ iN I ≤ 8 ∧ iB I ≤ 5 ∧ (∀ i, (iK I).getD i 0 < 4) ∧ (∀ i, (iC I).getD i 0 ≤ 9) ∧ (∀ i, (iS I).getD i 0 ≤ 8) ∧ (∀ i, iN I ≤ i → (iK I).getD i 0 = 0 ∧ (iC I).getD i 0 = 0) ∧ (∀ i, iB I ≤ i → (iS I).getD i 0 = 0) ∧ iBd I ≤ 9 ∧ iM I ≤ 40 ∧ (1 ≤ iP I ∧ iP I ≤ 9) ∧ iX I ≤ 10 ∧ iF I < 18446744073709551616
/-- sums over the first k places of which the bit is set -/
def sumUp (l : List Nat) (s : Nat) : Nat → Nat
  | 0 => 0
  | k + 1 => sumUp l s k + if s.testBit k then l.getD k 0 else 0
theorem sumUp_le {l : List Nat} {s m : Nat} (h : ∀ i, l.getD i 0 ≤ m) : ∀ k, sumUp l s k ≤ m * k
  | 0 => Nat.zero_le _
  | k + 1 => by
    have h1 := sumUp_le (s := s) h k
    have h2 := h k
    unfold sumUp
    rw [Nat.mul_succ]
    split <;> omega
/-- the set of the places below k that hold v -/
def kindUp (l : List Nat) (v : Nat) : Nat → Nat
  | 0 => 0
  | k + 1 => if l.getD k 0 = v then kindUp l v k ||| 1 <<< k else kindUp l v k

theorem c_kind {xs : List Int32} {d : Nat} {wd : sm_W} {Q : Option Value → sm_W → Prop} {a : Nat} {I : sm_Is} (hI : isI wd a I) (hW : iWF I) {i : Nat} (hi : i < 8) (hQ : Q (some (.int (nI ((iK I).getD i 0)))) wd) : Ct xs (d) 39 [.ref a, .int (nI i)] wd Q := by
  unfold Ct
  show RT xs (d) 39 0 [some (.ref a), some (.int (nI i))] [] wd Q
  obtain ⟨hI1, hI2, hI3, hI4, ha⟩ := id hI
  obtain ⟨hW1, hW2, hW3, hW4, hW5, hW6, hW7, hW8, hW9, hW10, hW11, hW12, hW13, hW14, hW15⟩ := id hW
  refine R_iload_n r_39_0 rfl ?_
  refine R_if_lt_N r_39_1 (by decide) (by omega) ?_
  refine R_iload_n r_39_4 rfl ?_
  refine R_aload_n r_39_5 rfl (by omega) ?_
  refine R_getf r_39_6 (by decide) hI.1 rfl ?_
  refine R_alenIm r_39_9 ⟨(by omega), (by omega)⟩ hI.2.1 (m := 8) (by rw [List.length_map]; exact hW.1) ?_
  refine R_icmp_ge_N r_39_10 (by decide) (by omega) (by omega) (fun h_1 => ?_) (fun h_1 => ?_)
  · exfalso; omega
  · refine R_aload_n r_39_13 rfl (by omega) ?_
    refine R_getf r_39_14 (by decide) hI.1 rfl ?_
    refine R_iload_n r_39_17 rfl ?_
    refine R_iald r_39_18 (by omega) hI.2.1 (sm_ixM (by omega) (by omega)) ?_
    refine R_goto r_39_19 (by decide) ?_
    refine R_iret r_39_23 (ty := .int) rfl rfl (by decide) ?_
    exact hQ
theorem lp_cowsOf {xs : List Int32} {d : Nat} {wd : sm_W} {Q : Option Value → sm_W → Prop} {a : Nat} {I : sm_Is} (hI : isI wd a I) (hW : iWF I) {s : Nat} (hs : s < 2147483648) (hQ : Q (some (.int (nI (sumUp (iC I) s 8)))) wd) : ∀ (k i : Nat), i + k = 8 → RT xs (d) 40 4 [some (.ref a), some (.int (nI s)), some (.int (nI (sumUp (iC I) s i))), some (.int (nI i))] [] wd Q := by
  intro k
  induction k with
  | zero =>
    intro i hk 
    obtain ⟨hI1, hI2, hI3, hI4, ha⟩ := id hI
    obtain ⟨hW1, hW2, hW3, hW4, hW5, hW6, hW7, hW8, hW9, hW10, hW11, hW12, hW13, hW14, hW15⟩ := id hW
    refine R_iload_n r_40_4 rfl ?_
    refine R_aload_n r_40_5 rfl (by omega) ?_
    refine R_getf r_40_6 (by decide) hI.1 rfl ?_
    refine R_alenIm r_40_9 ⟨(by omega), (by omega)⟩ hI.2.2.1 (m := 8) (by rw [List.length_map]; exact hW.2.1) ?_
    refine R_icmp_ge_N r_40_10 (by decide) (by omega) (by omega) (fun h_1 => ?_) (fun h_1 => ?_)
    · refine R_iload_n r_40_37 rfl ?_
      refine R_iret r_40_38 (ty := .int) rfl rfl (by decide) ?_
      rw [show i = 8 by omega]; exact hQ
    · exfalso; omega
  | succ k ih =>
    intro i hk 
    obtain ⟨hI1, hI2, hI3, hI4, ha⟩ := id hI
    obtain ⟨hW1, hW2, hW3, hW4, hW5, hW6, hW7, hW8, hW9, hW10, hW11, hW12, hW13, hW14, hW15⟩ := id hW
    refine R_iload_n r_40_4 rfl ?_
    refine R_aload_n r_40_5 rfl (by omega) ?_
    refine R_getf r_40_6 (by decide) hI.1 rfl ?_
    refine R_alenIm r_40_9 ⟨(by omega), (by omega)⟩ hI.2.2.1 (m := 8) (by rw [List.length_map]; exact hW.2.1) ?_
    refine R_icmp_ge_N r_40_10 (by decide) (by omega) (by omega) (fun h_1 => ?_) (fun h_1 => ?_)
    · exfalso; omega
    · refine R_iload_n r_40_13 rfl ?_
      refine R_iload_n r_40_14 rfl ?_
      refine R_iushrN r_40_15 (by omega) (by omega) ?_
      refine R_iconst r_40_16 (v := nI 1) rfl ?_
      refine R_iandBit r_40_17 ?_
      refine R_iconst r_40_18 (v := nI 1) rfl ?_
      refine R_icmp_ne_b1 r_40_19 (by decide) (fun hb => ?_) (fun hb => ?_)
      · refine R_iinc1 r_40_31 rfl rfl ?_
        refine R_goto r_40_34 (by decide) ?_
        have := ih (i + 1) (by omega)
        unfold sumUp at this
        simp only [hb, if_true, if_false, Bool.false_eq_true, Nat.add_zero] at this
        exact this
      · refine R_iload_n r_40_22 rfl ?_
        refine R_aload_n r_40_23 rfl (by omega) ?_
        refine R_getf r_40_24 (by decide) hI.1 rfl ?_
        refine R_iload_n r_40_27 rfl ?_
        refine R_iald r_40_28 (by omega) hI.2.2.1 (sm_ixM (by omega) (by omega)) ?_
        refine R_iaddN r_40_29 ?_
        refine R_istore_n r_40_30 rfl ?_
        refine R_iinc1 r_40_31 rfl rfl ?_
        refine R_goto r_40_34 (by decide) ?_
        have := ih (i + 1) (by omega)
        unfold sumUp at this
        simp only [hb, if_true, if_false, Bool.false_eq_true, Nat.add_zero] at this
        exact this
theorem c_cowsOf {xs : List Int32} {d : Nat} {wd : sm_W} {Q : Option Value → sm_W → Prop} {a : Nat} {I : sm_Is} (hI : isI wd a I) (hW : iWF I) {s : Nat} (hs : s < 2147483648) (hQ : Q (some (.int (nI (sumUp (iC I) s 8)))) wd) : Ct xs (d) 40 [.ref a, .int (nI s)] wd Q := by
  unfold Ct
  show RT xs (d) 40 0 [some (.ref a), some (.int (nI s)), none, none] [] wd Q
  refine R_iconst r_40_0 (v := nI 0) rfl ?_
  refine R_istore_n r_40_1 rfl ?_
  refine R_iconst r_40_2 (v := nI 0) rfl ?_
  refine R_istore_n r_40_3 rfl ?_
  exact lp_cowsOf hI hW hs hQ 8 0 (by omega)
theorem lp_seatsOf {xs : List Int32} {d : Nat} {wd : sm_W} {Q : Option Value → sm_W → Prop} {a : Nat} {I : sm_Is} (hI : isI wd a I) (hW : iWF I) {s : Nat} (hs : s < 2147483648) (hQ : Q (some (.int (nI (sumUp (iS I) s 5)))) wd) : ∀ (k i : Nat), i + k = 5 → RT xs (d) 41 4 [some (.ref a), some (.int (nI s)), some (.int (nI (sumUp (iS I) s i))), some (.int (nI i))] [] wd Q := by
  intro k
  induction k with
  | zero =>
    intro i hk 
    obtain ⟨hI1, hI2, hI3, hI4, ha⟩ := id hI
    obtain ⟨hW1, hW2, hW3, hW4, hW5, hW6, hW7, hW8, hW9, hW10, hW11, hW12, hW13, hW14, hW15⟩ := id hW
    refine R_iload_n r_41_4 rfl ?_
    refine R_aload_n r_41_5 rfl (by omega) ?_
    refine R_getf r_41_6 (by decide) hI.1 rfl ?_
    refine R_alenIm r_41_9 ⟨(by omega), (by omega)⟩ hI.2.2.2.1 (m := 5) (by rw [List.length_map]; exact hW.2.2.1) ?_
    refine R_icmp_ge_N r_41_10 (by decide) (by omega) (by omega) (fun h_1 => ?_) (fun h_1 => ?_)
    · refine R_iload_n r_41_37 rfl ?_
      refine R_iret r_41_38 (ty := .int) rfl rfl (by decide) ?_
      rw [show i = 5 by omega]; exact hQ
    · exfalso; omega
  | succ k ih =>
    intro i hk 
    obtain ⟨hI1, hI2, hI3, hI4, ha⟩ := id hI
    obtain ⟨hW1, hW2, hW3, hW4, hW5, hW6, hW7, hW8, hW9, hW10, hW11, hW12, hW13, hW14, hW15⟩ := id hW
    refine R_iload_n r_41_4 rfl ?_
    refine R_aload_n r_41_5 rfl (by omega) ?_
    refine R_getf r_41_6 (by decide) hI.1 rfl ?_
    refine R_alenIm r_41_9 ⟨(by omega), (by omega)⟩ hI.2.2.2.1 (m := 5) (by rw [List.length_map]; exact hW.2.2.1) ?_
    refine R_icmp_ge_N r_41_10 (by decide) (by omega) (by omega) (fun h_1 => ?_) (fun h_1 => ?_)
    · exfalso; omega
    · refine R_iload_n r_41_13 rfl ?_
      refine R_iload_n r_41_14 rfl ?_
      refine R_iushrN r_41_15 (by omega) (by omega) ?_
      refine R_iconst r_41_16 (v := nI 1) rfl ?_
      refine R_iandBit r_41_17 ?_
      refine R_iconst r_41_18 (v := nI 1) rfl ?_
      refine R_icmp_ne_b1 r_41_19 (by decide) (fun hb => ?_) (fun hb => ?_)
      · refine R_iinc1 r_41_31 rfl rfl ?_
        refine R_goto r_41_34 (by decide) ?_
        have := ih (i + 1) (by omega)
        unfold sumUp at this
        simp only [hb, if_true, if_false, Bool.false_eq_true, Nat.add_zero] at this
        exact this
      · refine R_iload_n r_41_22 rfl ?_
        refine R_aload_n r_41_23 rfl (by omega) ?_
        refine R_getf r_41_24 (by decide) hI.1 rfl ?_
        refine R_iload_n r_41_27 rfl ?_
        refine R_iald r_41_28 (by omega) hI.2.2.2.1 (sm_ixM (by omega) (by omega)) ?_
        refine R_iaddN r_41_29 ?_
        refine R_istore_n r_41_30 rfl ?_
        refine R_iinc1 r_41_31 rfl rfl ?_
        refine R_goto r_41_34 (by decide) ?_
        have := ih (i + 1) (by omega)
        unfold sumUp at this
        simp only [hb, if_true, if_false, Bool.false_eq_true, Nat.add_zero] at this
        exact this
theorem c_seatsOf {xs : List Int32} {d : Nat} {wd : sm_W} {Q : Option Value → sm_W → Prop} {a : Nat} {I : sm_Is} (hI : isI wd a I) (hW : iWF I) {s : Nat} (hs : s < 2147483648) (hQ : Q (some (.int (nI (sumUp (iS I) s 5)))) wd) : Ct xs (d) 41 [.ref a, .int (nI s)] wd Q := by
  unfold Ct
  show RT xs (d) 41 0 [some (.ref a), some (.int (nI s)), none, none] [] wd Q
  refine R_iconst r_41_0 (v := nI 0) rfl ?_
  refine R_istore_n r_41_1 rfl ?_
  refine R_iconst r_41_2 (v := nI 0) rfl ?_
  refine R_istore_n r_41_3 rfl ?_
  exact lp_seatsOf hI hW hs hQ 5 0 (by omega)
