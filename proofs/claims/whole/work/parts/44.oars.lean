/-! oars, odds, months of the class -/
section RLR
variable {xs : List Int32} {d j pc : Nat} {L : sm_L} {st : List Value} {wd : sm_W} {Q : Option Value → sm_W → Prop} {a b c : Nat}
theorem R_lremN {x y : Nat} (h : sm_ic j pc = some (.lrem, a, b, c)) (hx : x < 2 ^ 63) (h0 : 0 < y) (hy : y < 2 ^ 63) (k : RT xs d j (pc + 1) L (.long (lN (x % y)) :: st) wd Q) : RT xs d j pc L (.long (lN y) :: .long (lN x) :: st) wd Q :=
  R_lrem h (fun z => by
    have h1 := congrArg Int64.toInt z
    rw [pk_lT hy] at h1
    have h2 : (0 : Int64).toInt = 0 := rfl
    omega) (by rw [pk_lRem hx h0 hy]; exact k)
end RLR
def snB (sn : List (Nat × Nat)) : Prop := ∀ t, t < sn.length → (sn.getD t (0, 0)).1 < 2 ∧ (sn.getD t (0, 0)).2 < 9
def agF (I : sm_Is) (sn : List (Nat × Nat)) (w : Nat) : Nat → Nat → Bool
  | 0, _ => true
  | k + 1, i => decide (pc8 (lvs I w (sn.getD i (0, 0)).1) = (sn.getD i (0, 0)).2) && agF I sn w k (i + 1)
theorem agF_t {I : sm_Is} {sn : List (Nat × Nat)} {w k i : Nat} (h : pc8 (lvs I w (sn.getD i (0, 0)).1) = (sn.getD i (0, 0)).2) : agF I sn w (k + 1) i = agF I sn w k (i + 1) := by rw [agF, decide_eq_true h, Bool.true_and]
theorem agF_f {I : sm_Is} {sn : List (Nat × Nat)} {w k i : Nat} (h : pc8 (lvs I w (sn.getD i (0, 0)).1) ≠ (sn.getD i (0, 0)).2) : agF I sn w (k + 1) i = false := by rw [agF, decide_eq_false h, Bool.false_and]
abbrev agr (I : sm_Is) (sn : List (Nat × Nat)) (w : Nat) : Bool := agF I sn w sn.length 0
def oaS (I : sm_Is) (sn : List (Nat × Nat)) (w : Nat) : Nat → Nat × Nat
  | 0 => (0, 999)
  | n + 1 => if agr I sn (wHeld w n) = true then ((oaS I sn w n).1 + 1, if (oaS I sn w n).1 = 0 then n else (oaS I sn w n).2) else oaS I sn w n
theorem oaS_f {I : sm_Is} {sn : List (Nat × Nat)} {w n : Nat} (h : agr I sn (wHeld w n) = false) : oaS I sn w (n + 1) = oaS I sn w n := by rw [oaS, if_neg (by rw [h]; decide)]
theorem oaS_0 {I : sm_Is} {sn : List (Nat × Nat)} {w n : Nat} (h : agr I sn (wHeld w n) = true) (h2 : (oaS I sn w n).1 = 0) : oaS I sn w (n + 1) = ((oaS I sn w n).1 + 1, n) := by rw [oaS, if_pos h, if_pos h2]
theorem oaS_1 {I : sm_Is} {sn : List (Nat × Nat)} {w n : Nat} (h : agr I sn (wHeld w n) = true) (h2 : (oaS I sn w n).1 ≠ 0) : oaS I sn w (n + 1) = ((oaS I sn w n).1 + 1, (oaS I sn w n).2) := by rw [oaS, if_pos h, if_neg h2]
theorem oaS_le (I : sm_Is) (sn : List (Nat × Nat)) (w : Nat) : ∀ n, (oaS I sn w n).1 ≤ n
  | 0 => Nat.le_refl _
  | n + 1 => by
    have h1 := oaS_le I sn w n
    unfold oaS
    split
    · show _ + 1 ≤ n + 1; omega
    · omega
/-- the cases of the seasick -/
def lvK (I : sm_Is) (w q s : Nat) : Nat := (lowUp (wnt (ntG I w) (ntB w) (ntV I w) (sAg w q) s) (min (ntS I w) (iBd I)) 8).1
def wgt (I : sm_Is) (qs n : Nat) : Nat := iX I ^ pc8 n * (10 - iX I) ^ pc8 (qs &&& (n ^^^ 4294967295))
def odS (I : sm_Is) (w q qs : Nat) : Nat → Nat
  | 0 => 0
  | n + 1 => odS I w q qs n + if n &&& (qs ^^^ 4294967295) = 0 ∧ lawF I (pc8 (lvK I w q n)) = true then wgt I qs n else 0
theorem odS_t {I : sm_Is} {w q qs n : Nat} (h : n &&& (qs ^^^ 4294967295) = 0 ∧ lawF I (pc8 (lvK I w q n)) = true) : odS I w q qs (n + 1) = odS I w q qs n + wgt I qs n := by rw [odS, if_pos h]
theorem odS_f {I : sm_Is} {w q qs n : Nat} (h : ¬ (n &&& (qs ^^^ 4294967295) = 0 ∧ lawF I (pc8 (lvK I w q n)) = true)) : odS I w q qs (n + 1) = odS I w q qs n := by rw [odS, if_neg h]; rfl
/-- the same weight, islander by islander -/
def wtU (x qs n : Nat) : Nat → Nat
  | 0 => 1
  | k + 1 => wtU x qs n k * if qs.testBit k = true then (if n.testBit k = true then x else 10 - x) else (if n.testBit k = true then 0 else 1)
theorem wtU_s (x qs n k : Nat) : wtU x qs n (k + 1) = wtU x qs n k * if qs.testBit k = true then (if n.testBit k = true then x else 10 - x) else (if n.testBit k = true then 0 else 1) := rfl
theorem wtU_congr {x qs n m : Nat} : ∀ k, (∀ t, t < k → n.testBit t = m.testBit t) → wtU x qs n k = wtU x qs m k
  | 0, _ => rfl
  | k + 1, h => by
    unfold wtU
    rw [wtU_congr k (fun t ht => h t (by omega)), h k (by omega)]
theorem wtU_pow {x qs n : Nat} : ∀ k, k ≤ 8 → (∀ t, t < k → n.testBit t = true → qs.testBit t = true) → wtU x qs n k = x ^ pcUp n k * (10 - x) ^ pcUp (qs &&& (n ^^^ 4294967295)) k
  | 0, _, _ => rfl
  | k + 1, h8, h => by
    have ih := wtU_pow (x := x) (qs := qs) (n := n) k (by omega) (fun t ht => h t (by omega))
    have h1 := h k (by omega)
    unfold wtU pcUp
    rw [ih, Nat.testBit_and, not_bit (by omega)]
    cases hn : n.testBit k <;> cases hq : qs.testBit k
    · simp
    · simp [Nat.pow_succ, Nat.mul_assoc]
    · rw [hn, hq] at h1; exact absurd (h1 rfl) (by decide)
    · simp [Nat.pow_succ, Nat.mul_assoc, Nat.mul_comm, Nat.mul_left_comm]
def sumN (f : Nat → Nat) : Nat → Nat
  | 0 => 0
  | n + 1 => sumN f n + f n
theorem sumN_add (f : Nat → Nat) (a : Nat) : ∀ b, sumN f (a + b) = sumN f a + sumN (fun n => f (a + n)) b
  | 0 => rfl
  | b + 1 => by
    show sumN f (a + b) + f (a + b) = sumN f a + (sumN (fun n => f (a + n)) b + f (a + b))
    rw [sumN_add f a b]; omega
theorem sumN_congr {f g : Nat → Nat} : ∀ n, (∀ i, i < n → f i = g i) → sumN f n = sumN g n
  | 0, _ => rfl
  | n + 1, h => by
    unfold sumN
    rw [sumN_congr n (fun i hi => h i (by omega)), h n (by omega)]
theorem sumN_mul (f : Nat → Nat) (c : Nat) : ∀ n, sumN (fun i => f i * c) n = sumN f n * c
  | 0 => (Nat.zero_mul c).symm
  | n + 1 => by
    unfold sumN
    rw [sumN_mul f c n, Nat.add_mul]
theorem sumN_mono {f : Nat → Nat} {a : Nat} : ∀ b, sumN f a ≤ sumN f (a + b)
  | 0 => Nat.le_refl _
  | b + 1 => Nat.le_trans (sumN_mono b) (Nat.le_add_right _ _)
theorem pow_bit {n k : Nat} (h : n < 2 ^ k) : (2 ^ k + n).testBit k = true ∧ ∀ t, t < k → (2 ^ k + n).testBit t = n.testBit t := by
  refine ⟨?_, fun t ht => ?_⟩
  · rw [Nat.testBit_two_pow_add_eq, Nat.testBit_lt_two_pow h]; rfl
  · rw [Nat.testBit_two_pow_add_gt ht]
theorem wtU_sum {x qs : Nat} (hx : x ≤ 10) : ∀ k, sumN (fun n => wtU x qs n k) (2 ^ k) = 10 ^ pcUp qs k
  | 0 => rfl
  | k + 1 => by
    have e : 2 ^ (k + 1) = 2 ^ k + 2 ^ k := by rw [Nat.pow_succ]; omega
    rw [e, sumN_add]
    have h1 : sumN (fun n => wtU x qs n (k + 1)) (2 ^ k) = sumN (fun n => wtU x qs n k * if qs.testBit k = true then 10 - x else 1) (2 ^ k) :=
      sumN_congr _ (fun n hn => by
        show wtU x qs n (k + 1) = _
        rw [wtU_s, Nat.testBit_lt_two_pow hn]
        simp)
    have h2 : sumN (fun n => wtU x qs (2 ^ k + n) (k + 1)) (2 ^ k) = sumN (fun n => wtU x qs n k * if qs.testBit k = true then x else 0) (2 ^ k) :=
      sumN_congr _ (fun n hn => by
        show wtU x qs (2 ^ k + n) (k + 1) = _
        rw [wtU_s, (pow_bit hn).1, wtU_congr k (pow_bit hn).2]
        simp)
    rw [h1, h2, sumN_mul, sumN_mul, wtU_sum hx k, ← Nat.mul_add]
    show _ = 10 ^ (pcUp qs k + (qs.testBit k).toNat)
    cases hq : qs.testBit k
    · simp
    · rw [if_pos rfl, if_pos rfl, show 10 - x + x = 10 by omega]
      exact (Nat.pow_succ 10 _).symm
theorem sub_bits {n qs : Nat} (h : n &&& (qs ^^^ 4294967295) = 0) {t : Nat} (ht : t < 32) (hn : n.testBit t = true) : qs.testBit t = true := by
  have h1 : (n &&& (qs ^^^ 4294967295)).testBit t = false := by rw [h, Nat.zero_testBit]
  rw [Nat.testBit_and, hn, not_bit ht, Bool.true_and] at h1
  cases hq : qs.testBit t
  · rw [hq] at h1; exact absurd h1 (by decide)
  · rfl
theorem wgt_wtU {I : sm_Is} {qs n : Nat} (h : n &&& (qs ^^^ 4294967295) = 0) : wgt I qs n = wtU (iX I) qs n 8 := (wtU_pow 8 (by decide) (fun t ht hn => sub_bits h (by omega) hn)).symm
theorem odS_le {I : sm_Is} {w q qs : Nat} : ∀ n, odS I w q qs n ≤ sumN (fun n => wtU (iX I) qs n 8) n
  | 0 => Nat.le_refl _
  | n + 1 => by
    have h1 := odS_le (I := I) (w := w) (q := q) (qs := qs) n
    unfold odS
    show _ ≤ sumN _ n + wtU (iX I) qs n 8
    split
    · rename_i h
      rw [wgt_wtU h.1]; omega
    · omega
theorem odS_lt {I : sm_Is} {w q qs : Nat} (hX : iX I ≤ 10) {n : Nat} (h : n ≤ 256) : odS I w q qs n ≤ 10 ^ pc8 qs := by
  refine Nat.le_trans (odS_le n) ?_
  have h1 := sumN_mono (f := fun n => wtU (iX I) qs n 8) (a := n) (256 - n)
  rw [show n + (256 - n) = 2 ^ 8 by omega, wtU_sum hX 8] at h1
  exact h1
theorem p10_le (qs : Nat) : 10 ^ pc8 qs ≤ 100000000 := by
  have h : pc8 qs ≤ 8 := pcUp_le _ 8
  exact Nat.le_trans (Nat.pow_le_pow_right (by decide) h) (by decide)
def gcF : Nat → Nat → Nat → Nat
  | 0, l, _ => l
  | k + 1, l, s => if s = 0 then l else gcF k s (l % s)
theorem gcF_eq : ∀ (m l s : Nat), s < 2 ^ m → ∀ k, 2 * m + 1 ≤ k → gcF k l s = Nat.gcd l s
  | 0, l, s, h, k, hk => by
    obtain ⟨k, rfl⟩ : ∃ k2, k = k2 + 1 := ⟨k - 1, by omega⟩
    have : s = 0 := by rw [Nat.pow_zero] at h; omega
    subst this
    rw [gcF, if_pos rfl, Nat.gcd_zero_right]
  | m + 1, l, s, h, k, hk => by
    obtain ⟨k, rfl⟩ : ∃ k2, k = k2 + 2 := ⟨k - 2, by omega⟩
    by_cases e : s = 0
    · subst e; rw [gcF, if_pos rfl, Nat.gcd_zero_right]
    · rw [gcF, if_neg e]
      have hg : Nat.gcd l s = Nat.gcd s (l % s) := by rw [Nat.gcd_comm l s, Nat.gcd_rec s l, Nat.gcd_comm]
      have h0 : l % s < s := Nat.mod_lt _ (by omega)
      by_cases e2 : l % s = 0
      · rw [hg, e2, gcF, if_pos rfl, Nat.gcd_zero_right]
      · rw [gcF, if_neg e2]
        have h3 : s % (l % s) < l % s := Nat.mod_lt _ (by omega)
        have h4 := Nat.div_add_mod' s (l % s)
        have h5 : 1 ≤ s / (l % s) := (Nat.one_le_div_iff (by omega)).mpr (by omega)
        have h6 : l % s ≤ s / (l % s) * (l % s) := Nat.le_mul_of_pos_left _ h5
        have h7 : s % (l % s) < 2 ^ m := by
          rw [Nat.pow_succ] at h
          omega
        rw [gcF_eq m _ _ h7 k (by omega), hg, Nat.gcd_comm s (l % s), Nat.gcd_rec (l % s) s, Nat.gcd_comm]
/-- months -/
def drw (z k : Nat) : Nat := (7919 * z + 6151 * k + 1) * (7919 * z + 6151 * k + 1) % 65521 / 2
def moW (w z k : Nat) : Nat := wWeather w (decide (drw z k % 4 = 0)) (decide (drw z k % 7 = 0))
def moL (I : sm_Is) (w z k : Nat) : Nat := lvs I (moW w z k) (drw z k / 8 % 2)
def moT (I : sm_Is) (w z k : Nat) (x : Int32) : Bool := if x = 0 then lawF I (pc8 (moL I w z k)) else decide (iM I ≤ cowW I (moL I w z k))
def moS (I : sm_Is) (w z : Nat) (x : Int32) : Nat → Nat
  | 0 => 0
  | k + 1 => moS I w z x k + (moT I w z k x).toNat
theorem moS_t {I : sm_Is} {w z k : Nat} {x : Int32} (h : moT I w z k x = true) : moS I w z x (k + 1) = moS I w z x k + 1 := by rw [moS, h]; rfl
theorem moS_f {I : sm_Is} {w z k : Nat} {x : Int32} (h : moT I w z k x = false) : moS I w z x (k + 1) = moS I w z x k := by rw [moS, h]; rfl
theorem moT_0 {I : sm_Is} {w z k : Nat} {x : Int32} {c : Bool} (hx : x = 0) (h : lawF I (pc8 (moL I w z k)) = c) : moT I w z k x = c := by unfold moT; rw [if_pos hx]; exact h
theorem moT_1 {I : sm_Is} {w z k : Nat} {x : Int32} {c : Bool} (hx : ¬ x = 0) (h : decide (iM I ≤ cowW I (moL I w z k)) = c) : moT I w z k x = c := by unfold moT; rw [if_neg hx]; exact h
theorem moW_lt {w z k : Nat} (hw : w < 18446744073709551616) : moW w z k < 18446744073709551616 := wWeather_lt hw
theorem drw_lt (z k : Nat) : drw z k < 32761 := by
  unfold drw
  have := Nat.mod_lt ((7919 * z + 6151 * k + 1) * (7919 * z + 6151 * k + 1)) (by decide : 0 < 65521)
  omega
def moOK (x1 x2 x3 : Int32) : Bool := inR x1 10000 && (inR x2 61 && !inR x2 1) && inR x3 2
theorem mo_lo {x : Int32} (h : x < nI 1) : (inR x 61 && !inR x 1) = false := by
  by_cases h0 : x < 0
  · rw [inR_f1 h0]; rfl
  · have : inR x 1 = true := inR_t h0 (fun z => by
      rw [Int32.le_iff_toInt_le] at z
      rw [Int32.lt_iff_toInt_lt] at h
      omega)
    rw [this]; simp
theorem mo_hi {x : Int32} (h : ¬ x ≤ nI 60) : (inR x 61 && !inR x 1) = false := by rw [inR_g h (by decide)]; rfl
theorem mo_ok {x : Int32} (h : ¬ x < nI 1) (h2 : x ≤ nI 60) : ∃ n, n < 61 ∧ 1 ≤ n ∧ x = nI n := by
  have h0 : ¬ x < 0 := fun z => h (by
    rw [Int32.lt_iff_toInt_lt] at z ⊢
    rw [nI_toInt (by decide)]
    have : (0 : Int32).toInt = 0 := rfl
    omega)
  obtain ⟨n, hn, rfl⟩ := rng0 h0 h2 (by decide)
  exact ⟨n, hn, Nat.not_lt.mp (fun z => h ((nI_ltI (by omega) (by decide)).mpr z)), rfl⟩
theorem lp_agrees {xs : List Int32} {d : Nat} {wd : sm_W} {Q : Option Value → sm_W → Prop} {tx : List Nat} {I : sm_Is} {w n2 : Nat} {pa sh : List Nat} {sn : List (Nat × Nat)} (hX : cX wd tx I w pa sh sn) (hW : iWF I) (hw : n2 < 18446744073709551616) (hsn : snB sn) (hN : isN wd (ntG I n2) (ntV I n2) (ntS I n2) (iBd I) (ntB n2)) : ∀ (k : Nat) (i : Nat) (h4 : Option Value), (i + k = sn.length) → (Q (some (.int (b2i (agF I sn n2 k i)))) wd) → RT xs (d + 5) 112 14 [some (.ref 0), some (.long (lN n2)), none, some (.int (nI i)), h4] [] wd Q := by
  intro k
  induction k with
  | zero =>
    intro i h4 hk hq
    obtain ⟨hW1, hW2, hW3, hW4, hW5, hW6, hW7, hW8, hW9, hW10, hW11, hW12, hW13, hW14, hW15⟩ := id hW
    have hsl : sn.length ≤ 8 := hX.2.2.2.1.choose_spec.choose_spec.2.2.2.2.2.1
    refine R_iload_n r_112_14 rfl ?_
    refine R_aload_n r_112_15 rfl (by decide) ?_
    refine R_getf r_112_16 (by decide) hX.1.1 rfl ?_
    refine R_call1 r_112_19 rfl (sm_rv1 rfl rfl hX.2.2.2.1.choose_spec.choose_spec.1) (Nat.le_of_ble_eq_true rfl) (Nat.le_of_ble_eq_true rfl) ?_
    refine c_ssize hX.2.2.2.1 ?_
    refine R_icmp_ge_N r_112_22 (by decide) (by omega) (by omega) (fun h_1 => ?_) (fun h_1 => ?_)
    · refine R_iconst r_112_71 (v := nI 1) rfl ?_
      refine R_iret r_112_72 (ty := .boolean) rfl (by decide) (by decide) ?_
      exact hq
    · exfalso; omega
  | succ k ih =>
    intro i h4 hk hq
    obtain ⟨hW1, hW2, hW3, hW4, hW5, hW6, hW7, hW8, hW9, hW10, hW11, hW12, hW13, hW14, hW15⟩ := id hW
    have hsl : sn.length ≤ 8 := hX.2.2.2.1.choose_spec.choose_spec.2.2.2.2.2.1
    have hsb := hsn i (by omega)
    have hp8 : pc8 (lvs I n2 (sn.getD i (0, 0)).1) ≤ 8 := pcUp_le _ 8
    unfold lvs at hp8
    refine R_iload_n r_112_14 rfl ?_
    refine R_aload_n r_112_15 rfl (by decide) ?_
    refine R_getf r_112_16 (by decide) hX.1.1 rfl ?_
    refine R_call1 r_112_19 rfl (sm_rv1 rfl rfl hX.2.2.2.1.choose_spec.choose_spec.1) (Nat.le_of_ble_eq_true rfl) (Nat.le_of_ble_eq_true rfl) ?_
    refine c_ssize hX.2.2.2.1 ?_
    refine R_icmp_ge_N r_112_22 (by decide) (by omega) (by omega) (fun h_1 => ?_) (fun h_1 => ?_)
    · exfalso; omega
    · refine R_aload_n r_112_25 rfl (by decide) ?_
      refine R_getf r_112_26 (by decide) hX.1.1 rfl ?_
      refine R_lload_n r_112_29 rfl ?_
      refine R_aload_n r_112_30 rfl (by decide) ?_
      refine R_getf r_112_31 (by decide) hX.1.1 rfl ?_
      refine R_iload_n r_112_34 rfl ?_
      refine R_call2 r_112_35 rfl (sm_rv1 rfl rfl hX.2.2.2.1.choose_spec.choose_spec.1) (Nat.le_of_ble_eq_true rfl) (Nat.le_of_ble_eq_true rfl) ?_
      refine c_squestion hX.2.2.2.1 (by omega) ?_
      refine R_call2 r_112_38 rfl rfl (Nat.le_of_ble_eq_true rfl) (Nat.le_of_ble_eq_true rfl) ?_
      refine c_against hw (hsn i (by omega)).1 ?_
      refine R_iconst r_112_41 (v := nI 0) rfl ?_
      refine R_call3 r_112_42 rfl (sm_rv1 rfl rfl hX.1.2.2.choose_spec.choose_spec.choose_spec.choose_spec.choose_spec.1) (Nat.le_of_ble_eq_true rfl) (Nat.le_of_ble_eq_true rfl) ?_
      refine c_leaving hN (sAg_lt _ _) ?_
      refine R_istore r_112_45 rfl ?_
      refine R_iload r_112_47 rfl ?_
      refine R_call1 r_112_49 rfl rfl (Nat.le_of_ble_eq_true rfl) (Nat.le_of_ble_eq_true rfl) ?_
      refine c_bitCount (lowUp_lt _ _ 8) ?_
      refine R_aload_n r_112_52 rfl (by decide) ?_
      refine R_getf r_112_53 (by decide) hX.1.1 rfl ?_
      refine R_iload_n r_112_56 rfl ?_
      refine R_call2 r_112_57 rfl (sm_rv1 rfl rfl hX.2.2.2.1.choose_spec.choose_spec.1) (Nat.le_of_ble_eq_true rfl) (Nat.le_of_ble_eq_true rfl) ?_
      refine c_snumber hX.2.2.2.1 (by omega) ?_
      refine R_icmp_eq_N r_112_60 (by decide) (by omega) (by omega) (fun h_2 => ?_) (fun h_2 => ?_)
      · refine R_iinc1 r_112_65 rfl rfl ?_
        refine R_goto r_112_68 (by decide) ?_
        rw [agF_t (by assumption)] at hq
        exact ih (i + 1) _ (by omega) hq
      · refine R_iconst r_112_63 (v := nI 0) rfl ?_
        refine R_iret r_112_64 (ty := .boolean) rfl (by decide) (by decide) ?_
        rw [agF_f (by assumption)] at hq
        exact hq
theorem c_agrees {xs : List Int32} {d : Nat} {wd : sm_W} {Q : Option Value → sm_W → Prop} {tx : List Nat} {I : sm_Is} {w : Nat} {pa sh : List Nat} {sn : List (Nat × Nat)} (hX : cX wd tx I w pa sh sn) (hW : iWF I) (hw : w < 18446744073709551616) {n2 : Nat} (hw2 : n2 < 18446744073709551616) (hsn : snB sn) (hQ : ∀ w2, cX w2 tx I w pa sh sn → frm 0 21 wd w2 → Q (some (.int (b2i (agr I sn n2)))) w2) : Ct xs (d + 5) 112 [.ref 0, .long (lN n2)] wd Q := by
  unfold Ct
  show RT xs (d + 5) 112 0 [some (.ref 0), some (.long (lN n2)), none, none, none] [] wd Q
  obtain ⟨hW1, hW2, hW3, hW4, hW5, hW6, hW7, hW8, hW9, hW10, hW11, hW12, hW13, hW14, hW15⟩ := id hW
  refine R_aload_n r_112_0 rfl (by decide) ?_
  refine R_getf r_112_1 (by decide) hX.1.1 rfl ?_
  refine R_aload_n r_112_4 rfl (by decide) ?_
  refine R_getf r_112_5 (by decide) hX.1.1 rfl ?_
  refine R_lload_n r_112_8 rfl ?_
  refine R_call3 r_112_9 rfl (sm_rv1 rfl rfl hX.1.2.2.choose_spec.choose_spec.choose_spec.choose_spec.choose_spec.1) (Nat.le_of_ble_eq_true rfl) (Nat.le_of_ble_eq_true rfl) ?_
  refine c_set hX.1.2.1 hW hw2 (by decide) hX.1.2.2 ?_
  refine R_iconst r_112_12 (v := nI 0) rfl ?_
  refine R_istore_n r_112_13 rfl ?_
  exact lp_agrees (cX.night hX hW I n2 hW).1 hW hw2 hsn (nightSet_isN hX.1.2.2 hW) sn.length 0 _ (by omega) (hQ _ (cX.night hX hW I n2 hW).1 (frm.tr frm.rf (frm.wide (cX.night hX hW I n2 hW).2 (by decide) (by decide))))
theorem lp_oars {xs : List Int32} {d : Nat} {Q : Option Value → sm_W → Prop} {tx : List Nat} {I : sm_Is} {w : Nat} {pa sh : List Nat} {sn : List (Nat × Nat)} (hW : iWF I) (hw : w < 18446744073709551616) (hsn : snB sn) {x1 : Int32} {wd0 : sm_W} (hQ : ∀ w2, cX w2 tx I w pa sh sn → frm 0 21 wd0 w2 → Q (some (.int (if x1 = 0 then nI (oaS I sn w (1 <<< iB I)).1 else noI (oaS I sn w (1 <<< iB I)).2))) w2) : ∀ (k : Nat) (n : Nat) (wd : sm_W), (n + k = 1 <<< iB I) → (cX wd tx I w pa sh sn) → (frm 0 21 wd0 wd) → RT xs (d + 6) 111 17 [some (.ref 0), some (.int x1), some (.int (nI (oaS I sn w n).1)), some (.int (noI (oaS I sn w n).2)), some (.int (nI n))] [] wd Q := by
  intro k
  induction k with
  | zero =>
    intro n wd hk hX hf
    obtain ⟨hW1, hW2, hW3, hW4, hW5, hW6, hW7, hW8, hW9, hW10, hW11, hW12, hW13, hW14, hW15⟩ := id hW
    have hol := oaS_le I sn w n
    have hsl5 : 1 <<< iB I ≤ 32 := by rw [Nat.one_shiftLeft]; exact Nat.pow_le_pow_right (by decide) hW5
    refine R_iload r_111_17 rfl ?_
    refine R_iconst r_111_19 (v := nI 1) rfl ?_
    refine R_aload_n r_111_20 rfl (by decide) ?_
    refine R_getf r_111_21 (by decide) hX.1.1 rfl ?_
    refine R_call1 r_111_24 rfl (sm_rv1 rfl rfl hX.1.2.1.1) (Nat.le_of_ble_eq_true rfl) (Nat.le_of_ble_eq_true rfl) ?_
    refine c_boats hX.1.2.1 ?_
    refine R_ishlN r_111_27 (by omega) ?_
    refine R_icmp_ge_N r_111_28 (by decide) (by omega) (by omega) (fun h_1 => ?_) (fun h_1 => ?_)
    · refine R_iload_n r_111_66 rfl ?_
      refine R_if_ne r_111_67 (by decide) (fun h_2 => ?_) (fun h_2 => ?_)
      · refine R_iload_n r_111_74 rfl ?_
        refine R_iret r_111_75 (ty := .int) rfl rfl (by decide) ?_
        have h9 := hQ _ hX hf
        rw [show 1 <<< iB I = n by omega] at h9
        first | (rw [if_pos (by assumption)] at h9; exact h9) | (rw [if_neg (by assumption)] at h9; exact h9)
      · refine R_iload_n r_111_70 rfl ?_
        refine R_goto r_111_71 (by decide) ?_
        refine R_iret r_111_75 (ty := .int) rfl rfl (by decide) ?_
        have h9 := hQ _ hX hf
        rw [show 1 <<< iB I = n by omega] at h9
        first | (rw [if_pos (by assumption)] at h9; exact h9) | (rw [if_neg (by assumption)] at h9; exact h9)
    · exfalso; omega
  | succ k ih =>
    intro n wd hk hX hf
    obtain ⟨hW1, hW2, hW3, hW4, hW5, hW6, hW7, hW8, hW9, hW10, hW11, hW12, hW13, hW14, hW15⟩ := id hW
    have hol := oaS_le I sn w n
    have hsl5 : 1 <<< iB I ≤ 32 := by rw [Nat.one_shiftLeft]; exact Nat.pow_le_pow_right (by decide) hW5
    refine R_iload r_111_17 rfl ?_
    refine R_iconst r_111_19 (v := nI 1) rfl ?_
    refine R_aload_n r_111_20 rfl (by decide) ?_
    refine R_getf r_111_21 (by decide) hX.1.1 rfl ?_
    refine R_call1 r_111_24 rfl (sm_rv1 rfl rfl hX.1.2.1.1) (Nat.le_of_ble_eq_true rfl) (Nat.le_of_ble_eq_true rfl) ?_
    refine c_boats hX.1.2.1 ?_
    refine R_ishlN r_111_27 (by omega) ?_
    refine R_icmp_ge_N r_111_28 (by decide) (by omega) (by omega) (fun h_1 => ?_) (fun h_1 => ?_)
    · exfalso; omega
    · refine R_aload_n r_111_31 rfl (by decide) ?_
      refine R_aload_n r_111_32 rfl (by decide) ?_
      refine R_getf r_111_33 (by decide) hX.1.1 rfl ?_
      refine R_iload r_111_36 rfl ?_
      refine R_call2 r_111_38 rfl rfl (Nat.le_of_ble_eq_true rfl) (Nat.le_of_ble_eq_true rfl) ?_
      refine c_withHeld hw (by omega) ?_
      refine R_call2 r_111_41 rfl (sm_rv1 rfl rfl hX.1.1) (Nat.le_of_ble_eq_true rfl) (Nat.le_of_ble_eq_true rfl) ?_
      refine c_agrees hX hW hw (wHeld_lt hw) hsn (fun w_2 hx_w_2 hf_w_2 => ?_)
      refine R_if_ne_b r_111_44 (by decide) (fun h_3 => ?_) (fun h_3 => ?_)
      · refine R_iload_n r_111_50 rfl ?_
        refine R_if_ne_N r_111_51 (by decide) (by omega) (fun h_4 => ?_) (fun h_4 => ?_)
        · refine R_iinc1 r_111_57 rfl rfl ?_
          refine R_iinc1 r_111_60 rfl rfl ?_
          refine R_goto r_111_63 (by decide) ?_
          have := ih (n + 1) _ (by omega) hx_w_2 (frm.tr hf (frm.wide hf_w_2 (by decide) (by decide)))
          first | (rw [oaS_f (by assumption)] at this; exact this) | (rw [oaS_0 (by assumption) (by assumption), noI_n (by omega)] at this; exact this) | (rw [oaS_1 (by assumption) (by assumption)] at this; exact this)
        · refine R_iload r_111_54 rfl ?_
          refine R_istore_n r_111_56 rfl ?_
          refine R_iinc1 r_111_57 rfl rfl ?_
          refine R_iinc1 r_111_60 rfl rfl ?_
          refine R_goto r_111_63 (by decide) ?_
          have := ih (n + 1) _ (by omega) hx_w_2 (frm.tr hf (frm.wide hf_w_2 (by decide) (by decide)))
          first | (rw [oaS_f (by assumption)] at this; exact this) | (rw [oaS_0 (by assumption) (by assumption), noI_n (by omega)] at this; exact this) | (rw [oaS_1 (by assumption) (by assumption)] at this; exact this)
      · refine R_goto r_111_47 (by decide) ?_
        refine R_iinc1 r_111_60 rfl rfl ?_
        refine R_goto r_111_63 (by decide) ?_
        have := ih (n + 1) _ (by omega) hx_w_2 (frm.tr hf (frm.wide hf_w_2 (by decide) (by decide)))
        first | (rw [oaS_f (by assumption)] at this; exact this) | (rw [oaS_0 (by assumption) (by assumption), noI_n (by omega)] at this; exact this) | (rw [oaS_1 (by assumption) (by assumption)] at this; exact this)
theorem c_oars {xs : List Int32} {d : Nat} {wd : sm_W} {Q : Option Value → sm_W → Prop} {tx : List Nat} {I : sm_Is} {w : Nat} {pa sh : List Nat} {sn : List (Nat × Nat)} (hX : cX wd tx I w pa sh sn) (hW : iWF I) (hw : w < 18446744073709551616) (hsn : snB sn) {x1 : Int32} (hB : inR x1 2 = false → Q (some (.int (-1))) wd) (hQ : inR x1 2 = true → ∀ w2, cX w2 tx I w pa sh sn → frm 0 21 wd w2 → Q (some (.int (if x1 = 0 then nI (oaS I sn w (1 <<< iB I)).1 else noI (oaS I sn w (1 <<< iB I)).2))) w2) : Ct xs (d + 6) 111 [.ref 0, .int x1] wd Q := by
  unfold Ct
  show RT xs (d + 6) 111 0 [some (.ref 0), some (.int x1), none, none, none] [] wd Q
  obtain ⟨hW1, hW2, hW3, hW4, hW5, hW6, hW7, hW8, hW9, hW10, hW11, hW12, hW13, hW14, hW15⟩ := id hW
  refine R_iload_n r_111_0 rfl ?_
  refine R_call1 r_111_1 rfl rfl (Nat.le_of_ble_eq_true rfl) (Nat.le_of_ble_eq_true rfl) ?_
  refine c_isEither ?_
  refine R_if_ne_b r_111_4 (by decide) (fun h_1 => ?_) (fun h_1 => ?_)
  · refine R_iconst r_111_9 (v := nI 0) rfl ?_
    refine R_istore_n r_111_10 rfl ?_
    refine R_bipush r_111_11 (v := (-4)) rfl ?_
    refine R_istore_n r_111_13 rfl ?_
    refine R_iconst r_111_14 (v := nI 0) rfl ?_
    refine R_istore r_111_15 rfl ?_
    exact lp_oars hW hw hsn (hQ (by assumption)) (1 <<< iB I) 0 _ (by omega) hX frm.rf
  · refine R_iconst r_111_7 (v := (-1)) rfl ?_
    refine R_iret r_111_8 (ty := .int) rfl rfl (by decide) ?_
    exact hB (by assumption)
theorem lp_power {xs : List Int32} {d : Nat} {wd : sm_W} {Q : Option Value → sm_W → Prop} {b e : Nat} (he : e ≤ 8) (hQ : Q (some (.int (nI (b ^ e)))) wd) : ∀ (k : Nat) (i : Nat), (i + k = e) → RT xs (d) 118 4 [some (.int (nI b)), some (.int (nI e)), some (.int (nI (b ^ i))), some (.int (nI i))] [] wd Q := by
  intro k
  induction k with
  | zero =>
    intro i hk
    refine R_iload_n r_118_4 rfl ?_
    refine R_iload_n r_118_5 rfl ?_
    refine R_icmp_ge_N r_118_6 (by decide) (by omega) (by omega) (fun h_1 => ?_) (fun h_1 => ?_)
    · refine R_iload_n r_118_25 rfl ?_
      refine R_iret r_118_26 (ty := .int) rfl rfl (by decide) ?_
      first | (rw [show i = e by omega]; exact hQ) | (exfalso; omega)
    · exfalso; omega
  | succ k ih =>
    intro i hk
    refine R_iload_n r_118_4 rfl ?_
    refine R_iload_n r_118_5 rfl ?_
    refine R_icmp_ge_N r_118_6 (by decide) (by omega) (by omega) (fun h_1 => ?_) (fun h_1 => ?_)
    · exfalso; omega
    · refine R_iload_n r_118_9 rfl ?_
      refine R_bipush r_118_10 (v := nI 8) rfl ?_
      refine R_icmp_ge_N r_118_12 (by decide) (by omega) (by omega) (fun h_2 => ?_) (fun h_2 => ?_)
      · refine R_iload_n r_118_25 rfl ?_
        refine R_iret r_118_26 (ty := .int) rfl rfl (by decide) ?_
        first | (rw [show i = e by omega]; exact hQ) | (exfalso; omega)
      · refine R_iload_n r_118_15 rfl ?_
        refine R_iload_n r_118_16 rfl ?_
        refine R_imulN r_118_17 ?_
        refine R_istore_n r_118_18 rfl ?_
        refine R_iinc1 r_118_19 rfl rfl ?_
        refine R_goto r_118_22 (by decide) ?_
        exact ih (i + 1) (by omega)
theorem c_power {xs : List Int32} {d : Nat} {wd : sm_W} {Q : Option Value → sm_W → Prop} {b e : Nat} (he : e ≤ 8) (hQ : Q (some (.int (nI (b ^ e)))) wd) : Ct xs (d) 118 [.int (nI b), .int (nI e)] wd Q := by
  unfold Ct
  show RT xs (d) 118 0 [some (.int (nI b)), some (.int (nI e)), none, none] [] wd Q
  refine R_iconst r_118_0 (v := nI 1) rfl ?_
  refine R_istore_n r_118_1 rfl ?_
  refine R_iconst r_118_2 (v := nI 0) rfl ?_
  refine R_istore_n r_118_3 rfl ?_
  exact lp_power he hQ e 0 (by omega)
theorem lp_gcd {xs : List Int32} {d : Nat} {wd : sm_W} {Q : Option Value → sm_W → Prop} {x1 x2 : Int32} : ∀ (k : Nat) (l s i : Nat) (h5 : Option Value), (i + k = 100) → (l < 2147483648) → (s < 2147483648) → (Q (some (.int (nI (gcF k l s)))) wd) → RT xs (d) 119 7 [some (.int x1), some (.int x2), some (.int (nI l)), some (.int (nI s)), some (.int (nI i)), h5] [] wd Q := by
  intro k
  induction k with
  | zero =>
    intro l s i h5 hk hl hs hq
    refine R_iload r_119_7 rfl ?_
    refine R_bipush r_119_9 (v := nI 100) rfl ?_
    refine R_icmp_ge_N r_119_11 (by decide) (by omega) (by omega) (fun h_1 => ?_) (fun h_1 => ?_)
    · refine R_iload_n r_119_34 rfl ?_
      refine R_iret r_119_35 (ty := .int) rfl rfl (by decide) ?_
      exact hq
    · exfalso; omega
  | succ k ih =>
    intro l s i h5 hk hl hs hq
    refine R_iload r_119_7 rfl ?_
    refine R_bipush r_119_9 (v := nI 100) rfl ?_
    refine R_icmp_ge_N r_119_11 (by decide) (by omega) (by omega) (fun h_1 => ?_) (fun h_1 => ?_)
    · exfalso; omega
    · refine R_iload_n r_119_14 rfl ?_
      refine R_if_eq_N r_119_15 (by decide) (by omega) (fun h_2 => ?_) (fun h_2 => ?_)
      · refine R_iload_n r_119_34 rfl ?_
        refine R_iret r_119_35 (ty := .int) rfl rfl (by decide) ?_
        first | (exfalso; omega) | (rw [gcF, if_pos (by assumption)] at hq; exact hq)
      · refine R_iload_n r_119_18 rfl ?_
        refine R_iload_n r_119_19 rfl ?_
        refine R_iremN r_119_20 (by omega) (by omega) (by omega) ?_
        refine R_istore r_119_21 rfl ?_
        refine R_iload_n r_119_23 rfl ?_
        refine R_istore_n r_119_24 rfl ?_
        refine R_iload r_119_25 rfl ?_
        refine R_istore_n r_119_27 rfl ?_
        refine R_iinc1 r_119_28 rfl rfl ?_
        refine R_goto r_119_31 (by decide) ?_
        rw [gcF, if_neg (by assumption)] at hq
        exact ih _ _ (i + 1) _ (by omega) (by omega) (Nat.lt_trans (Nat.mod_lt l (by omega : s > 0)) hs) hq
theorem c_gcd {xs : List Int32} {d : Nat} {wd : sm_W} {Q : Option Value → sm_W → Prop} {a b : Nat} (ha : a < 2147483648) (hb : b < 2147483648) (hQ : Q (some (.int (nI (Nat.gcd b a)))) wd) : Ct xs (d) 119 [.int (nI a), .int (nI b)] wd Q := by
  unfold Ct
  show RT xs (d) 119 0 [some (.int (nI a)), some (.int (nI b)), none, none, none, none] [] wd Q
  refine R_iload_n r_119_0 rfl ?_
  refine R_istore_n r_119_1 rfl ?_
  refine R_iload_n r_119_2 rfl ?_
  refine R_istore_n r_119_3 rfl ?_
  refine R_iconst r_119_4 (v := nI 0) rfl ?_
  refine R_istore r_119_5 rfl ?_
  exact lp_gcd 100 b a 0 _ (by omega) hb ha (by rw [gcF_eq 31 b a ha 100 (by decide)]; exact hQ)
theorem c_weight {xs : List Int32} {d : Nat} {wd : sm_W} {Q : Option Value → sm_W → Prop} {tx : List Nat} {I : sm_Is} {w : Nat} {pa sh : List Nat} {sn : List (Nat × Nat)} (hX : cX wd tx I w pa sh sn) (hW : iWF I) (hw : w < 18446744073709551616) {s g : Nat} (hs : s ≤ 8) (hg : g ≤ 8) (hQ : Q (some (.int (nI (iX I ^ s * (10 - iX I) ^ g)))) wd) : Ct xs (d + 1) 116 [.ref 0, .int (nI s), .int (nI g)] wd Q := by
  unfold Ct
  show RT xs (d + 1) 116 0 [some (.ref 0), some (.int (nI s)), some (.int (nI g))] [] wd Q
  obtain ⟨hW1, hW2, hW3, hW4, hW5, hW6, hW7, hW8, hW9, hW10, hW11, hW12, hW13, hW14, hW15⟩ := id hW
  refine R_aload_n r_116_0 rfl (by decide) ?_
  refine R_getf r_116_1 (by decide) hX.1.1 rfl ?_
  refine R_call1 r_116_4 rfl (sm_rv1 rfl rfl hX.1.2.1.1) (Nat.le_of_ble_eq_true rfl) (Nat.le_of_ble_eq_true rfl) ?_
  refine c_seasickTenths hX.1.2.1 ?_
  refine R_iload_n r_116_7 rfl ?_
  refine R_call2 r_116_8 rfl rfl (Nat.le_of_ble_eq_true rfl) (Nat.le_of_ble_eq_true rfl) ?_
  refine c_power (by omega) ?_
  refine R_bipush r_116_11 (v := nI 10) rfl ?_
  refine R_aload_n r_116_13 rfl (by decide) ?_
  refine R_getf r_116_14 (by decide) hX.1.1 rfl ?_
  refine R_call1 r_116_17 rfl (sm_rv1 rfl rfl hX.1.2.1.1) (Nat.le_of_ble_eq_true rfl) (Nat.le_of_ble_eq_true rfl) ?_
  refine c_seasickTenths hX.1.2.1 ?_
  refine R_isubN r_116_20 (by omega) ?_
  refine R_iload_n r_116_21 rfl ?_
  refine R_call2 r_116_22 rfl rfl (Nat.le_of_ble_eq_true rfl) (Nat.le_of_ble_eq_true rfl) ?_
  refine c_power (by omega) ?_
  refine R_imulN r_116_25 ?_
  refine R_iret r_116_26 (ty := .int) rfl rfl (by decide) ?_
  exact hQ
def odA (I : sm_Is) (w q qs : Nat) : Nat := odS I w q qs (qs + 1)
def odG (I : sm_Is) (w q qs : Nat) : Nat := Nat.gcd (10 ^ pc8 qs) (odA I w q qs)
theorem odG_pos (I : sm_Is) (w q qs : Nat) : 0 < odG I w q qs := Nat.gcd_pos_of_pos_left _ (Nat.pow_pos (by decide))
theorem odG_le (I : sm_Is) (w q qs : Nat) : odG I w q qs ≤ 100000000 := Nat.le_trans (Nat.gcd_le_left _ (Nat.pow_pos (by decide))) (p10_le qs)
theorem lp_odds {xs : List Int32} {d : Nat} {wd : sm_W} {Q : Option Value → sm_W → Prop} {tx : List Nat} {I : sm_Is} {w : Nat} {pa sh : List Nat} {sn : List (Nat × Nat)} (hX : cX wd tx I w pa sh sn) (hW : iWF I) (hw : w < 18446744073709551616) {q qs : Nat} (hqs : qs < 256) (hN : isN wd (ntG I w) (ntV I w) (ntS I w) (iBd I) (ntB w)) {x1 x2 : Int32} (hQ : Q (some (.int (if x2 = 0 then nI (odA I w q qs / odG I w q qs) else nI (10 ^ pc8 qs / odG I w q qs)))) wd) : ∀ (k : Nat) (n : Nat) (h7 : Option Value), (n + k = qs + 1) → RT xs (d + 6) 115 66 [some (.ref 0), some (.int x1), some (.int x2), some (.int (nI (sAg w q))), some (.int (nI qs)), some (.int (nI (odS I w q qs n))), some (.int (nI n)), h7] [] wd Q := by
  intro k
  induction k with
  | zero =>
    intro n h7 hk
    obtain ⟨hW1, hW2, hW3, hW4, hW5, hW6, hW7, hW8, hW9, hW10, hW11, hW12, hW13, hW14, hW15⟩ := id hW
    have hod := odS_lt (I := I) (w := w) (q := q) (qs := qs) hW14 (n := n) (by omega)
    have hp10 := p10_le qs
    have hnq : n &&& (qs ^^^ 4294967295) ≤ n := Nat.and_le_left
    have hqn : qs &&& (n ^^^ 4294967295) ≤ qs := Nat.and_le_left
    refine R_iload r_115_66 rfl ?_
    refine R_iload r_115_68 rfl ?_
    refine R_icmp_gt_N r_115_70 (by decide) (by omega) (by omega) (fun h_1 => ?_) (fun h_1 => ?_)
    · obtain rfl : n = qs + 1 := by omega
      refine R_bipush r_115_145 (v := nI 10) rfl ?_
      refine R_iload r_115_147 rfl ?_
      refine R_call1 r_115_149 rfl rfl (Nat.le_of_ble_eq_true rfl) (Nat.le_of_ble_eq_true rfl) ?_
      refine c_bitCount (by omega) ?_
      refine R_call2 r_115_152 rfl rfl (Nat.le_of_ble_eq_true rfl) (Nat.le_of_ble_eq_true rfl) ?_
      refine c_power (pcUp_le _ 8) ?_
      refine R_istore r_115_155 rfl ?_
      refine R_iload r_115_157 rfl ?_
      refine R_iload r_115_159 rfl ?_
      refine R_call2 r_115_161 rfl rfl (Nat.le_of_ble_eq_true rfl) (Nat.le_of_ble_eq_true rfl) ?_
      refine c_gcd (by omega) (by omega) ?_
      refine R_istore r_115_164 rfl ?_
      refine R_iload r_115_166 rfl ?_
      refine R_if_gt_N r_115_168 (by decide) (by have := odG_le I w q qs; unfold odG odA at this; omega) (fun h_2 => ?_) (fun h_2 => ?_)
      · refine R_iload_n r_115_174 rfl ?_
        refine R_if_ne r_115_175 (by decide) (fun h_3 => ?_) (fun h_3 => ?_)
        · refine R_iload r_115_186 rfl ?_
          refine R_iload r_115_188 rfl ?_
          refine R_idivN r_115_190 (by omega) (by have := odG_pos I w q qs; unfold odG odA at this; omega) (by have := odG_le I w q qs; unfold odG odA at this; omega) ?_
          refine R_iret r_115_191 (ty := .int) rfl rfl (by decide) ?_
          unfold odG odA at hQ; first | (rw [if_pos (by assumption)] at hQ; exact hQ) | (rw [if_neg (by assumption)] at hQ; exact hQ)
        · refine R_iload r_115_178 rfl ?_
          refine R_iload r_115_180 rfl ?_
          refine R_idivN r_115_182 (by omega) (by have := odG_pos I w q qs; unfold odG odA at this; omega) (by have := odG_le I w q qs; unfold odG odA at this; omega) ?_
          refine R_goto r_115_183 (by decide) ?_
          refine R_iret r_115_191 (ty := .int) rfl rfl (by decide) ?_
          unfold odG odA at hQ; first | (rw [if_pos (by assumption)] at hQ; exact hQ) | (rw [if_neg (by assumption)] at hQ; exact hQ)
      · refine R_bipush r_115_171 (v := (-4)) rfl ?_
        refine R_iret r_115_173 (ty := .int) rfl rfl (by decide) ?_
        exfalso; have := odG_pos I w q qs; unfold odG odA at this; omega
    · exfalso; omega
  | succ k ih =>
    intro n h7 hk
    obtain ⟨hW1, hW2, hW3, hW4, hW5, hW6, hW7, hW8, hW9, hW10, hW11, hW12, hW13, hW14, hW15⟩ := id hW
    have hod := odS_lt (I := I) (w := w) (q := q) (qs := qs) hW14 (n := n) (by omega)
    have hp10 := p10_le qs
    have hnq : n &&& (qs ^^^ 4294967295) ≤ n := Nat.and_le_left
    have hqn : qs &&& (n ^^^ 4294967295) ≤ qs := Nat.and_le_left
    refine R_iload r_115_66 rfl ?_
    refine R_iload r_115_68 rfl ?_
    refine R_icmp_gt_N r_115_70 (by decide) (by omega) (by omega) (fun h_1 => ?_) (fun h_1 => ?_)
    · exfalso; omega
    · refine R_iload r_115_73 rfl ?_
      refine R_iload r_115_75 rfl ?_
      refine R_iconst r_115_77 (v := (-1)) rfl ?_
      refine R_ixorM r_115_78 ?_
      refine R_iandN r_115_79 ?_
      refine R_if_ne_N r_115_80 (by decide) (by omega) (fun h_2 => ?_) (fun h_2 => ?_)
      · refine R_iconst r_115_87 (v := nI 0) rfl ?_
        refine R_istore r_115_88 rfl ?_
        refine R_iload r_115_90 rfl ?_
        refine R_ifT r_115_92 (by decide) (by decide) ?_
        refine R_iinc1 r_115_139 rfl rfl ?_
        refine R_goto r_115_142 (by decide) ?_
        have := fun h7 => ih (n + 1) h7 (by omega)
        first | (rw [odS_t ⟨by assumption, by assumption⟩] at this; exact this _) | (rw [odS_f (by intro z; simp_all [lvK]; done)] at this; exact this _)
      · refine R_iconst r_115_83 (v := nI 1) rfl ?_
        refine R_goto r_115_84 (by decide) ?_
        refine R_istore r_115_88 rfl ?_
        refine R_iload r_115_90 rfl ?_
        refine R_ifF r_115_92 (by decide) (by decide) ?_
        refine R_aload_n r_115_95 rfl (by decide) ?_
        refine R_getf r_115_96 (by decide) hX.1.1 rfl ?_
        refine R_aload_n r_115_99 rfl (by decide) ?_
        refine R_getf r_115_100 (by decide) hX.1.1 rfl ?_
        refine R_iload_n r_115_103 rfl ?_
        refine R_iload r_115_104 rfl ?_
        refine R_call3 r_115_106 rfl (sm_rv1 rfl rfl hX.1.2.2.choose_spec.choose_spec.choose_spec.choose_spec.choose_spec.1) (Nat.le_of_ble_eq_true rfl) (Nat.le_of_ble_eq_true rfl) ?_
        refine c_leaving hN (sAg_lt _ _) ?_
        refine R_call2 r_115_109 rfl (sm_rv1 rfl rfl hX.1.2.1.1) (Nat.le_of_ble_eq_true rfl) (Nat.le_of_ble_eq_true rfl) ?_
        refine c_lawFalls hX.1.2.1 hW (lowUp_lt _ _ 8) ?_
        refine R_if_eq_b r_115_112 (by decide) (fun h_3 => ?_) (fun h_3 => ?_)
        · refine R_iinc1 r_115_139 rfl rfl ?_
          refine R_goto r_115_142 (by decide) ?_
          have := fun h7 => ih (n + 1) h7 (by omega)
          first | (rw [odS_t ⟨by assumption, by assumption⟩] at this; exact this _) | (rw [odS_f (by intro z; simp_all [lvK]; done)] at this; exact this _)
        · refine R_iload r_115_115 rfl ?_
          refine R_aload_n r_115_117 rfl (by decide) ?_
          refine R_iload r_115_118 rfl ?_
          refine R_call1 r_115_120 rfl rfl (Nat.le_of_ble_eq_true rfl) (Nat.le_of_ble_eq_true rfl) ?_
          refine c_bitCount (by omega) ?_
          refine R_iload r_115_123 rfl ?_
          refine R_iload r_115_125 rfl ?_
          refine R_iconst r_115_127 (v := (-1)) rfl ?_
          refine R_ixorM r_115_128 ?_
          refine R_iandN r_115_129 ?_
          refine R_call1 r_115_130 rfl rfl (Nat.le_of_ble_eq_true rfl) (Nat.le_of_ble_eq_true rfl) ?_
          refine c_bitCount (by omega) ?_
          refine R_call3 r_115_133 rfl (sm_rv1 rfl rfl hX.1.1) (Nat.le_of_ble_eq_true rfl) (Nat.le_of_ble_eq_true rfl) ?_
          refine c_weight hX hW hw (pcUp_le _ 8) (pcUp_le _ 8) ?_
          refine R_iaddN r_115_136 ?_
          refine R_istore r_115_137 rfl ?_
          refine R_iinc1 r_115_139 rfl rfl ?_
          refine R_goto r_115_142 (by decide) ?_
          have := fun h7 => ih (n + 1) h7 (by omega)
          first | (rw [odS_t ⟨by assumption, by assumption⟩] at this; exact this _) | (rw [odS_f (by intro z; simp_all [lvK]; done)] at this; exact this _)
def qsF (I : sm_Is) (w q : Nat) : Nat := wntq I w q &&& kindUp (iK I) 1 (iN I)
theorem qsF_lt (I : sm_Is) (w q : Nat) : qsF I w q < 256 := Nat.lt_of_le_of_lt Nat.and_le_left (wnt_lt _ _ _ _ _)
theorem c_odds {xs : List Int32} {d : Nat} {wd : sm_W} {Q : Option Value → sm_W → Prop} {tx : List Nat} {I : sm_Is} {w : Nat} {pa sh : List Nat} {sn : List (Nat × Nat)} (hX : cX wd tx I w pa sh sn) (hW : iWF I) (hw : w < 18446744073709551616) {x1 x2 : Int32} (hB : (inR x1 2 && inR x2 2) = false → Q (some (.int (-1))) wd) (hQ : ∀ q, q < 2 → x1 = nI q → inR x2 2 = true → ∀ w2, cX w2 tx I w pa sh sn → frm 0 21 wd w2 → Q (some (.int (if x2 = 0 then nI (odA I w q (qsF I w q) / odG I w q (qsF I w q)) else nI (10 ^ pc8 (qsF I w q) / odG I w q (qsF I w q))))) w2) : Ct xs (d + 6) 115 [.ref 0, .int x1, .int x2] wd Q := by
  unfold Ct
  show RT xs (d + 6) 115 0 [some (.ref 0), some (.int x1), some (.int x2), none, none, none, none, none] [] wd Q
  obtain ⟨hW1, hW2, hW3, hW4, hW5, hW6, hW7, hW8, hW9, hW10, hW11, hW12, hW13, hW14, hW15⟩ := id hW
  refine R_iload_n r_115_0 rfl ?_
  refine R_call1 r_115_1 rfl rfl (Nat.le_of_ble_eq_true rfl) (Nat.le_of_ble_eq_true rfl) ?_
  refine c_isQuestion ?_
  refine R_if_eq_b r_115_4 (by decide) (fun h_1 => ?_) (fun h_1 => ?_)
  · refine R_iconst r_115_14 (v := (-1)) rfl ?_
    refine R_iret r_115_15 (ty := .int) rfl rfl (by decide) ?_
    exact hB (by simp [*])
  · refine R_iload_n r_115_7 rfl ?_
    refine R_call1 r_115_8 rfl rfl (Nat.le_of_ble_eq_true rfl) (Nat.le_of_ble_eq_true rfl) ?_
    refine c_isEither ?_
    refine R_if_ne_b r_115_11 (by decide) (fun h_2 => ?_) (fun h_2 => ?_)
    · obtain ⟨q, hq, rfl⟩ := inR_of (x := x1) (by assumption) (by decide)
      refine R_aload_n r_115_16 rfl (by decide) ?_
      refine R_getf r_115_17 (by decide) hX.1.1 rfl ?_
      refine R_aload_n r_115_20 rfl (by decide) ?_
      refine R_getf r_115_21 (by decide) hX.1.1 rfl ?_
      refine R_aload_n r_115_24 rfl (by decide) ?_
      refine R_getf r_115_25 (by decide) hX.1.1 rfl ?_
      refine R_call3 r_115_28 rfl (sm_rv1 rfl rfl hX.1.2.2.choose_spec.choose_spec.choose_spec.choose_spec.choose_spec.1) (Nat.le_of_ble_eq_true rfl) (Nat.le_of_ble_eq_true rfl) ?_
      refine c_set hX.1.2.1 hW hw (by decide) hX.1.2.2 ?_
      refine R_aload_n r_115_31 rfl (by decide) ?_
      refine R_getf r_115_32 (by decide) (cX.night hX hW I w hW).1.1.1 rfl ?_
      refine R_iload_n r_115_35 rfl ?_
      refine R_call2 r_115_36 rfl rfl (Nat.le_of_ble_eq_true rfl) (Nat.le_of_ble_eq_true rfl) ?_
      refine c_against hw hq ?_
      refine R_istore_n r_115_39 rfl ?_
      refine R_aload_n r_115_40 rfl (by decide) ?_
      refine R_getf r_115_41 (by decide) (cX.night hX hW I w hW).1.1.1 rfl ?_
      refine R_iload_n r_115_44 rfl ?_
      refine R_iconst r_115_45 (v := nI 0) rfl ?_
      refine R_call3 r_115_46 rfl (sm_rv1 rfl rfl (cX.night hX hW I w hW).1.1.2.2.choose_spec.choose_spec.choose_spec.choose_spec.choose_spec.1) (Nat.le_of_ble_eq_true rfl) (Nat.le_of_ble_eq_true rfl) ?_
      refine c_wanting (nightSet_isN hX.1.2.2 hW) (sAg_lt _ _) ?_
      refine R_aload_n r_115_49 rfl (by decide) ?_
      refine R_getf r_115_50 (by decide) (cX.night hX hW I w hW).1.1.1 rfl ?_
      refine R_iconst r_115_53 (v := nI 1) rfl ?_
      refine R_call2 r_115_54 rfl (sm_rv1 rfl rfl (cX.night hX hW I w hW).1.1.2.1.1) (Nat.le_of_ble_eq_true rfl) (Nat.le_of_ble_eq_true rfl) ?_
      refine c_ofKind (cX.night hX hW I w hW).1.1.2.1 hW (by decide) ?_
      refine R_iandN r_115_57 ?_
      refine R_istore r_115_58 rfl ?_
      refine R_iconst r_115_60 (v := nI 0) rfl ?_
      refine R_istore r_115_61 rfl ?_
      refine R_iconst r_115_63 (v := nI 0) rfl ?_
      refine R_istore r_115_64 rfl ?_
      exact lp_odds (cX.night hX hW I w hW).1 hW hw (qsF_lt I w q) (nightSet_isN hX.1.2.2 hW) (hQ q hq rfl (by assumption) _ (cX.night hX hW I w hW).1 (frm.tr frm.rf (frm.wide (cX.night hX hW I w hW).2 (by decide) (by decide)))) (qsF I w q + 1) 0 _ (by omega)
    · refine R_iconst r_115_14 (v := (-1)) rfl ?_
      refine R_iret r_115_15 (ty := .int) rfl rfl (by decide) ?_
      exact hB (by simp [*])
theorem drw_x {z k : Nat} (hz : z < 10000) (hk : k < 60) : 7919 * z + 6151 * k + 1 < 80000000 := by omega
theorem drw_xx {z k : Nat} (hz : z < 10000) (hk : k < 60) : (7919 * z + 6151 * k + 1) * (7919 * z + 6151 * k + 1) < 2 ^ 63 :=
  Nat.lt_trans (Nat.mul_lt_mul'' (drw_x hz hk) (drw_x hz hk)) (by decide)
theorem c_draw {xs : List Int32} {d : Nat} {wd : sm_W} {Q : Option Value → sm_W → Prop} {z k : Nat} (hz : z < 10000) (hk : k < 60) (hQ : Q (some (.int (nI (drw z k)))) wd) : Ct xs (d) 122 [.int (nI z), .int (nI k)] wd Q := by
  unfold Ct
  show RT xs (d) 122 0 [some (.int (nI z)), some (.int (nI k)), none, none] [] wd Q
  refine R_ldc2_w r_122_0 (v := lN 7919) rfl ?_
  refine R_iload_n r_122_3 rfl ?_
  refine R_i2lN r_122_4 (by omega) ?_
  refine R_lmulN r_122_5 ?_
  refine R_ldc2_w r_122_6 (v := lN 6151) rfl ?_
  refine R_iload_n r_122_9 rfl ?_
  refine R_i2lN r_122_10 (by omega) ?_
  refine R_lmulN r_122_11 ?_
  refine R_laddN r_122_12 ?_
  refine R_lconst r_122_13 (v := lN 1) rfl ?_
  refine R_laddN r_122_14 ?_
  refine R_lstore_n r_122_15 rfl ?_
  refine R_lload_n r_122_16 rfl ?_
  refine R_lload_n r_122_17 rfl ?_
  refine R_lmulN r_122_18 ?_
  refine R_ldc2_w r_122_19 (v := lN 65521) rfl ?_
  refine R_lremN r_122_22 (drw_xx hz hk) (by decide) (by decide) ?_
  refine R_l2iN r_122_23 ?_
  refine R_iconst r_122_24 (v := nI 2) rfl ?_
  refine R_idivN r_122_25 (by have := Nat.mod_lt ((7919 * z + 6151 * k + 1) * (7919 * z + 6151 * k + 1)) (by decide : 0 < 65521); omega) (by omega) (by omega) ?_
  refine R_iret r_122_26 (ty := .int) rfl rfl (by decide) ?_
  exact hQ
theorem moS_le (I : sm_Is) (w z : Nat) (x : Int32) : ∀ k, moS I w z x k ≤ k
  | 0 => Nat.le_refl _
  | k + 1 => by
    have h1 := moS_le I w z x k
    have h2 : (moT I w z k x).toNat ≤ 1 := by cases moT I w z k x <;> decide
    unfold moS; omega
theorem lp_months {xs : List Int32} {d : Nat} {Q : Option Value → sm_W → Prop} {tx : List Nat} {I : sm_Is} {w : Nat} {pa sh : List Nat} {sn : List (Nat × Nat)} (hW : iWF I) (hw : w < 18446744073709551616) {z N : Nat} (hz : z < 10000) (hN : N < 61) {x3 : Int32} {wd0 : sm_W} (hQ : ∀ w2, cX w2 tx I w pa sh sn → frm 0 21 wd0 w2 → Q (some (.int (nI (moS I w z x3 N)))) w2) : ∀ (k : Nat) (n : Nat) (wd : sm_W) (h6 h7 h8 h9 : Option Value), (n + k = N) → (cX wd tx I w pa sh sn) → (frm 0 21 wd0 wd) → RT xs (d + 6) 121 37 [some (.ref 0), some (.int (nI z)), some (.int (nI N)), some (.int x3), some (.int (nI (moS I w z x3 n))), some (.int (nI n)), h6, h7, h8, h9] [] wd Q := by
  intro k
  induction k with
  | zero =>
    intro n wd h6 h7 h8 h9 hk hX hf
    obtain ⟨hW1, hW2, hW3, hW4, hW5, hW6, hW7, hW8, hW9, hW10, hW11, hW12, hW13, hW14, hW15⟩ := id hW
    have hdl := drw_lt z n
    have hml := moS_le I w z x3 n
    refine R_iload r_121_37 rfl ?_
    refine R_iload_n r_121_39 rfl ?_
    refine R_icmp_ge_N r_121_40 (by decide) (by omega) (by omega) (fun h_1 => ?_) (fun h_1 => ?_)
    · refine R_iload r_121_140 rfl ?_
      refine R_iret r_121_142 (ty := .int) rfl rfl (by decide) ?_
      have h9 := hQ _ hX hf; rw [show N = n by omega] at h9; exact h9
    · exfalso; omega
  | succ k ih =>
    intro n wd h6 h7 h8 h9 hk hX hf
    obtain ⟨hW1, hW2, hW3, hW4, hW5, hW6, hW7, hW8, hW9, hW10, hW11, hW12, hW13, hW14, hW15⟩ := id hW
    have hdl := drw_lt z n
    have hml := moS_le I w z x3 n
    refine R_iload r_121_37 rfl ?_
    refine R_iload_n r_121_39 rfl ?_
    refine R_icmp_ge_N r_121_40 (by decide) (by omega) (by omega) (fun h_1 => ?_) (fun h_1 => ?_)
    · exfalso; omega
    · refine R_iload_n r_121_43 rfl ?_
      refine R_iload r_121_44 rfl ?_
      refine R_call2 r_121_46 rfl rfl (Nat.le_of_ble_eq_true rfl) (Nat.le_of_ble_eq_true rfl) ?_
      refine c_draw hz (by omega) ?_
      refine R_istore r_121_49 rfl ?_
      refine R_aload_n r_121_51 rfl (by decide) ?_
      refine R_getf r_121_52 (by decide) hX.1.1 rfl ?_
      refine R_iload r_121_55 rfl ?_
      refine R_iconst r_121_57 (v := nI 4) rfl ?_
      refine R_iremN r_121_58 (by omega) (by omega) (by omega) ?_
      refine R_if_ne_N r_121_59 (by decide) (by omega) (fun h_2 => ?_) (fun h_2 => ?_)
      · refine R_iconst r_121_66 (v := nI 0) rfl ?_
        refine R_iload r_121_67 rfl ?_
        refine R_bipush r_121_69 (v := nI 7) rfl ?_
        refine R_iremN r_121_71 (by omega) (by omega) (by omega) ?_
        refine R_if_ne_N r_121_72 (by decide) (by omega) (fun h_3 => ?_) (fun h_3 => ?_)
        · refine R_iconst r_121_79 (v := nI 0) rfl ?_
          refine R_call3 r_121_80 rfl rfl (Nat.le_of_ble_eq_true rfl) (Nat.le_of_ble_eq_true rfl) ?_
          refine c_withWeather (s := false) (i := false) hw ?_
          rw [show wWeather w false false = moW w z n by unfold moW; simp [*]]
          refine R_lstore r_121_83 rfl ?_
          refine R_aload_n r_121_85 rfl (by decide) ?_
          refine R_lload r_121_86 rfl ?_
          refine R_iload r_121_88 rfl ?_
          refine R_bipush r_121_90 (v := nI 8) rfl ?_
          refine R_idivN r_121_92 (by omega) (by omega) (by omega) ?_
          refine R_iconst r_121_93 (v := nI 2) rfl ?_
          refine R_iremN r_121_94 (by omega) (by omega) (by omega) ?_
          refine R_call3 r_121_95 rfl (sm_rv1 rfl rfl hX.1.1) (Nat.le_of_ble_eq_true rfl) (Nat.le_of_ble_eq_true rfl) ?_
          refine c_leavers hX.1 hW (moW_lt hw) (Nat.mod_lt _ (by decide)) ?_
          refine R_istore r_121_98 rfl ?_
          refine R_iload_n r_121_100 rfl ?_
          refine R_if_ne r_121_101 (by decide) (fun h_4 => ?_) (fun h_4 => ?_)
          · refine R_aload_n r_121_119 rfl (by decide) ?_
            refine R_getf r_121_120 (by decide) (cX.night hX hW I (moW w z n) hW).1.1.1 rfl ?_
            refine R_iload r_121_123 rfl ?_
            refine R_call2 r_121_125 rfl (sm_rv1 rfl rfl (cX.night hX hW I (moW w z n) hW).1.1.2.1.1) (Nat.le_of_ble_eq_true rfl) (Nat.le_of_ble_eq_true rfl) ?_
            refine c_cowsMilked (cX.night hX hW I (moW w z n) hW).1.1.2.1 hW ?_
            refine R_if_eq_b r_121_128 (by decide) (fun h_5 => ?_) (fun h_5 => ?_)
            · refine R_iinc1 r_121_134 rfl rfl ?_
              refine R_goto r_121_137 (by decide) ?_
              have := fun h6 h7 h8 h9 => ih (n + 1) _ h6 h7 h8 h9 (by omega) (cX.night hX hW I (moW w z n) hW).1 (frm.tr hf (frm.wide (cX.night hX hW I (moW w z n) hW).2 (by decide) (by decide)))
              first | (rw [moS_t (moT_0 (by assumption) (by assumption))] at this; exact this _ _ _ _) | (rw [moS_f (moT_0 (by assumption) (by assumption))] at this; exact this _ _ _ _) | (rw [moS_t (moT_1 (by assumption) (by assumption))] at this; exact this _ _ _ _) | (rw [moS_f (moT_1 (by assumption) (by assumption))] at this; exact this _ _ _ _)
            · refine R_iinc1 r_121_131 rfl rfl ?_
              refine R_iinc1 r_121_134 rfl rfl ?_
              refine R_goto r_121_137 (by decide) ?_
              have := fun h6 h7 h8 h9 => ih (n + 1) _ h6 h7 h8 h9 (by omega) (cX.night hX hW I (moW w z n) hW).1 (frm.tr hf (frm.wide (cX.night hX hW I (moW w z n) hW).2 (by decide) (by decide)))
              first | (rw [moS_t (moT_0 (by assumption) (by assumption))] at this; exact this _ _ _ _) | (rw [moS_f (moT_0 (by assumption) (by assumption))] at this; exact this _ _ _ _) | (rw [moS_t (moT_1 (by assumption) (by assumption))] at this; exact this _ _ _ _) | (rw [moS_f (moT_1 (by assumption) (by assumption))] at this; exact this _ _ _ _)
          · refine R_aload_n r_121_104 rfl (by decide) ?_
            refine R_getf r_121_105 (by decide) (cX.night hX hW I (moW w z n) hW).1.1.1 rfl ?_
            refine R_iload r_121_108 rfl ?_
            refine R_call2 r_121_110 rfl (sm_rv1 rfl rfl (cX.night hX hW I (moW w z n) hW).1.1.2.1.1) (Nat.le_of_ble_eq_true rfl) (Nat.le_of_ble_eq_true rfl) ?_
            refine c_lawFalls (cX.night hX hW I (moW w z n) hW).1.1.2.1 hW (lvs_lt _ _ _) ?_
            refine R_if_eq_b r_121_113 (by decide) (fun h_6 => ?_) (fun h_6 => ?_)
            · refine R_iinc1 r_121_134 rfl rfl ?_
              refine R_goto r_121_137 (by decide) ?_
              have := fun h6 h7 h8 h9 => ih (n + 1) _ h6 h7 h8 h9 (by omega) (cX.night hX hW I (moW w z n) hW).1 (frm.tr hf (frm.wide (cX.night hX hW I (moW w z n) hW).2 (by decide) (by decide)))
              first | (rw [moS_t (moT_0 (by assumption) (by assumption))] at this; exact this _ _ _ _) | (rw [moS_f (moT_0 (by assumption) (by assumption))] at this; exact this _ _ _ _) | (rw [moS_t (moT_1 (by assumption) (by assumption))] at this; exact this _ _ _ _) | (rw [moS_f (moT_1 (by assumption) (by assumption))] at this; exact this _ _ _ _)
            · refine R_goto r_121_116 (by decide) ?_
              refine R_iinc1 r_121_131 rfl rfl ?_
              refine R_iinc1 r_121_134 rfl rfl ?_
              refine R_goto r_121_137 (by decide) ?_
              have := fun h6 h7 h8 h9 => ih (n + 1) _ h6 h7 h8 h9 (by omega) (cX.night hX hW I (moW w z n) hW).1 (frm.tr hf (frm.wide (cX.night hX hW I (moW w z n) hW).2 (by decide) (by decide)))
              first | (rw [moS_t (moT_0 (by assumption) (by assumption))] at this; exact this _ _ _ _) | (rw [moS_f (moT_0 (by assumption) (by assumption))] at this; exact this _ _ _ _) | (rw [moS_t (moT_1 (by assumption) (by assumption))] at this; exact this _ _ _ _) | (rw [moS_f (moT_1 (by assumption) (by assumption))] at this; exact this _ _ _ _)
        · refine R_iconst r_121_75 (v := nI 1) rfl ?_
          refine R_goto r_121_76 (by decide) ?_
          refine R_call3 r_121_80 rfl rfl (Nat.le_of_ble_eq_true rfl) (Nat.le_of_ble_eq_true rfl) ?_
          refine c_withWeather (s := false) (i := true) hw ?_
          rw [show wWeather w false true = moW w z n by unfold moW; simp [*]]
          refine R_lstore r_121_83 rfl ?_
          refine R_aload_n r_121_85 rfl (by decide) ?_
          refine R_lload r_121_86 rfl ?_
          refine R_iload r_121_88 rfl ?_
          refine R_bipush r_121_90 (v := nI 8) rfl ?_
          refine R_idivN r_121_92 (by omega) (by omega) (by omega) ?_
          refine R_iconst r_121_93 (v := nI 2) rfl ?_
          refine R_iremN r_121_94 (by omega) (by omega) (by omega) ?_
          refine R_call3 r_121_95 rfl (sm_rv1 rfl rfl hX.1.1) (Nat.le_of_ble_eq_true rfl) (Nat.le_of_ble_eq_true rfl) ?_
          refine c_leavers hX.1 hW (moW_lt hw) (Nat.mod_lt _ (by decide)) ?_
          refine R_istore r_121_98 rfl ?_
          refine R_iload_n r_121_100 rfl ?_
          refine R_if_ne r_121_101 (by decide) (fun h_7 => ?_) (fun h_7 => ?_)
          · refine R_aload_n r_121_119 rfl (by decide) ?_
            refine R_getf r_121_120 (by decide) (cX.night hX hW I (moW w z n) hW).1.1.1 rfl ?_
            refine R_iload r_121_123 rfl ?_
            refine R_call2 r_121_125 rfl (sm_rv1 rfl rfl (cX.night hX hW I (moW w z n) hW).1.1.2.1.1) (Nat.le_of_ble_eq_true rfl) (Nat.le_of_ble_eq_true rfl) ?_
            refine c_cowsMilked (cX.night hX hW I (moW w z n) hW).1.1.2.1 hW ?_
            refine R_if_eq_b r_121_128 (by decide) (fun h_8 => ?_) (fun h_8 => ?_)
            · refine R_iinc1 r_121_134 rfl rfl ?_
              refine R_goto r_121_137 (by decide) ?_
              have := fun h6 h7 h8 h9 => ih (n + 1) _ h6 h7 h8 h9 (by omega) (cX.night hX hW I (moW w z n) hW).1 (frm.tr hf (frm.wide (cX.night hX hW I (moW w z n) hW).2 (by decide) (by decide)))
              first | (rw [moS_t (moT_0 (by assumption) (by assumption))] at this; exact this _ _ _ _) | (rw [moS_f (moT_0 (by assumption) (by assumption))] at this; exact this _ _ _ _) | (rw [moS_t (moT_1 (by assumption) (by assumption))] at this; exact this _ _ _ _) | (rw [moS_f (moT_1 (by assumption) (by assumption))] at this; exact this _ _ _ _)
            · refine R_iinc1 r_121_131 rfl rfl ?_
              refine R_iinc1 r_121_134 rfl rfl ?_
              refine R_goto r_121_137 (by decide) ?_
              have := fun h6 h7 h8 h9 => ih (n + 1) _ h6 h7 h8 h9 (by omega) (cX.night hX hW I (moW w z n) hW).1 (frm.tr hf (frm.wide (cX.night hX hW I (moW w z n) hW).2 (by decide) (by decide)))
              first | (rw [moS_t (moT_0 (by assumption) (by assumption))] at this; exact this _ _ _ _) | (rw [moS_f (moT_0 (by assumption) (by assumption))] at this; exact this _ _ _ _) | (rw [moS_t (moT_1 (by assumption) (by assumption))] at this; exact this _ _ _ _) | (rw [moS_f (moT_1 (by assumption) (by assumption))] at this; exact this _ _ _ _)
          · refine R_aload_n r_121_104 rfl (by decide) ?_
            refine R_getf r_121_105 (by decide) (cX.night hX hW I (moW w z n) hW).1.1.1 rfl ?_
            refine R_iload r_121_108 rfl ?_
            refine R_call2 r_121_110 rfl (sm_rv1 rfl rfl (cX.night hX hW I (moW w z n) hW).1.1.2.1.1) (Nat.le_of_ble_eq_true rfl) (Nat.le_of_ble_eq_true rfl) ?_
            refine c_lawFalls (cX.night hX hW I (moW w z n) hW).1.1.2.1 hW (lvs_lt _ _ _) ?_
            refine R_if_eq_b r_121_113 (by decide) (fun h_9 => ?_) (fun h_9 => ?_)
            · refine R_iinc1 r_121_134 rfl rfl ?_
              refine R_goto r_121_137 (by decide) ?_
              have := fun h6 h7 h8 h9 => ih (n + 1) _ h6 h7 h8 h9 (by omega) (cX.night hX hW I (moW w z n) hW).1 (frm.tr hf (frm.wide (cX.night hX hW I (moW w z n) hW).2 (by decide) (by decide)))
              first | (rw [moS_t (moT_0 (by assumption) (by assumption))] at this; exact this _ _ _ _) | (rw [moS_f (moT_0 (by assumption) (by assumption))] at this; exact this _ _ _ _) | (rw [moS_t (moT_1 (by assumption) (by assumption))] at this; exact this _ _ _ _) | (rw [moS_f (moT_1 (by assumption) (by assumption))] at this; exact this _ _ _ _)
            · refine R_goto r_121_116 (by decide) ?_
              refine R_iinc1 r_121_131 rfl rfl ?_
              refine R_iinc1 r_121_134 rfl rfl ?_
              refine R_goto r_121_137 (by decide) ?_
              have := fun h6 h7 h8 h9 => ih (n + 1) _ h6 h7 h8 h9 (by omega) (cX.night hX hW I (moW w z n) hW).1 (frm.tr hf (frm.wide (cX.night hX hW I (moW w z n) hW).2 (by decide) (by decide)))
              first | (rw [moS_t (moT_0 (by assumption) (by assumption))] at this; exact this _ _ _ _) | (rw [moS_f (moT_0 (by assumption) (by assumption))] at this; exact this _ _ _ _) | (rw [moS_t (moT_1 (by assumption) (by assumption))] at this; exact this _ _ _ _) | (rw [moS_f (moT_1 (by assumption) (by assumption))] at this; exact this _ _ _ _)
      · refine R_iconst r_121_62 (v := nI 1) rfl ?_
        refine R_goto r_121_63 (by decide) ?_
        refine R_iload r_121_67 rfl ?_
        refine R_bipush r_121_69 (v := nI 7) rfl ?_
        refine R_iremN r_121_71 (by omega) (by omega) (by omega) ?_
        refine R_if_ne_N r_121_72 (by decide) (by omega) (fun h_10 => ?_) (fun h_10 => ?_)
        · refine R_iconst r_121_79 (v := nI 0) rfl ?_
          refine R_call3 r_121_80 rfl rfl (Nat.le_of_ble_eq_true rfl) (Nat.le_of_ble_eq_true rfl) ?_
          refine c_withWeather (s := true) (i := false) hw ?_
          rw [show wWeather w true false = moW w z n by unfold moW; simp [*]]
          refine R_lstore r_121_83 rfl ?_
          refine R_aload_n r_121_85 rfl (by decide) ?_
          refine R_lload r_121_86 rfl ?_
          refine R_iload r_121_88 rfl ?_
          refine R_bipush r_121_90 (v := nI 8) rfl ?_
          refine R_idivN r_121_92 (by omega) (by omega) (by omega) ?_
          refine R_iconst r_121_93 (v := nI 2) rfl ?_
          refine R_iremN r_121_94 (by omega) (by omega) (by omega) ?_
          refine R_call3 r_121_95 rfl (sm_rv1 rfl rfl hX.1.1) (Nat.le_of_ble_eq_true rfl) (Nat.le_of_ble_eq_true rfl) ?_
          refine c_leavers hX.1 hW (moW_lt hw) (Nat.mod_lt _ (by decide)) ?_
          refine R_istore r_121_98 rfl ?_
          refine R_iload_n r_121_100 rfl ?_
          refine R_if_ne r_121_101 (by decide) (fun h_11 => ?_) (fun h_11 => ?_)
          · refine R_aload_n r_121_119 rfl (by decide) ?_
            refine R_getf r_121_120 (by decide) (cX.night hX hW I (moW w z n) hW).1.1.1 rfl ?_
            refine R_iload r_121_123 rfl ?_
            refine R_call2 r_121_125 rfl (sm_rv1 rfl rfl (cX.night hX hW I (moW w z n) hW).1.1.2.1.1) (Nat.le_of_ble_eq_true rfl) (Nat.le_of_ble_eq_true rfl) ?_
            refine c_cowsMilked (cX.night hX hW I (moW w z n) hW).1.1.2.1 hW ?_
            refine R_if_eq_b r_121_128 (by decide) (fun h_12 => ?_) (fun h_12 => ?_)
            · refine R_iinc1 r_121_134 rfl rfl ?_
              refine R_goto r_121_137 (by decide) ?_
              have := fun h6 h7 h8 h9 => ih (n + 1) _ h6 h7 h8 h9 (by omega) (cX.night hX hW I (moW w z n) hW).1 (frm.tr hf (frm.wide (cX.night hX hW I (moW w z n) hW).2 (by decide) (by decide)))
              first | (rw [moS_t (moT_0 (by assumption) (by assumption))] at this; exact this _ _ _ _) | (rw [moS_f (moT_0 (by assumption) (by assumption))] at this; exact this _ _ _ _) | (rw [moS_t (moT_1 (by assumption) (by assumption))] at this; exact this _ _ _ _) | (rw [moS_f (moT_1 (by assumption) (by assumption))] at this; exact this _ _ _ _)
            · refine R_iinc1 r_121_131 rfl rfl ?_
              refine R_iinc1 r_121_134 rfl rfl ?_
              refine R_goto r_121_137 (by decide) ?_
              have := fun h6 h7 h8 h9 => ih (n + 1) _ h6 h7 h8 h9 (by omega) (cX.night hX hW I (moW w z n) hW).1 (frm.tr hf (frm.wide (cX.night hX hW I (moW w z n) hW).2 (by decide) (by decide)))
              first | (rw [moS_t (moT_0 (by assumption) (by assumption))] at this; exact this _ _ _ _) | (rw [moS_f (moT_0 (by assumption) (by assumption))] at this; exact this _ _ _ _) | (rw [moS_t (moT_1 (by assumption) (by assumption))] at this; exact this _ _ _ _) | (rw [moS_f (moT_1 (by assumption) (by assumption))] at this; exact this _ _ _ _)
          · refine R_aload_n r_121_104 rfl (by decide) ?_
            refine R_getf r_121_105 (by decide) (cX.night hX hW I (moW w z n) hW).1.1.1 rfl ?_
            refine R_iload r_121_108 rfl ?_
            refine R_call2 r_121_110 rfl (sm_rv1 rfl rfl (cX.night hX hW I (moW w z n) hW).1.1.2.1.1) (Nat.le_of_ble_eq_true rfl) (Nat.le_of_ble_eq_true rfl) ?_
            refine c_lawFalls (cX.night hX hW I (moW w z n) hW).1.1.2.1 hW (lvs_lt _ _ _) ?_
            refine R_if_eq_b r_121_113 (by decide) (fun h_13 => ?_) (fun h_13 => ?_)
            · refine R_iinc1 r_121_134 rfl rfl ?_
              refine R_goto r_121_137 (by decide) ?_
              have := fun h6 h7 h8 h9 => ih (n + 1) _ h6 h7 h8 h9 (by omega) (cX.night hX hW I (moW w z n) hW).1 (frm.tr hf (frm.wide (cX.night hX hW I (moW w z n) hW).2 (by decide) (by decide)))
              first | (rw [moS_t (moT_0 (by assumption) (by assumption))] at this; exact this _ _ _ _) | (rw [moS_f (moT_0 (by assumption) (by assumption))] at this; exact this _ _ _ _) | (rw [moS_t (moT_1 (by assumption) (by assumption))] at this; exact this _ _ _ _) | (rw [moS_f (moT_1 (by assumption) (by assumption))] at this; exact this _ _ _ _)
            · refine R_goto r_121_116 (by decide) ?_
              refine R_iinc1 r_121_131 rfl rfl ?_
              refine R_iinc1 r_121_134 rfl rfl ?_
              refine R_goto r_121_137 (by decide) ?_
              have := fun h6 h7 h8 h9 => ih (n + 1) _ h6 h7 h8 h9 (by omega) (cX.night hX hW I (moW w z n) hW).1 (frm.tr hf (frm.wide (cX.night hX hW I (moW w z n) hW).2 (by decide) (by decide)))
              first | (rw [moS_t (moT_0 (by assumption) (by assumption))] at this; exact this _ _ _ _) | (rw [moS_f (moT_0 (by assumption) (by assumption))] at this; exact this _ _ _ _) | (rw [moS_t (moT_1 (by assumption) (by assumption))] at this; exact this _ _ _ _) | (rw [moS_f (moT_1 (by assumption) (by assumption))] at this; exact this _ _ _ _)
        · refine R_iconst r_121_75 (v := nI 1) rfl ?_
          refine R_goto r_121_76 (by decide) ?_
          refine R_call3 r_121_80 rfl rfl (Nat.le_of_ble_eq_true rfl) (Nat.le_of_ble_eq_true rfl) ?_
          refine c_withWeather (s := true) (i := true) hw ?_
          rw [show wWeather w true true = moW w z n by unfold moW; simp [*]]
          refine R_lstore r_121_83 rfl ?_
          refine R_aload_n r_121_85 rfl (by decide) ?_
          refine R_lload r_121_86 rfl ?_
          refine R_iload r_121_88 rfl ?_
          refine R_bipush r_121_90 (v := nI 8) rfl ?_
          refine R_idivN r_121_92 (by omega) (by omega) (by omega) ?_
          refine R_iconst r_121_93 (v := nI 2) rfl ?_
          refine R_iremN r_121_94 (by omega) (by omega) (by omega) ?_
          refine R_call3 r_121_95 rfl (sm_rv1 rfl rfl hX.1.1) (Nat.le_of_ble_eq_true rfl) (Nat.le_of_ble_eq_true rfl) ?_
          refine c_leavers hX.1 hW (moW_lt hw) (Nat.mod_lt _ (by decide)) ?_
          refine R_istore r_121_98 rfl ?_
          refine R_iload_n r_121_100 rfl ?_
          refine R_if_ne r_121_101 (by decide) (fun h_14 => ?_) (fun h_14 => ?_)
          · refine R_aload_n r_121_119 rfl (by decide) ?_
            refine R_getf r_121_120 (by decide) (cX.night hX hW I (moW w z n) hW).1.1.1 rfl ?_
            refine R_iload r_121_123 rfl ?_
            refine R_call2 r_121_125 rfl (sm_rv1 rfl rfl (cX.night hX hW I (moW w z n) hW).1.1.2.1.1) (Nat.le_of_ble_eq_true rfl) (Nat.le_of_ble_eq_true rfl) ?_
            refine c_cowsMilked (cX.night hX hW I (moW w z n) hW).1.1.2.1 hW ?_
            refine R_if_eq_b r_121_128 (by decide) (fun h_15 => ?_) (fun h_15 => ?_)
            · refine R_iinc1 r_121_134 rfl rfl ?_
              refine R_goto r_121_137 (by decide) ?_
              have := fun h6 h7 h8 h9 => ih (n + 1) _ h6 h7 h8 h9 (by omega) (cX.night hX hW I (moW w z n) hW).1 (frm.tr hf (frm.wide (cX.night hX hW I (moW w z n) hW).2 (by decide) (by decide)))
              first | (rw [moS_t (moT_0 (by assumption) (by assumption))] at this; exact this _ _ _ _) | (rw [moS_f (moT_0 (by assumption) (by assumption))] at this; exact this _ _ _ _) | (rw [moS_t (moT_1 (by assumption) (by assumption))] at this; exact this _ _ _ _) | (rw [moS_f (moT_1 (by assumption) (by assumption))] at this; exact this _ _ _ _)
            · refine R_iinc1 r_121_131 rfl rfl ?_
              refine R_iinc1 r_121_134 rfl rfl ?_
              refine R_goto r_121_137 (by decide) ?_
              have := fun h6 h7 h8 h9 => ih (n + 1) _ h6 h7 h8 h9 (by omega) (cX.night hX hW I (moW w z n) hW).1 (frm.tr hf (frm.wide (cX.night hX hW I (moW w z n) hW).2 (by decide) (by decide)))
              first | (rw [moS_t (moT_0 (by assumption) (by assumption))] at this; exact this _ _ _ _) | (rw [moS_f (moT_0 (by assumption) (by assumption))] at this; exact this _ _ _ _) | (rw [moS_t (moT_1 (by assumption) (by assumption))] at this; exact this _ _ _ _) | (rw [moS_f (moT_1 (by assumption) (by assumption))] at this; exact this _ _ _ _)
          · refine R_aload_n r_121_104 rfl (by decide) ?_
            refine R_getf r_121_105 (by decide) (cX.night hX hW I (moW w z n) hW).1.1.1 rfl ?_
            refine R_iload r_121_108 rfl ?_
            refine R_call2 r_121_110 rfl (sm_rv1 rfl rfl (cX.night hX hW I (moW w z n) hW).1.1.2.1.1) (Nat.le_of_ble_eq_true rfl) (Nat.le_of_ble_eq_true rfl) ?_
            refine c_lawFalls (cX.night hX hW I (moW w z n) hW).1.1.2.1 hW (lvs_lt _ _ _) ?_
            refine R_if_eq_b r_121_113 (by decide) (fun h_16 => ?_) (fun h_16 => ?_)
            · refine R_iinc1 r_121_134 rfl rfl ?_
              refine R_goto r_121_137 (by decide) ?_
              have := fun h6 h7 h8 h9 => ih (n + 1) _ h6 h7 h8 h9 (by omega) (cX.night hX hW I (moW w z n) hW).1 (frm.tr hf (frm.wide (cX.night hX hW I (moW w z n) hW).2 (by decide) (by decide)))
              first | (rw [moS_t (moT_0 (by assumption) (by assumption))] at this; exact this _ _ _ _) | (rw [moS_f (moT_0 (by assumption) (by assumption))] at this; exact this _ _ _ _) | (rw [moS_t (moT_1 (by assumption) (by assumption))] at this; exact this _ _ _ _) | (rw [moS_f (moT_1 (by assumption) (by assumption))] at this; exact this _ _ _ _)
            · refine R_goto r_121_116 (by decide) ?_
              refine R_iinc1 r_121_131 rfl rfl ?_
              refine R_iinc1 r_121_134 rfl rfl ?_
              refine R_goto r_121_137 (by decide) ?_
              have := fun h6 h7 h8 h9 => ih (n + 1) _ h6 h7 h8 h9 (by omega) (cX.night hX hW I (moW w z n) hW).1 (frm.tr hf (frm.wide (cX.night hX hW I (moW w z n) hW).2 (by decide) (by decide)))
              first | (rw [moS_t (moT_0 (by assumption) (by assumption))] at this; exact this _ _ _ _) | (rw [moS_f (moT_0 (by assumption) (by assumption))] at this; exact this _ _ _ _) | (rw [moS_t (moT_1 (by assumption) (by assumption))] at this; exact this _ _ _ _) | (rw [moS_f (moT_1 (by assumption) (by assumption))] at this; exact this _ _ _ _)
theorem c_months {xs : List Int32} {d : Nat} {wd : sm_W} {Q : Option Value → sm_W → Prop} {tx : List Nat} {I : sm_Is} {w : Nat} {pa sh : List Nat} {sn : List (Nat × Nat)} (hX : cX wd tx I w pa sh sn) (hW : iWF I) (hw : w < 18446744073709551616) {x1 x2 x3 : Int32} (hB : moOK x1 x2 x3 = false → Q (some (.int (-1))) wd) (hQ : ∀ z n, z < 10000 → n < 61 → 1 ≤ n → x1 = nI z → x2 = nI n → inR x3 2 = true → ∀ w2, cX w2 tx I w pa sh sn → frm 0 21 wd w2 → Q (some (.int (nI (moS I w z x3 n)))) w2) : Ct xs (d + 6) 121 [.ref 0, .int x1, .int x2, .int x3] wd Q := by
  unfold Ct
  show RT xs (d + 6) 121 0 [some (.ref 0), some (.int x1), some (.int x2), some (.int x3), none, none, none, none, none, none] [] wd Q
  obtain ⟨hW1, hW2, hW3, hW4, hW5, hW6, hW7, hW8, hW9, hW10, hW11, hW12, hW13, hW14, hW15⟩ := id hW
  refine R_iload_n r_121_0 rfl ?_
  refine R_if_lt r_121_1 (by decide) (fun h_1 => ?_) (fun h_1 => ?_)
  · refine R_iconst r_121_29 (v := (-1)) rfl ?_
    refine R_iret r_121_30 (ty := .int) rfl rfl (by decide) ?_
    refine hB ?_; unfold moOK; first | (rw [inR_f1 (x := x1) (by assumption)]; rfl) | (rw [inR_g (x := x1) (n := 9999) (fa_of_lt (by assumption)).2.1 (by decide)]; rfl) | (rw [mo_lo (x := x2) (by assumption), Bool.and_false]; rfl) | (rw [mo_hi (x := x2) (fa_of_lt (by assumption)).2.1, Bool.and_false]; rfl) | (rw [show inR x3 2 = false from by assumption, Bool.and_false])
  · refine R_iload_n r_121_4 rfl ?_
    refine R_sipush r_121_5 (v := nI 9999) rfl ?_
    refine R_icmp_gt r_121_8 (by decide) (fun h_2 => ?_) (fun h_2 => ?_)
    · refine R_iconst r_121_29 (v := (-1)) rfl ?_
      refine R_iret r_121_30 (ty := .int) rfl rfl (by decide) ?_
      refine hB ?_; unfold moOK; first | (rw [inR_f1 (x := x1) (by assumption)]; rfl) | (rw [inR_g (x := x1) (n := 9999) (fa_of_lt (by assumption)).2.1 (by decide)]; rfl) | (rw [mo_lo (x := x2) (by assumption), Bool.and_false]; rfl) | (rw [mo_hi (x := x2) (fa_of_lt (by assumption)).2.1, Bool.and_false]; rfl) | (rw [show inR x3 2 = false from by assumption, Bool.and_false])
    · refine R_iload_n r_121_11 rfl ?_
      refine R_iconst r_121_12 (v := nI 1) rfl ?_
      refine R_icmp_lt r_121_13 (by decide) (fun h_3 => ?_) (fun h_3 => ?_)
      · refine R_iconst r_121_29 (v := (-1)) rfl ?_
        refine R_iret r_121_30 (ty := .int) rfl rfl (by decide) ?_
        refine hB ?_; unfold moOK; first | (rw [inR_f1 (x := x1) (by assumption)]; rfl) | (rw [inR_g (x := x1) (n := 9999) (fa_of_lt (by assumption)).2.1 (by decide)]; rfl) | (rw [mo_lo (x := x2) (by assumption), Bool.and_false]; rfl) | (rw [mo_hi (x := x2) (fa_of_lt (by assumption)).2.1, Bool.and_false]; rfl) | (rw [show inR x3 2 = false from by assumption, Bool.and_false])
      · refine R_iload_n r_121_16 rfl ?_
        refine R_bipush r_121_17 (v := nI 60) rfl ?_
        refine R_icmp_gt r_121_19 (by decide) (fun h_4 => ?_) (fun h_4 => ?_)
        · refine R_iconst r_121_29 (v := (-1)) rfl ?_
          refine R_iret r_121_30 (ty := .int) rfl rfl (by decide) ?_
          refine hB ?_; unfold moOK; first | (rw [inR_f1 (x := x1) (by assumption)]; rfl) | (rw [inR_g (x := x1) (n := 9999) (fa_of_lt (by assumption)).2.1 (by decide)]; rfl) | (rw [mo_lo (x := x2) (by assumption), Bool.and_false]; rfl) | (rw [mo_hi (x := x2) (fa_of_lt (by assumption)).2.1, Bool.and_false]; rfl) | (rw [show inR x3 2 = false from by assumption, Bool.and_false])
        · refine R_iload_n r_121_22 rfl ?_
          refine R_call1 r_121_23 rfl rfl (Nat.le_of_ble_eq_true rfl) (Nat.le_of_ble_eq_true rfl) ?_
          refine c_isEither ?_
          refine R_if_ne_b r_121_26 (by decide) (fun h_5 => ?_) (fun h_5 => ?_)
          · obtain ⟨z, hz, rfl⟩ := rng0 (n := 9999) (x := x1) (by assumption) (fa_of_nlt (by assumption)) (by decide)
            obtain ⟨n, hn, hn1, rfl⟩ := mo_ok (x := x2) (by assumption) (fa_of_nlt (by assumption))
            refine R_iconst r_121_31 (v := nI 0) rfl ?_
            refine R_istore r_121_32 rfl ?_
            refine R_iconst r_121_34 (v := nI 0) rfl ?_
            refine R_istore r_121_35 rfl ?_
            exact lp_months hW hw hz hn (hQ z n hz hn hn1 rfl rfl (by assumption)) n 0 _ _ _ _ _ (by omega) hX frm.rf
          · refine R_iconst r_121_29 (v := (-1)) rfl ?_
            refine R_iret r_121_30 (ty := .int) rfl rfl (by decide) ?_
            refine hB ?_; unfold moOK; first | (rw [inR_f1 (x := x1) (by assumption)]; rfl) | (rw [inR_g (x := x1) (n := 9999) (fa_of_lt (by assumption)).2.1 (by decide)]; rfl) | (rw [mo_lo (x := x2) (by assumption), Bool.and_false]; rfl) | (rw [mo_hi (x := x2) (fa_of_lt (by assumption)).2.1, Bool.and_false]; rfl) | (rw [show inR x3 2 = false from by assumption, Bool.and_false])
