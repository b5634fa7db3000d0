/-! Standing: the bits of what can change, as numbers -/
def spart (n p k : Nat) : Nat := (n >>> p) % 2 ^ k
def swith (n p k v : Nat) : Nat := (n &&& (((2 ^ k - 1) * 2 ^ p) ^^^ 18446744073709551615)) ||| ((v &&& (2 ^ k - 1)) * 2 ^ p)
theorem spart_lt (n p k : Nat) : spart n p k < 2 ^ k := Nat.mod_lt _ (Nat.two_pow_pos k)
theorem spart_bit (n p k i : Nat) : (spart n p k).testBit i = (decide (i < k) && n.testBit (p + i)) := by
  unfold spart
  rw [Nat.testBit_mod_two_pow, Nat.testBit_shiftRight]
theorem swith_bit {n p k v i : Nat} (hi : i < 64) : (swith n p k v).testBit i = if p ≤ i ∧ i < p + k then v.testBit (i - p) else n.testBit i := by
  unfold swith
  rw [Nat.testBit_or, Nat.testBit_and, Nat.testBit_xor, Nat.testBit_mul_two_pow, Nat.testBit_mul_two_pow, Nat.testBit_and, Nat.testBit_two_pow_sub_one, show (18446744073709551615 : Nat) = 2 ^ 64 - 1 from rfl, Nat.testBit_two_pow_sub_one]
  by_cases h1 : p ≤ i
  · by_cases h2 : i < p + k
    · have h3 : i - p < k := by omega
      simp [h1, h2, h3, hi]
    · have h3 : ¬ i - p < k := by omega
      simp [h1, h2, h3, hi]
  · simp [h1, hi]
theorem swith_lt {n p k v : Nat} (hn : n < 2 ^ 64) (h : p + k ≤ 64) : swith n p k v < 2 ^ 64 := by
  unfold swith
  refine Nat.or_lt_two_pow (Nat.and_lt_two_pow _ (Nat.xor_lt_two_pow ?_ (by decide))) ?_
  · calc (2 ^ k - 1) * 2 ^ p < 2 ^ k * 2 ^ p := Nat.mul_lt_mul_of_pos_right (Nat.sub_lt (Nat.two_pow_pos k) (by decide)) (Nat.two_pow_pos p)
      _ = 2 ^ (k + p) := (Nat.pow_add 2 k p).symm
      _ ≤ 2 ^ 64 := Nat.pow_le_pow_right (by decide) (by omega)
  · rw [Nat.and_two_pow_sub_one_eq_mod]
    calc v % 2 ^ k * 2 ^ p < 2 ^ k * 2 ^ p := Nat.mul_lt_mul_of_pos_right (Nat.mod_lt _ (Nat.two_pow_pos k)) (Nat.two_pow_pos p)
      _ = 2 ^ (k + p) := (Nat.pow_add 2 k p).symm
      _ ≤ 2 ^ 64 := Nat.pow_le_pow_right (by decide) (by omega)
theorem sp_sw_same {n p k v : Nat} (h : p + k ≤ 64) : spart (swith n p k v) p k = v % 2 ^ k := by
  apply Nat.eq_of_testBit_eq
  intro i
  rw [spart_bit, Nat.testBit_mod_two_pow]
  by_cases hi : i < k
  · rw [swith_bit (by omega), if_pos ⟨by omega, by omega⟩, show p + i - p = i by omega]
  · simp [hi]
theorem sp_sw_ne {n p k v p2 k2 : Nat} (h2 : p2 + k2 ≤ 64) (hd : p + k ≤ p2 ∨ p2 + k2 ≤ p) : spart (swith n p k v) p2 k2 = spart n p2 k2 := by
  apply Nat.eq_of_testBit_eq
  intro i
  rw [spart_bit, spart_bit]
  by_cases hi : i < k2
  · rw [swith_bit (by omega), if_neg (by omega)]
  · simp [hi]
theorem R_lxorM {xs : List Int32} {d j pc : Nat} {L : sm_L} {st : List Value} {wd : sm_W} {Q : Option Value → sm_W → Prop} {a b c : Nat} {x : Nat} (h : sm_ic j pc = some (.lxor, a, b, c)) (k : RT xs d j (pc + 1) L (.long (lN (x ^^^ 18446744073709551615)) :: st) wd Q) : RT xs d j pc L (.long (-1) :: .long (lN x) :: st) wd Q := R_lxor h (by rw [show (-1 : Int64) = lN 18446744073709551615 from rfl, lN_xor]; exact k)
theorem sp_eq (n p k : Nat) : n >>> p &&& (1 <<< k - 1) = spart n p k := by rw [Nat.one_shiftLeft, Nat.and_two_pow_sub_one_eq_mod]; rfl
theorem sw_lt1 {k : Nat} (hk : k ≤ 8) : 1 * 2 ^ k - 1 < 256 := by
  have : 2 ^ k ≤ 2 ^ 8 := Nat.pow_le_pow_right (by decide) hk
  have := Nat.two_pow_pos k
  omega
theorem sw_lt2 {k p : Nat} (hk : k ≤ 8) (hp : p ≤ 56) {y : Nat} (hy : y < 256) : y * 2 ^ p < 18446744073709551616 := by
  have h1 : 2 ^ p ≤ 2 ^ 56 := Nat.pow_le_pow_right (by decide) hp
  calc y * 2 ^ p ≤ y * 2 ^ 56 := Nat.mul_le_mul_left _ h1
    _ < 256 * 2 ^ 56 := Nat.mul_lt_mul_of_pos_right hy (by decide)
    _ = 18446744073709551616 := by decide
theorem sw_eq (n p k v : Nat) : (n &&& ((1 * 2 ^ k - 1) * 2 ^ p ^^^ 18446744073709551615)) ||| (v &&& 1 * 2 ^ k - 1) * 2 ^ p = swith n p k v := by rw [Nat.one_mul]; rfl
theorem c_part {xs : List Int32} {d : Nat} {wd : sm_W} {Q : Option Value → sm_W → Prop} {n p k : Nat} (hn : n < 18446744073709551616) (hp : p < 64) (hk : k ≤ 8) (hQ : Q (some (.int (nI (spart n p k)))) wd) : Ct xs (d) 50 [.long (lN n), .int (nI p), .int (nI k)] wd Q := by
  unfold Ct
  show RT xs (d) 50 0 [some (.long (lN n)), none, some (.int (nI p)), some (.int (nI k))] [] wd Q
  refine R_lload_n r_50_0 rfl ?_
  refine R_iload_n r_50_1 rfl ?_
  refine R_lushrN r_50_2 hn hp ?_
  refine R_l2iN r_50_3 ?_
  refine R_iconst r_50_4 (v := nI 1) rfl ?_
  refine R_iload_n r_50_5 rfl ?_
  refine R_ishlN r_50_6 (by omega) ?_
  refine R_iconst r_50_7 (v := nI 1) rfl ?_
  refine R_isubN r_50_8 (by rw [Nat.one_shiftLeft]; exact Nat.one_le_two_pow) ?_
  refine R_iandN r_50_9 ?_
  refine R_iret r_50_10 (ty := .int) rfl rfl (by decide) ?_
  rw [sp_eq]; exact hQ
theorem c_with {xs : List Int32} {d : Nat} {wd : sm_W} {Q : Option Value → sm_W → Prop} {n p k v : Nat} (hn : n < 18446744073709551616) (hp : p ≤ 56) (hk : k ≤ 8) (hv : v < 2147483648) (hQ : Q (some (.long (lN (swith n p k v)))) wd) : Ct xs (d) 34 [.long (lN n), .int (nI p), .int (nI k), .int (nI v)] wd Q := by
  unfold Ct
  show RT xs (d) 34 0 [some (.long (lN n)), none, some (.int (nI p)), some (.int (nI k)), some (.int (nI v)), none, none] [] wd Q
  refine R_lconst r_34_0 (v := lN 1) rfl ?_
  refine R_iload_n r_34_1 rfl ?_
  refine R_lshlN r_34_2 (by omega) ?_
  refine R_lconst r_34_3 (v := lN 1) rfl ?_
  refine R_lsubN r_34_4 (by rw [Nat.one_mul]; exact Nat.one_le_two_pow) ?_
  refine R_lstore r_34_5 rfl ?_
  refine R_lload_n r_34_7 rfl ?_
  refine R_lload r_34_8 rfl ?_
  refine R_iload_n r_34_10 rfl ?_
  refine R_lshlN r_34_11 (by omega) ?_
  refine R_ldc2_w r_34_12 (v := (-1)) rfl ?_
  refine R_lxorM r_34_15 ?_
  refine R_landN r_34_16 hn (Nat.xor_lt_two_pow (sw_lt2 hk hp (sw_lt1 hk)) (by decide)) ?_
  refine R_iload r_34_17 rfl ?_
  refine R_i2lN r_34_19 (by omega) ?_
  refine R_lload r_34_20 rfl ?_
  refine R_landN r_34_22 (by omega) (Nat.lt_of_lt_of_le (sw_lt1 hk) (by decide)) ?_
  refine R_iload_n r_34_23 rfl ?_
  refine R_lshlN r_34_24 (by omega) ?_
  refine R_lorN r_34_25 (Nat.and_lt_two_pow (n := 64) _ (Nat.xor_lt_two_pow (sw_lt2 hk hp (sw_lt1 hk)) (by decide))) (sw_lt2 hk hp (Nat.lt_of_le_of_lt Nat.and_le_right (sw_lt1 hk))) ?_
  refine R_lret r_34_26 rfl ?_
  rw [sw_eq]; exact hQ
