/-! the rules with ints that are numbers: nI n, lN n, b2i c -/
def b2i (c : Bool) : Int32 := nI c.toNat
theorem sm_nb (c : Bool) : narrow .boolean (.int (b2i c)) = .int (b2i c) := by cases c <;> decide
theorem b2i_t : b2i true = nI 1 := rfl
theorem b2i_f : b2i false = nI 0 := rfl
theorem b2i_of {c : Bool} {n : Nat} (h : c.toNat = n) : nI n = b2i c := by subst h; rfl
theorem b2i_eq0 (c : Bool) : b2i c = 0 ↔ c = false := by cases c <;> decide
theorem sm_rv1 {j n k : Nat} {st : List Value} {wd : sm_W} {fs : List Value} (hk : sm_kd j = 1) (hst : st[n - 1]? = some (.ref k)) (hw : wd[k]? = some (.inr (.inr (sm_ci j, fs)))) : sm_recv j n st wd = true := by
  unfold sm_recv
  rw [hk]
  show (match st[n - 1]? with
    | some (.ref k) => (match wd[k]? with
      | some (.inr (.inr (ci, _))) => decide (ci = sm_ci j)
      | _ => false)
    | _ => false) = true
  rw [hst]
  dsimp only
  rw [hw]
  exact decide_eq_true rfl
theorem nI_shl (x : Nat) {k : Nat} (hk : k < 32) : nI x <<< (nI k &&& 31) = nI (x <<< k) := by
  apply b_ext
  intro i hi
  rw [b_shl k hk (nI x) hi]
  simp only [bt, nI]
  simp only [Int32.toBitVec_ofNat', BitVec.getLsbD_ofNat, Nat.testBit_shiftLeft]
  by_cases h : k ≤ i
  · simp [h, hi]; omega
  · simp [h]
theorem nI_ushr {x k : Nat} (hx : x < 2 ^ 32) (hk : k < 32) : ((nI x).toUInt32 >>> ((nI k).toUInt32 &&& Int32.toUInt32 31)).toInt32 = nI (x >>> k) := by
  rw [Nat.shiftRight_eq_div_pow]
  exact pk_ushrN hx (nI k) k (s_u k hk)
theorem nI_shr {x k : Nat} (hx : x < 2 ^ 31) (hk : k < 32) : nI x >>> (nI k &&& 31) = nI (x >>> k) := by
  rw [Nat.shiftRight_eq_div_pow]
  exact pk_shrN hx (nI k &&& 31) k (s_l k hk)
theorem nI_m1 (x : Nat) : nI x ^^^ (-1) = nI (x ^^^ 4294967295) := by
  rw [show (-1 : Int32) = nI 4294967295 from rfl, nx_xor]
section RTN
variable {xs : List Int32} {d j pc : Nat} {L : sm_L} {st : List Value} {wd : sm_W} {Q : Option Value → sm_W → Prop} {a b c : Nat}
theorem R_iaddN {x y : Nat} (h : sm_ic j pc = some (.iadd, a, b, c)) (k : RT xs d j (pc + 1) L (.int (nI (x + y)) :: st) wd Q) : RT xs d j pc L (.int (nI y) :: .int (nI x) :: st) wd Q := R_iadd h (by rw [nI_add]; exact k)
theorem R_isubN {x y : Nat} (h : sm_ic j pc = some (.isub, a, b, c)) (hs : y ≤ x) (k : RT xs d j (pc + 1) L (.int (nI (x - y)) :: st) wd Q) : RT xs d j pc L (.int (nI y) :: .int (nI x) :: st) wd Q := R_isub h (by rw [pk_sub hs]; exact k)
theorem R_imulN {x y : Nat} (h : sm_ic j pc = some (.imul, a, b, c)) (k : RT xs d j (pc + 1) L (.int (nI (x * y)) :: st) wd Q) : RT xs d j pc L (.int (nI y) :: .int (nI x) :: st) wd Q := R_imul h (by rw [pk_mul]; exact k)
theorem R_iandN {x y : Nat} (h : sm_ic j pc = some (.iand, a, b, c)) (k : RT xs d j (pc + 1) L (.int (nI (x &&& y)) :: st) wd Q) : RT xs d j pc L (.int (nI y) :: .int (nI x) :: st) wd Q := R_iand h (by rw [nx_and]; exact k)
theorem R_iorN {x y : Nat} (h : sm_ic j pc = some (.ior, a, b, c)) (k : RT xs d j (pc + 1) L (.int (nI (x ||| y)) :: st) wd Q) : RT xs d j pc L (.int (nI y) :: .int (nI x) :: st) wd Q := R_ior h (by rw [fa_or]; exact k)
theorem R_ixorN {x y : Nat} (h : sm_ic j pc = some (.ixor, a, b, c)) (k : RT xs d j (pc + 1) L (.int (nI (x ^^^ y)) :: st) wd Q) : RT xs d j pc L (.int (nI y) :: .int (nI x) :: st) wd Q := R_ixor h (by rw [nx_xor]; exact k)
theorem R_ishlN {x y : Nat} (h : sm_ic j pc = some (.ishl, a, b, c)) (hs : y < 32) (k : RT xs d j (pc + 1) L (.int (nI (x <<< y)) :: st) wd Q) : RT xs d j pc L (.int (nI y) :: .int (nI x) :: st) wd Q := R_ishl h (by rw [nI_shl x hs]; exact k)
theorem R_iushrN {x y : Nat} (h : sm_ic j pc = some (.iushr, a, b, c)) (hx : x < 2 ^ 32) (hs : y < 32) (k : RT xs d j (pc + 1) L (.int (nI (x >>> y)) :: st) wd Q) : RT xs d j pc L (.int (nI y) :: .int (nI x) :: st) wd Q := R_iushr h (by rw [nI_ushr hx hs]; exact k)
theorem R_ishrN {x y : Nat} (h : sm_ic j pc = some (.ishr, a, b, c)) (hx : x < 2 ^ 31) (hs : y < 32) (k : RT xs d j (pc + 1) L (.int (nI (x >>> y)) :: st) wd Q) : RT xs d j pc L (.int (nI y) :: .int (nI x) :: st) wd Q := R_ishr h (by rw [nI_shr hx hs]; exact k)
theorem R_idivN {x y : Nat} (h : sm_ic j pc = some (.idiv, a, b, c)) (hx : x < 2 ^ 31) (h0 : 0 < y) (hy : y < 2 ^ 31) (k : RT xs d j (pc + 1) L (.int (nI (x / y)) :: st) wd Q) : RT xs d j pc L (.int (nI y) :: .int (nI x) :: st) wd Q := R_idiv h (nI_ne0 h0 hy) (by rw [pk_div hx h0 hy]; exact k)
theorem R_iremN {x y : Nat} (h : sm_ic j pc = some (.irem, a, b, c)) (hx : x < 2 ^ 31) (h0 : 0 < y) (hy : y < 2 ^ 31) (k : RT xs d j (pc + 1) L (.int (nI (x % y)) :: st) wd Q) : RT xs d j pc L (.int (nI y) :: .int (nI x) :: st) wd Q := R_irem h (nI_ne0 h0 hy) (by rw [pk_rem hx h0 hy]; exact k)
theorem R_ixorM {x : Nat} (h : sm_ic j pc = some (.ixor, a, b, c)) (k : RT xs d j (pc + 1) L (.int (nI (x ^^^ 4294967295)) :: st) wd Q) : RT xs d j pc L (.int (-1) :: .int (nI x) :: st) wd Q := R_ixor h (by rw [nI_m1]; exact k)
theorem R_iinc1 {i x : Nat} {L2 : sm_L} (h : sm_ic j pc = some (.iinc i 1, a, b, c)) (hx : L[i]? = some (some (.int (nI x)))) (hl : sm_st1 (sm_ml j) L i (.int (nI (x + 1))) = some L2) (k : RT xs d j (pc + 3) L2 st wd Q) : RT xs d j pc L st wd Q := R_iinc h hx (nI_add x 1) hl k
theorem R_iinc4 {i x : Nat} {L2 : sm_L} (h : sm_ic j pc = some (.iinc i 4, a, b, c)) (hx : L[i]? = some (some (.int (nI x)))) (hl : sm_st1 (sm_ml j) L i (.int (nI (x + 4))) = some L2) (k : RT xs d j (pc + 3) L2 st wd Q) : RT xs d j pc L st wd Q := R_iinc h hx (nI_add x 4) hl k
theorem R_icmp_eq_N {off : Int} {x y : Nat} (h : sm_ic j pc = some (.if_icmp .eq off, a, b, c)) (ht : (pc : Int) + off = (a : Int)) (hx : x < 2 ^ 31) (hy : y < 2 ^ 31) (kt : x = y → RT xs d j a L st wd Q) (kf : x ≠ y → RT xs d j (pc + 3) L st wd Q) : RT xs d j pc L (.int (nI y) :: .int (nI x) :: st) wd Q := R_icmp_eq h ht (fun z => kt ((nI_eq hx hy).mp z)) (fun z => kf (fun w => z ((nI_eq hx hy).mpr w)))
theorem R_if_eq_N {off : Int} {x : Nat} (h : sm_ic j pc = some (.ifCond .eq off, a, b, c)) (ht : (pc : Int) + off = (a : Int)) (hx : x < 2 ^ 31) (kt : x = 0 → RT xs d j a L st wd Q) (kf : x ≠ 0 → RT xs d j (pc + 3) L st wd Q) : RT xs d j pc L (.int (nI x) :: st) wd Q := R_if_eq h ht (fun z => kt ((nI_eq hx (by decide : (0 : Nat) < 2 ^ 31)).mp z)) (fun z => kf (fun w => z ((nI_eq hx (by decide : (0 : Nat) < 2 ^ 31)).mpr w)))
theorem R_icmp_ne_N {off : Int} {x y : Nat} (h : sm_ic j pc = some (.if_icmp .ne off, a, b, c)) (ht : (pc : Int) + off = (a : Int)) (hx : x < 2 ^ 31) (hy : y < 2 ^ 31) (kt : x ≠ y → RT xs d j a L st wd Q) (kf : x = y → RT xs d j (pc + 3) L st wd Q) : RT xs d j pc L (.int (nI y) :: .int (nI x) :: st) wd Q := R_icmp_ne h ht (fun z => kt (fun w => z ((nI_eq hx hy).mpr w))) (fun z => kf ((nI_eq hx hy).mp z))
theorem R_if_ne_N {off : Int} {x : Nat} (h : sm_ic j pc = some (.ifCond .ne off, a, b, c)) (ht : (pc : Int) + off = (a : Int)) (hx : x < 2 ^ 31) (kt : x ≠ 0 → RT xs d j a L st wd Q) (kf : x = 0 → RT xs d j (pc + 3) L st wd Q) : RT xs d j pc L (.int (nI x) :: st) wd Q := R_if_ne h ht (fun z => kt (fun w => z ((nI_eq hx (by decide : (0 : Nat) < 2 ^ 31)).mpr w))) (fun z => kf ((nI_eq hx (by decide : (0 : Nat) < 2 ^ 31)).mp z))
theorem R_icmp_lt_N {off : Int} {x y : Nat} (h : sm_ic j pc = some (.if_icmp .lt off, a, b, c)) (ht : (pc : Int) + off = (a : Int)) (hx : x < 2 ^ 31) (hy : y < 2 ^ 31) (kt : x < y → RT xs d j a L st wd Q) (kf : y ≤ x → RT xs d j (pc + 3) L st wd Q) : RT xs d j pc L (.int (nI y) :: .int (nI x) :: st) wd Q := R_icmp_lt h ht (fun z => kt ((nI_ltI hx hy).mp z)) (fun z => kf (Nat.not_lt.mp (fun w => z ((nI_ltI hx hy).mpr w))))
theorem R_icmp_ge_N {off : Int} {x y : Nat} (h : sm_ic j pc = some (.if_icmp .ge off, a, b, c)) (ht : (pc : Int) + off = (a : Int)) (hx : x < 2 ^ 31) (hy : y < 2 ^ 31) (kt : y ≤ x → RT xs d j a L st wd Q) (kf : x < y → RT xs d j (pc + 3) L st wd Q) : RT xs d j pc L (.int (nI y) :: .int (nI x) :: st) wd Q := R_icmp_ge h ht (fun z => kt ((nI_leI hy hx).mp z)) (fun z => kf (Nat.not_le.mp (fun w => z ((nI_leI hy hx).mpr w))))
theorem R_icmp_gt_N {off : Int} {x y : Nat} (h : sm_ic j pc = some (.if_icmp .gt off, a, b, c)) (ht : (pc : Int) + off = (a : Int)) (hx : x < 2 ^ 31) (hy : y < 2 ^ 31) (kt : y < x → RT xs d j a L st wd Q) (kf : x ≤ y → RT xs d j (pc + 3) L st wd Q) : RT xs d j pc L (.int (nI y) :: .int (nI x) :: st) wd Q := R_icmp_gt h ht (fun z => kt ((nI_ltI hy hx).mp z)) (fun z => kf (Nat.not_lt.mp (fun w => z ((nI_ltI hy hx).mpr w))))
theorem R_if_gt_N {off : Int} {x : Nat} (h : sm_ic j pc = some (.ifCond .gt off, a, b, c)) (ht : (pc : Int) + off = (a : Int)) (hx : x < 2 ^ 31) (kt : 0 < x → RT xs d j a L st wd Q) (kf : x ≤ 0 → RT xs d j (pc + 3) L st wd Q) : RT xs d j pc L (.int (nI x) :: st) wd Q := R_if_gt h ht (fun z => kt ((nI_ltI (by decide : (0 : Nat) < 2 ^ 31) hx).mp z)) (fun z => kf (Nat.not_lt.mp (fun w => z ((nI_ltI (by decide : (0 : Nat) < 2 ^ 31) hx).mpr w))))
theorem R_icmp_le_N {off : Int} {x y : Nat} (h : sm_ic j pc = some (.if_icmp .le off, a, b, c)) (ht : (pc : Int) + off = (a : Int)) (hx : x < 2 ^ 31) (hy : y < 2 ^ 31) (kt : x ≤ y → RT xs d j a L st wd Q) (kf : y < x → RT xs d j (pc + 3) L st wd Q) : RT xs d j pc L (.int (nI y) :: .int (nI x) :: st) wd Q := R_icmp_le h ht (fun z => kt ((nI_leI hx hy).mp z)) (fun z => kf (Nat.not_le.mp (fun w => z ((nI_leI hx hy).mpr w))))
theorem R_if_le_N {off : Int} {x : Nat} (h : sm_ic j pc = some (.ifCond .le off, a, b, c)) (ht : (pc : Int) + off = (a : Int)) (hx : x < 2 ^ 31) (kt : x ≤ 0 → RT xs d j a L st wd Q) (kf : 0 < x → RT xs d j (pc + 3) L st wd Q) : RT xs d j pc L (.int (nI x) :: st) wd Q := R_if_le h ht (fun z => kt ((nI_leI hx (by decide : (0 : Nat) < 2 ^ 31)).mp z)) (fun z => kf (Nat.not_le.mp (fun w => z ((nI_leI hx (by decide : (0 : Nat) < 2 ^ 31)).mpr w))))
theorem R_if_lt_N {off : Int} {x : Nat} (h : sm_ic j pc = some (.ifCond .lt off, a, b, c)) (ht : (pc : Int) + off = (a : Int)) (hx : x < 2 ^ 31) (k : RT xs d j (pc + 3) L st wd Q) : RT xs d j pc L (.int (nI x) :: st) wd Q := R_if_lt h ht (fun z => absurd z (nI_pos hx)) (fun _ => k)
theorem R_if_ge_N {off : Int} {x : Nat} (h : sm_ic j pc = some (.ifCond .ge off, a, b, c)) (ht : (pc : Int) + off = (a : Int)) (hx : x < 2 ^ 31) (k : RT xs d j a L st wd Q) : RT xs d j pc L (.int (nI x) :: st) wd Q := R_if_ge h ht (fun _ => k) (fun z => absurd (nI_pos' hx) z)
theorem R_if_eq_b {off : Int} {v : Bool} (h : sm_ic j pc = some (.ifCond .eq off, a, b, c)) (ht : (pc : Int) + off = (a : Int)) (kt : v = false → RT xs d j a L st wd Q) (kf : v = true → RT xs d j (pc + 3) L st wd Q) : RT xs d j pc L (.int (b2i v) :: st) wd Q := R_if_eq h ht (fun z => kt ((b2i_eq0 v).mp z)) (fun z => kf (by cases v; exact absurd rfl z; rfl))
theorem R_if_ne_b {off : Int} {v : Bool} (h : sm_ic j pc = some (.ifCond .ne off, a, b, c)) (ht : (pc : Int) + off = (a : Int)) (kt : v = true → RT xs d j a L st wd Q) (kf : v = false → RT xs d j (pc + 3) L st wd Q) : RT xs d j pc L (.int (b2i v) :: st) wd Q := R_if_ne h ht (fun z => kt (by cases v; exact absurd rfl z; rfl)) (fun z => kf ((b2i_eq0 v).mp z))
theorem R_i2lN {x : Nat} (h : sm_ic j pc = some (.i2l, a, b, c)) (hx : x < 2 ^ 31) (k : RT xs d j (pc + 1) L (.long (lN x) :: st) wd Q) : RT xs d j pc L (.int (nI x) :: st) wd Q := R_i2l h (by rw [nI_l hx]; exact k)
theorem R_l2iN {x : Nat} (h : sm_ic j pc = some (.l2i, a, b, c)) (k : RT xs d j (pc + 1) L (.int (nI x) :: st) wd Q) : RT xs d j pc L (.long (lN x) :: st) wd Q := R_l2i h (by rw [lN_i]; exact k)
theorem R_laddN {x y : Nat} (h : sm_ic j pc = some (.ladd, a, b, c)) (k : RT xs d j (pc + 1) L (.long (lN (x + y)) :: st) wd Q) : RT xs d j pc L (.long (lN y) :: .long (lN x) :: st) wd Q := R_ladd h (by rw [lN_add]; exact k)
theorem R_lmulN {x y : Nat} (h : sm_ic j pc = some (.lmul, a, b, c)) (k : RT xs d j (pc + 1) L (.long (lN (x * y)) :: st) wd Q) : RT xs d j pc L (.long (lN y) :: .long (lN x) :: st) wd Q := R_lmul h (by rw [lN_mul]; exact k)
theorem R_lsubN {x y : Nat} (h : sm_ic j pc = some (.lsub, a, b, c)) (hs : y ≤ x) (k : RT xs d j (pc + 1) L (.long (lN (x - y)) :: st) wd Q) : RT xs d j pc L (.long (lN y) :: .long (lN x) :: st) wd Q := R_lsub h (by rw [lN_sub hs]; exact k)
theorem R_landN {x y : Nat} (h : sm_ic j pc = some (.land, a, b, c)) (hx : x < 2 ^ 64) (hy : y < 2 ^ 64) (k : RT xs d j (pc + 1) L (.long (lN (x &&& y)) :: st) wd Q) : RT xs d j pc L (.long (lN y) :: .long (lN x) :: st) wd Q := R_land h (by rw [wb_and hx hy]; exact k)
theorem R_lorN {x y : Nat} (h : sm_ic j pc = some (.lor, a, b, c)) (hx : x < 2 ^ 64) (hy : y < 2 ^ 64) (k : RT xs d j (pc + 1) L (.long (lN (x ||| y)) :: st) wd Q) : RT xs d j pc L (.long (lN y) :: .long (lN x) :: st) wd Q := R_lor h (by rw [wb_or hx hy]; exact k)
theorem R_lushrN {x y : Nat} (h : sm_ic j pc = some (.lushr, a, b, c)) (hx : x < 2 ^ 64) (hy : y < 64) (k : RT xs d j (pc + 1) L (.long (lN (x >>> y)) :: st) wd Q) : RT xs d j pc L (.int (nI y) :: .long (lN x) :: st) wd Q := R_lushr h (by rw [wb_shr hx hy, ← Nat.shiftRight_eq_div_pow]; exact k)
theorem R_lshlN {x y : Nat} (h : sm_ic j pc = some (.lshl, a, b, c)) (hy : y < 64) (k : RT xs d j (pc + 1) L (.long (lN (x * 2 ^ y)) :: st) wd Q) : RT xs d j pc L (.int (nI y) :: .long (lN x) :: st) wd Q := R_lshl h (by rw [wb_shl x hy]; exact k)
end RTN
