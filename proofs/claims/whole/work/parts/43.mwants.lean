/-! the model: who wants to leave -/
theorem pc_full : ∀ b, b < 256 → pc8 b = 8 → ∀ t, t < 8 → b.testBit t = true := by decide +kernel
theorem mwF_e1 {kd mn : Nat → Nat} {k b t : Nat} (h : kd t ≠ 2) : mwF kd mn (k + 1) b t = t := by rw [mwF, if_neg (fun z => h z.1)]
theorem mwF_e2 {kd mn : Nat → Nat} {k b t : Nat} (h : b.testBit t = true) : mwF kd mn (k + 1) b t = t := by rw [mwF, if_neg (fun z => by rw [h] at z; exact absurd z.2 (by decide))]
theorem mwF_s {kd mn : Nat → Nat} {k b t : Nat} (h : kd t = 2) (h2 : b.testBit t = false) : mwF kd mn (k + 1) b t = mwF kd mn k (b ||| 1 <<< t) (mn t) := by rw [mwF, if_pos ⟨h, h2⟩]
theorem sLean_lt (w i : Nat) : sLean w i < 4 := by
  have h1 := spart_lt w i 1
  have h2 := spart_lt w (8 + i) 1
  unfold sLean
  omega
theorem lean_bit {w q g : Nat} (hq : q < 2) (hg : g < 8) : (sLean w g).testBit q = (sAg w q).testBit g := by
  unfold sAg
  rw [spart_bit, decide_eq_true hg, Bool.true_and]
  have h1 := spart_lt w g 1
  have h2 := spart_lt w (8 + g) 1
  have e1 := spart_bit w g 1 0
  have e2 := spart_bit w (8 + g) 1 0
  rw [Nat.add_zero, decide_eq_true (by decide), Bool.true_and, Nat.testBit_zero] at e1 e2
  rcases (by omega : q = 0 ∨ q = 1) with rfl | rfl
  · rw [Nat.testBit_zero, Nat.mul_zero, Nat.zero_add, ← e1]
    unfold sLean
    congr 1
    exact propext (by omega)
  · rw [show 8 * 1 + g = 8 + g by omega, ← e2, Nat.testBit_succ, Nat.testBit_zero]
    unfold sLean
    congr 1
    exact propext (by omega)
theorem kindUp_bit (l : List Nat) (v : Nat) : ∀ k t, (kindUp l v k).testBit t = (decide (t < k) && decide (l.getD t 0 = v))
  | 0, t => by rw [kindUp, Nat.zero_testBit]; simp
  | k + 1, t => by
    unfold kindUp
    split
    · rename_i h
      rw [or_bit, kindUp_bit l v k t]
      by_cases e : k = t
      · subst e; rw [decide_eq_true rfl, decide_eq_true h, decide_eq_true (Nat.lt_succ_self k)]; simp
      · rw [decide_eq_false e, Bool.or_false]
        congr 1
        exact decide_eq_decide.mpr (by omega)
    · rename_i h
      rw [kindUp_bit l v k t]
      by_cases e : t = k
      · subst e; rw [decide_eq_false h]; simp
      · congr 1
        exact decide_eq_decide.mpr (by omega)
theorem wq1 {l c s : Bool} (h : l = false) : (l && !c && !s) = false := by rw [h]; rfl
theorem wq2 {l s : Bool} {a : Nat} (h : a = 3) : (l && !decide (a = 3) && !s) = false := by rw [decide_eq_true h]; cases l <;> rfl
theorem wq3 {l c s : Bool} (h : s = true) : (l && !c && !s) = false := by rw [h]; simp
theorem wq4 {l s : Bool} {a : Nat} (h : l = true) (h2 : a ≠ 3) (h3 : s = false) : (l && !decide (a = 3) && !s) = true := by rw [h, h3, decide_eq_false h2]; rfl
theorem wp1 {l s : Bool} (h : l = false) : (l && !s) = false := by rw [h]; rfl
theorem wp3 {l s : Bool} (h : s = true) : (l && !s) = false := by rw [h]; simp
theorem wp4 {l s : Bool} (h : l = true) (h3 : s = false) : (l && !s) = true := by rw [h, h3]; rfl
/-- wants i to leave -/
def dwF (I : sm_Is) (w q i s : Nat) : Bool := (wilF (ntB w) (ntV I w) (sAg w q) s).testBit ((ntG I w).getD i 0)
theorem wil_bit {nv ag s g : Nat} (hg : g < 32) : (wilF false nv ag s).testBit g = (ag.testBit g && !nv.testBit g && !s.testBit g) := by
  unfold wilF
  rw [if_neg (by decide), Nat.testBit_and, Nat.testBit_and, not_bit hg, not_bit hg]
theorem dwF_storm {I : sm_Is} {w q i s : Nat} (h1 : sStorm w = true) (h2 : sIce w = false) : dwF I w q i s = false := by
  unfold dwF ntB
  rw [h1, h2]
  show (wilF true _ _ _).testBit _ = false
  unfold wilF
  rw [if_pos rfl, Nat.zero_testBit]
theorem dwF_ice {I : sm_Is} {w q i s : Nat} (hi : i < 8) (hq : q < 2) (h2 : sIce w = true) : dwF I w q i s = ((sLean w i).testBit q && !s.testBit i) := by
  unfold dwF ntB
  rw [h2, ntG_get I w hi, lean_bit hq hi]
  unfold gN ntV
  rw [h2, if_pos rfl, if_pos rfl, Bool.not_true, Bool.and_false, wil_bit (by omega), Nat.zero_testBit]
  simp
theorem dwF_non {I : sm_Is} {w q i s g : Nat} (hi : i < 8) (hq : q < 2) (h1 : sStorm w = false) (h2 : sIce w = false) (hg : g = gdF (iKd I) (sMind w) 8 i) (hgn : g < iN I) (h8 : iN I ≤ 8) : dwF I w q i s = ((sLean w g).testBit q && !decide (iKd I g = 3) && !s.testBit g) := by
  unfold dwF ntB
  rw [h1, h2, ntG_get I w hi, lean_bit hq (by omega)]
  unfold gN ntV
  rw [h2, if_neg (by decide), if_neg (by decide), ← hg, Bool.false_and, wil_bit (by omega), kindUp_bit, decide_eq_true hgn]
  rfl
theorem wnt_dw {I : sm_Is} {w q s : Nat} : ∀ k, k ≤ 8 → wntUp (ntG I w) (wilF (ntB w) (ntV I w) (sAg w q) s) k = (List.range k).foldl (fun a i => a ||| (dwF I w q i s).toNat <<< i) 0
  | 0, _ => rfl
  | k + 1, h => by
    unfold wntUp
    rw [wnt_dw k (by omega), List.range_succ, List.foldl_append]
    rfl
theorem lp_dw {xs : List Int32} {d : Nat} {wd : sm_W} {Q : Option Value → sm_W → Prop} {ln um km sn sp : Int32} {f : Nat → List Int32} (hC : mC wd ln um km sn sp f) {I : sm_Is} {w : Nat} (hR : mR I w f) (hL : mL f) (hW : iWF I) (hw : wfW I w) {q i s : Nat} (hq : q < 2) (hs : s < 256)  : ∀ (k : Nat) (K b t : Nat), (pc8 b + k = 8) → (k ≤ K) → (b < 256) → (t < iN I) → (∀ g, g = mwF (iKd I) (sMind w) (K + 1) b t → g < iN I → Q (some (.int (b2i ((sLean w g).testBit q && !decide (iKd I g = 3) && !s.testBit g)))) wd) → RT xs (d + 1) 150 42 [some (.ref 22), some (.int (nI q)), some (.int (nI i)), some (.int (nI s)), some (.int (nI 0)), some (.int (nI t)), some (.int (nI b)), none] [] wd Q := by
  intro k
  induction k with
  | zero =>
    intro K b t hk hK hb ht hQ
    obtain ⟨hW1, hW2, hW3, hW4, hW5, hW6, hW7, hW8, hW9, hW10, hW11, hW12, hW13, hW14, hW15⟩ := id hW
    have hk4 : iKd I t < 4 := hW6 t
    have hk5 : iKd I t < 4 := hW6 t
    refine R_iload r_150_42 rfl ?_
    refine R_ifF r_150_44 (by decide) (by decide) ?_
    refine R_aload_n r_150_47 rfl (by decide) ?_
    refine R_getf r_150_48 (by decide) hC.1 rfl ?_
    refine R_iload r_150_51 rfl ?_
    refine R_iald r_150_53 (by decide) (hC.2 25 (by decide) (by decide)) (hR.rK ht hW4) ?_
    refine R_iconst r_150_54 (v := nI 2) rfl ?_
    refine R_icmp_ne_N r_150_55 (by decide) (by have := hW6 t; omega) (by omega) (fun h_1 => ?_) (fun h_1 => ?_)
    · refine R_iload r_150_92 rfl ?_
      refine R_ifF r_150_94 (by decide) (by decide) ?_
      refine R_aload_n r_150_97 rfl (by decide) ?_
      refine R_getf r_150_98 (by decide) hC.1 rfl ?_
      refine R_iload r_150_101 rfl ?_
      refine R_iald r_150_103 (by decide) (hC.2 25 (by decide) (by decide)) (hR.rK ht hW4) ?_
      refine R_iconst r_150_104 (v := nI 3) rfl ?_
      refine R_icmp_ne_N r_150_105 (by decide) (by have := hW6 t; omega) (by omega) (fun h_2 => ?_) (fun h_2 => ?_)
      · refine R_iconst r_150_112 (v := nI 0) rfl ?_
        refine R_istore r_150_113 rfl ?_
        refine R_aload_n r_150_115 rfl (by decide) ?_
        refine R_getf r_150_116 (by decide) hC.1 rfl ?_
        refine R_iload r_150_119 rfl ?_
        refine R_iald r_150_121 (by decide) (hC.2 32 (by decide) (by decide)) (hR.nl ht hW4) ?_
        refine R_iload_n r_150_122 rfl ?_
        refine R_call2 r_150_123 rfl rfl (Nat.le_of_ble_eq_true rfl) (Nat.le_of_ble_eq_true rfl) ?_
        refine m_has (by have := sLean_lt w t; omega) (by omega) ?_
        refine R_if_eq_b r_150_126 (by decide) (fun h_3 => ?_) (fun h_3 => ?_)
        · refine R_iconst r_150_147 (v := nI 0) rfl ?_
          refine R_iret r_150_148 (ty := .boolean) rfl (by decide) (by decide) ?_
          have h9 := hQ t (by first | exact (mwF_e1 (by assumption)).symm | exact (mwF_e2 (by assumption)).symm) ht
          first | (rw [wq1 (by assumption)] at h9; exact h9) | (rw [wq3 (by assumption)] at h9; exact h9) | (rw [wq2 (by assumption)] at h9; exact h9)
        · refine R_iload r_150_129 rfl ?_
          refine R_ifF r_150_131 (by decide) (by decide) ?_
          refine R_iload_n r_150_134 rfl ?_
          refine R_iload r_150_135 rfl ?_
          refine R_call2 r_150_137 rfl rfl (Nat.le_of_ble_eq_true rfl) (Nat.le_of_ble_eq_true rfl) ?_
          refine m_has (by omega) (by omega) ?_
          refine R_if_ne_b r_150_140 (by decide) (fun h_4 => ?_) (fun h_4 => ?_)
          · refine R_iconst r_150_147 (v := nI 0) rfl ?_
            refine R_iret r_150_148 (ty := .boolean) rfl (by decide) (by decide) ?_
            have h9 := hQ t (by first | exact (mwF_e1 (by assumption)).symm | exact (mwF_e2 (by assumption)).symm) ht
            first | (rw [wq1 (by assumption)] at h9; exact h9) | (rw [wq3 (by assumption)] at h9; exact h9) | (rw [wq2 (by assumption)] at h9; exact h9)
          · refine R_iconst r_150_143 (v := nI 1) rfl ?_
            refine R_goto r_150_144 (by decide) ?_
            refine R_iret r_150_148 (ty := .boolean) rfl (by decide) (by decide) ?_
            have h9 := hQ t (by first | exact (mwF_e1 (by assumption)).symm | exact (mwF_e2 (by assumption)).symm) ht
            rw [wq4 (by assumption) (by assumption) (by assumption)] at h9; exact h9
      · refine R_iconst r_150_108 (v := nI 1) rfl ?_
        refine R_goto r_150_109 (by decide) ?_
        refine R_istore r_150_113 rfl ?_
        refine R_aload_n r_150_115 rfl (by decide) ?_
        refine R_getf r_150_116 (by decide) hC.1 rfl ?_
        refine R_iload r_150_119 rfl ?_
        refine R_iald r_150_121 (by decide) (hC.2 32 (by decide) (by decide)) (hR.nl ht hW4) ?_
        refine R_iload_n r_150_122 rfl ?_
        refine R_call2 r_150_123 rfl rfl (Nat.le_of_ble_eq_true rfl) (Nat.le_of_ble_eq_true rfl) ?_
        refine m_has (by have := sLean_lt w t; omega) (by omega) ?_
        refine R_if_eq_b r_150_126 (by decide) (fun h_5 => ?_) (fun h_5 => ?_)
        · refine R_iconst r_150_147 (v := nI 0) rfl ?_
          refine R_iret r_150_148 (ty := .boolean) rfl (by decide) (by decide) ?_
          have h9 := hQ t (by first | exact (mwF_e1 (by assumption)).symm | exact (mwF_e2 (by assumption)).symm) ht
          first | (rw [wq1 (by assumption)] at h9; exact h9) | (rw [wq3 (by assumption)] at h9; exact h9) | (rw [wq2 (by assumption)] at h9; exact h9)
        · refine R_iload r_150_129 rfl ?_
          refine R_ifT r_150_131 (by decide) (by decide) ?_
          refine R_iconst r_150_147 (v := nI 0) rfl ?_
          refine R_iret r_150_148 (ty := .boolean) rfl (by decide) (by decide) ?_
          have h9 := hQ t (by first | exact (mwF_e1 (by assumption)).symm | exact (mwF_e2 (by assumption)).symm) ht
          first | (rw [wq1 (by assumption)] at h9; exact h9) | (rw [wq3 (by assumption)] at h9; exact h9) | (rw [wq2 (by assumption)] at h9; exact h9)
    · refine R_iload r_150_58 rfl ?_
      refine R_iload r_150_60 rfl ?_
      refine R_call2 r_150_62 rfl rfl (Nat.le_of_ble_eq_true rfl) (Nat.le_of_ble_eq_true rfl) ?_
      refine m_has (by omega) (by omega) ?_
      refine R_if_ne_b r_150_65 (by decide) (fun h_6 => ?_) (fun h_6 => ?_)
      · refine R_iload r_150_92 rfl ?_
        refine R_ifF r_150_94 (by decide) (by decide) ?_
        refine R_aload_n r_150_97 rfl (by decide) ?_
        refine R_getf r_150_98 (by decide) hC.1 rfl ?_
        refine R_iload r_150_101 rfl ?_
        refine R_iald r_150_103 (by decide) (hC.2 25 (by decide) (by decide)) (hR.rK ht hW4) ?_
        refine R_iconst r_150_104 (v := nI 3) rfl ?_
        refine R_icmp_ne_N r_150_105 (by decide) (by have := hW6 t; omega) (by omega) (fun h_7 => ?_) (fun h_7 => ?_)
        · refine R_iconst r_150_112 (v := nI 0) rfl ?_
          refine R_istore r_150_113 rfl ?_
          refine R_aload_n r_150_115 rfl (by decide) ?_
          refine R_getf r_150_116 (by decide) hC.1 rfl ?_
          refine R_iload r_150_119 rfl ?_
          refine R_iald r_150_121 (by decide) (hC.2 32 (by decide) (by decide)) (hR.nl ht hW4) ?_
          refine R_iload_n r_150_122 rfl ?_
          refine R_call2 r_150_123 rfl rfl (Nat.le_of_ble_eq_true rfl) (Nat.le_of_ble_eq_true rfl) ?_
          refine m_has (by have := sLean_lt w t; omega) (by omega) ?_
          refine R_if_eq_b r_150_126 (by decide) (fun h_8 => ?_) (fun h_8 => ?_)
          · refine R_iconst r_150_147 (v := nI 0) rfl ?_
            refine R_iret r_150_148 (ty := .boolean) rfl (by decide) (by decide) ?_
            have h9 := hQ t (by first | exact (mwF_e1 (by assumption)).symm | exact (mwF_e2 (by assumption)).symm) ht
            first | (rw [wq1 (by assumption)] at h9; exact h9) | (rw [wq3 (by assumption)] at h9; exact h9) | (rw [wq2 (by assumption)] at h9; exact h9)
          · refine R_iload r_150_129 rfl ?_
            refine R_ifF r_150_131 (by decide) (by decide) ?_
            refine R_iload_n r_150_134 rfl ?_
            refine R_iload r_150_135 rfl ?_
            refine R_call2 r_150_137 rfl rfl (Nat.le_of_ble_eq_true rfl) (Nat.le_of_ble_eq_true rfl) ?_
            refine m_has (by omega) (by omega) ?_
            refine R_if_ne_b r_150_140 (by decide) (fun h_9 => ?_) (fun h_9 => ?_)
            · refine R_iconst r_150_147 (v := nI 0) rfl ?_
              refine R_iret r_150_148 (ty := .boolean) rfl (by decide) (by decide) ?_
              have h9 := hQ t (by first | exact (mwF_e1 (by assumption)).symm | exact (mwF_e2 (by assumption)).symm) ht
              first | (rw [wq1 (by assumption)] at h9; exact h9) | (rw [wq3 (by assumption)] at h9; exact h9) | (rw [wq2 (by assumption)] at h9; exact h9)
            · refine R_iconst r_150_143 (v := nI 1) rfl ?_
              refine R_goto r_150_144 (by decide) ?_
              refine R_iret r_150_148 (ty := .boolean) rfl (by decide) (by decide) ?_
              have h9 := hQ t (by first | exact (mwF_e1 (by assumption)).symm | exact (mwF_e2 (by assumption)).symm) ht
              rw [wq4 (by assumption) (by assumption) (by assumption)] at h9; exact h9
        · refine R_iconst r_150_108 (v := nI 1) rfl ?_
          refine R_goto r_150_109 (by decide) ?_
          refine R_istore r_150_113 rfl ?_
          refine R_aload_n r_150_115 rfl (by decide) ?_
          refine R_getf r_150_116 (by decide) hC.1 rfl ?_
          refine R_iload r_150_119 rfl ?_
          refine R_iald r_150_121 (by decide) (hC.2 32 (by decide) (by decide)) (hR.nl ht hW4) ?_
          refine R_iload_n r_150_122 rfl ?_
          refine R_call2 r_150_123 rfl rfl (Nat.le_of_ble_eq_true rfl) (Nat.le_of_ble_eq_true rfl) ?_
          refine m_has (by have := sLean_lt w t; omega) (by omega) ?_
          refine R_if_eq_b r_150_126 (by decide) (fun h_10 => ?_) (fun h_10 => ?_)
          · refine R_iconst r_150_147 (v := nI 0) rfl ?_
            refine R_iret r_150_148 (ty := .boolean) rfl (by decide) (by decide) ?_
            have h9 := hQ t (by first | exact (mwF_e1 (by assumption)).symm | exact (mwF_e2 (by assumption)).symm) ht
            first | (rw [wq1 (by assumption)] at h9; exact h9) | (rw [wq3 (by assumption)] at h9; exact h9) | (rw [wq2 (by assumption)] at h9; exact h9)
          · refine R_iload r_150_129 rfl ?_
            refine R_ifT r_150_131 (by decide) (by decide) ?_
            refine R_iconst r_150_147 (v := nI 0) rfl ?_
            refine R_iret r_150_148 (ty := .boolean) rfl (by decide) (by decide) ?_
            have h9 := hQ t (by first | exact (mwF_e1 (by assumption)).symm | exact (mwF_e2 (by assumption)).symm) ht
            first | (rw [wq1 (by assumption)] at h9; exact h9) | (rw [wq3 (by assumption)] at h9; exact h9) | (rw [wq2 (by assumption)] at h9; exact h9)
      · refine R_iload r_150_68 rfl ?_
        refine R_iconst r_150_70 (v := nI 1) rfl ?_
        refine R_iload r_150_71 rfl ?_
        refine R_ishlN r_150_73 (by omega) ?_
        refine R_iorN r_150_74 ?_
        refine R_istore r_150_75 rfl ?_
        refine R_aload_n r_150_77 rfl (by decide) ?_
        refine R_getf r_150_78 (by decide) hC.1 rfl ?_
        refine R_bipush r_150_81 (v := nI 8) rfl ?_
        refine R_iload r_150_83 rfl ?_
        refine R_iaddN r_150_85 ?_
        refine R_iald r_150_86 (by decide) (hC.2 32 (by decide) (by decide)) (hR.nm ht hW4) ?_
        refine R_istore r_150_87 rfl ?_
        refine R_goto r_150_89 (by decide) ?_
        exact absurd (pc_full b hb (by omega) t (by omega)) (by simp [*])
  | succ k ih =>
    intro K b t hk hK hb ht hQ
    obtain ⟨hW1, hW2, hW3, hW4, hW5, hW6, hW7, hW8, hW9, hW10, hW11, hW12, hW13, hW14, hW15⟩ := id hW
    have hk4 : iKd I t < 4 := hW6 t
    have hk5 : iKd I t < 4 := hW6 t
    refine R_iload r_150_42 rfl ?_
    refine R_ifF r_150_44 (by decide) (by decide) ?_
    refine R_aload_n r_150_47 rfl (by decide) ?_
    refine R_getf r_150_48 (by decide) hC.1 rfl ?_
    refine R_iload r_150_51 rfl ?_
    refine R_iald r_150_53 (by decide) (hC.2 25 (by decide) (by decide)) (hR.rK ht hW4) ?_
    refine R_iconst r_150_54 (v := nI 2) rfl ?_
    refine R_icmp_ne_N r_150_55 (by decide) (by have := hW6 t; omega) (by omega) (fun h_1 => ?_) (fun h_1 => ?_)
    · refine R_iload r_150_92 rfl ?_
      refine R_ifF r_150_94 (by decide) (by decide) ?_
      refine R_aload_n r_150_97 rfl (by decide) ?_
      refine R_getf r_150_98 (by decide) hC.1 rfl ?_
      refine R_iload r_150_101 rfl ?_
      refine R_iald r_150_103 (by decide) (hC.2 25 (by decide) (by decide)) (hR.rK ht hW4) ?_
      refine R_iconst r_150_104 (v := nI 3) rfl ?_
      refine R_icmp_ne_N r_150_105 (by decide) (by have := hW6 t; omega) (by omega) (fun h_2 => ?_) (fun h_2 => ?_)
      · refine R_iconst r_150_112 (v := nI 0) rfl ?_
        refine R_istore r_150_113 rfl ?_
        refine R_aload_n r_150_115 rfl (by decide) ?_
        refine R_getf r_150_116 (by decide) hC.1 rfl ?_
        refine R_iload r_150_119 rfl ?_
        refine R_iald r_150_121 (by decide) (hC.2 32 (by decide) (by decide)) (hR.nl ht hW4) ?_
        refine R_iload_n r_150_122 rfl ?_
        refine R_call2 r_150_123 rfl rfl (Nat.le_of_ble_eq_true rfl) (Nat.le_of_ble_eq_true rfl) ?_
        refine m_has (by have := sLean_lt w t; omega) (by omega) ?_
        refine R_if_eq_b r_150_126 (by decide) (fun h_3 => ?_) (fun h_3 => ?_)
        · refine R_iconst r_150_147 (v := nI 0) rfl ?_
          refine R_iret r_150_148 (ty := .boolean) rfl (by decide) (by decide) ?_
          have h9 := hQ t (by first | exact (mwF_e1 (by assumption)).symm | exact (mwF_e2 (by assumption)).symm) ht
          first | (rw [wq1 (by assumption)] at h9; exact h9) | (rw [wq3 (by assumption)] at h9; exact h9) | (rw [wq2 (by assumption)] at h9; exact h9)
        · refine R_iload r_150_129 rfl ?_
          refine R_ifF r_150_131 (by decide) (by decide) ?_
          refine R_iload_n r_150_134 rfl ?_
          refine R_iload r_150_135 rfl ?_
          refine R_call2 r_150_137 rfl rfl (Nat.le_of_ble_eq_true rfl) (Nat.le_of_ble_eq_true rfl) ?_
          refine m_has (by omega) (by omega) ?_
          refine R_if_ne_b r_150_140 (by decide) (fun h_4 => ?_) (fun h_4 => ?_)
          · refine R_iconst r_150_147 (v := nI 0) rfl ?_
            refine R_iret r_150_148 (ty := .boolean) rfl (by decide) (by decide) ?_
            have h9 := hQ t (by first | exact (mwF_e1 (by assumption)).symm | exact (mwF_e2 (by assumption)).symm) ht
            first | (rw [wq1 (by assumption)] at h9; exact h9) | (rw [wq3 (by assumption)] at h9; exact h9) | (rw [wq2 (by assumption)] at h9; exact h9)
          · refine R_iconst r_150_143 (v := nI 1) rfl ?_
            refine R_goto r_150_144 (by decide) ?_
            refine R_iret r_150_148 (ty := .boolean) rfl (by decide) (by decide) ?_
            have h9 := hQ t (by first | exact (mwF_e1 (by assumption)).symm | exact (mwF_e2 (by assumption)).symm) ht
            rw [wq4 (by assumption) (by assumption) (by assumption)] at h9; exact h9
      · refine R_iconst r_150_108 (v := nI 1) rfl ?_
        refine R_goto r_150_109 (by decide) ?_
        refine R_istore r_150_113 rfl ?_
        refine R_aload_n r_150_115 rfl (by decide) ?_
        refine R_getf r_150_116 (by decide) hC.1 rfl ?_
        refine R_iload r_150_119 rfl ?_
        refine R_iald r_150_121 (by decide) (hC.2 32 (by decide) (by decide)) (hR.nl ht hW4) ?_
        refine R_iload_n r_150_122 rfl ?_
        refine R_call2 r_150_123 rfl rfl (Nat.le_of_ble_eq_true rfl) (Nat.le_of_ble_eq_true rfl) ?_
        refine m_has (by have := sLean_lt w t; omega) (by omega) ?_
        refine R_if_eq_b r_150_126 (by decide) (fun h_5 => ?_) (fun h_5 => ?_)
        · refine R_iconst r_150_147 (v := nI 0) rfl ?_
          refine R_iret r_150_148 (ty := .boolean) rfl (by decide) (by decide) ?_
          have h9 := hQ t (by first | exact (mwF_e1 (by assumption)).symm | exact (mwF_e2 (by assumption)).symm) ht
          first | (rw [wq1 (by assumption)] at h9; exact h9) | (rw [wq3 (by assumption)] at h9; exact h9) | (rw [wq2 (by assumption)] at h9; exact h9)
        · refine R_iload r_150_129 rfl ?_
          refine R_ifT r_150_131 (by decide) (by decide) ?_
          refine R_iconst r_150_147 (v := nI 0) rfl ?_
          refine R_iret r_150_148 (ty := .boolean) rfl (by decide) (by decide) ?_
          have h9 := hQ t (by first | exact (mwF_e1 (by assumption)).symm | exact (mwF_e2 (by assumption)).symm) ht
          first | (rw [wq1 (by assumption)] at h9; exact h9) | (rw [wq3 (by assumption)] at h9; exact h9) | (rw [wq2 (by assumption)] at h9; exact h9)
    · refine R_iload r_150_58 rfl ?_
      refine R_iload r_150_60 rfl ?_
      refine R_call2 r_150_62 rfl rfl (Nat.le_of_ble_eq_true rfl) (Nat.le_of_ble_eq_true rfl) ?_
      refine m_has (by omega) (by omega) ?_
      refine R_if_ne_b r_150_65 (by decide) (fun h_6 => ?_) (fun h_6 => ?_)
      · refine R_iload r_150_92 rfl ?_
        refine R_ifF r_150_94 (by decide) (by decide) ?_
        refine R_aload_n r_150_97 rfl (by decide) ?_
        refine R_getf r_150_98 (by decide) hC.1 rfl ?_
        refine R_iload r_150_101 rfl ?_
        refine R_iald r_150_103 (by decide) (hC.2 25 (by decide) (by decide)) (hR.rK ht hW4) ?_
        refine R_iconst r_150_104 (v := nI 3) rfl ?_
        refine R_icmp_ne_N r_150_105 (by decide) (by have := hW6 t; omega) (by omega) (fun h_7 => ?_) (fun h_7 => ?_)
        · refine R_iconst r_150_112 (v := nI 0) rfl ?_
          refine R_istore r_150_113 rfl ?_
          refine R_aload_n r_150_115 rfl (by decide) ?_
          refine R_getf r_150_116 (by decide) hC.1 rfl ?_
          refine R_iload r_150_119 rfl ?_
          refine R_iald r_150_121 (by decide) (hC.2 32 (by decide) (by decide)) (hR.nl ht hW4) ?_
          refine R_iload_n r_150_122 rfl ?_
          refine R_call2 r_150_123 rfl rfl (Nat.le_of_ble_eq_true rfl) (Nat.le_of_ble_eq_true rfl) ?_
          refine m_has (by have := sLean_lt w t; omega) (by omega) ?_
          refine R_if_eq_b r_150_126 (by decide) (fun h_8 => ?_) (fun h_8 => ?_)
          · refine R_iconst r_150_147 (v := nI 0) rfl ?_
            refine R_iret r_150_148 (ty := .boolean) rfl (by decide) (by decide) ?_
            have h9 := hQ t (by first | exact (mwF_e1 (by assumption)).symm | exact (mwF_e2 (by assumption)).symm) ht
            first | (rw [wq1 (by assumption)] at h9; exact h9) | (rw [wq3 (by assumption)] at h9; exact h9) | (rw [wq2 (by assumption)] at h9; exact h9)
          · refine R_iload r_150_129 rfl ?_
            refine R_ifF r_150_131 (by decide) (by decide) ?_
            refine R_iload_n r_150_134 rfl ?_
            refine R_iload r_150_135 rfl ?_
            refine R_call2 r_150_137 rfl rfl (Nat.le_of_ble_eq_true rfl) (Nat.le_of_ble_eq_true rfl) ?_
            refine m_has (by omega) (by omega) ?_
            refine R_if_ne_b r_150_140 (by decide) (fun h_9 => ?_) (fun h_9 => ?_)
            · refine R_iconst r_150_147 (v := nI 0) rfl ?_
              refine R_iret r_150_148 (ty := .boolean) rfl (by decide) (by decide) ?_
              have h9 := hQ t (by first | exact (mwF_e1 (by assumption)).symm | exact (mwF_e2 (by assumption)).symm) ht
              first | (rw [wq1 (by assumption)] at h9; exact h9) | (rw [wq3 (by assumption)] at h9; exact h9) | (rw [wq2 (by assumption)] at h9; exact h9)
            · refine R_iconst r_150_143 (v := nI 1) rfl ?_
              refine R_goto r_150_144 (by decide) ?_
              refine R_iret r_150_148 (ty := .boolean) rfl (by decide) (by decide) ?_
              have h9 := hQ t (by first | exact (mwF_e1 (by assumption)).symm | exact (mwF_e2 (by assumption)).symm) ht
              rw [wq4 (by assumption) (by assumption) (by assumption)] at h9; exact h9
        · refine R_iconst r_150_108 (v := nI 1) rfl ?_
          refine R_goto r_150_109 (by decide) ?_
          refine R_istore r_150_113 rfl ?_
          refine R_aload_n r_150_115 rfl (by decide) ?_
          refine R_getf r_150_116 (by decide) hC.1 rfl ?_
          refine R_iload r_150_119 rfl ?_
          refine R_iald r_150_121 (by decide) (hC.2 32 (by decide) (by decide)) (hR.nl ht hW4) ?_
          refine R_iload_n r_150_122 rfl ?_
          refine R_call2 r_150_123 rfl rfl (Nat.le_of_ble_eq_true rfl) (Nat.le_of_ble_eq_true rfl) ?_
          refine m_has (by have := sLean_lt w t; omega) (by omega) ?_
          refine R_if_eq_b r_150_126 (by decide) (fun h_10 => ?_) (fun h_10 => ?_)
          · refine R_iconst r_150_147 (v := nI 0) rfl ?_
            refine R_iret r_150_148 (ty := .boolean) rfl (by decide) (by decide) ?_
            have h9 := hQ t (by first | exact (mwF_e1 (by assumption)).symm | exact (mwF_e2 (by assumption)).symm) ht
            first | (rw [wq1 (by assumption)] at h9; exact h9) | (rw [wq3 (by assumption)] at h9; exact h9) | (rw [wq2 (by assumption)] at h9; exact h9)
          · refine R_iload r_150_129 rfl ?_
            refine R_ifT r_150_131 (by decide) (by decide) ?_
            refine R_iconst r_150_147 (v := nI 0) rfl ?_
            refine R_iret r_150_148 (ty := .boolean) rfl (by decide) (by decide) ?_
            have h9 := hQ t (by first | exact (mwF_e1 (by assumption)).symm | exact (mwF_e2 (by assumption)).symm) ht
            first | (rw [wq1 (by assumption)] at h9; exact h9) | (rw [wq3 (by assumption)] at h9; exact h9) | (rw [wq2 (by assumption)] at h9; exact h9)
      · refine R_iload r_150_68 rfl ?_
        refine R_iconst r_150_70 (v := nI 1) rfl ?_
        refine R_iload r_150_71 rfl ?_
        refine R_ishlN r_150_73 (by omega) ?_
        refine R_iorN r_150_74 ?_
        refine R_istore r_150_75 rfl ?_
        refine R_aload_n r_150_77 rfl (by decide) ?_
        refine R_getf r_150_78 (by decide) hC.1 rfl ?_
        refine R_bipush r_150_81 (v := nI 8) rfl ?_
        refine R_iload r_150_83 rfl ?_
        refine R_iaddN r_150_85 ?_
        refine R_iald r_150_86 (by decide) (hC.2 32 (by decide) (by decide)) (hR.nm ht hW4) ?_
        refine R_istore r_150_87 rfl ?_
        refine R_goto r_150_89 (by decide) ?_
        obtain ⟨K, rfl⟩ : ∃ K2, K = K2 + 1 := ⟨K - 1, by omega⟩
        exact ih K (b ||| 1 <<< t) (sMind w t) (by have := pc_or b hb t (by omega) (by assumption); omega) (by omega) (or_lt hb (by omega)) (hw.2.1 t ht) (fun g hg hg2 => hQ g (hg.trans (mwF_s (kd := iKd I) (by assumption) (by assumption)).symm) hg2)
theorem m_doesWant {xs : List Int32} {d : Nat} {wd : sm_W} {Q : Option Value → sm_W → Prop} {ln um km sn sp : Int32} {f : Nat → List Int32} (hC : mC wd ln um km sn sp f) {I : sm_Is} {w : Nat} (hR : mR I w f) (hL : mL f) (hW : iWF I) (hw : wfW I w) {q i s : Nat} (hq : q < 2) (hi : i < iN I) (hs : s < 256) (hQ : Q (some (.int (b2i (dwF I w q i s)))) wd) : Ct xs (d + 1) 150 [.ref 22, .int (nI q), .int (nI i), .int (nI s)] wd Q := by
  unfold Ct
  show RT xs (d + 1) 150 0 [some (.ref 22), some (.int (nI q)), some (.int (nI i)), some (.int (nI s)), none, none, none, none] [] wd Q
  obtain ⟨hW1, hW2, hW3, hW4, hW5, hW6, hW7, hW8, hW9, hW10, hW11, hW12, hW13, hW14, hW15⟩ := id hW
  refine R_aload_n r_150_0 rfl (by decide) ?_
  refine R_getf r_150_1 (by decide) hC.1 rfl ?_
  refine R_bipush r_150_4 (v := nI 22) rfl ?_
  refine R_iald r_150_6 (by decide) (hC.2 32 (by decide) (by decide)) hR.ni ?_
  refine R_iconst r_150_7 (v := nI 1) rfl ?_
  refine R_icmp_ne_b1 r_150_8 (by decide) (fun h_1 => ?_) (fun h_1 => ?_)
  · refine R_iconst r_150_15 (v := nI 0) rfl ?_
    refine R_istore r_150_16 rfl ?_
    refine R_aload_n r_150_18 rfl (by decide) ?_
    refine R_getf r_150_19 (by decide) hC.1 rfl ?_
    refine R_bipush r_150_22 (v := nI 21) rfl ?_
    refine R_iald r_150_24 (by decide) (hC.2 32 (by decide) (by decide)) hR.ns ?_
    refine R_iconst r_150_25 (v := nI 1) rfl ?_
    refine R_icmp_ne_b1 r_150_26 (by decide) (fun h_2 => ?_) (fun h_2 => ?_)
    · refine R_iload_n r_150_36 rfl ?_
      refine R_istore r_150_37 rfl ?_
      refine R_iconst r_150_39 (v := nI 0) rfl ?_
      refine R_istore r_150_40 rfl ?_
      exact lp_dw hC hR hL hW hw hq hs 8 16 0 i rfl (by omega) (by decide) hi (fun g hg hgn => by
        rw [mw_eq (fun x _ => sMind_lt w x) (by omega)] at hg
        have e := dwF_non (s := s) (by omega) hq (by assumption) (by assumption) hg hgn hW4
        rw [e] at hQ; exact hQ)
    · refine R_iload r_150_29 rfl ?_
      refine R_ifF r_150_31 (by decide) (by decide) ?_
      refine R_iconst r_150_34 (v := nI 0) rfl ?_
      refine R_iret r_150_35 (ty := .boolean) rfl (by decide) (by decide) ?_
      first | (rw [dwF_storm (by assumption) (by assumption)] at hQ; exact hQ) | (rw [dwF_ice (by omega) hq (by assumption), wp1 (by assumption)] at hQ; exact hQ) | (rw [dwF_ice (by omega) hq (by assumption), wp3 (by assumption)] at hQ; exact hQ)
  · refine R_iconst r_150_11 (v := nI 1) rfl ?_
    refine R_goto r_150_12 (by decide) ?_
    refine R_istore r_150_16 rfl ?_
    refine R_aload_n r_150_18 rfl (by decide) ?_
    refine R_getf r_150_19 (by decide) hC.1 rfl ?_
    refine R_bipush r_150_22 (v := nI 21) rfl ?_
    refine R_iald r_150_24 (by decide) (hC.2 32 (by decide) (by decide)) hR.ns ?_
    refine R_iconst r_150_25 (v := nI 1) rfl ?_
    refine R_icmp_ne_b1 r_150_26 (by decide) (fun h_3 => ?_) (fun h_3 => ?_)
    · refine R_iload_n r_150_36 rfl ?_
      refine R_istore r_150_37 rfl ?_
      refine R_iconst r_150_39 (v := nI 0) rfl ?_
      refine R_istore r_150_40 rfl ?_
      refine R_iload r_150_42 rfl ?_
      refine R_ifT r_150_44 (by decide) (by decide) ?_
      refine R_iload r_150_92 rfl ?_
      refine R_ifT r_150_94 (by decide) (by decide) ?_
      refine R_iconst r_150_112 (v := nI 0) rfl ?_
      refine R_istore r_150_113 rfl ?_
      refine R_aload_n r_150_115 rfl (by decide) ?_
      refine R_getf r_150_116 (by decide) hC.1 rfl ?_
      refine R_iload r_150_119 rfl ?_
      refine R_iald r_150_121 (by decide) (hC.2 32 (by decide) (by decide)) (hR.nl hi hW4) ?_
      refine R_iload_n r_150_122 rfl ?_
      refine R_call2 r_150_123 rfl rfl (Nat.le_of_ble_eq_true rfl) (Nat.le_of_ble_eq_true rfl) ?_
      refine m_has (by have := sLean_lt w i; omega) (by omega) ?_
      refine R_if_eq_b r_150_126 (by decide) (fun h_4 => ?_) (fun h_4 => ?_)
      · refine R_iconst r_150_147 (v := nI 0) rfl ?_
        refine R_iret r_150_148 (ty := .boolean) rfl (by decide) (by decide) ?_
        first | (rw [dwF_storm (by assumption) (by assumption)] at hQ; exact hQ) | (rw [dwF_ice (by omega) hq (by assumption), wp1 (by assumption)] at hQ; exact hQ) | (rw [dwF_ice (by omega) hq (by assumption), wp3 (by assumption)] at hQ; exact hQ)
      · refine R_iload r_150_129 rfl ?_
        refine R_ifF r_150_131 (by decide) (by decide) ?_
        refine R_iload_n r_150_134 rfl ?_
        refine R_iload r_150_135 rfl ?_
        refine R_call2 r_150_137 rfl rfl (Nat.le_of_ble_eq_true rfl) (Nat.le_of_ble_eq_true rfl) ?_
        refine m_has (by omega) (by omega) ?_
        refine R_if_ne_b r_150_140 (by decide) (fun h_5 => ?_) (fun h_5 => ?_)
        · refine R_iconst r_150_147 (v := nI 0) rfl ?_
          refine R_iret r_150_148 (ty := .boolean) rfl (by decide) (by decide) ?_
          first | (rw [dwF_storm (by assumption) (by assumption)] at hQ; exact hQ) | (rw [dwF_ice (by omega) hq (by assumption), wp1 (by assumption)] at hQ; exact hQ) | (rw [dwF_ice (by omega) hq (by assumption), wp3 (by assumption)] at hQ; exact hQ)
        · refine R_iconst r_150_143 (v := nI 1) rfl ?_
          refine R_goto r_150_144 (by decide) ?_
          refine R_iret r_150_148 (ty := .boolean) rfl (by decide) (by decide) ?_
          rw [dwF_ice (by omega) hq (by assumption), wp4 (by assumption) (by assumption)] at hQ; exact hQ
    · refine R_iload r_150_29 rfl ?_
      refine R_ifT r_150_31 (by decide) (by decide) ?_
      refine R_iload_n r_150_36 rfl ?_
      refine R_istore r_150_37 rfl ?_
      refine R_iconst r_150_39 (v := nI 0) rfl ?_
      refine R_istore r_150_40 rfl ?_
      refine R_iload r_150_42 rfl ?_
      refine R_ifT r_150_44 (by decide) (by decide) ?_
      refine R_iload r_150_92 rfl ?_
      refine R_ifT r_150_94 (by decide) (by decide) ?_
      refine R_iconst r_150_112 (v := nI 0) rfl ?_
      refine R_istore r_150_113 rfl ?_
      refine R_aload_n r_150_115 rfl (by decide) ?_
      refine R_getf r_150_116 (by decide) hC.1 rfl ?_
      refine R_iload r_150_119 rfl ?_
      refine R_iald r_150_121 (by decide) (hC.2 32 (by decide) (by decide)) (hR.nl hi hW4) ?_
      refine R_iload_n r_150_122 rfl ?_
      refine R_call2 r_150_123 rfl rfl (Nat.le_of_ble_eq_true rfl) (Nat.le_of_ble_eq_true rfl) ?_
      refine m_has (by have := sLean_lt w i; omega) (by omega) ?_
      refine R_if_eq_b r_150_126 (by decide) (fun h_6 => ?_) (fun h_6 => ?_)
      · refine R_iconst r_150_147 (v := nI 0) rfl ?_
        refine R_iret r_150_148 (ty := .boolean) rfl (by decide) (by decide) ?_
        first | (rw [dwF_storm (by assumption) (by assumption)] at hQ; exact hQ) | (rw [dwF_ice (by omega) hq (by assumption), wp1 (by assumption)] at hQ; exact hQ) | (rw [dwF_ice (by omega) hq (by assumption), wp3 (by assumption)] at hQ; exact hQ)
      · refine R_iload r_150_129 rfl ?_
        refine R_ifF r_150_131 (by decide) (by decide) ?_
        refine R_iload_n r_150_134 rfl ?_
        refine R_iload r_150_135 rfl ?_
        refine R_call2 r_150_137 rfl rfl (Nat.le_of_ble_eq_true rfl) (Nat.le_of_ble_eq_true rfl) ?_
        refine m_has (by omega) (by omega) ?_
        refine R_if_ne_b r_150_140 (by decide) (fun h_7 => ?_) (fun h_7 => ?_)
        · refine R_iconst r_150_147 (v := nI 0) rfl ?_
          refine R_iret r_150_148 (ty := .boolean) rfl (by decide) (by decide) ?_
          first | (rw [dwF_storm (by assumption) (by assumption)] at hQ; exact hQ) | (rw [dwF_ice (by omega) hq (by assumption), wp1 (by assumption)] at hQ; exact hQ) | (rw [dwF_ice (by omega) hq (by assumption), wp3 (by assumption)] at hQ; exact hQ)
        · refine R_iconst r_150_143 (v := nI 1) rfl ?_
          refine R_goto r_150_144 (by decide) ?_
          refine R_iret r_150_148 (ty := .boolean) rfl (by decide) (by decide) ?_
          rw [dwF_ice (by omega) hq (by assumption), wp4 (by assumption) (by assumption)] at hQ; exact hQ
theorem wnt_lt2 {gs : List Nat} {wl k : Nat} (h : k ≤ 8) : wntUp gs wl k < 256 := Nat.lt_of_lt_of_le (wntUp_lt gs wl k) (Nat.pow_le_pow_right (by decide) h)
theorem wnt_t {I : sm_Is} {w q s i : Nat} (h : dwF I w q i s = true) : wntUp (ntG I w) (wilF (ntB w) (ntV I w) (sAg w q) s) (i + 1) = wntUp (ntG I w) (wilF (ntB w) (ntV I w) (sAg w q) s) i ||| 1 <<< i := by
  unfold dwF at h
  rw [wntUp, h]
  rfl
theorem wnt_f {I : sm_Is} {w q s i : Nat} (h : dwF I w q i s = false) : wntUp (ntG I w) (wilF (ntB w) (ntV I w) (sAg w q) s) (i + 1) = wntUp (ntG I w) (wilF (ntB w) (ntV I w) (sAg w q) s) i ||| 0 := by
  unfold dwF at h
  rw [wntUp, h, Bool.toNat_false, Nat.zero_shiftLeft]
theorem dwF_out {I : sm_Is} {w q i s : Nat} (hW : iWF I) (hw : wfW I w) (hq : q < 2) (hi : iN I ≤ i) (h8 : i < 8) : dwF I w q i s = false := by
  have hl : (sAg w q).testBit i = false := by rw [← lean_bit hq h8, hw.2.2.1 i hi h8, Nat.zero_testBit]
  cases h2 : sIce w with
  | true => rw [dwF_ice h8 hq h2, hw.2.2.1 i hi h8, Nat.zero_testBit]; rfl
  | false =>
    cases h1 : sStorm w with
    | true => exact dwF_storm h1 h2
    | false =>
      have hg : gdF (iKd I) (sMind w) 8 i = i := gdF_1 (by show (iK I).getD i 0 ≠ 2; rw [(hW.2.2.2.2.2.2.2.2.1 i hi).1]; decide)
      unfold dwF ntB
      rw [h1, h2, ntG_get I w h8]
      unfold gN
      rw [h2, if_neg (by decide), hg, Bool.false_and, wil_bit (by omega), hl]
      rfl
theorem wnt_out {I : sm_Is} {w q s : Nat} (hW : iWF I) (hw : wfW I w) (hq : q < 2) : ∀ k, iN I + k ≤ 8 → wntUp (ntG I w) (wilF (ntB w) (ntV I w) (sAg w q) s) (iN I + k) = wntUp (ntG I w) (wilF (ntB w) (ntV I w) (sAg w q) s) (iN I)
  | 0, _ => rfl
  | k + 1, h => by
    show wntUp _ _ ((iN I + k) + 1) = _
    rw [wnt_f (dwF_out hW hw hq (by omega) (by omega)), wnt_out hW hw hq k (by omega), Nat.or_zero]
theorem wnt_all {I : sm_Is} {w q s : Nat} (hW : iWF I) (hw : wfW I w) (hq : q < 2) : wnt (ntG I w) (ntB w) (ntV I w) (sAg w q) s = wntUp (ntG I w) (wilF (ntB w) (ntV I w) (sAg w q) s) (iN I) := by
  have h8 := hW.2.2.2.1
  have h := wnt_out (s := s) hW hw hq (8 - iN I) (by omega)
  rw [show iN I + (8 - iN I) = 8 by omega] at h
  exact h
theorem lp_mwanting {xs : List Int32} {d : Nat} {wd : sm_W} {Q : Option Value → sm_W → Prop} {ln um km sn sp : Int32} {f : Nat → List Int32} (hC : mC wd ln um km sn sp f) {I : sm_Is} {w : Nat} (hR : mR I w f) (hL : mL f) (hW : iWF I) (hw : wfW I w) {q s : Nat} (hq : q < 2) (hs : s < 256) (hQ : Q (some (.int (nI (wnt (ntG I w) (ntB w) (ntV I w) (sAg w q) s)))) wd) : ∀ (k : Nat) (i : Nat), (i + k = iN I) → RT xs (d + 2) 149 5 [some (.ref 22), some (.int (nI q)), some (.int (nI s)), some (.int (nI (wntUp (ntG I w) (wilF (ntB w) (ntV I w) (sAg w q) s) i))), some (.int (nI i))] [] wd Q := by
  intro k
  induction k with
  | zero =>
    intro i hk
    obtain ⟨hW1, hW2, hW3, hW4, hW5, hW6, hW7, hW8, hW9, hW10, hW11, hW12, hW13, hW14, hW15⟩ := id hW
    refine R_iload r_149_5 rfl ?_
    refine R_aload_n r_149_7 rfl (by decide) ?_
    refine R_getf r_149_8 (by decide) hC.1 rfl ?_
    refine R_iconst r_149_11 (v := nI 0) rfl ?_
    refine R_iald r_149_12 (by decide) (hC.2 24 (by decide) (by decide)) hR.rI ?_
    refine R_icmp_ge_N r_149_13 (by decide) (by omega) (by omega) (fun h_1 => ?_) (fun h_1 => ?_)
    · refine R_iload_n r_149_44 rfl ?_
      refine R_iret r_149_45 (ty := .int) rfl rfl (by decide) ?_
      rw [wnt_all hW hw hq, show iN I = i by omega] at hQ; exact hQ
    · exfalso; omega
  | succ k ih =>
    intro i hk
    obtain ⟨hW1, hW2, hW3, hW4, hW5, hW6, hW7, hW8, hW9, hW10, hW11, hW12, hW13, hW14, hW15⟩ := id hW
    refine R_iload r_149_5 rfl ?_
    refine R_aload_n r_149_7 rfl (by decide) ?_
    refine R_getf r_149_8 (by decide) hC.1 rfl ?_
    refine R_iconst r_149_11 (v := nI 0) rfl ?_
    refine R_iald r_149_12 (by decide) (hC.2 24 (by decide) (by decide)) hR.rI ?_
    refine R_icmp_ge_N r_149_13 (by decide) (by omega) (by omega) (fun h_1 => ?_) (fun h_1 => ?_)
    · exfalso; omega
    · refine R_iload_n r_149_16 rfl ?_
      refine R_aload_n r_149_17 rfl (by decide) ?_
      refine R_iload_n r_149_18 rfl ?_
      refine R_iload r_149_19 rfl ?_
      refine R_iload_n r_149_21 rfl ?_
      refine R_call4 r_149_22 rfl (sm_rvM rfl rfl rfl hC) (Nat.le_of_ble_eq_true rfl) (Nat.le_of_ble_eq_true rfl) ?_
      refine m_doesWant hC hR hL hW hw hq (by omega) hs ?_
      refine R_if_eq_b r_149_25 (by decide) (fun h_2 => ?_) (fun h_2 => ?_)
      · refine R_iconst r_149_35 (v := nI 0) rfl ?_
        refine R_iorN r_149_36 ?_
        refine R_istore_n r_149_37 rfl ?_
        refine R_iinc1 r_149_38 rfl rfl ?_
        refine R_goto r_149_41 (by decide) ?_
        have h9 := ih (i + 1) (by omega)
        first | (rw [wnt_t (by assumption)] at h9; exact h9) | (rw [wnt_f (by assumption)] at h9; exact h9)
      · refine R_iconst r_149_28 (v := nI 1) rfl ?_
        refine R_iload r_149_29 rfl ?_
        refine R_ishlN r_149_31 (by omega) ?_
        refine R_goto r_149_32 (by decide) ?_
        refine R_iorN r_149_36 ?_
        refine R_istore_n r_149_37 rfl ?_
        refine R_iinc1 r_149_38 rfl rfl ?_
        refine R_goto r_149_41 (by decide) ?_
        have h9 := ih (i + 1) (by omega)
        first | (rw [wnt_t (by assumption)] at h9; exact h9) | (rw [wnt_f (by assumption)] at h9; exact h9)
theorem m_wanting {xs : List Int32} {d : Nat} {wd : sm_W} {Q : Option Value → sm_W → Prop} {ln um km sn sp : Int32} {f : Nat → List Int32} (hC : mC wd ln um km sn sp f) {I : sm_Is} {w : Nat} (hR : mR I w f) (hL : mL f) (hW : iWF I) (hw : wfW I w) {q s : Nat} (hq : q < 2) (hs : s < 256) (hQ : Q (some (.int (nI (wnt (ntG I w) (ntB w) (ntV I w) (sAg w q) s)))) wd) : Ct xs (d + 2) 149 [.ref 22, .int (nI q), .int (nI s)] wd Q := by
  unfold Ct
  show RT xs (d + 2) 149 0 [some (.ref 22), some (.int (nI q)), some (.int (nI s)), none, none] [] wd Q
  obtain ⟨hW1, hW2, hW3, hW4, hW5, hW6, hW7, hW8, hW9, hW10, hW11, hW12, hW13, hW14, hW15⟩ := id hW
  refine R_iconst r_149_0 (v := nI 0) rfl ?_
  refine R_istore_n r_149_1 rfl ?_
  refine R_iconst r_149_2 (v := nI 0) rfl ?_
  refine R_istore r_149_3 rfl ?_
  exact lp_mwanting hC hR hL hW hw hq hs hQ (iN I) 0 (by omega)
