/-! Night.set -/
section RST
variable {xs : List Int32} {d j pc : Nat} {L : sm_L} {st : List Value} {wd : sm_W} {Q : Option Value → sm_W → Prop} {a b c : Nat}
theorem R_iastN {k0 i : Nat} {l : List Int32} {x : Int32} (h : sm_ic j pc = some (.iastore, a, b, c)) (hw : wd[k0]? = some (.inl (0, l))) (hi : i < l.length) (hl : l.length < 2147483648) (k : RT xs d j (pc + 1) L st (wd.set k0 (.inl (0, l.set i x))) Q) : RT xs d j pc L (.int x :: .int (nI i) :: .ref k0 :: st) wd Q := R_iast h hw (sm_inN hi hl) (by rw [nI_clamp (by omega)]; exact k)
theorem R_lastN {k0 i : Nat} {l : List Int64} {x : Int64} (h : sm_ic j pc = some (.lastore, a, b, c)) (hw : wd[k0]? = some (.inr (.inl l))) (hi : i < l.length) (hl : l.length < 2147483648) (k : RT xs d j (pc + 1) L st (wd.set k0 (.inr (.inl (l.set i x)))) Q) : RT xs d j pc L (.long x :: .int (nI i) :: .ref k0 :: st) wd Q := R_last h hw (sm_inNL hi hl) (by rw [nI_clamp (by omega)]; exact k)
end RST
theorem pre_set {α : Type} {l : List α} {i : Nat} {f : Nat → α} (h : ∀ t, t < i → l[t]? = some (f t)) (hi : i < l.length) : ∀ t, t < i + 1 → (l.set i (f i))[t]? = some (f t) := by
  intro t ht
  by_cases e : t = i
  · subst e
    exact List.getElem?_set_self hi
  · rw [List.getElem?_set_ne (Ne.symm e)]
    exact h t (by omega)
theorem pre_all {α : Type} {l : List α} {n : Nat} {f : Nat → α} (hl : l.length = n) (h : ∀ t, t < n → l[t]? = some (f t)) : l = (List.range n).map f := by
  apply List.ext_getElem?
  intro t
  by_cases ht : t < n
  · rw [h t ht, List.getElem?_map, List.getElem?_range ht]
    rfl
  · rw [List.getElem?_eq_none (by omega), List.getElem?_eq_none (by simp; omega)]
def gN (ic : Bool) (kd mn : Nat → Nat) (i : Nat) : Nat := if ic = true then i else gdF kd mn 8 i
def ntG (I : sm_Is) (w : Nat) : List Nat := (List.range 8).map (gN (sIce w) (iKd I) (sMind w))
def ntV (I : sm_Is) (w : Nat) : Nat := if sIce w = true then 0 else kindUp (iK I) 3 (iN I)
def ntS (I : sm_Is) (w : Nat) : Nat := if sIce w = true then 8 else sumUp (iS I) (31 &&& (sHeld w ^^^ 4294967295)) 5
def ntB (w : Nat) : Bool := sStorm w && !sIce w
def nightSet (wd : sm_W) (I : sm_Is) (w : Nat) : sm_W := (wd.set 14 (.inl (0, (ntG I w).map nI))).set 13 (ntO (ntV I w) (ntS I w) (iBd I) (ntB w))
theorem ntG_len (I : sm_Is) (w : Nat) : (ntG I w).length = 8 := by unfold ntG; rw [List.length_map, List.length_range]
theorem ntG_get (I : sm_Is) (w : Nat) {i : Nat} (h : i < 8) : (ntG I w).getD i 0 = gN (sIce w) (iKd I) (sMind w) i := by
  unfold ntG
  rw [List.getD_eq_getElem?_getD, List.getElem?_map, List.getElem?_range h]
  rfl
theorem gN_lt {ic : Bool} {kd : Nat → Nat} {w i : Nat} (h : i < 8) : gN ic kd (sMind w) i < 8 := by
  unfold gN
  split
  · exact h
  · exact gdF_lt (sMind_lt w) 8 i h
theorem kindUp_lt (l : List Nat) (v : Nat) : ∀ k, kindUp l v k < 2 ^ k
  | 0 => Nat.lt_of_lt_of_le (by decide : 0 < 1) (Nat.le_refl _)
  | k + 1 => by
    have h1 := kindUp_lt l v k
    unfold kindUp
    split
    · refine Nat.or_lt_two_pow (Nat.lt_of_lt_of_le h1 (Nat.pow_le_pow_right (by decide) (Nat.le_succ k))) ?_
      rw [Nat.one_shiftLeft]
      exact Nat.pow_lt_pow_right (by decide) (Nat.lt_succ_self k)
    · exact Nat.lt_of_lt_of_le h1 (Nat.pow_le_pow_right (by decide) (Nat.le_succ k))
theorem kindN_lt {I : sm_Is} (hW : iWF I) (v : Nat) : kindUp (iK I) v (iN I) < 256 := Nat.lt_of_lt_of_le (kindUp_lt _ _ _) (Nat.pow_le_pow_right (by decide) hW.2.2.2.1)
theorem ntV_lt {I : sm_Is} (hW : iWF I) (w : Nat) : ntV I w < 256 := by
  unfold ntV
  split
  · decide
  · exact kindN_lt hW 3
theorem seats_le {I : sm_Is} (hW : iWF I) (s : Nat) : sumUp (iS I) s 5 ≤ 40 := sumUp_le hW.2.2.2.2.2.2.2.1 5
theorem ntS_le {I : sm_Is} (hW : iWF I) (w : Nat) : ntS I w ≤ 40 := by
  unfold ntS
  split
  · decide
  · exact seats_le hW _
theorem nightSet_isN {wd : sm_W} {I : sm_Is} {w : Nat} (h0 : isN0 wd) (hW : iWF I) : isN (nightSet wd I w) (ntG I w) (ntV I w) (ntS I w) (iBd I) (ntB w) := by
  obtain ⟨v1, v2, v3, v4, l, h1, h2, h3⟩ := h0
  have hv := ntV_lt hW w
  have hs := ntS_le hW w
  have hb := hW.2.2.2.2.2.2.2.2.2.2.1
  refine ⟨sm_gs (sm_gn (by decide) h1), sm_gn (by decide) (sm_gs h2), ntG_len I w, fun i => ?_, by omega, by omega, by omega⟩
  by_cases hi : i < 8
  · rw [ntG_get I w hi]
    exact gN_lt hi
  · rw [List.getD_eq_getElem?_getD, List.getElem?_eq_none (by rw [ntG_len]; omega)]
    decide
theorem nightSet_set {wd : sm_W} {I I2 : sm_Is} {w w2 : Nat} : nightSet (nightSet wd I w) I2 w2 = nightSet wd I2 w2 := by
  unfold nightSet
  rw [List.set_comm _ _ (by decide : (13 : Nat) ≠ 14), List.set_set, List.set_set]
theorem nightSet_gn {wd : sm_W} {I : sm_Is} {w k : Nat} {e : sm_E} (hk : k ≠ 13 ∧ k ≠ 14) (h : wd[k]? = some e) : (nightSet wd I w)[k]? = some e := sm_gn (Ne.symm hk.1) (sm_gn (Ne.symm hk.2) h)
theorem nightSet_isI {wd : sm_W} {I I2 : sm_Is} {w a : Nat} (ha : a + 3 < 13) (h : isI wd a I2) : isI (nightSet wd I w) a I2 := isI_set (Or.inr (by omega)) (isI_set (Or.inr (by omega)) h)
theorem nightSet_isN0 {wd : sm_W} {I : sm_Is} {w : Nat} (hW : iWF I) (h0 : isN0 wd) : isN0 (nightSet wd I w) := (nightSet_isN h0 hW).to0
theorem lp_set {xs : List Int32} {d : Nat} {wd : sm_W} {Q : Option Value → sm_W → Prop} {a : Nat} {I : sm_Is} (hI : isI wd a I) (hW : iWF I) {w : Nat} (hw : w < 18446744073709551616) (ha13 : a + 3 < 13) {v1 v2 v3 v4 : Value} (h13 : wd[13]? = some (.inr (.inr (3, [.ref 14, v1, v2, v3, v4])))) {e0 : sm_E} (h14 : wd[14]? = some e0) {ic : Bool} (hQ : RT xs (d + 4) 63 49 [some (.ref 13), some (.ref a), some (.long (lN w)), none, some (.int (b2i ic)), some (.int (nI 8))] [] (wd.set 14 (.inl (0, ((List.range 8).map (fun t => nI (gN ic (iKd I) (sMind w) t)))))) Q) : ∀ (k : Nat) (i : Nat) (l : List Int32), (i + k = 8) → (l.length = 8) → (∀ t, t < i → l[t]? = some (nI (gN ic (iKd I) (sMind w) t))) → RT xs (d + 4) 63 9 [some (.ref 13), some (.ref a), some (.long (lN w)), none, some (.int (b2i ic)), some (.int (nI i))] [] (wd.set 14 (.inl (0, l))) Q := by
  intro k
  induction k with
  | zero =>
    intro i l hk hlen hpre
    obtain ⟨hI1, hI2, hI3, hI4, ha⟩ := id hI
    obtain ⟨hW1, hW2, hW3, hW4, hW5, hW6, hW7, hW8, hW9, hW10, hW11, hW12, hW13, hW14, hW15⟩ := id hW
    have hI2 := isI_set (k := 14) (e := .inl (0, l)) (Or.inr (by omega)) hI
    refine R_iload r_63_9 rfl ?_
    refine R_aload_n r_63_11 rfl (by decide) ?_
    refine R_getf r_63_12 (by decide) (sm_gn (by decide) h13) rfl ?_
    refine R_alenIm r_63_15 ⟨(by decide), (by decide)⟩ (sm_gs h14) (m := 8) hlen ?_
    refine R_icmp_ge_N r_63_16 (by decide) (by omega) (by omega) (fun h_1 => ?_) (fun h_1 => ?_)
    · rw [pre_all hlen (fun t ht => hpre t (by omega)), show i = 8 by omega]; exact hQ
    · exfalso; omega
  | succ k ih =>
    intro i l hk hlen hpre
    obtain ⟨hI1, hI2, hI3, hI4, ha⟩ := id hI
    obtain ⟨hW1, hW2, hW3, hW4, hW5, hW6, hW7, hW8, hW9, hW10, hW11, hW12, hW13, hW14, hW15⟩ := id hW
    have hI2 := isI_set (k := 14) (e := .inl (0, l)) (Or.inr (by omega)) hI
    refine R_iload r_63_9 rfl ?_
    refine R_aload_n r_63_11 rfl (by decide) ?_
    refine R_getf r_63_12 (by decide) (sm_gn (by decide) h13) rfl ?_
    refine R_alenIm r_63_15 ⟨(by decide), (by decide)⟩ (sm_gs h14) (m := 8) hlen ?_
    refine R_icmp_ge_N r_63_16 (by decide) (by omega) (by omega) (fun h_1 => ?_) (fun h_1 => ?_)
    · exfalso; omega
    · refine R_aload_n r_63_19 rfl (by decide) ?_
      refine R_getf r_63_20 (by decide) (sm_gn (by decide) h13) rfl ?_
      refine R_iload r_63_23 rfl ?_
      refine R_iload r_63_25 rfl ?_
      refine R_if_eq_b r_63_27 (by decide) (fun h_2 => ?_) (fun h_2 => ?_)
      · refine R_aload_n r_63_35 rfl (by omega) ?_
        refine R_lload_n r_63_36 rfl ?_
        refine R_iload r_63_37 rfl ?_
        refine R_call3 r_63_39 rfl rfl (Nat.le_of_ble_eq_true rfl) (Nat.le_of_ble_eq_true rfl) ?_
        refine c_guideOf hI2 hW hw (by omega) ?_
        refine R_iastN r_63_42 (sm_gs h14) (by omega) (by omega) ?_
        refine R_iinc1 r_63_43 rfl rfl ?_
        refine R_goto r_63_46 (by decide) ?_
        rw [List.set_set]
        exact ih (i + 1) _ (by omega) (by rw [List.length_set]; exact hlen) (by first | (have := pre_set hpre (by omega : i < l.length); simpa only [gN, h_2, if_true, if_false, Bool.false_eq_true] using this))
      · refine R_iload r_63_30 rfl ?_
        refine R_goto r_63_32 (by decide) ?_
        refine R_iastN r_63_42 (sm_gs h14) (by omega) (by omega) ?_
        refine R_iinc1 r_63_43 rfl rfl ?_
        refine R_goto r_63_46 (by decide) ?_
        rw [List.set_set]
        exact ih (i + 1) _ (by omega) (by rw [List.length_set]; exact hlen) (by first | (have := pre_set hpre (by omega : i < l.length); simpa only [gN, h_2, if_true, if_false, Bool.false_eq_true] using this))
theorem c_set {xs : List Int32} {d : Nat} {wd : sm_W} {Q : Option Value → sm_W → Prop} {a : Nat} {I : sm_Is} (hI : isI wd a I) (hW : iWF I) {w : Nat} (hw : w < 18446744073709551616) (ha13 : a + 3 < 13) (h0 : isN0 wd) (hQ : Q none (nightSet wd I w)) : Ct xs (d + 4) 63 [.ref 13, .ref a, .long (lN w)] wd Q := by
  unfold Ct
  show RT xs (d + 4) 63 0 [some (.ref 13), some (.ref a), some (.long (lN w)), none, none, none] [] wd Q
  obtain ⟨v1, v2, v3, v4, l, h13, h14, hlen⟩ := h0
  obtain ⟨hI1, hI2, hI3, hI4, ha⟩ := id hI
  obtain ⟨hW1, hW2, hW3, hW4, hW5, hW6, hW7, hW8, hW9, hW10, hW11, hW12, hW13, hW14, hW15⟩ := id hW
  refine R_lload_n r_63_0 rfl ?_
  refine R_call1 r_63_1 rfl rfl (Nat.le_of_ble_eq_true rfl) (Nat.le_of_ble_eq_true rfl) ?_
  refine c_ice hw ?_
  refine R_istore r_63_4 rfl ?_
  refine R_iconst r_63_6 (v := nI 0) rfl ?_
  refine R_istore r_63_7 rfl ?_
  suffices key : RT xs (d + 4) 63 49 [some (.ref 13), some (.ref a), some (.long (lN w)), none, some (.int (b2i (sIce w))), some (.int (nI 8))] [] (wd.set 14 (.inl (0, ((List.range 8).map (fun t => nI (gN (sIce w) (iKd I) (sMind w) t)))))) Q by
    have h1 := lp_set hI hW hw ha13 h13 h14 key 8 0 l rfl hlen (fun t ht => absurd ht (Nat.not_lt_zero t))
    rw [sm_set_id h14] at h1
    exact h1
  have hI2 := isI_set (k := 14) (e := .inl (0, (List.range 8).map (fun t => nI (gN (sIce w) (iKd I) (sMind w) t)))) (Or.inr (by omega)) hI
  have eG : (ntG I w).map nI = (List.range 8).map (fun t => nI (gN (sIce w) (iKd I) (sMind w) t)) := by unfold ntG; rw [List.map_map]; rfl
  unfold nightSet ntV ntS ntB at hQ
  rw [eG] at hQ
  revert hQ
  generalize eG2 : (List.range 8).map (fun t => nI (gN (sIce w) (iKd I) (sMind w) t)) = G at hI2 ⊢
  cases hice : sIce w with
  | false =>
    intro hQ
    refine R_aload_n r_63_49 rfl (by decide) ?_
    refine R_iload r_63_50 rfl ?_
    refine R_ifT r_63_52 (by decide) (by decide) ?_
    refine R_aload_n r_63_59 rfl (by omega) ?_
    refine R_iconst r_63_60 (v := nI 3) rfl ?_
    refine R_call2 r_63_61 rfl (sm_rv1 rfl rfl hI2.1) (Nat.le_of_ble_eq_true rfl) (Nat.le_of_ble_eq_true rfl) ?_
    refine c_ofKind hI2 hW (by decide) ?_
    refine R_putf r_63_64 (sm_gn (by decide) h13) (Nat.le_of_ble_eq_true rfl) rfl rfl ?_
    refine R_aload_n r_63_67 rfl (by decide) ?_
    refine R_iload r_63_68 rfl ?_
    refine R_ifT r_63_70 (by decide) (by decide) ?_
    refine R_aload_n r_63_78 rfl (by omega) ?_
    refine R_bipush r_63_79 (v := nI 31) rfl ?_
    refine R_lload_n r_63_81 rfl ?_
    refine R_call1 r_63_82 rfl rfl (Nat.le_of_ble_eq_true rfl) (Nat.le_of_ble_eq_true rfl) ?_
    refine c_held hw ?_
    refine R_iconst r_63_85 (v := (-1)) rfl ?_
    refine R_ixorM r_63_86 ?_
    refine R_iandN r_63_87 ?_
    refine R_call2 r_63_88 rfl (sm_rv1 rfl rfl (isI_set (Or.inr (by omega)) hI2).1) (Nat.le_of_ble_eq_true rfl) (Nat.le_of_ble_eq_true rfl) ?_
    refine c_seatsOf (isI_set (Or.inr (by omega)) hI2) hW (Nat.lt_of_le_of_lt Nat.and_le_left (by decide)) ?_
    refine R_putf r_63_91 (sm_gs (sm_gn (by decide) h13)) (Nat.le_of_ble_eq_true rfl) rfl rfl ?_
    refine R_aload_n r_63_94 rfl (by decide) ?_
    refine R_aload_n r_63_95 rfl (by omega) ?_
    refine R_call1 r_63_96 rfl (sm_rv1 rfl rfl (isI_set (Or.inr (by omega)) (isI_set (Or.inr (by omega)) hI2)).1) (Nat.le_of_ble_eq_true rfl) (Nat.le_of_ble_eq_true rfl) ?_
    unfold Ct
    refine R_aload_n r_68_0 rfl (by omega) ?_
    refine R_getf r_68_1 (by decide) (isI_set (Or.inr (by omega)) (isI_set (Or.inr (by omega)) hI2)).1 rfl ?_
    refine R_iret r_68_4 (ty := .int) rfl rfl (by decide) ?_
    refine R_putf r_63_99 (sm_gs (sm_gs (sm_gn (by decide) h13))) (Nat.le_of_ble_eq_true rfl) rfl rfl ?_
    refine R_aload_n r_63_102 rfl (by decide) ?_
    refine R_lload_n r_63_103 rfl ?_
    refine R_call1 r_63_104 rfl rfl (Nat.le_of_ble_eq_true rfl) (Nat.le_of_ble_eq_true rfl) ?_
    refine c_storm hw ?_
    refine R_if_eq_b r_63_107 (by decide) (fun h_1 => ?_) (fun h_1 => ?_)
    · refine R_iconst r_63_119 (v := nI 0) rfl ?_
      refine R_putf r_63_120 (sm_gs (sm_gs (sm_gs (sm_gn (by decide) h13)))) (Nat.le_of_ble_eq_true rfl) rfl rfl ?_
      refine R_vret r_63_123 rfl ?_
      rw [List.set_set, List.set_set, List.set_set]
      simpa [ntO, b2i_t, b2i_f, h_1] using hQ
    · refine R_iload r_63_110 rfl ?_
      refine R_ifF r_63_112 (by decide) (by decide) ?_
      refine R_iconst r_63_115 (v := nI 1) rfl ?_
      refine R_goto r_63_116 (by decide) ?_
      refine R_putf r_63_120 (sm_gs (sm_gs (sm_gs (sm_gn (by decide) h13)))) (Nat.le_of_ble_eq_true rfl) rfl rfl ?_
      refine R_vret r_63_123 rfl ?_
      rw [List.set_set, List.set_set, List.set_set]
      simpa [ntO, b2i_t, b2i_f, h_1] using hQ
  | true =>
    intro hQ
    refine R_aload_n r_63_49 rfl (by decide) ?_
    refine R_iload r_63_50 rfl ?_
    refine R_ifF r_63_52 (by decide) (by decide) ?_
    refine R_iconst r_63_55 (v := nI 0) rfl ?_
    refine R_goto r_63_56 (by decide) ?_
    refine R_putf r_63_64 (sm_gn (by decide) h13) (Nat.le_of_ble_eq_true rfl) rfl rfl ?_
    refine R_aload_n r_63_67 rfl (by decide) ?_
    refine R_iload r_63_68 rfl ?_
    refine R_ifF r_63_70 (by decide) (by decide) ?_
    refine R_bipush r_63_73 (v := nI 8) rfl ?_
    refine R_goto r_63_75 (by decide) ?_
    refine R_putf r_63_91 (sm_gs (sm_gn (by decide) h13)) (Nat.le_of_ble_eq_true rfl) rfl rfl ?_
    refine R_aload_n r_63_94 rfl (by decide) ?_
    refine R_aload_n r_63_95 rfl (by omega) ?_
    refine R_call1 r_63_96 rfl (sm_rv1 rfl rfl (isI_set (Or.inr (by omega)) (isI_set (Or.inr (by omega)) hI2)).1) (Nat.le_of_ble_eq_true rfl) (Nat.le_of_ble_eq_true rfl) ?_
    unfold Ct
    refine R_aload_n r_68_0 rfl (by omega) ?_
    refine R_getf r_68_1 (by decide) (isI_set (Or.inr (by omega)) (isI_set (Or.inr (by omega)) hI2)).1 rfl ?_
    refine R_iret r_68_4 (ty := .int) rfl rfl (by decide) ?_
    refine R_putf r_63_99 (sm_gs (sm_gs (sm_gn (by decide) h13))) (Nat.le_of_ble_eq_true rfl) rfl rfl ?_
    refine R_aload_n r_63_102 rfl (by decide) ?_
    refine R_lload_n r_63_103 rfl ?_
    refine R_call1 r_63_104 rfl rfl (Nat.le_of_ble_eq_true rfl) (Nat.le_of_ble_eq_true rfl) ?_
    refine c_storm hw ?_
    refine R_if_eq_b r_63_107 (by decide) (fun h_1 => ?_) (fun h_1 => ?_)
    · refine R_iconst r_63_119 (v := nI 0) rfl ?_
      refine R_putf r_63_120 (sm_gs (sm_gs (sm_gs (sm_gn (by decide) h13)))) (Nat.le_of_ble_eq_true rfl) rfl rfl ?_
      refine R_vret r_63_123 rfl ?_
      rw [List.set_set, List.set_set, List.set_set]
      simpa [ntO, b2i_t, b2i_f, h_1] using hQ
    · refine R_iload r_63_110 rfl ?_
      refine R_ifT r_63_112 (by decide) (by decide) ?_
      refine R_iconst r_63_119 (v := nI 0) rfl ?_
      refine R_putf r_63_120 (sm_gs (sm_gs (sm_gs (sm_gn (by decide) h13)))) (Nat.le_of_ble_eq_true rfl) rfl rfl ?_
      refine R_vret r_63_123 rfl ?_
      rw [List.set_set, List.set_set, List.set_set]
      simpa [ntO, b2i_t, b2i_f, h_1] using hQ
