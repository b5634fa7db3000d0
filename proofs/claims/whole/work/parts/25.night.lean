/-! the night: set for an island and a standing; who wants to leave, who leaves -/
section RMM
variable {xs : List Int32} {d j pc : Nat} {L : sm_L} {st : List Value} {wd : sm_W} {Q : Option Value → sm_W → Prop} {a b c : Nat}
theorem R_minN {i x y : Nat} (h : sm_ic j pc = some (.invokestatic i, 9996, b, c)) (hd : 1 ≤ d) (hc : (st.map fun v => v.category).sum ≤ 8) (hx : x < 2147483648) (hy : y < 2147483648) (k : RT xs d j (pc + 3) L (.int (nI (min x y)) :: st) wd Q) : RT xs d j pc L (.int (nI y) :: .int (nI x) :: st) wd Q := R_min h hd hc (by
  have e : (if nI y < nI x then nI y else nI x) = nI (min x y) := by
    by_cases hlt : y < x
    · rw [if_pos ((nI_ltI hy hx).mpr hlt), Nat.min_eq_right (by omega)]
    · rw [if_neg (fun z => hlt ((nI_ltI hy hx).mp z)), Nat.min_eq_left (by omega)]
  rw [e]; exact k)
theorem R_maxN {i x y : Nat} (h : sm_ic j pc = some (.invokestatic i, 9997, b, c)) (hd : 1 ≤ d) (hc : (st.map fun v => v.category).sum ≤ 8) (hx : x < 2147483648) (hy : y < 2147483648) (k : RT xs d j (pc + 3) L (.int (nI (max x y)) :: st) wd Q) : RT xs d j pc L (.int (nI y) :: .int (nI x) :: st) wd Q := R_max h hd hc (by
  have e : (if nI x < nI y then nI y else nI x) = nI (max x y) := by
    by_cases hlt : x < y
    · rw [if_pos ((nI_ltI hx hy).mpr hlt), Nat.max_eq_right (by omega)]
    · rw [if_neg (fun z => hlt ((nI_ltI hx hy).mp z)), Nat.max_eq_left (by omega)]
  rw [e]; exact k)
end RMM
theorem sm_set_id {wd : sm_W} {k : Nat} {e : sm_E} (h : wd[k]? = some e) : wd.set k e = wd := by
  obtain ⟨h1, h2⟩ := List.getElem?_eq_some_iff.mp h
  rw [← h2]
  exact List.set_getElem_self h1
theorem isI_set {wd : sm_W} {a k : Nat} {I : sm_Is} {e : sm_E} (hk : k < a ∨ a + 3 < k) (h : isI wd a I) : isI (wd.set k e) a I :=
  ⟨sm_gn (by omega) h.1, sm_gn (by omega) h.2.1, sm_gn (by omega) h.2.2.1, sm_gn (by omega) h.2.2.2.1, h.2.2.2.2⟩
def ntO (nv se bd : Nat) (nb : Bool) : sm_E := .inr (.inr (3, [.ref 14, .int (nI nv), .int (nI se), .int (nI bd), .int (b2i nb)]))
def isN (wd : sm_W) (gs : List Nat) (nv se bd : Nat) (nb : Bool) : Prop := wd[13]? = some (ntO nv se bd nb) ∧ wd[14]? = some (.inl (0, gs.map nI)) ∧ gs.length = 8 ∧ (∀ i, gs.getD i 0 < 8) ∧ nv < 2147483648 ∧ se < 2147483648 ∧ bd < 2147483648
/-- a night of which nothing is known but its shape -/
def isN0 (wd : sm_W) : Prop := ∃ (v1 v2 v3 v4 : Value) (l : List Int32), wd[13]? = some (.inr (.inr (3, [.ref 14, v1, v2, v3, v4]))) ∧ wd[14]? = some (.inl (0, l)) ∧ l.length = 8
theorem isN.to0 {wd : sm_W} {gs : List Nat} {nv se bd : Nat} {nb : Bool} (h : isN wd gs nv se bd nb) : isN0 wd := ⟨_, _, _, _, _, h.1, h.2.1, by rw [List.length_map]; exact h.2.2.1⟩
def lowUp (s m : Nat) : Nat → Nat × Nat
  | 0 => (0, 0)
  | k + 1 => if (lowUp s m k).2 < m ∧ s.testBit k = true then ((lowUp s m k).1 ||| 1 <<< k, (lowUp s m k).2 + 1) else lowUp s m k
theorem lowUp_2 (s m : Nat) : ∀ k, (lowUp s m k).2 ≤ k
  | 0 => Nat.le_refl _
  | k + 1 => by
    have := lowUp_2 s m k
    unfold lowUp
    split <;> simp <;> omega
theorem lowUp_t {s m k : Nat} (h : (lowUp s m k).2 < m) (h2 : s.testBit k = true) : lowUp s m (k + 1) = ((lowUp s m k).1 ||| 1 <<< k, (lowUp s m k).2 + 1) := by rw [lowUp, if_pos ⟨h, h2⟩]
theorem lowUp_f {s m k : Nat} (h : s.testBit k = false) : lowUp s m (k + 1) = lowUp s m k := by rw [lowUp, if_neg (by simp [h])]
theorem lowUp_g {s m k : Nat} (h : m ≤ (lowUp s m k).2) : lowUp s m (k + 1) = lowUp s m k := by rw [lowUp, if_neg (by omega)]
def wntUp (gs : List Nat) (w : Nat) : Nat → Nat
  | 0 => 0
  | k + 1 => wntUp gs w k ||| (w.testBit (gs.getD k 0)).toNat <<< k
def wilF (nb : Bool) (nv ag sick : Nat) : Nat := if nb = true then 0 else ag &&& (nv ^^^ 4294967295) &&& (sick ^^^ 4294967295)
theorem wil_lt {nb : Bool} {nv ag sick : Nat} (h : ag < 256) : wilF nb nv ag sick < 256 := by
  unfold wilF
  split
  · decide
  · exact Nat.lt_of_le_of_lt (Nat.le_trans Nat.and_le_left Nat.and_le_left) h
def wnt (gs : List Nat) (nb : Bool) (nv ag sick : Nat) : Nat := wntUp gs (wilF nb nv ag sick) 8
theorem lp_lowest {xs : List Int32} {d : Nat} {wd : sm_W} {Q : Option Value → sm_W → Prop} {s m : Nat} (hs : s < 2147483648) (hm : m < 2147483648) (hQ : Q (some (.int (nI (lowUp s m 8).1))) wd) : ∀ (k i : Nat), i + k = 8 → RT xs (d) 76 7 [some (.int (nI s)), some (.int (nI m)), some (.int (nI (lowUp s m i).1)), some (.int (nI (lowUp s m i).2)), some (.int (nI i))] [] wd Q := by
  intro k
  induction k with
  | zero =>
    intro i hk 
    have hl2 := lowUp_2 s m i
    refine R_iload r_76_7 rfl ?_
    refine R_bipush r_76_9 (v := nI 8) rfl ?_
    refine R_icmp_ge_N r_76_11 (by decide) (by omega) (by omega) (fun h_1 => ?_) (fun h_1 => ?_)
    · refine R_iload_n r_76_45 rfl ?_
      refine R_iret r_76_46 (ty := .int) rfl rfl (by decide) ?_
      rw [show i = 8 by omega]; exact hQ
    · exfalso; omega
  | succ k ih =>
    intro i hk 
    have hl2 := lowUp_2 s m i
    refine R_iload r_76_7 rfl ?_
    refine R_bipush r_76_9 (v := nI 8) rfl ?_
    refine R_icmp_ge_N r_76_11 (by decide) (by omega) (by omega) (fun h_1 => ?_) (fun h_1 => ?_)
    · exfalso; omega
    · refine R_iload_n r_76_14 rfl ?_
      refine R_iload_n r_76_15 rfl ?_
      refine R_icmp_ge_N r_76_16 (by decide) (by omega) (by omega) (fun h_2 => ?_) (fun h_2 => ?_)
      · refine R_iinc1 r_76_39 rfl rfl ?_
        refine R_goto r_76_42 (by decide) ?_
        have := ih (i + 1) (by omega)
        first | rw [lowUp_t (by assumption) (by assumption)] at this | rw [lowUp_f (by assumption)] at this | rw [lowUp_g (by assumption)] at this
        exact this
      · refine R_iload_n r_76_19 rfl ?_
        refine R_iload r_76_20 rfl ?_
        refine R_iushrN r_76_22 (by omega) (by omega) ?_
        refine R_iconst r_76_23 (v := nI 1) rfl ?_
        refine R_iandBit r_76_24 ?_
        refine R_iconst r_76_25 (v := nI 1) rfl ?_
        refine R_icmp_ne_b1 r_76_26 (by decide) (fun h_3 => ?_) (fun h_3 => ?_)
        · refine R_iinc1 r_76_39 rfl rfl ?_
          refine R_goto r_76_42 (by decide) ?_
          have := ih (i + 1) (by omega)
          first | rw [lowUp_t (by assumption) (by assumption)] at this | rw [lowUp_f (by assumption)] at this | rw [lowUp_g (by assumption)] at this
          exact this
        · refine R_iload_n r_76_29 rfl ?_
          refine R_iconst r_76_30 (v := nI 1) rfl ?_
          refine R_iload r_76_31 rfl ?_
          refine R_ishlN r_76_33 (by omega) ?_
          refine R_iorN r_76_34 ?_
          refine R_istore_n r_76_35 rfl ?_
          refine R_iinc1 r_76_36 rfl rfl ?_
          refine R_iinc1 r_76_39 rfl rfl ?_
          refine R_goto r_76_42 (by decide) ?_
          have := ih (i + 1) (by omega)
          first | rw [lowUp_t (by assumption) (by assumption)] at this | rw [lowUp_f (by assumption)] at this | rw [lowUp_g (by assumption)] at this
          exact this
theorem c_lowest {xs : List Int32} {d : Nat} {wd : sm_W} {Q : Option Value → sm_W → Prop} {s m : Nat} (hs : s < 2147483648) (hm : m < 2147483648) (hQ : Q (some (.int (nI (lowUp s m 8).1))) wd) : Ct xs (d) 76 [.int (nI s), .int (nI m)] wd Q := by
  unfold Ct
  show RT xs (d) 76 0 [some (.int (nI s)), some (.int (nI m)), none, none, none] [] wd Q
  refine R_iconst r_76_0 (v := nI 0) rfl ?_
  refine R_istore_n r_76_1 rfl ?_
  refine R_iconst r_76_2 (v := nI 0) rfl ?_
  refine R_istore_n r_76_3 rfl ?_
  refine R_iconst r_76_4 (v := nI 0) rfl ?_
  refine R_istore r_76_5 rfl ?_
  exact lp_lowest hs hm hQ 8 0 (by omega)
theorem lp_wanting {xs : List Int32} {d : Nat} {wd : sm_W} {Q : Option Value → sm_W → Prop} {gs : List Nat} {nv se bd : Nat} {nb : Bool} (hN : isN wd gs nv se bd nb) {t1 t2 wl : Nat} (hwl : wl < 256) (hQ : Q (some (.int (nI (wntUp gs wl 8)))) wd) : ∀ (k i : Nat), i + k = 8 → RT xs (d) 71 30 [some (.ref 13), some (.int (nI t1)), some (.int (nI t2)), some (.int (nI wl)), some (.int (nI (wntUp gs wl i))), some (.int (nI i))] [] wd Q := by
  intro k
  induction k with
  | zero =>
    intro i hk 
    obtain ⟨hN1, hN2, hN3, hN4, hN5, hN6, hN7⟩ := id hN
    refine R_iload r_71_30 rfl ?_
    refine R_aload_n r_71_32 rfl (by decide) ?_
    refine R_getf r_71_33 (by decide) hN.1 rfl ?_
    refine R_alenIm r_71_36 ⟨(by decide), (by decide)⟩ hN.2.1 (m := 8) (by rw [List.length_map]; exact hN.2.2.1) ?_
    refine R_icmp_ge_N r_71_37 (by decide) (by omega) (by omega) (fun h_1 => ?_) (fun h_1 => ?_)
    · refine R_iload r_71_65 rfl ?_
      refine R_iret r_71_67 (ty := .int) rfl rfl (by decide) ?_
      rw [show i = 8 by omega]; exact hQ
    · exfalso; omega
  | succ k ih =>
    intro i hk 
    obtain ⟨hN1, hN2, hN3, hN4, hN5, hN6, hN7⟩ := id hN
    have hg := hN4 i
    refine R_iload r_71_30 rfl ?_
    refine R_aload_n r_71_32 rfl (by decide) ?_
    refine R_getf r_71_33 (by decide) hN.1 rfl ?_
    refine R_alenIm r_71_36 ⟨(by decide), (by decide)⟩ hN.2.1 (m := 8) (by rw [List.length_map]; exact hN.2.2.1) ?_
    refine R_icmp_ge_N r_71_37 (by decide) (by omega) (by omega) (fun h_1 => ?_) (fun h_1 => ?_)
    · exfalso; omega
    · refine R_iload r_71_40 rfl ?_
      refine R_iload_n r_71_42 rfl ?_
      refine R_aload_n r_71_43 rfl (by decide) ?_
      refine R_getf r_71_44 (by decide) hN.1 rfl ?_
      refine R_iload r_71_47 rfl ?_
      refine R_iald r_71_49 (by decide) hN.2.1 (sm_ixM (by omega) (by omega)) ?_
      refine R_iushrN r_71_50 (by omega) (by omega) ?_
      refine R_iconst r_71_51 (v := nI 1) rfl ?_
      refine R_iandBit r_71_52 ?_
      refine R_iload r_71_53 rfl ?_
      refine R_ishlN r_71_55 (by omega) ?_
      refine R_iorN r_71_56 ?_
      refine R_istore r_71_57 rfl ?_
      refine R_iinc1 r_71_59 rfl rfl ?_
      refine R_goto r_71_62 (by decide) ?_
      have := ih (i + 1) (by omega)
      unfold wntUp at this
      exact this
theorem c_wanting {xs : List Int32} {d : Nat} {wd : sm_W} {Q : Option Value → sm_W → Prop} {gs : List Nat} {nv se bd : Nat} {nb : Bool} (hN : isN wd gs nv se bd nb) {ag sick : Nat} (hag : ag < 256) (hQ : Q (some (.int (nI (wnt gs nb nv ag sick)))) wd) : Ct xs (d) 71 [.ref 13, .int (nI ag), .int (nI sick)] wd Q := by
  unfold Ct
  show RT xs (d) 71 0 [some (.ref 13), some (.int (nI ag)), some (.int (nI sick)), none, none, none] [] wd Q
  refine R_aload_n r_71_0 rfl (by decide) ?_
  refine R_getf r_71_1 (by decide) hN.1 rfl ?_
  refine R_if_eq_b r_71_4 (by decide) (fun h_1 => ?_) (fun h_1 => ?_)
  · refine R_iload_n r_71_11 rfl ?_
    refine R_aload_n r_71_12 rfl (by decide) ?_
    refine R_getf r_71_13 (by decide) hN.1 rfl ?_
    refine R_iconst r_71_16 (v := (-1)) rfl ?_
    refine R_ixorM r_71_17 ?_
    refine R_iandN r_71_18 ?_
    refine R_iload_n r_71_19 rfl ?_
    refine R_iconst r_71_20 (v := (-1)) rfl ?_
    refine R_ixorM r_71_21 ?_
    refine R_iandN r_71_22 ?_
    refine R_istore_n r_71_23 rfl ?_
    refine R_iconst r_71_24 (v := nI 0) rfl ?_
    refine R_istore r_71_25 rfl ?_
    refine R_iconst r_71_27 (v := nI 0) rfl ?_
    refine R_istore r_71_28 rfl ?_
    refine lp_wanting hN (wl := _) ?_ ?_ 8 0 (by omega)
    · exact Nat.lt_of_le_of_lt (by first | exact Nat.zero_le ag | exact Nat.le_trans Nat.and_le_left Nat.and_le_left) hag
    · unfold wnt wilF at hQ; rw [h_1] at hQ; exact hQ
  · refine R_iconst r_71_7 (v := nI 0) rfl ?_
    refine R_goto r_71_8 (by decide) ?_
    refine R_istore_n r_71_23 rfl ?_
    refine R_iconst r_71_24 (v := nI 0) rfl ?_
    refine R_istore r_71_25 rfl ?_
    refine R_iconst r_71_27 (v := nI 0) rfl ?_
    refine R_istore r_71_28 rfl ?_
    refine lp_wanting hN (wl := _) ?_ ?_ 8 0 (by omega)
    · exact Nat.lt_of_le_of_lt (by first | exact Nat.zero_le ag | exact Nat.le_trans Nat.and_le_left Nat.and_le_left) hag
    · unfold wnt wilF at hQ; rw [h_1] at hQ; exact hQ
theorem c_leavingOf {xs : List Int32} {d : Nat} {wd : sm_W} {Q : Option Value → sm_W → Prop} {gs : List Nat} {nv se bd : Nat} {nb : Bool} (hN : isN wd gs nv se bd nb) {s m : Nat} (hs : s < 2147483648) (hm : m < 2147483648) (hQ : Q (some (.int (nI (lowUp s (min se m) 8).1))) wd) : Ct xs (d + 1) 75 [.ref 13, .int (nI s), .int (nI m)] wd Q := by
  unfold Ct
  show RT xs (d + 1) 75 0 [some (.ref 13), some (.int (nI s)), some (.int (nI m))] [] wd Q
  obtain ⟨hN1, hN2, hN3, hN4, hN5, hN6, hN7⟩ := id hN
  refine R_iload_n r_75_0 rfl ?_
  refine R_aload_n r_75_1 rfl (by decide) ?_
  refine R_getf r_75_2 (by decide) hN.1 rfl ?_
  refine R_iload_n r_75_5 rfl ?_
  refine R_minN r_75_6 (by omega) (Nat.le_of_ble_eq_true rfl) (by omega) (by omega) ?_
  refine R_call2 r_75_9 rfl rfl (Nat.le_of_ble_eq_true rfl) (Nat.le_of_ble_eq_true rfl) ?_
  refine c_lowest hs (by omega) ?_
  refine R_iret r_75_12 (ty := .int) rfl rfl (by decide) ?_
  exact hQ
theorem wntUp_lt (gs : List Nat) (w : Nat) : ∀ k, wntUp gs w k < 2 ^ k
  | 0 => Nat.lt_of_lt_of_le (by decide : 0 < 1) (Nat.le_refl _)
  | k + 1 => by
    have h1 := wntUp_lt gs w k
    unfold wntUp
    refine Nat.or_lt_two_pow (Nat.lt_of_lt_of_le h1 (Nat.pow_le_pow_right (by decide) (Nat.le_succ k))) ?_
    rw [Nat.shiftLeft_eq]
    have := Bool.toNat_lt (w.testBit (gs.getD k 0))
    calc (w.testBit (gs.getD k 0)).toNat * 2 ^ k ≤ 1 * 2 ^ k := Nat.mul_le_mul_right _ (by omega)
      _ < 2 ^ (k + 1) := by rw [Nat.one_mul]; exact Nat.pow_lt_pow_right (by decide) (Nat.lt_succ_self k)
theorem wnt_lt (gs : List Nat) (nb : Bool) (nv ag sick : Nat) : wnt gs nb nv ag sick < 256 := wntUp_lt gs _ 8
theorem c_leaving {xs : List Int32} {d : Nat} {wd : sm_W} {Q : Option Value → sm_W → Prop} {gs : List Nat} {nv se bd : Nat} {nb : Bool} (hN : isN wd gs nv se bd nb) {ag sick : Nat} (hag : ag < 256) (hQ : Q (some (.int (nI (lowUp (wnt gs nb nv ag sick) (min se bd) 8).1))) wd) : Ct xs (d + 2) 74 [.ref 13, .int (nI ag), .int (nI sick)] wd Q := by
  unfold Ct
  show RT xs (d + 2) 74 0 [some (.ref 13), some (.int (nI ag)), some (.int (nI sick))] [] wd Q
  obtain ⟨hN1, hN2, hN3, hN4, hN5, hN6, hN7⟩ := id hN
  refine R_aload_n r_74_0 rfl (by decide) ?_
  refine R_aload_n r_74_1 rfl (by decide) ?_
  refine R_iload_n r_74_2 rfl ?_
  refine R_iload_n r_74_3 rfl ?_
  refine R_call3 r_74_4 rfl (sm_rv1 rfl rfl hN.1) (Nat.le_of_ble_eq_true rfl) (Nat.le_of_ble_eq_true rfl) ?_
  refine c_wanting hN hag ?_
  refine R_aload_n r_74_7 rfl (by decide) ?_
  refine R_getf r_74_8 (by decide) hN.1 rfl ?_
  refine R_call3 r_74_11 rfl (sm_rv1 rfl rfl hN.1) (Nat.le_of_ble_eq_true rfl) (Nat.le_of_ble_eq_true rfl) ?_
  refine c_leavingOf hN (Nat.lt_trans (wnt_lt _ _ _ _ _) (by decide)) (by omega) ?_
  refine R_iret r_74_14 (ty := .int) rfl rfl (by decide) ?_
  exact hQ
