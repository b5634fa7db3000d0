/-! what was seen; the text's cells; the class's whole state -/
section RCH
variable {xs : List Int32} {d j pc : Nat} {L : sm_L} {st : List Value} {wd : sm_W} {Q : Option Value → sm_W → Prop} {a b c : Nat}
theorem R_i2cN {x : Nat} (h : sm_ic j pc = some (.i2c, a, b, c)) (hx : x < 65536) (k : RT xs d j (pc + 1) L (.int (nI x) :: st) wd Q) : RT xs d j pc L (.int (nI x) :: st) wd Q := R_i2c h (by rw [pk_char, pk_tn (by omega), Nat.mod_eq_of_lt hx]; exact k)
theorem R_castN {k0 i x : Nat} {l : List Int32} (h : sm_ic j pc = some (.castore, a, b, c)) (hw : wd[k0]? = some (.inl (1, l))) (hi : i < l.length) (hl : l.length < 2147483648) (hx : x < 65536) (k : RT xs d j (pc + 1) L st (wd.set k0 (.inl (1, l.set i (nI x)))) Q) : RT xs d j pc L (.int (nI x) :: .int (nI i) :: .ref k0 :: st) wd Q := R_cast h hw (sm_inN hi hl) (y := nI x) (by unfold vp_nar; rw [(pk_charN hx).1]) (by rw [nI_clamp (by omega)]; exact k)
end RCH
def isS (wd : sm_W) (sn : List (Nat × Nat)) : Prop := ∃ l1 l2 : List Int32, wd[19]? = some (.inr (.inr (6, [.ref 20, .ref 21, .int (nI sn.length)]))) ∧ wd[20]? = some (.inl (0, l1)) ∧ wd[21]? = some (.inl (0, l2)) ∧ l1.length = 8 ∧ l2.length = 8 ∧ sn.length ≤ 8 ∧ ∀ t, t < sn.length → l1[t]? = some (nI (sn.getD t (0, 0)).1) ∧ l2[t]? = some (nI (sn.getD t (0, 0)).2)
def isT (wd : sm_W) (tx : List Nat) : Prop := ∃ l : List Int32, wd[1]? = some (.inr (.inr (5, [.ref 2, .int (nI tx.length)]))) ∧ wd[2]? = some (.inl (1, l)) ∧ l.length = 200 ∧ tx.length ≤ 200 ∧ (∀ t, t < tx.length → l[t]? = some (nI (tx.getD t 0))) ∧ ∀ t, tx.getD t 0 < 127
theorem app_get {α : Type} {l : List α} {a z : α} {t : Nat} (h : t < l.length + 1) : (l ++ [a]).getD t z = if t = l.length then a else l.getD t z := by
  by_cases e : t = l.length
  · subst e
    rw [if_pos rfl, List.getD_eq_getElem?_getD, List.getElem?_append_right (Nat.le_refl _)]
    simp
  · rw [if_neg e, List.getD_eq_getElem?_getD, List.getElem?_append_left (by omega), ← List.getD_eq_getElem?_getD]
theorem isP_of {wd w2 : sm_W} {p cap : Nat} {ws : List Nat} (h : isP wd p cap ws) (h1 : w2[p]? = wd[p]?) (h2 : w2[p + 1]? = wd[p + 1]?) : isP w2 p cap ws := by
  obtain ⟨l, a1, a2, a3⟩ := h
  exact ⟨l, h1.trans a1, h2.trans a2, a3⟩
theorem isS_of {wd w2 : sm_W} {sn : List (Nat × Nat)} (h : isS wd sn) (h1 : w2[19]? = wd[19]?) (h2 : w2[20]? = wd[20]?) (h3 : w2[21]? = wd[21]?) : isS w2 sn := by
  obtain ⟨l, l2, a1, a2, a3, a4⟩ := h
  exact ⟨l, l2, h1.trans a1, h2.trans a2, h3.trans a3, a4⟩
theorem isT_of {wd w2 : sm_W} {tx : List Nat} (h : isT wd tx) (h1 : w2[1]? = wd[1]?) (h2 : w2[2]? = wd[2]?) : isT w2 tx := by
  obtain ⟨l, a1, a2, a3⟩ := h
  exact ⟨l, h1.trans a1, h2.trans a2, a3⟩
theorem isI_of {wd w2 : sm_W} {a : Nat} {I : sm_Is} (h : isI wd a I) (h1 : ∀ k, a ≤ k → k ≤ a + 3 → w2[k]? = wd[k]?) : isI w2 a I := ⟨(h1 a (by omega) (by omega)).trans h.1, (h1 _ (by omega) (by omega)).trans h.2.1, (h1 _ (by omega) (by omega)).trans h.2.2.1, (h1 _ (by omega) (by omega)).trans h.2.2.2.1, h.2.2.2.2⟩
theorem isN0_of {wd w2 : sm_W} (h : isN0 wd) (h1 : w2[13]? = wd[13]?) (h2 : w2[14]? = wd[14]?) : isN0 w2 := by
  obtain ⟨v1, v2, v3, v4, l, a1, a2, a3⟩ := h
  exact ⟨v1, v2, v3, v4, l, h1.trans a1, h2.trans a2, a3⟩
/-- the scratch: the item and the draft -/
def isD (wd : sm_W) : Prop := ∃ (b1 b2 a1 a2 a3 a4 a5 a6 : Int32) (a7 : Int64) (l0 l1 l2 l3 : List Int32), wd[3]? = some (.inr (.inr (2, [.ref 4, .int b1, .int b2]))) ∧ wd[4]? = some (.inl (0, l0)) ∧ l0.length = 4 ∧ wd[5]? = some (.inr (.inr (1, [.ref 6, .ref 7, .ref 8, .int a1, .int a2, .int a3, .int a4, .int a5, .int a6, .long a7]))) ∧ wd[6]? = some (.inl (0, l1)) ∧ wd[7]? = some (.inl (0, l2)) ∧ wd[8]? = some (.inl (0, l3)) ∧ l1.length = 8 ∧ l2.length = 8 ∧ l3.length = 5
theorem isD_of {wd w2 : sm_W} (h : isD wd) (h1 : ∀ k, 3 ≤ k → k ≤ 8 → w2[k]? = wd[k]?) : isD w2 := by
  obtain ⟨b1, b2, a1, a2, a3, a4, a5, a6, a7, l0, l1, l2, l3, e3, e4, e0, e5, e6, e7, e8, e9⟩ := h
  exact ⟨b1, b2, a1, a2, a3, a4, a5, a6, a7, l0, l1, l2, l3, (h1 3 (by decide) (by decide)).trans e3, (h1 4 (by decide) (by decide)).trans e4, e0, (h1 5 (by decide) (by decide)).trans e5, (h1 6 (by decide) (by decide)).trans e6, (h1 7 (by decide) (by decide)).trans e7, (h1 8 (by decide) (by decide)).trans e8, e9⟩
/-- the class's state: text, island, standing, what can be undone, kept, was seen -/
def cX (wd : sm_W) (tx : List Nat) (I : sm_Is) (w : Nat) (pa sh : List Nat) (sn : List (Nat × Nat)) : Prop := isV wd I w ∧ isP wd 15 8 pa ∧ isP wd 17 2 sh ∧ isS wd sn ∧ isT wd tx ∧ isD wd
section CXS
variable {wd w2 : sm_W} {tx : List Nat} {I : sm_Is} {w : Nat} {pa sh : List Nat} {sn : List (Nat × Nat)}
theorem cX.night (h : cX wd tx I w pa sh sn) (hW : iWF I) (I2 : sm_Is) (n2 : Nat) (hW2 : iWF I2) : cX (nightSet wd I2 n2) tx I w pa sh sn ∧ frm 13 14 wd (nightSet wd I2 n2) := by
  have hf : frm 13 14 wd (nightSet wd I2 n2) := (frm.rf.st (by decide)).st (by decide)
  exact ⟨⟨nightSet_isV hW2 h.1, isP_of h.2.1 (hf _ (by decide)) (hf _ (by decide)), isP_of h.2.2.1 (hf _ (by decide)) (hf _ (by decide)), isS_of h.2.2.2.1 (hf _ (by decide)) (hf _ (by decide)) (hf _ (by decide)), isT_of h.2.2.2.2.1 (hf _ (by decide)) (hf _ (by decide)), isD_of h.2.2.2.2.2 (fun k h1 h2 => hf _ (by omega))⟩, hf⟩
theorem cX.past {pa2 : List Nat} (h : cX wd tx I w pa sh sn) (h2 : isP w2 15 8 pa2) (hf : frm 15 16 wd w2) : cX w2 tx I w pa2 sh sn :=
  ⟨⟨(hf _ (by decide)).trans h.1.1, isI_of h.1.2.1 (fun k h1 h2 => hf _ (by omega)), isN0_of h.1.2.2 (hf _ (by decide)) (hf _ (by decide))⟩, h2, isP_of h.2.2.1 (hf _ (by decide)) (hf _ (by decide)), isS_of h.2.2.2.1 (hf _ (by decide)) (hf _ (by decide)) (hf _ (by decide)), isT_of h.2.2.2.2.1 (hf _ (by decide)) (hf _ (by decide)), isD_of h.2.2.2.2.2 (fun k h1 h2 => hf _ (by omega))⟩
theorem cX.shelf {sh2 : List Nat} (h : cX wd tx I w pa sh sn) (h2 : isP w2 17 2 sh2) (hf : frm 17 18 wd w2) : cX w2 tx I w pa sh2 sn :=
  ⟨⟨(hf _ (by decide)).trans h.1.1, isI_of h.1.2.1 (fun k h1 h2 => hf _ (by omega)), isN0_of h.1.2.2 (hf _ (by decide)) (hf _ (by decide))⟩, isP_of h.2.1 (hf _ (by decide)) (hf _ (by decide)), h2, isS_of h.2.2.2.1 (hf _ (by decide)) (hf _ (by decide)) (hf _ (by decide)), isT_of h.2.2.2.2.1 (hf _ (by decide)) (hf _ (by decide)), isD_of h.2.2.2.2.2 (fun k h1 h2 => hf _ (by omega))⟩
theorem cX.seen {sn2 : List (Nat × Nat)} (h : cX wd tx I w pa sh sn) (h2 : isS w2 sn2) (hf : frm 19 21 wd w2) : cX w2 tx I w pa sh sn2 :=
  ⟨⟨(hf _ (by decide)).trans h.1.1, isI_of h.1.2.1 (fun k h1 h2 => hf _ (by omega)), isN0_of h.1.2.2 (hf _ (by decide)) (hf _ (by decide))⟩, isP_of h.2.1 (hf _ (by decide)) (hf _ (by decide)), isP_of h.2.2.1 (hf _ (by decide)) (hf _ (by decide)), h2, isT_of h.2.2.2.2.1 (hf _ (by decide)) (hf _ (by decide)), isD_of h.2.2.2.2.2 (fun k h1 h2 => hf _ (by omega))⟩
theorem cX.text {tx2 : List Nat} (h : cX wd tx I w pa sh sn) (h2 : isT w2 tx2) (hf : frm 1 2 wd w2) : cX w2 tx2 I w pa sh sn :=
  ⟨⟨(hf _ (by decide)).trans h.1.1, isI_of h.1.2.1 (fun k h1 h2 => hf _ (by omega)), isN0_of h.1.2.2 (hf _ (by decide)) (hf _ (by decide))⟩, isP_of h.2.1 (hf _ (by decide)) (hf _ (by decide)), isP_of h.2.2.1 (hf _ (by decide)) (hf _ (by decide)), isS_of h.2.2.2.1 (hf _ (by decide)) (hf _ (by decide)) (hf _ (by decide)), h2, isD_of h.2.2.2.2.2 (fun k h1 h2 => hf _ (by omega))⟩
theorem cX.stand {n2 : Nat} (h : cX wd tx I w pa sh sn) : cX (wd.set 0 (lvO n2)) tx I n2 pa sh sn ∧ frm 0 0 wd (wd.set 0 (lvO n2)) := by
  have hf : frm 0 0 wd (wd.set 0 (lvO n2)) := frm.rf.st (by decide)
  exact ⟨⟨⟨sm_gs h.1.1, isI_of h.1.2.1 (fun k h1 h2 => hf _ (by omega)), isN0_of h.1.2.2 (hf _ (by decide)) (hf _ (by decide))⟩, isP_of h.2.1 (hf _ (by decide)) (hf _ (by decide)), isP_of h.2.2.1 (hf _ (by decide)) (hf _ (by decide)), isS_of h.2.2.2.1 (hf _ (by decide)) (hf _ (by decide)) (hf _ (by decide)), isT_of h.2.2.2.2.1 (hf _ (by decide)) (hf _ (by decide)), isD_of h.2.2.2.2.2 (fun k h1 h2 => hf _ (by omega))⟩, hf⟩
end CXS
theorem c_sadd {xs : List Int32} {d : Nat} {wd : sm_W} {Q : Option Value → sm_W → Prop} {sn : List (Nat × Nat)} (hS : isS wd sn) {q n : Nat} (hF : sn.length = 8 → Q (some (.int (b2i false))) wd) (hQ : sn.length < 8 → ∀ w2, isS w2 (sn ++ [(q, n)]) → frm 19 21 wd w2 → Q (some (.int (b2i true))) w2) : Ct xs (d) 108 [.ref 19, .int (nI q), .int (nI n)] wd Q := by
  unfold Ct
  show RT xs (d) 108 0 [some (.ref 19), some (.int (nI q)), some (.int (nI n))] [] wd Q
  obtain ⟨l1, l2, h1, h2, h3, hc1, hc2, hle, hall⟩ := hS
  refine R_aload_n r_108_0 rfl (by decide) ?_
  refine R_getf r_108_1 (by decide) h1 rfl ?_
  refine R_if_lt_N r_108_4 (by decide) (by omega) ?_
  refine R_aload_n r_108_7 rfl (by decide) ?_
  refine R_getf r_108_8 (by decide) h1 rfl ?_
  refine R_aload_n r_108_11 rfl (by decide) ?_
  refine R_getf r_108_12 (by decide) h1 rfl ?_
  refine R_alenIm r_108_15 ⟨(by decide), (by decide)⟩ h2 (m := 8) hc1 ?_
  refine R_icmp_ge_N r_108_16 (by decide) (by omega) (by omega) (fun h_1 => ?_) (fun h_1 => ?_)
  · refine R_iconst r_108_31 (v := nI 0) rfl ?_
    refine R_iret r_108_32 (ty := .boolean) rfl (by decide) (by decide) ?_
    exact hF (by omega)
  · refine R_aload_n r_108_19 rfl (by decide) ?_
    refine R_getf r_108_20 (by decide) h1 rfl ?_
    refine R_aload_n r_108_23 rfl (by decide) ?_
    refine R_getf r_108_24 (by decide) h1 rfl ?_
    refine R_alenIm r_108_27 ⟨(by decide), (by decide)⟩ h3 (m := 8) hc2 ?_
    refine R_icmp_lt_N r_108_28 (by decide) (by omega) (by omega) (fun h_2 => ?_) (fun h_2 => ?_)
    · refine R_aload_n r_108_33 rfl (by decide) ?_
      refine R_getf r_108_34 (by decide) h1 rfl ?_
      refine R_aload_n r_108_37 rfl (by decide) ?_
      refine R_getf r_108_38 (by decide) h1 rfl ?_
      refine R_iload_n r_108_41 rfl ?_
      refine R_iastN r_108_42 h2 (by omega) (by omega) ?_
      refine R_aload_n r_108_43 rfl (by decide) ?_
      refine R_getf r_108_44 (by decide) (sm_gn (by decide) h1) rfl ?_
      refine R_aload_n r_108_47 rfl (by decide) ?_
      refine R_getf r_108_48 (by decide) (sm_gn (by decide) h1) rfl ?_
      refine R_iload_n r_108_51 rfl ?_
      refine R_iastN r_108_52 (sm_gn (by decide) h3) (by omega) (by omega) ?_
      refine R_aload_n r_108_53 rfl (by decide) ?_
      refine R_dup r_108_54 rfl ?_
      refine R_getf r_108_55 (by decide) (sm_gn (by decide) (sm_gn (by decide) h1)) rfl ?_
      refine R_iconst r_108_58 (v := nI 1) rfl ?_
      refine R_iaddN r_108_59 ?_
      refine R_putf r_108_60 (sm_gn (by decide) (sm_gn (by decide) h1)) (Nat.le_of_ble_eq_true rfl) rfl rfl ?_
      refine R_iconst r_108_63 (v := nI 1) rfl ?_
      refine R_iret r_108_64 (ty := .boolean) rfl (by decide) (by decide) ?_
      have hlt : sn.length < 8 := by omega
      refine hQ hlt _ ⟨l1.set sn.length (nI q), l2.set sn.length (nI n), ?_, ?_, ?_, by rw [List.length_set]; exact hc1, by rw [List.length_set]; exact hc2, by simp; omega, ?_⟩ (((frm.rf.st (by decide)).st (by decide)).st (by decide))
      · rw [List.length_append]; exact sm_gs (sm_gn (by decide) (sm_gn (by decide) h1))
      · exact sm_gn (by decide) (sm_gn (by decide) (sm_gs h2))
      · exact sm_gn (by decide) (sm_gs (sm_gn (by decide) h3))
      · intro t ht
        have ht2 : t < sn.length + 1 := by simpa using ht
        rw [app_get ht2]
        by_cases e : t = sn.length
        · rw [if_pos e]; subst e; exact ⟨List.getElem?_set_self (by omega), List.getElem?_set_self (by omega)⟩
        · rw [if_neg e, List.getElem?_set_ne (Ne.symm e), List.getElem?_set_ne (Ne.symm e)]; exact hall t (by omega)
    · refine R_iconst r_108_31 (v := nI 0) rfl ?_
      refine R_iret r_108_32 (ty := .boolean) rfl (by decide) (by decide) ?_
      exact hF (by omega)
theorem c_ssize {xs : List Int32} {d : Nat} {wd : sm_W} {Q : Option Value → sm_W → Prop} {sn : List (Nat × Nat)} (hS : isS wd sn) (hQ : Q (some (.int (nI sn.length))) wd) : Ct xs (d) 109 [.ref 19] wd Q := by
  unfold Ct
  show RT xs (d) 109 0 [some (.ref 19)] [] wd Q
  obtain ⟨l1, l2, h1, h2, h3, hc1, hc2, hle, hall⟩ := hS
  refine R_aload_n r_109_0 rfl (by decide) ?_
  refine R_getf r_109_1 (by decide) h1 rfl ?_
  refine R_iret r_109_4 (ty := .int) rfl rfl (by decide) ?_
  exact hQ
theorem c_sclear {xs : List Int32} {d : Nat} {wd : sm_W} {Q : Option Value → sm_W → Prop} {sn : List (Nat × Nat)} (hS : isS wd sn) (hQ : ∀ w2, isS w2 [] → frm 19 21 wd w2 → Q none w2) : Ct xs (d) 52 [.ref 19] wd Q := by
  unfold Ct
  show RT xs (d) 52 0 [some (.ref 19)] [] wd Q
  obtain ⟨l1, l2, h1, h2, h3, hc1, hc2, hle, hall⟩ := hS
  refine R_aload_n r_52_0 rfl (by decide) ?_
  refine R_iconst r_52_1 (v := nI 0) rfl ?_
  refine R_putf r_52_2 h1 (Nat.le_of_ble_eq_true rfl) rfl rfl ?_
  refine R_vret r_52_5 rfl ?_
  exact hQ _ ⟨l1, l2, sm_gs h1, sm_gn (by decide) h2, sm_gn (by decide) h3, hc1, hc2, Nat.zero_le _, fun t ht => absurd ht (Nat.not_lt_zero t)⟩ (frm.rf.st (by decide))
theorem c_squestion {xs : List Int32} {d : Nat} {wd : sm_W} {Q : Option Value → sm_W → Prop} {sn : List (Nat × Nat)} (hS : isS wd sn) {t : Nat} (ht : t < sn.length) (hQ : Q (some (.int (nI (sn.getD t (0, 0)).1))) wd) : Ct xs (d) 113 [.ref 19, .int (nI t)] wd Q := by
  unfold Ct
  show RT xs (d) 113 0 [some (.ref 19), some (.int (nI t))] [] wd Q
  obtain ⟨l1, l2, h1, h2, h3, hc1, hc2, hle, hall⟩ := hS
  refine R_iload_n r_113_0 rfl ?_
  refine R_if_lt_N r_113_1 (by decide) (by omega) ?_
  refine R_iload_n r_113_4 rfl ?_
  refine R_aload_n r_113_5 rfl (by decide) ?_
  refine R_getf r_113_6 (by decide) h1 rfl ?_
  refine R_alenIm r_113_9 ⟨(by decide), (by decide)⟩ h2 (m := 8) hc1 ?_
  refine R_icmp_ge_N r_113_10 (by decide) (by omega) (by omega) (fun h_1 => ?_) (fun h_1 => ?_)
  · exfalso; omega
  · refine R_aload_n r_113_13 rfl (by decide) ?_
    refine R_getf r_113_14 (by decide) h1 rfl ?_
    refine R_iload_n r_113_17 rfl ?_
    refine R_iald r_113_18 (by decide) h2 ((sm_ixN (by omega)).trans (hall t ht).1) ?_
    refine R_goto r_113_19 (by decide) ?_
    refine R_iret r_113_23 (ty := .int) rfl rfl (by decide) ?_
    exact hQ
theorem c_snumber {xs : List Int32} {d : Nat} {wd : sm_W} {Q : Option Value → sm_W → Prop} {sn : List (Nat × Nat)} (hS : isS wd sn) {t : Nat} (ht : t < sn.length) (hQ : Q (some (.int (nI (sn.getD t (0, 0)).2))) wd) : Ct xs (d) 114 [.ref 19, .int (nI t)] wd Q := by
  unfold Ct
  show RT xs (d) 114 0 [some (.ref 19), some (.int (nI t))] [] wd Q
  obtain ⟨l1, l2, h1, h2, h3, hc1, hc2, hle, hall⟩ := hS
  refine R_iload_n r_114_0 rfl ?_
  refine R_if_lt_N r_114_1 (by decide) (by omega) ?_
  refine R_iload_n r_114_4 rfl ?_
  refine R_aload_n r_114_5 rfl (by decide) ?_
  refine R_getf r_114_6 (by decide) h1 rfl ?_
  refine R_alenIm r_114_9 ⟨(by decide), (by decide)⟩ h3 (m := 8) hc2 ?_
  refine R_icmp_ge_N r_114_10 (by decide) (by omega) (by omega) (fun h_1 => ?_) (fun h_1 => ?_)
  · exfalso; omega
  · refine R_aload_n r_114_13 rfl (by decide) ?_
    refine R_getf r_114_14 (by decide) h1 rfl ?_
    refine R_iload_n r_114_17 rfl ?_
    refine R_iald r_114_18 (by decide) h3 ((sm_ixN (by omega)).trans (hall t ht).2) ?_
    refine R_goto r_114_19 (by decide) ?_
    refine R_iret r_114_23 (ty := .int) rfl rfl (by decide) ?_
    exact hQ
theorem c_append {xs : List Int32} {d : Nat} {wd : sm_W} {Q : Option Value → sm_W → Prop} {tx : List Nat} (hT : isT wd tx) {ch : Nat} (hch : ch < 127) (hF : tx.length = 200 → Q (some (.int (b2i false))) wd) (hQ : tx.length < 200 → ∀ w2, isT w2 (tx ++ [ch]) → frm 1 2 wd w2 → Q (some (.int (b2i true))) w2) : Ct xs (d) 15 [.ref 1, .int (nI ch)] wd Q := by
  unfold Ct
  show RT xs (d) 15 0 [some (.ref 1), some (.int (nI ch))] [] wd Q
  obtain ⟨l, h1, h2, hc, hle, hall, hbd⟩ := hT
  refine R_aload_n r_15_0 rfl (by decide) ?_
  refine R_getf r_15_1 (by decide) h1 rfl ?_
  refine R_if_lt_N r_15_4 (by decide) (by omega) ?_
  refine R_aload_n r_15_7 rfl (by decide) ?_
  refine R_getf r_15_8 (by decide) h1 rfl ?_
  refine R_aload_n r_15_11 rfl (by decide) ?_
  refine R_getf r_15_12 (by decide) h1 rfl ?_
  refine R_alenIm r_15_15 ⟨(by decide), (by decide)⟩ h2 (m := 200) hc ?_
  refine R_icmp_lt_N r_15_16 (by decide) (by omega) (by omega) (fun h_1 => ?_) (fun h_1 => ?_)
  · refine R_aload_n r_15_21 rfl (by decide) ?_
    refine R_getf r_15_22 (by decide) h1 rfl ?_
    refine R_aload_n r_15_25 rfl (by decide) ?_
    refine R_getf r_15_26 (by decide) h1 rfl ?_
    refine R_iload_n r_15_29 rfl ?_
    refine R_i2cN r_15_30 (by omega) ?_
    refine R_castN r_15_31 h2 (by omega) (by omega) (by omega) ?_
    refine R_aload_n r_15_32 rfl (by decide) ?_
    refine R_dup r_15_33 rfl ?_
    refine R_getf r_15_34 (by decide) (sm_gn (by decide) h1) rfl ?_
    refine R_iconst r_15_37 (v := nI 1) rfl ?_
    refine R_iaddN r_15_38 ?_
    refine R_putf r_15_39 (sm_gn (by decide) h1) (Nat.le_of_ble_eq_true rfl) rfl rfl ?_
    refine R_iconst r_15_42 (v := nI 1) rfl ?_
    refine R_iret r_15_43 (ty := .boolean) rfl (by decide) (by decide) ?_
    have hlt : tx.length < 200 := by omega
    refine hQ hlt _ ⟨l.set tx.length (nI ch), ?_, ?_, by rw [List.length_set]; exact hc, by simp; omega, ?_, ?_⟩ ((frm.rf.st (by decide)).st (by decide))
    · rw [List.length_append]; exact sm_gs (sm_gn (by decide) h1)
    · exact sm_gn (by decide) (sm_gs h2)
    · intro t ht
      have ht2 : t < tx.length + 1 := by simpa using ht
      rw [app_get ht2]
      by_cases e : t = tx.length
      · rw [if_pos e]; subst e; exact List.getElem?_set_self (by omega)
      · rw [if_neg e, List.getElem?_set_ne (Ne.symm e)]; exact hall t (by omega)
    · intro t
      by_cases ht2 : t < tx.length + 1
      · rw [app_get ht2]; split; exact hch; exact hbd t
      · rw [List.getD_eq_getElem?_getD, List.getElem?_eq_none (by simp; omega)]; decide
  · refine R_iconst r_15_19 (v := nI 0) rfl ?_
    refine R_iret r_15_20 (ty := .boolean) rfl (by decide) (by decide) ?_
    exact hF (by omega)
theorem c_tlength {xs : List Int32} {d : Nat} {wd : sm_W} {Q : Option Value → sm_W → Prop} {tx : List Nat} (hT : isT wd tx) (hQ : Q (some (.int (nI tx.length))) wd) : Ct xs (d) 20 [.ref 1] wd Q := by
  unfold Ct
  show RT xs (d) 20 0 [some (.ref 1)] [] wd Q
  obtain ⟨l, h1, h2, hc, hle, hall, hbd⟩ := hT
  refine R_aload_n r_20_0 rfl (by decide) ?_
  refine R_getf r_20_1 (by decide) h1 rfl ?_
  refine R_iret r_20_4 (ty := .int) rfl rfl (by decide) ?_
  exact hQ
theorem c_tclear {xs : List Int32} {d : Nat} {wd : sm_W} {Q : Option Value → sm_W → Prop} {tx : List Nat} (hT : isT wd tx) (hQ : ∀ w2, isT w2 [] → frm 1 2 wd w2 → Q none w2) : Ct xs (d) 43 [.ref 1] wd Q := by
  unfold Ct
  show RT xs (d) 43 0 [some (.ref 1)] [] wd Q
  obtain ⟨l, h1, h2, hc, hle, hall, hbd⟩ := hT
  refine R_aload_n r_43_0 rfl (by decide) ?_
  refine R_iconst r_43_1 (v := nI 0) rfl ?_
  refine R_putf r_43_2 h1 (Nat.le_of_ble_eq_true rfl) rfl rfl ?_
  refine R_vret r_43_5 rfl ?_
  exact hQ _ ⟨l, sm_gs h1, sm_gn (by decide) h2, hc, Nat.zero_le _, fun t ht => absurd ht (Nat.not_lt_zero t), fun t => by simp⟩ (frm.rf.st (by decide))
