/-! piles of standings; what was seen; the text's writing side -/
def isP (wd : sm_W) (p cap : Nat) (ws : List Nat) : Prop := ∃ l : List Int64, wd[p]? = some (.inr (.inr (4, [.ref (p + 1), .int (nI ws.length)]))) ∧ wd[p + 1]? = some (.inr (.inl l)) ∧ l.length = cap ∧ ws.length ≤ cap ∧ ∀ t, t < ws.length → l[t]? = some (lN (ws.getD t 0))
def frm (a b : Nat) (wd w2 : sm_W) : Prop := ∀ k, (k < a ∨ b < k) → w2[k]? = wd[k]?
theorem frm.rf {a b : Nat} {wd : sm_W} : frm a b wd wd := fun _ _ => rfl
theorem frm.tr {a b : Nat} {w1 w2 w3 : sm_W} (h : frm a b w1 w2) (h2 : frm a b w2 w3) : frm a b w1 w3 := fun k hk => (h2 k hk).trans (h k hk)
theorem frm.st {a b k : Nat} {w1 w2 : sm_W} {e : sm_E} (h : frm a b w1 w2) (hk : a ≤ k ∧ k ≤ b) : frm a b w1 (w2.set k e) := fun i hi => by rw [List.getElem?_set_ne (by omega)]; exact h i hi
theorem frm.wide {a b a2 b2 : Nat} {w1 w2 : sm_W} (h : frm a b w1 w2) (ha : a2 ≤ a) (hb : b ≤ b2) : frm a2 b2 w1 w2 := fun k hk => h k (by omega)
def pushW (cap : Nat) (ws : List Nat) (s : Nat) : List Nat := (if cap ≤ ws.length then ws.drop 1 else ws) ++ [s]
theorem drop_step {α : Type} {l l1 : List α} {i : Nat} {x : α} (hi : 1 ≤ i) (hl : i < l1.length) (h1 : ∀ t, t + 1 < i → l1[t]? = l[t + 1]?) (h2 : ∀ t, i ≤ t → l1[t]? = l[t]?) (hx : l1[i]? = some x) : (∀ t, t + 1 < i + 1 → (l1.set (i - 1) x)[t]? = l[t + 1]?) ∧ (∀ t, i + 1 ≤ t → (l1.set (i - 1) x)[t]? = l[t]?) := by
  refine ⟨fun t ht => ?_, fun t ht => ?_⟩
  · by_cases e : t = i - 1
    · subst e
      rw [List.getElem?_set_self (by omega), ← hx, h2 i (Nat.le_refl i), show i - 1 + 1 = i by omega]
    · rw [List.getElem?_set_ne (Ne.symm e)]
      exact h1 t (by omega)
  · rw [List.getElem?_set_ne (by omega)]
    exact h2 t (by omega)
theorem lp_drop15 {xs : List Int32} {d : Nat} {wd : sm_W} {Q : Option Value → sm_W → Prop} {v0 : Value} {l : List Int64} (h1 : wd[15]? = some (.inr (.inr (4, [.ref 16, v0])))) (h2 : wd[16]? = some (.inr (.inl l))) (hQ : ∀ l1 : List Int64, l1.length = 8 → (∀ t, t + 1 < 8 → l1[t]? = l[t + 1]?) → Q none ((wd.set 16 (.inr (.inl l1))).set 15 (.inr (.inr (4, [.ref 16, .int (nI 7)]))))) : ∀ (k : Nat) (i : Nat) (l1 : List Int64), (i + k = 8) → (1 ≤ i) → (l1.length = 8) → (∀ t, t + 1 < i → l1[t]? = l[t + 1]?) → (∀ t, i ≤ t → l1[t]? = l[t]?) → RT xs (d + 1) 91 2 [some (.ref 15), some (.int (nI i))] [] (wd.set 16 (.inr (.inl l1))) Q := by
  intro k
  induction k with
  | zero =>
    intro i l1 hk hi1 hc hA hB
    refine R_iload_n r_91_2 rfl ?_
    refine R_aload_n r_91_3 rfl (by decide) ?_
    refine R_getf r_91_4 (by decide) (sm_gn (by decide) h1) rfl ?_
    refine R_alenLm r_91_7 ⟨(by decide), (by decide)⟩ (sm_gs h2) (m := 8) hc ?_
    refine R_icmp_ge_N r_91_8 (by decide) (by omega) (by omega) (fun h_1 => ?_) (fun h_1 => ?_)
    · refine R_aload_n r_91_31 rfl (by decide) ?_
      refine R_aload_n r_91_32 rfl (by decide) ?_
      refine R_getf r_91_33 (by decide) (sm_gn (by decide) h1) rfl ?_
      refine R_alenLm r_91_36 ⟨(by decide), (by decide)⟩ (sm_gs h2) (m := 8) hc ?_
      refine R_iconst r_91_37 (v := nI 1) rfl ?_
      refine R_isubN r_91_38 (by omega) ?_
      refine R_iconst r_91_39 (v := nI 0) rfl ?_
      refine R_maxN r_91_40 (by omega) (Nat.le_of_ble_eq_true rfl) (by omega) (by omega) ?_
      refine R_putf r_91_43 (sm_gn (by decide) h1) (Nat.le_of_ble_eq_true rfl) rfl rfl ?_
      refine R_vret r_91_46 rfl ?_
      exact hQ l1 hc (fun t ht => hA t (by omega))
    · exfalso; omega
  | succ k ih =>
    intro i l1 hk hi1 hc hA hB
    obtain ⟨x, hx⟩ : ∃ x, l1[i]? = some x := by
      by_cases hz : i < l1.length
      · exact ⟨_, List.getElem?_eq_getElem hz⟩
      · exact absurd hk (by omega)
    refine R_iload_n r_91_2 rfl ?_
    refine R_aload_n r_91_3 rfl (by decide) ?_
    refine R_getf r_91_4 (by decide) (sm_gn (by decide) h1) rfl ?_
    refine R_alenLm r_91_7 ⟨(by decide), (by decide)⟩ (sm_gs h2) (m := 8) hc ?_
    refine R_icmp_ge_N r_91_8 (by decide) (by omega) (by omega) (fun h_1 => ?_) (fun h_1 => ?_)
    · exfalso; omega
    · refine R_aload_n r_91_11 rfl (by decide) ?_
      refine R_getf r_91_12 (by decide) (sm_gn (by decide) h1) rfl ?_
      refine R_iload_n r_91_15 rfl ?_
      refine R_iconst r_91_16 (v := nI 1) rfl ?_
      refine R_isubN r_91_17 (by omega) ?_
      refine R_aload_n r_91_18 rfl (by decide) ?_
      refine R_getf r_91_19 (by decide) (sm_gn (by decide) h1) rfl ?_
      refine R_iload_n r_91_22 rfl ?_
      refine R_lald r_91_23 (sm_gs h2) ((sm_ixN (by omega)).trans hx) ?_
      refine R_lastN r_91_24 (sm_gs h2) (by omega) (by omega) ?_
      refine R_iinc1 r_91_25 rfl rfl ?_
      refine R_goto r_91_28 (by decide) ?_
      rw [List.set_set]
      have hd := drop_step hi1 (by omega) hA hB hx
      exact ih (i + 1) _ (by omega) (by omega) (by rw [List.length_set]; exact hc) hd.1 hd.2
theorem c_drop15 {xs : List Int32} {d : Nat} {wd : sm_W} {Q : Option Value → sm_W → Prop} {v0 : Value} {l : List Int64} (h1 : wd[15]? = some (.inr (.inr (4, [.ref 16, v0])))) (h2 : wd[16]? = some (.inr (.inl l))) (hc : l.length = 8) (hQ : ∀ l1 : List Int64, l1.length = 8 → (∀ t, t + 1 < 8 → l1[t]? = l[t + 1]?) → Q none ((wd.set 16 (.inr (.inl l1))).set 15 (.inr (.inr (4, [.ref 16, .int (nI 7)]))))) : Ct xs (d + 1) 91 [.ref 15] wd Q := by
  unfold Ct
  show RT xs (d + 1) 91 0 [some (.ref 15), none] [] wd Q
  refine R_iconst r_91_0 (v := nI 1) rfl ?_
  refine R_istore_n r_91_1 rfl ?_
  have hh := lp_drop15 (xs := xs) (d := d) h1 h2 hQ 7 1 l (by decide) (by decide) hc (fun t ht => by omega) (fun t _ => rfl)
  rw [sm_set_id h2] at hh
  exact hh
theorem c_put15 {xs : List Int32} {d : Nat} {wd : sm_W} {Q : Option Value → sm_W → Prop} {ws : List Nat} {s : Nat} (hP : isP wd 15 8 ws) (hQ : ∀ w2, isP w2 15 8 (pushW 8 ws s) → frm 15 16 wd w2 → Q none w2) : Ct xs (d + 2) 90 [.ref 15, .long (lN s)] wd Q := by
  unfold Ct
  show RT xs (d + 2) 90 0 [some (.ref 15), some (.long (lN s)), none] [] wd Q
  obtain ⟨l, h1, h2, hc, hle, hall⟩ := hP
  refine R_aload_n r_90_0 rfl (by decide) ?_
  refine R_getf r_90_1 (by decide) h1 rfl ?_
  refine R_aload_n r_90_4 rfl (by decide) ?_
  refine R_getf r_90_5 (by decide) h1 rfl ?_
  refine R_alenLm r_90_8 ⟨(by decide), (by decide)⟩ h2 (m := 8) hc ?_
  refine R_icmp_lt_N r_90_9 (by decide) (by omega) (by omega) (fun h_1 => ?_) (fun h_1 => ?_)
  · refine R_aload_n r_90_16 rfl (by decide) ?_
    refine R_getf r_90_17 (by decide) h1 rfl ?_
    refine R_if_lt_N r_90_20 (by decide) (by omega) ?_
    refine R_aload_n r_90_23 rfl (by decide) ?_
    refine R_getf r_90_24 (by decide) h1 rfl ?_
    refine R_aload_n r_90_27 rfl (by decide) ?_
    refine R_getf r_90_28 (by decide) h1 rfl ?_
    refine R_alenLm r_90_31 ⟨(by decide), (by decide)⟩ h2 (m := 8) hc ?_
    refine R_icmp_ge_N r_90_32 (by decide) (by omega) (by omega) (fun h_2 => ?_) (fun h_2 => ?_)
    · exfalso; omega
    · refine R_aload_n r_90_35 rfl (by decide) ?_
      refine R_getf r_90_36 (by decide) h1 rfl ?_
      refine R_aload_n r_90_39 rfl (by decide) ?_
      refine R_getf r_90_40 (by decide) h1 rfl ?_
      refine R_lload_n r_90_43 rfl ?_
      refine R_lastN r_90_44 h2 (by omega) (by omega) ?_
      refine R_aload_n r_90_45 rfl (by decide) ?_
      refine R_dup r_90_46 rfl ?_
      refine R_getf r_90_47 (by decide) (sm_gn (by decide) h1) rfl ?_
      refine R_iconst r_90_50 (v := nI 1) rfl ?_
      refine R_iaddN r_90_51 ?_
      refine R_putf r_90_52 (sm_gn (by decide) h1) (Nat.le_of_ble_eq_true rfl) rfl rfl ?_
      refine R_vret r_90_55 rfl ?_
      refine hQ _ ⟨l.set ws.length (lN s), ?_, ?_, ?_, ?_, ?_⟩ ((frm.rf.st (by decide)).st (by decide))
      · rw [show (pushW 8 ws s).length = ws.length + 1 from by unfold pushW; rw [if_neg (by omega)]; simp]; exact sm_gs (sm_gn (by decide) h1)
      · exact sm_gn (by decide) (sm_gs h2)
      · rw [List.length_set]; exact hc
      · unfold pushW; rw [if_neg (by omega)]; simp; omega
      · intro t ht
        unfold pushW at ht ⊢; rw [if_neg (by omega)] at ht ⊢
        by_cases e : t = ws.length
        · subst e; rw [List.getElem?_set_self (by omega), List.getD_eq_getElem?_getD, List.getElem?_append_right (Nat.le_refl _)]; simp
        · have ht2 : t < ws.length := by simp at ht; omega
          rw [List.getElem?_set_ne (Ne.symm e), hall t ht2, List.getD_eq_getElem?_getD, List.getD_eq_getElem?_getD, List.getElem?_append_left ht2]
  · refine R_aload_n r_90_12 rfl (by decide) ?_
    refine R_call1 r_90_13 rfl (sm_rv1 rfl rfl h1) (Nat.le_of_ble_eq_true rfl) (Nat.le_of_ble_eq_true rfl) ?_
    refine c_drop15 h1 h2 hc (fun l1 hc1 hA => ?_)
    generalize e0 : (wd.set 16 (.inr (.inl l1))).set 15 (.inr (.inr (4, [.ref 16, .int (nI 7)]))) = wd1
    have e1 : wd1[15]? = some (.inr (.inr (4, [.ref 16, .int (nI 7)]))) := by rw [← e0]; exact sm_gs (sm_gn (by decide) h1)
    have e2 : wd1[16]? = some (.inr (.inl l1)) := by rw [← e0]; exact sm_gn (by decide) (sm_gs h2)
    have hc := hc1
    have hfr : frm 15 16 wd wd1 := by rw [← e0]; exact (frm.rf.st (by decide)).st (by decide)
    show RT xs _ _ _ _ _ _ _
    refine R_aload_n r_90_16 rfl (by decide) ?_
    refine R_getf r_90_17 (by decide) e1 rfl ?_
    refine R_if_lt_N r_90_20 (by decide) (by omega) ?_
    refine R_aload_n r_90_23 rfl (by decide) ?_
    refine R_getf r_90_24 (by decide) e1 rfl ?_
    refine R_aload_n r_90_27 rfl (by decide) ?_
    refine R_getf r_90_28 (by decide) e1 rfl ?_
    refine R_alenLm r_90_31 ⟨(by decide), (by decide)⟩ e2 (m := 8) hc ?_
    refine R_icmp_ge_N r_90_32 (by decide) (by omega) (by omega) (fun h_3 => ?_) (fun h_3 => ?_)
    · exfalso; omega
    · refine R_aload_n r_90_35 rfl (by decide) ?_
      refine R_getf r_90_36 (by decide) e1 rfl ?_
      refine R_aload_n r_90_39 rfl (by decide) ?_
      refine R_getf r_90_40 (by decide) e1 rfl ?_
      refine R_lload_n r_90_43 rfl ?_
      refine R_lastN r_90_44 e2 (by omega) (by omega) ?_
      refine R_aload_n r_90_45 rfl (by decide) ?_
      refine R_dup r_90_46 rfl ?_
      refine R_getf r_90_47 (by decide) (sm_gn (by decide) e1) rfl ?_
      refine R_iconst r_90_50 (v := nI 1) rfl ?_
      refine R_iaddN r_90_51 ?_
      refine R_putf r_90_52 (sm_gn (by decide) e1) (Nat.le_of_ble_eq_true rfl) rfl rfl ?_
      refine R_vret r_90_55 rfl ?_
      refine hQ _ ⟨l1.set 7 (lN s), ?_, ?_, ?_, ?_, ?_⟩ ((hfr.st (by decide)).st (by decide))
      · rw [show (pushW 8 ws s).length = 8 from by unfold pushW; rw [if_pos h_1]; simp; omega]; exact sm_gs (sm_gn (by decide) e1)
      · exact sm_gn (by decide) (sm_gs e2)
      · rw [List.length_set]; exact hc1
      · unfold pushW; rw [if_pos h_1]; simp; omega
      · intro t ht
        unfold pushW at ht ⊢; rw [if_pos h_1] at ht ⊢
        have hlw : ws.length = 8 := by omega
        by_cases e : t = 7
        · subst e; rw [List.getElem?_set_self (by omega), List.getD_eq_getElem?_getD, List.getElem?_append_right (by simp; omega)]; simp [hlw]
        · have ht2 : t < 7 := by simp at ht; omega
          rw [List.getElem?_set_ne (Ne.symm e), hA t (by omega), hall (t + 1) (by omega), List.getD_eq_getElem?_getD, List.getD_eq_getElem?_getD, List.getElem?_append_left (by simp; omega), List.getElem?_drop, Nat.add_comm 1 t]
theorem c_pclear15 {xs : List Int32} {d : Nat} {wd : sm_W} {Q : Option Value → sm_W → Prop} {ws : List Nat} (hP : isP wd 15 8 ws) (hQ : ∀ w2, isP w2 15 8 [] → frm 15 16 wd w2 → Q none w2) : Ct xs (d) 51 [.ref 15] wd Q := by
  unfold Ct
  show RT xs (d) 51 0 [some (.ref 15)] [] wd Q
  obtain ⟨l, h1, h2, hc, hle, hall⟩ := hP
  refine R_aload_n r_51_0 rfl (by decide) ?_
  refine R_iconst r_51_1 (v := nI 0) rfl ?_
  refine R_putf r_51_2 h1 (Nat.le_of_ble_eq_true rfl) rfl rfl ?_
  refine R_vret r_51_5 rfl ?_
  exact hQ _ ⟨l, sm_gs h1, sm_gn (by decide) h2, hc, Nat.zero_le _, fun t ht => absurd ht (Nat.not_lt_zero t)⟩ (frm.rf.st (by decide))
theorem c_pheight15 {xs : List Int32} {d : Nat} {wd : sm_W} {Q : Option Value → sm_W → Prop} {ws : List Nat} (hP : isP wd 15 8 ws) (hQ : Q (some (.int (nI ws.length))) wd) : Ct xs (d) 98 [.ref 15] wd Q := by
  unfold Ct
  show RT xs (d) 98 0 [some (.ref 15)] [] wd Q
  obtain ⟨l, h1, h2, hc, hle, hall⟩ := hP
  refine R_aload_n r_98_0 rfl (by decide) ?_
  refine R_getf r_98_1 (by decide) h1 rfl ?_
  refine R_iret r_98_4 (ty := .int) rfl rfl (by decide) ?_
  exact hQ
theorem c_ptake15 {xs : List Int32} {d : Nat} {wd : sm_W} {Q : Option Value → sm_W → Prop} {ws : List Nat} {s : Nat} (hP : isP wd 15 8 (ws ++ [s])) {o0 : Int64} (hQ : ∀ w2, isP w2 15 8 ws → frm 15 16 wd w2 → Q (some (.long (lN s))) w2) : Ct xs (d) 99 [.ref 15, .long o0] wd Q := by
  unfold Ct
  show RT xs (d) 99 0 [some (.ref 15), some (.long o0), none, none] [] wd Q
  obtain ⟨l, h1, h2, hc, hle, hall⟩ := hP
  have hln : (ws ++ [s]).length = ws.length + 1 := by simp
  rw [hln] at hle hall h1
  have hlast := hall ws.length (by omega)
  rw [List.getD_eq_getElem?_getD, List.getElem?_append_right (Nat.le_refl _), Nat.sub_self] at hlast
  refine R_aload_n r_99_0 rfl (by decide) ?_
  refine R_getf r_99_1 (by decide) h1 rfl ?_
  refine R_iconst r_99_4 (v := nI 1) rfl ?_
  refine R_isubN r_99_5 (by omega) ?_
  refine R_istore_n r_99_6 rfl ?_
  refine R_iload_n r_99_7 rfl ?_
  refine R_if_lt_N r_99_8 (by decide) (by omega) ?_
  refine R_iload_n r_99_11 rfl ?_
  refine R_aload_n r_99_12 rfl (by decide) ?_
  refine R_getf r_99_13 (by decide) h1 rfl ?_
  refine R_alenLm r_99_16 ⟨(by decide), (by decide)⟩ h2 (m := 8) hc ?_
  refine R_icmp_lt_N r_99_17 (by decide) (by omega) (by omega) (fun h_1 => ?_) (fun h_1 => ?_)
  · refine R_aload_n r_99_22 rfl (by decide) ?_
    refine R_iload_n r_99_23 rfl ?_
    refine R_putf r_99_24 h1 (Nat.le_of_ble_eq_true rfl) rfl rfl ?_
    refine R_aload_n r_99_27 rfl (by decide) ?_
    refine R_getf r_99_28 (by decide) (sm_gs h1) rfl ?_
    refine R_iload_n r_99_31 rfl ?_
    refine R_lald r_99_32 (sm_gn (by decide) h2) (x := lN s) (by rw [sm_ixN (by omega), Nat.add_sub_cancel]; exact hlast) ?_
    refine R_lret r_99_33 rfl ?_
    exact hQ _ ⟨l, sm_gs h1, sm_gn (by decide) h2, hc, by omega, fun t ht => by rw [hall t (by omega), List.getD_eq_getElem?_getD, List.getD_eq_getElem?_getD, List.getElem?_append_left ht]⟩ (frm.rf.st (by decide))
  · exfalso; omega
theorem lp_drop17 {xs : List Int32} {d : Nat} {wd : sm_W} {Q : Option Value → sm_W → Prop} {v0 : Value} {l : List Int64} (h1 : wd[17]? = some (.inr (.inr (4, [.ref 18, v0])))) (h2 : wd[18]? = some (.inr (.inl l))) (hQ : ∀ l1 : List Int64, l1.length = 2 → (∀ t, t + 1 < 2 → l1[t]? = l[t + 1]?) → Q none ((wd.set 18 (.inr (.inl l1))).set 17 (.inr (.inr (4, [.ref 18, .int (nI 1)]))))) : ∀ (k : Nat) (i : Nat) (l1 : List Int64), (i + k = 2) → (1 ≤ i) → (l1.length = 2) → (∀ t, t + 1 < i → l1[t]? = l[t + 1]?) → (∀ t, i ≤ t → l1[t]? = l[t]?) → RT xs (d + 1) 91 2 [some (.ref 17), some (.int (nI i))] [] (wd.set 18 (.inr (.inl l1))) Q := by
  intro k
  induction k with
  | zero =>
    intro i l1 hk hi1 hc hA hB
    refine R_iload_n r_91_2 rfl ?_
    refine R_aload_n r_91_3 rfl (by decide) ?_
    refine R_getf r_91_4 (by decide) (sm_gn (by decide) h1) rfl ?_
    refine R_alenLm r_91_7 ⟨(by decide), (by decide)⟩ (sm_gs h2) (m := 2) hc ?_
    refine R_icmp_ge_N r_91_8 (by decide) (by omega) (by omega) (fun h_1 => ?_) (fun h_1 => ?_)
    · refine R_aload_n r_91_31 rfl (by decide) ?_
      refine R_aload_n r_91_32 rfl (by decide) ?_
      refine R_getf r_91_33 (by decide) (sm_gn (by decide) h1) rfl ?_
      refine R_alenLm r_91_36 ⟨(by decide), (by decide)⟩ (sm_gs h2) (m := 2) hc ?_
      refine R_iconst r_91_37 (v := nI 1) rfl ?_
      refine R_isubN r_91_38 (by omega) ?_
      refine R_iconst r_91_39 (v := nI 0) rfl ?_
      refine R_maxN r_91_40 (by omega) (Nat.le_of_ble_eq_true rfl) (by omega) (by omega) ?_
      refine R_putf r_91_43 (sm_gn (by decide) h1) (Nat.le_of_ble_eq_true rfl) rfl rfl ?_
      refine R_vret r_91_46 rfl ?_
      exact hQ l1 hc (fun t ht => hA t (by omega))
    · exfalso; omega
  | succ k ih =>
    intro i l1 hk hi1 hc hA hB
    obtain ⟨x, hx⟩ : ∃ x, l1[i]? = some x := by
      by_cases hz : i < l1.length
      · exact ⟨_, List.getElem?_eq_getElem hz⟩
      · exact absurd hk (by omega)
    refine R_iload_n r_91_2 rfl ?_
    refine R_aload_n r_91_3 rfl (by decide) ?_
    refine R_getf r_91_4 (by decide) (sm_gn (by decide) h1) rfl ?_
    refine R_alenLm r_91_7 ⟨(by decide), (by decide)⟩ (sm_gs h2) (m := 2) hc ?_
    refine R_icmp_ge_N r_91_8 (by decide) (by omega) (by omega) (fun h_1 => ?_) (fun h_1 => ?_)
    · exfalso; omega
    · refine R_aload_n r_91_11 rfl (by decide) ?_
      refine R_getf r_91_12 (by decide) (sm_gn (by decide) h1) rfl ?_
      refine R_iload_n r_91_15 rfl ?_
      refine R_iconst r_91_16 (v := nI 1) rfl ?_
      refine R_isubN r_91_17 (by omega) ?_
      refine R_aload_n r_91_18 rfl (by decide) ?_
      refine R_getf r_91_19 (by decide) (sm_gn (by decide) h1) rfl ?_
      refine R_iload_n r_91_22 rfl ?_
      refine R_lald r_91_23 (sm_gs h2) ((sm_ixN (by omega)).trans hx) ?_
      refine R_lastN r_91_24 (sm_gs h2) (by omega) (by omega) ?_
      refine R_iinc1 r_91_25 rfl rfl ?_
      refine R_goto r_91_28 (by decide) ?_
      rw [List.set_set]
      have hd := drop_step hi1 (by omega) hA hB hx
      exact ih (i + 1) _ (by omega) (by omega) (by rw [List.length_set]; exact hc) hd.1 hd.2
theorem c_drop17 {xs : List Int32} {d : Nat} {wd : sm_W} {Q : Option Value → sm_W → Prop} {v0 : Value} {l : List Int64} (h1 : wd[17]? = some (.inr (.inr (4, [.ref 18, v0])))) (h2 : wd[18]? = some (.inr (.inl l))) (hc : l.length = 2) (hQ : ∀ l1 : List Int64, l1.length = 2 → (∀ t, t + 1 < 2 → l1[t]? = l[t + 1]?) → Q none ((wd.set 18 (.inr (.inl l1))).set 17 (.inr (.inr (4, [.ref 18, .int (nI 1)]))))) : Ct xs (d + 1) 91 [.ref 17] wd Q := by
  unfold Ct
  show RT xs (d + 1) 91 0 [some (.ref 17), none] [] wd Q
  refine R_iconst r_91_0 (v := nI 1) rfl ?_
  refine R_istore_n r_91_1 rfl ?_
  have hh := lp_drop17 (xs := xs) (d := d) h1 h2 hQ 1 1 l (by decide) (by decide) hc (fun t ht => by omega) (fun t _ => rfl)
  rw [sm_set_id h2] at hh
  exact hh
theorem c_put17 {xs : List Int32} {d : Nat} {wd : sm_W} {Q : Option Value → sm_W → Prop} {ws : List Nat} {s : Nat} (hP : isP wd 17 2 ws) (hQ : ∀ w2, isP w2 17 2 (pushW 2 ws s) → frm 17 18 wd w2 → Q none w2) : Ct xs (d + 2) 90 [.ref 17, .long (lN s)] wd Q := by
  unfold Ct
  show RT xs (d + 2) 90 0 [some (.ref 17), some (.long (lN s)), none] [] wd Q
  obtain ⟨l, h1, h2, hc, hle, hall⟩ := hP
  refine R_aload_n r_90_0 rfl (by decide) ?_
  refine R_getf r_90_1 (by decide) h1 rfl ?_
  refine R_aload_n r_90_4 rfl (by decide) ?_
  refine R_getf r_90_5 (by decide) h1 rfl ?_
  refine R_alenLm r_90_8 ⟨(by decide), (by decide)⟩ h2 (m := 2) hc ?_
  refine R_icmp_lt_N r_90_9 (by decide) (by omega) (by omega) (fun h_1 => ?_) (fun h_1 => ?_)
  · refine R_aload_n r_90_16 rfl (by decide) ?_
    refine R_getf r_90_17 (by decide) h1 rfl ?_
    refine R_if_lt_N r_90_20 (by decide) (by omega) ?_
    refine R_aload_n r_90_23 rfl (by decide) ?_
    refine R_getf r_90_24 (by decide) h1 rfl ?_
    refine R_aload_n r_90_27 rfl (by decide) ?_
    refine R_getf r_90_28 (by decide) h1 rfl ?_
    refine R_alenLm r_90_31 ⟨(by decide), (by decide)⟩ h2 (m := 2) hc ?_
    refine R_icmp_ge_N r_90_32 (by decide) (by omega) (by omega) (fun h_2 => ?_) (fun h_2 => ?_)
    · exfalso; omega
    · refine R_aload_n r_90_35 rfl (by decide) ?_
      refine R_getf r_90_36 (by decide) h1 rfl ?_
      refine R_aload_n r_90_39 rfl (by decide) ?_
      refine R_getf r_90_40 (by decide) h1 rfl ?_
      refine R_lload_n r_90_43 rfl ?_
      refine R_lastN r_90_44 h2 (by omega) (by omega) ?_
      refine R_aload_n r_90_45 rfl (by decide) ?_
      refine R_dup r_90_46 rfl ?_
      refine R_getf r_90_47 (by decide) (sm_gn (by decide) h1) rfl ?_
      refine R_iconst r_90_50 (v := nI 1) rfl ?_
      refine R_iaddN r_90_51 ?_
      refine R_putf r_90_52 (sm_gn (by decide) h1) (Nat.le_of_ble_eq_true rfl) rfl rfl ?_
      refine R_vret r_90_55 rfl ?_
      refine hQ _ ⟨l.set ws.length (lN s), ?_, ?_, ?_, ?_, ?_⟩ ((frm.rf.st (by decide)).st (by decide))
      · rw [show (pushW 2 ws s).length = ws.length + 1 from by unfold pushW; rw [if_neg (by omega)]; simp]; exact sm_gs (sm_gn (by decide) h1)
      · exact sm_gn (by decide) (sm_gs h2)
      · rw [List.length_set]; exact hc
      · unfold pushW; rw [if_neg (by omega)]; simp; omega
      · intro t ht
        unfold pushW at ht ⊢; rw [if_neg (by omega)] at ht ⊢
        by_cases e : t = ws.length
        · subst e; rw [List.getElem?_set_self (by omega), List.getD_eq_getElem?_getD, List.getElem?_append_right (Nat.le_refl _)]; simp
        · have ht2 : t < ws.length := by simp at ht; omega
          rw [List.getElem?_set_ne (Ne.symm e), hall t ht2, List.getD_eq_getElem?_getD, List.getD_eq_getElem?_getD, List.getElem?_append_left ht2]
  · refine R_aload_n r_90_12 rfl (by decide) ?_
    refine R_call1 r_90_13 rfl (sm_rv1 rfl rfl h1) (Nat.le_of_ble_eq_true rfl) (Nat.le_of_ble_eq_true rfl) ?_
    refine c_drop17 h1 h2 hc (fun l1 hc1 hA => ?_)
    generalize e0 : (wd.set 18 (.inr (.inl l1))).set 17 (.inr (.inr (4, [.ref 18, .int (nI 1)]))) = wd1
    have e1 : wd1[17]? = some (.inr (.inr (4, [.ref 18, .int (nI 1)]))) := by rw [← e0]; exact sm_gs (sm_gn (by decide) h1)
    have e2 : wd1[18]? = some (.inr (.inl l1)) := by rw [← e0]; exact sm_gn (by decide) (sm_gs h2)
    have hc := hc1
    have hfr : frm 17 18 wd wd1 := by rw [← e0]; exact (frm.rf.st (by decide)).st (by decide)
    show RT xs _ _ _ _ _ _ _
    refine R_aload_n r_90_16 rfl (by decide) ?_
    refine R_getf r_90_17 (by decide) e1 rfl ?_
    refine R_if_lt_N r_90_20 (by decide) (by omega) ?_
    refine R_aload_n r_90_23 rfl (by decide) ?_
    refine R_getf r_90_24 (by decide) e1 rfl ?_
    refine R_aload_n r_90_27 rfl (by decide) ?_
    refine R_getf r_90_28 (by decide) e1 rfl ?_
    refine R_alenLm r_90_31 ⟨(by decide), (by decide)⟩ e2 (m := 2) hc ?_
    refine R_icmp_ge_N r_90_32 (by decide) (by omega) (by omega) (fun h_3 => ?_) (fun h_3 => ?_)
    · exfalso; omega
    · refine R_aload_n r_90_35 rfl (by decide) ?_
      refine R_getf r_90_36 (by decide) e1 rfl ?_
      refine R_aload_n r_90_39 rfl (by decide) ?_
      refine R_getf r_90_40 (by decide) e1 rfl ?_
      refine R_lload_n r_90_43 rfl ?_
      refine R_lastN r_90_44 e2 (by omega) (by omega) ?_
      refine R_aload_n r_90_45 rfl (by decide) ?_
      refine R_dup r_90_46 rfl ?_
      refine R_getf r_90_47 (by decide) (sm_gn (by decide) e1) rfl ?_
      refine R_iconst r_90_50 (v := nI 1) rfl ?_
      refine R_iaddN r_90_51 ?_
      refine R_putf r_90_52 (sm_gn (by decide) e1) (Nat.le_of_ble_eq_true rfl) rfl rfl ?_
      refine R_vret r_90_55 rfl ?_
      refine hQ _ ⟨l1.set 1 (lN s), ?_, ?_, ?_, ?_, ?_⟩ ((hfr.st (by decide)).st (by decide))
      · rw [show (pushW 2 ws s).length = 2 from by unfold pushW; rw [if_pos h_1]; simp; omega]; exact sm_gs (sm_gn (by decide) e1)
      · exact sm_gn (by decide) (sm_gs e2)
      · rw [List.length_set]; exact hc1
      · unfold pushW; rw [if_pos h_1]; simp; omega
      · intro t ht
        unfold pushW at ht ⊢; rw [if_pos h_1] at ht ⊢
        have hlw : ws.length = 2 := by omega
        by_cases e : t = 1
        · subst e; rw [List.getElem?_set_self (by omega), List.getD_eq_getElem?_getD, List.getElem?_append_right (by simp; omega)]; simp [hlw]
        · have ht2 : t < 1 := by simp at ht; omega
          rw [List.getElem?_set_ne (Ne.symm e), hA t (by omega), hall (t + 1) (by omega), List.getD_eq_getElem?_getD, List.getD_eq_getElem?_getD, List.getElem?_append_left (by simp; omega), List.getElem?_drop, Nat.add_comm 1 t]
theorem c_pclear17 {xs : List Int32} {d : Nat} {wd : sm_W} {Q : Option Value → sm_W → Prop} {ws : List Nat} (hP : isP wd 17 2 ws) (hQ : ∀ w2, isP w2 17 2 [] → frm 17 18 wd w2 → Q none w2) : Ct xs (d) 51 [.ref 17] wd Q := by
  unfold Ct
  show RT xs (d) 51 0 [some (.ref 17)] [] wd Q
  obtain ⟨l, h1, h2, hc, hle, hall⟩ := hP
  refine R_aload_n r_51_0 rfl (by decide) ?_
  refine R_iconst r_51_1 (v := nI 0) rfl ?_
  refine R_putf r_51_2 h1 (Nat.le_of_ble_eq_true rfl) rfl rfl ?_
  refine R_vret r_51_5 rfl ?_
  exact hQ _ ⟨l, sm_gs h1, sm_gn (by decide) h2, hc, Nat.zero_le _, fun t ht => absurd ht (Nat.not_lt_zero t)⟩ (frm.rf.st (by decide))
theorem c_pheight17 {xs : List Int32} {d : Nat} {wd : sm_W} {Q : Option Value → sm_W → Prop} {ws : List Nat} (hP : isP wd 17 2 ws) (hQ : Q (some (.int (nI ws.length))) wd) : Ct xs (d) 98 [.ref 17] wd Q := by
  unfold Ct
  show RT xs (d) 98 0 [some (.ref 17)] [] wd Q
  obtain ⟨l, h1, h2, hc, hle, hall⟩ := hP
  refine R_aload_n r_98_0 rfl (by decide) ?_
  refine R_getf r_98_1 (by decide) h1 rfl ?_
  refine R_iret r_98_4 (ty := .int) rfl rfl (by decide) ?_
  exact hQ
theorem c_ptake17 {xs : List Int32} {d : Nat} {wd : sm_W} {Q : Option Value → sm_W → Prop} {ws : List Nat} {s : Nat} (hP : isP wd 17 2 (ws ++ [s])) {o0 : Int64} (hQ : ∀ w2, isP w2 17 2 ws → frm 17 18 wd w2 → Q (some (.long (lN s))) w2) : Ct xs (d) 99 [.ref 17, .long o0] wd Q := by
  unfold Ct
  show RT xs (d) 99 0 [some (.ref 17), some (.long o0), none, none] [] wd Q
  obtain ⟨l, h1, h2, hc, hle, hall⟩ := hP
  have hln : (ws ++ [s]).length = ws.length + 1 := by simp
  rw [hln] at hle hall h1
  have hlast := hall ws.length (by omega)
  rw [List.getD_eq_getElem?_getD, List.getElem?_append_right (Nat.le_refl _), Nat.sub_self] at hlast
  refine R_aload_n r_99_0 rfl (by decide) ?_
  refine R_getf r_99_1 (by decide) h1 rfl ?_
  refine R_iconst r_99_4 (v := nI 1) rfl ?_
  refine R_isubN r_99_5 (by omega) ?_
  refine R_istore_n r_99_6 rfl ?_
  refine R_iload_n r_99_7 rfl ?_
  refine R_if_lt_N r_99_8 (by decide) (by omega) ?_
  refine R_iload_n r_99_11 rfl ?_
  refine R_aload_n r_99_12 rfl (by decide) ?_
  refine R_getf r_99_13 (by decide) h1 rfl ?_
  refine R_alenLm r_99_16 ⟨(by decide), (by decide)⟩ h2 (m := 2) hc ?_
  refine R_icmp_lt_N r_99_17 (by decide) (by omega) (by omega) (fun h_1 => ?_) (fun h_1 => ?_)
  · refine R_aload_n r_99_22 rfl (by decide) ?_
    refine R_iload_n r_99_23 rfl ?_
    refine R_putf r_99_24 h1 (Nat.le_of_ble_eq_true rfl) rfl rfl ?_
    refine R_aload_n r_99_27 rfl (by decide) ?_
    refine R_getf r_99_28 (by decide) (sm_gs h1) rfl ?_
    refine R_iload_n r_99_31 rfl ?_
    refine R_lald r_99_32 (sm_gn (by decide) h2) (x := lN s) (by rw [sm_ixN (by omega), Nat.add_sub_cancel]; exact hlast) ?_
    refine R_lret r_99_33 rfl ?_
    exact hQ _ ⟨l, sm_gs h1, sm_gn (by decide) h2, hc, by omega, fun t ht => by rw [hall t (by omega), List.getD_eq_getElem?_getD, List.getD_eq_getElem?_getD, List.getElem?_append_left ht]⟩ (frm.rf.st (by decide))
  · exfalso; omega
