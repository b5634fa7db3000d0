/-! the model reads an item of the text -/
def rdM (tx : List Nat) (n : Nat) : Nat → Nat → Nat → Option (List Nat × Nat)
  | 0, _, p => some ([], p)
  | r + 1, k, p => if fgV tx p = 0 ∨ ltA tx (p + fgV tx p) ≠ (if k + 1 < n then 44 else 59) then none else (rdM tx n r (k + 1) (p + fgV tx p + 1)).map (fun q => (nmV tx p :: q.1, q.2))
theorem rdM_n {tx : List Nat} {n r k p : Nat} (h : fgV tx p = 0 ∨ ltA tx (p + fgV tx p) ≠ (if k + 1 < n then 44 else 59)) : rdM tx n (r + 1) k p = none := by rw [rdM, if_pos h]
theorem rdM_s {tx : List Nat} {n r k p : Nat} (h : ¬ (fgV tx p = 0 ∨ ltA tx (p + fgV tx p) ≠ (if k + 1 < n then 44 else 59))) : rdM tx n (r + 1) k p = (rdM tx n r (k + 1) (p + fgV tx p + 1)).map (fun q => (nmV tx p :: q.1, q.2)) := by rw [rdM, if_neg h]
def okR (c : Nat) : Nat → List Nat → Bool
  | _, [] => true
  | k, v :: l => (decide (lsN c ≤ v) && decide (v ≤ msN c k)) && okR c (k + 1) l
theorem rdC_M {tx : List Nat} {c n : Nat} : ∀ (r k p : Nat), rdC tx c n r k p = (rdM tx n r k p).bind (fun q => if okR c k q.1 = true then some q else none)
  | 0, k, p => rfl
  | r + 1, k, p => by
    by_cases h : fgV tx p = 0 ∨ ltA tx (p + fgV tx p) ≠ (if k + 1 < n then 44 else 59)
    · rw [rdM_n h, rdC_n (by rcases h with h | h; exact Or.inl h; exact Or.inr (Or.inr (Or.inr h)))]; rfl
    · rw [rdM_s h]
      by_cases h2 : lsN c ≤ nmV tx p ∧ nmV tx p ≤ msN c k
      · rw [rdC_s (by rintro (z | z | z | z); exact h (Or.inl z); omega; omega; exact h (Or.inr z)), rdC_M r (k + 1)]
        cases rdM tx n r (k + 1) (p + fgV tx p + 1) with
        | none => rfl
        | some q =>
          show Option.map _ (if okR c (k + 1) q.1 = true then some q else none) = if okR c k (nmV tx p :: q.1) = true then some (nmV tx p :: q.1, q.2) else none
          rw [show okR c k (nmV tx p :: q.1) = okR c (k + 1) q.1 from by rw [okR, decide_eq_true h2.1, decide_eq_true h2.2]; simp]
          split <;> rfl
      · rw [rdC_n (by by_cases h3 : lsN c ≤ nmV tx p; exact Or.inr (Or.inr (Or.inl (by omega))); exact Or.inr (Or.inl (by omega)))]
        cases rdM tx n r (k + 1) (p + fgV tx p + 1) with
        | none => rfl
        | some q =>
          show none = if okR c k (nmV tx p :: q.1) = true then some (nmV tx p :: q.1, q.2) else none
          rw [if_neg]
          intro z
          rw [okR, Bool.and_eq_true, Bool.and_eq_true, decide_eq_true_iff, decide_eq_true_iff] at z
          exact h2 z.1
theorem rdM_ok {tx : List Nat} {n : Nat} : ∀ (r k p : Nat) (l : List Nat) (e : Nat), rdM tx n r k p = some (l, e) → l.length = r ∧ e ≤ p + 3 * r ∧ p + r ≤ e ∧ ∀ t, l.getD t 0 ≤ 99
  | 0, k, p, l, e, h => by
    cases h
    exact ⟨rfl, Nat.le_refl _, Nat.le_refl _, fun t => by simp⟩
  | r + 1, k, p, l, e, h => by
    by_cases hz : fgV tx p = 0 ∨ ltA tx (p + fgV tx p) ≠ (if k + 1 < n then 44 else 59)
    · rw [rdM_n hz] at h; cases h
    · rw [rdM_s hz] at h
      obtain ⟨q, h1, h2⟩ := Option.map_eq_some_iff.mp h
      cases h2
      obtain ⟨h3, h4, h5, h6⟩ := rdM_ok r (k + 1) _ q.1 q.2 h1
      have hfg := fgV_le tx p
      refine ⟨by rw [List.length_cons, h3], by omega, by omega, fun t => ?_⟩
      match t with
      | 0 =>
        show nmV tx p ≤ 99
        refine nmV_le ?_
        cases hb : figB (ltA tx p)
        · exact absurd (Or.inl (fgV_0 hb)) hz
        · rfl
      | t + 1 => exact h6 t
theorem fig_not {c : Nat} (h : figB c = true) : c ≠ 44 ∧ c ≠ 59 := by have := figB_d h; omega
theorem fg3 {tx : List Nat} {n k p : Nat} (h1 : figB (ltA tx p) = true) (h2 : figB (ltA tx (p + 1)) = true) (h3 : figB (ltA tx (p + 2)) = true) : fgV tx p = 0 ∨ ltA tx (p + fgV tx p) ≠ (if k + 1 < n then 44 else 59) := by
  refine Or.inr ?_
  rw [fgV_2 h1 h2]
  have := fig_not h3
  split
  · exact this.1
  · exact this.2
theorem nm1 {tx : List Nat} {p : Nat} (h1 : figB (ltA tx p) = true) (h2 : figB (ltA tx (p + 1)) = false) : 10 * 0 + ltA tx p - 48 = nmV tx p := by
  unfold nmV
  rw [fgV_1 h1 h2, if_neg (by decide)]
  omega
theorem nm2 {tx : List Nat} {p : Nat} (h1 : figB (ltA tx p) = true) (h2 : figB (ltA tx (p + 1)) = true) : 10 * (10 * 0 + ltA tx p - 48) + ltA tx (p + 1) - 48 = nmV tx p := by
  unfold nmV
  rw [fgV_2 h1 h2, if_pos rfl]
  omega
def txF (tx : List Nat) (f : Nat → List Int32) : Prop := tx.length ≤ 200 ∧ (∀ t, t < tx.length → (f 23)[t]? = some (nI (tx.getD t 0))) ∧ ∀ t, ltA tx t < 127
def fx (f f2 : Nat → List Int32) : Prop := ∀ k, k ≠ 37 → f2 k = f k
theorem fx.rf {f : Nat → List Int32} : fx f f := fun _ _ => rfl
theorem fx.u {f g : Nat → List Int32} {l : List Int32} (a : fx f g) : fx f (fu g 37 l) := fun k h => (fu_n h).trans (a k h)
theorem txF.fx {tx : List Nat} {f f2 : Nat → List Int32} (h : txF tx f) (hx : fx f f2) : txF tx f2 := by unfold txF; rw [hx 23 (by decide)]; exact h
theorem m_letterAt {xs : List Int32} {d : Nat} {wd : sm_W} {Q : Option Value → sm_W → Prop} {tx : List Nat} {um km sn sp : Int32} {f : Nat → List Int32} (hC : mC wd (nI tx.length) um km sn sp f) (hx : txF tx f) {q : Nat} (hq : q < 2147483648) (hQ : Q (some (.int (nI (ltA tx q)))) wd) : Ct xs (d) 138 [.ref 22, .int (nI q)] wd Q := by
  unfold Ct
  show RT xs (d) 138 0 [some (.ref 22), some (.int (nI q))] [] wd Q
  have htl := hx.1
  refine R_iload_n r_138_0 rfl ?_
  refine R_aload_n r_138_1 rfl (by decide) ?_
  refine R_getf r_138_2 (by decide) hC.1 rfl ?_
  refine R_icmp_ge_N r_138_5 (by decide) (by omega) (by omega) (fun h_1 => ?_) (fun h_1 => ?_)
  · refine R_iconst r_138_17 (v := nI 0) rfl ?_
    refine R_iret r_138_18 (ty := .int) rfl rfl (by decide) ?_
    rw [lt_out (by omega)] at hQ; exact hQ
  · refine R_aload_n r_138_8 rfl (by decide) ?_
    refine R_getf r_138_9 (by decide) hC.1 rfl ?_
    refine R_iload_n r_138_12 rfl ?_
    refine R_iald r_138_13 (by decide) (hC.2 23 (by decide) (by decide)) (sm_ixG (hx.2.1 q (by omega)) (by omega)) ?_
    refine R_goto r_138_14 (by decide) ?_
    refine R_iret r_138_18 (ty := .int) rfl rfl (by decide) ?_
    exact hQ
theorem in_fig {c : Nat} (hc : c < 127) : (decide (lN 48 ≤ lN c) && decide (lN c ≤ lN 57)) = figB c := by
  rw [in_n (by omega) (by decide) (by decide)]; rfl
theorem fd1 {tx : List Nat} {p : Nat} (h : figB (ltA tx p) = true) : 48 ≤ ltA tx p := (figB_d h).1
theorem lp_mfig {xs : List Int32} {d : Nat} {Q : Option Value → sm_W → Prop} {tx : List Nat} {um km sn : Int32} {n : Nat} {wd0 : sm_W} {f0 : Nat → List Int32}  : ∀ (k : Nat) (k0 p : Nat) (wd : sm_W) (f : Nat → List Int32) (h3 h4 : Option Value), (k0 + k = n) → (n ≤ 4) → (p ≤ 300 + 3 * k0) → (mC wd (nI tx.length) um km sn (nI p) f) → (mL f) → (txF tx f) → (fx f0 f) → (frm 22 40 wd0 wd) → (rdM tx n k k0 p = none → ∀ w2 f2 sp2, mC w2 (nI tx.length) um km sn sp2 f2 → mL f2 → fx f0 f2 → frm 22 40 wd0 w2 → Q (some (.int (b2i false))) w2) → (∀ l e, rdM tx n k k0 p = some (l, e) → ∀ w2 f2, mC w2 (nI tx.length) um km sn (nI e) f2 → mL f2 → fx f0 f2 → (∀ t, t < l.length → (f2 37)[k0 + t]? = some (nI (l.getD t 0))) → (∀ t, t < k0 → (f2 37)[t]? = (f 37)[t]?) → frm 22 40 wd0 w2 → Q (some (.int (b2i true))) w2) → RT xs (d + 2) 140 2 [some (.ref 22), some (.int (nI n)), some (.int (nI k0)), h3, h4] [] wd Q := by
  intro k
  induction k with
  | zero =>
    intro k0 p wd f h3 h4 hk hn4 hp hC hL hx hfx hf hF hS
    have htl := hx.1
    have hl0 := hx.2.2 p
    have hl1 := hx.2.2 (p + 1)
    have hl2 := hx.2.2 (p + 2)
    have hl3 := hx.2.2 (p + 3)
    refine R_iload_n r_140_2 rfl ?_
    refine R_iload_n r_140_3 rfl ?_
    refine R_icmp_ge_N r_140_4 (by decide) (by omega) (by omega) (fun h_1 => ?_) (fun h_1 => ?_)
    · refine R_iconst r_140_136 (v := nI 1) rfl ?_
      refine R_iret r_140_137 (ty := .boolean) rfl (by decide) (by decide) ?_
      exact hS [] p (by first | rfl | (exfalso; omega)) _ _ hC hL hfx (fun t ht => absurd ht (Nat.not_lt_zero t)) (fun _ _ => rfl) hf
    · exfalso; omega
  | succ k ih =>
    intro k0 p wd f h3 h4 hk hn4 hp hC hL hx hfx hf hF hS
    have htl := hx.1
    have hl0 := hx.2.2 p
    have hl1 := hx.2.2 (p + 1)
    have hl2 := hx.2.2 (p + 2)
    have hl3 := hx.2.2 (p + 3)
    refine R_iload_n r_140_2 rfl ?_
    refine R_iload_n r_140_3 rfl ?_
    refine R_icmp_ge_N r_140_4 (by decide) (by omega) (by omega) (fun h_1 => ?_) (fun h_1 => ?_)
    · exfalso; omega
    · refine R_iconst r_140_7 (v := nI 0) rfl ?_
      refine R_istore_n r_140_8 rfl ?_
      refine R_iconst r_140_9 (v := nI 0) rfl ?_
      refine R_istore r_140_10 rfl ?_
      refine R_aload_n r_140_12 rfl (by decide) ?_
      refine R_aload_n r_140_13 rfl (by decide) ?_
      refine R_getf r_140_14 (by decide) hC.1 rfl ?_
      refine R_call2 r_140_17 rfl (sm_rvM rfl rfl rfl hC) (Nat.le_of_ble_eq_true rfl) (Nat.le_of_ble_eq_true rfl) ?_
      refine m_letterAt hC hx (by omega) ?_
      refine R_i2lN r_140_20 (by omega) ?_
      refine R_ldc2_w r_140_21 (v := lN 48) rfl ?_
      refine R_ldc2_w r_140_24 (v := lN 57) rfl ?_
      refine R_call3 r_140_27 rfl rfl (Nat.le_of_ble_eq_true rfl) (Nat.le_of_ble_eq_true rfl) ?_
      refine m_in (in_fig (hx.2.2 _)) ?_
      refine R_if_eq_b r_140_30 (by decide) (fun h_2 => ?_) (fun h_2 => ?_)
      · refine R_iload_n r_140_73 rfl ?_
        refine R_i2lN r_140_74 (by omega) ?_
        refine R_lconst r_140_75 (v := lN 1) rfl ?_
        refine R_ldc2_w r_140_76 (v := lN 2) rfl ?_
        refine R_call3 r_140_79 rfl rfl (Nat.le_of_ble_eq_true rfl) (Nat.le_of_ble_eq_true rfl) ?_
        refine m_in (c := false) (by decide) ?_
        refine R_ifT r_140_82 (by decide) (by decide) ?_
        refine R_iconst r_140_110 (v := nI 0) rfl ?_
        refine R_iret r_140_111 (ty := .boolean) rfl (by decide) (by decide) ?_
        refine hF (rdM_n ?_) _ _ _ hC hL hfx hf
        exact Or.inl (fgV_0 (by assumption))
      · refine R_iload_n r_140_33 rfl ?_
        refine R_iconst r_140_34 (v := nI 3) rfl ?_
        refine R_icmpF r_140_35 (by decide) (by decide) ?_
        refine R_bipush r_140_38 (v := nI 10) rfl ?_
        refine R_iload r_140_40 rfl ?_
        refine R_imulN r_140_42 ?_
        refine R_aload_n r_140_43 rfl (by decide) ?_
        refine R_aload_n r_140_44 rfl (by decide) ?_
        refine R_getf r_140_45 (by decide) hC.1 rfl ?_
        refine R_call2 r_140_48 rfl (sm_rvM rfl rfl rfl hC) (Nat.le_of_ble_eq_true rfl) (Nat.le_of_ble_eq_true rfl) ?_
        refine m_letterAt hC hx (by omega) ?_
        refine R_iaddN r_140_51 ?_
        have hfd := fd1 (by assumption : figB (ltA tx p) = true)
        refine R_bipush r_140_52 (v := nI 48) rfl ?_
        refine R_isubN r_140_54 (by omega) ?_
        refine R_istore r_140_55 rfl ?_
        refine R_iinc1 r_140_57 rfl rfl ?_
        refine R_aload_n r_140_60 rfl (by decide) ?_
        refine R_dup r_140_61 rfl ?_
        refine R_getf r_140_62 (by decide) hC.1 rfl ?_
        refine R_iconst r_140_65 (v := nI 1) rfl ?_
        refine R_iaddN r_140_66 ?_
        refine R_mp_sp r_140_67 hC rfl rfl (fun w_q_3 hC_q_3 hf_q_3 => ?_)
        refine R_goto r_140_70 (by decide) ?_
        refine R_aload_n r_140_12 rfl (by decide) ?_
        refine R_aload_n r_140_13 rfl (by decide) ?_
        refine R_getf r_140_14 (by decide) hC_q_3.1 rfl ?_
        refine R_call2 r_140_17 rfl (sm_rvM rfl rfl rfl hC_q_3) (Nat.le_of_ble_eq_true rfl) (Nat.le_of_ble_eq_true rfl) ?_
        refine m_letterAt hC_q_3 hx (by omega) ?_
        refine R_i2lN r_140_20 (by omega) ?_
        refine R_ldc2_w r_140_21 (v := lN 48) rfl ?_
        refine R_ldc2_w r_140_24 (v := lN 57) rfl ?_
        refine R_call3 r_140_27 rfl rfl (Nat.le_of_ble_eq_true rfl) (Nat.le_of_ble_eq_true rfl) ?_
        refine m_in (in_fig (hx.2.2 _)) ?_
        refine R_if_eq_b r_140_30 (by decide) (fun h_4 => ?_) (fun h_4 => ?_)
        · refine R_iload_n r_140_73 rfl ?_
          refine R_i2lN r_140_74 (by omega) ?_
          refine R_lconst r_140_75 (v := lN 1) rfl ?_
          refine R_ldc2_w r_140_76 (v := lN 2) rfl ?_
          refine R_call3 r_140_79 rfl rfl (Nat.le_of_ble_eq_true rfl) (Nat.le_of_ble_eq_true rfl) ?_
          refine m_in (c := true) (by decide) ?_
          refine R_ifF r_140_82 (by decide) (by decide) ?_
          refine R_aload_n r_140_85 rfl (by decide) ?_
          refine R_aload_n r_140_86 rfl (by decide) ?_
          refine R_getf r_140_87 (by decide) hC_q_3.1 rfl ?_
          refine R_call2 r_140_90 rfl (sm_rvM rfl rfl rfl hC_q_3) (Nat.le_of_ble_eq_true rfl) (Nat.le_of_ble_eq_true rfl) ?_
          refine m_letterAt hC_q_3 hx (by omega) ?_
          refine R_iload_n r_140_93 rfl ?_
          refine R_iload_n r_140_94 rfl ?_
          refine R_iconst r_140_95 (v := nI 1) rfl ?_
          refine R_isubN r_140_96 (by omega) ?_
          refine R_icmp_ge_N r_140_97 (by decide) (by omega) (by omega) (fun h_5 => ?_) (fun h_5 => ?_)
          · refine R_bipush r_140_105 (v := nI 59) rfl ?_
            refine R_icmp_eq_N r_140_107 (by decide) (by omega) (by omega) (fun h_6 => ?_) (fun h_6 => ?_)
            · refine R_aload_n r_140_112 rfl (by decide) ?_
              refine R_getf r_140_113 (by decide) hC_q_3.1 rfl ?_
              refine R_iload_n r_140_116 rfl ?_
              refine R_iload r_140_117 rfl ?_
              refine R_mst r_140_119 hC_q_3 hL (by decide) (by decide) (by show _ < (4 : Nat); omega) (by decide) (fun w_q_7 f_q_7 hC_q_7 hL_q_7 e_q_7 hf_q_7 => ?_)
              refine R_aload_n r_140_120 rfl (by decide) ?_
              refine R_dup r_140_121 rfl ?_
              refine R_getf r_140_122 (by decide) hC_q_7.1 rfl ?_
              refine R_iconst r_140_125 (v := nI 1) rfl ?_
              refine R_iaddN r_140_126 ?_
              refine R_mp_sp r_140_127 hC_q_7 rfl rfl (fun w_q_8 hC_q_8 hf_q_8 => ?_)
              refine R_iinc1 r_140_130 rfl rfl ?_
              refine R_goto r_140_133 (by decide) ?_
              have hstep : ¬ (fgV tx p = 0 ∨ ltA tx (p + fgV tx p) ≠ (if k0 + 1 < n then 44 else 59)) := by
                rw [fgV_1 (by assumption) (by assumption)]
                rintro (z | z)
                · omega
                · exact z (by first | (rw [if_pos (by omega)]; assumption) | (rw [if_neg (by omega)]; assumption))
              have efg : fgV tx p = 1 := fgV_1 (by assumption) (by assumption)
              have hll : (f 37).length = 4 := hL 37 (by decide) (by decide)
              refine ih (k0 + 1) (p + 1 + 1) _ _ _ _ (by omega) (by omega) (by omega) hC_q_8 hL_q_7 (hx.fx (by rw [e_q_7]; exact fx.rf.u)) (by rw [e_q_7]; exact hfx.u) (frm.tr (frm.tr (frm.tr hf hf_q_3) hf_q_7) hf_q_8) (fun hz w2 f2 sp2 hC2 hL2 hfx2 hf2 => hF (by rw [rdM_s hstep, efg, hz]; rfl) w2 f2 sp2 hC2 hL2 hfx2 hf2) (fun l e hl w2 f2 hC2 hL2 hfx2 hhi hlow hf2 => ?_)
              refine hS (nmV tx p :: l) e (by rw [rdM_s hstep, efg, hl]; rfl) w2 f2 hC2 hL2 hfx2 (fun t ht => ?_) (fun t ht => by rw [hlow t (by omega), e_q_7, fu_s, List.getElem?_set_ne (by omega)]) hf2
              match t, ht with
              | 0, _ => rw [Nat.add_zero, hlow k0 (by omega), e_q_7, fu_s, nm1 (by assumption) (by assumption)]; exact List.getElem?_set_self (by omega)
              | t + 1, ht => have h9 := hhi t (Nat.lt_of_succ_lt_succ ht); rw [show k0 + (t + 1) = k0 + 1 + t by omega]; exact h9
            · refine R_iconst r_140_110 (v := nI 0) rfl ?_
              refine R_iret r_140_111 (ty := .boolean) rfl (by decide) (by decide) ?_
              refine hF (rdM_n ?_) _ _ _ hC_q_3 hL hfx (frm.tr hf hf_q_3)
              refine Or.inr ?_
              rw [fgV_1 (by assumption) (by assumption)]
              first | (rw [if_pos (by omega)]; assumption) | (rw [if_neg (by omega)]; assumption)
          · refine R_bipush r_140_100 (v := nI 44) rfl ?_
            refine R_goto r_140_102 (by decide) ?_
            refine R_icmp_eq_N r_140_107 (by decide) (by omega) (by omega) (fun h_9 => ?_) (fun h_9 => ?_)
            · refine R_aload_n r_140_112 rfl (by decide) ?_
              refine R_getf r_140_113 (by decide) hC_q_3.1 rfl ?_
              refine R_iload_n r_140_116 rfl ?_
              refine R_iload r_140_117 rfl ?_
              refine R_mst r_140_119 hC_q_3 hL (by decide) (by decide) (by show _ < (4 : Nat); omega) (by decide) (fun w_q_10 f_q_10 hC_q_10 hL_q_10 e_q_10 hf_q_10 => ?_)
              refine R_aload_n r_140_120 rfl (by decide) ?_
              refine R_dup r_140_121 rfl ?_
              refine R_getf r_140_122 (by decide) hC_q_10.1 rfl ?_
              refine R_iconst r_140_125 (v := nI 1) rfl ?_
              refine R_iaddN r_140_126 ?_
              refine R_mp_sp r_140_127 hC_q_10 rfl rfl (fun w_q_11 hC_q_11 hf_q_11 => ?_)
              refine R_iinc1 r_140_130 rfl rfl ?_
              refine R_goto r_140_133 (by decide) ?_
              have hstep : ¬ (fgV tx p = 0 ∨ ltA tx (p + fgV tx p) ≠ (if k0 + 1 < n then 44 else 59)) := by
                rw [fgV_1 (by assumption) (by assumption)]
                rintro (z | z)
                · omega
                · exact z (by first | (rw [if_pos (by omega)]; assumption) | (rw [if_neg (by omega)]; assumption))
              have efg : fgV tx p = 1 := fgV_1 (by assumption) (by assumption)
              have hll : (f 37).length = 4 := hL 37 (by decide) (by decide)
              refine ih (k0 + 1) (p + 1 + 1) _ _ _ _ (by omega) (by omega) (by omega) hC_q_11 hL_q_10 (hx.fx (by rw [e_q_10]; exact fx.rf.u)) (by rw [e_q_10]; exact hfx.u) (frm.tr (frm.tr (frm.tr hf hf_q_3) hf_q_10) hf_q_11) (fun hz w2 f2 sp2 hC2 hL2 hfx2 hf2 => hF (by rw [rdM_s hstep, efg, hz]; rfl) w2 f2 sp2 hC2 hL2 hfx2 hf2) (fun l e hl w2 f2 hC2 hL2 hfx2 hhi hlow hf2 => ?_)
              refine hS (nmV tx p :: l) e (by rw [rdM_s hstep, efg, hl]; rfl) w2 f2 hC2 hL2 hfx2 (fun t ht => ?_) (fun t ht => by rw [hlow t (by omega), e_q_10, fu_s, List.getElem?_set_ne (by omega)]) hf2
              match t, ht with
              | 0, _ => rw [Nat.add_zero, hlow k0 (by omega), e_q_10, fu_s, nm1 (by assumption) (by assumption)]; exact List.getElem?_set_self (by omega)
              | t + 1, ht => have h9 := hhi t (Nat.lt_of_succ_lt_succ ht); rw [show k0 + (t + 1) = k0 + 1 + t by omega]; exact h9
            · refine R_iconst r_140_110 (v := nI 0) rfl ?_
              refine R_iret r_140_111 (ty := .boolean) rfl (by decide) (by decide) ?_
              refine hF (rdM_n ?_) _ _ _ hC_q_3 hL hfx (frm.tr hf hf_q_3)
              refine Or.inr ?_
              rw [fgV_1 (by assumption) (by assumption)]
              first | (rw [if_pos (by omega)]; assumption) | (rw [if_neg (by omega)]; assumption)
        · refine R_iload_n r_140_33 rfl ?_
          refine R_iconst r_140_34 (v := nI 3) rfl ?_
          refine R_icmpF r_140_35 (by decide) (by decide) ?_
          refine R_bipush r_140_38 (v := nI 10) rfl ?_
          refine R_iload r_140_40 rfl ?_
          refine R_imulN r_140_42 ?_
          refine R_aload_n r_140_43 rfl (by decide) ?_
          refine R_aload_n r_140_44 rfl (by decide) ?_
          refine R_getf r_140_45 (by decide) hC_q_3.1 rfl ?_
          refine R_call2 r_140_48 rfl (sm_rvM rfl rfl rfl hC_q_3) (Nat.le_of_ble_eq_true rfl) (Nat.le_of_ble_eq_true rfl) ?_
          refine m_letterAt hC_q_3 hx (by omega) ?_
          refine R_iaddN r_140_51 ?_
          have hfd := fd1 (by assumption : figB (ltA tx (p + 1)) = true)
          refine R_bipush r_140_52 (v := nI 48) rfl ?_
          refine R_isubN r_140_54 (by omega) ?_
          refine R_istore r_140_55 rfl ?_
          refine R_iinc1 r_140_57 rfl rfl ?_
          refine R_aload_n r_140_60 rfl (by decide) ?_
          refine R_dup r_140_61 rfl ?_
          refine R_getf r_140_62 (by decide) hC_q_3.1 rfl ?_
          refine R_iconst r_140_65 (v := nI 1) rfl ?_
          refine R_iaddN r_140_66 ?_
          refine R_mp_sp r_140_67 hC_q_3 rfl rfl (fun w_q_12 hC_q_12 hf_q_12 => ?_)
          refine R_goto r_140_70 (by decide) ?_
          rw [show p + 1 + 1 = p + 2 from rfl] at hC_q_12
          refine R_aload_n r_140_12 rfl (by decide) ?_
          refine R_aload_n r_140_13 rfl (by decide) ?_
          refine R_getf r_140_14 (by decide) hC_q_12.1 rfl ?_
          refine R_call2 r_140_17 rfl (sm_rvM rfl rfl rfl hC_q_12) (Nat.le_of_ble_eq_true rfl) (Nat.le_of_ble_eq_true rfl) ?_
          refine m_letterAt hC_q_12 hx (by omega) ?_
          refine R_i2lN r_140_20 (by omega) ?_
          refine R_ldc2_w r_140_21 (v := lN 48) rfl ?_
          refine R_ldc2_w r_140_24 (v := lN 57) rfl ?_
          refine R_call3 r_140_27 rfl rfl (Nat.le_of_ble_eq_true rfl) (Nat.le_of_ble_eq_true rfl) ?_
          refine m_in (in_fig (hx.2.2 _)) ?_
          refine R_if_eq_b r_140_30 (by decide) (fun h_13 => ?_) (fun h_13 => ?_)
          · refine R_iload_n r_140_73 rfl ?_
            refine R_i2lN r_140_74 (by omega) ?_
            refine R_lconst r_140_75 (v := lN 1) rfl ?_
            refine R_ldc2_w r_140_76 (v := lN 2) rfl ?_
            refine R_call3 r_140_79 rfl rfl (Nat.le_of_ble_eq_true rfl) (Nat.le_of_ble_eq_true rfl) ?_
            refine m_in (c := true) (by decide) ?_
            refine R_ifF r_140_82 (by decide) (by decide) ?_
            refine R_aload_n r_140_85 rfl (by decide) ?_
            refine R_aload_n r_140_86 rfl (by decide) ?_
            refine R_getf r_140_87 (by decide) hC_q_12.1 rfl ?_
            refine R_call2 r_140_90 rfl (sm_rvM rfl rfl rfl hC_q_12) (Nat.le_of_ble_eq_true rfl) (Nat.le_of_ble_eq_true rfl) ?_
            refine m_letterAt hC_q_12 hx (by omega) ?_
            refine R_iload_n r_140_93 rfl ?_
            refine R_iload_n r_140_94 rfl ?_
            refine R_iconst r_140_95 (v := nI 1) rfl ?_
            refine R_isubN r_140_96 (by omega) ?_
            refine R_icmp_ge_N r_140_97 (by decide) (by omega) (by omega) (fun h_14 => ?_) (fun h_14 => ?_)
            · refine R_bipush r_140_105 (v := nI 59) rfl ?_
              refine R_icmp_eq_N r_140_107 (by decide) (by omega) (by omega) (fun h_15 => ?_) (fun h_15 => ?_)
              · refine R_aload_n r_140_112 rfl (by decide) ?_
                refine R_getf r_140_113 (by decide) hC_q_12.1 rfl ?_
                refine R_iload_n r_140_116 rfl ?_
                refine R_iload r_140_117 rfl ?_
                refine R_mst r_140_119 hC_q_12 hL (by decide) (by decide) (by show _ < (4 : Nat); omega) (by decide) (fun w_q_16 f_q_16 hC_q_16 hL_q_16 e_q_16 hf_q_16 => ?_)
                refine R_aload_n r_140_120 rfl (by decide) ?_
                refine R_dup r_140_121 rfl ?_
                refine R_getf r_140_122 (by decide) hC_q_16.1 rfl ?_
                refine R_iconst r_140_125 (v := nI 1) rfl ?_
                refine R_iaddN r_140_126 ?_
                refine R_mp_sp r_140_127 hC_q_16 rfl rfl (fun w_q_17 hC_q_17 hf_q_17 => ?_)
                refine R_iinc1 r_140_130 rfl rfl ?_
                refine R_goto r_140_133 (by decide) ?_
                have hstep : ¬ (fgV tx p = 0 ∨ ltA tx (p + fgV tx p) ≠ (if k0 + 1 < n then 44 else 59)) := by
                  rw [fgV_2 (by assumption) (by assumption)]
                  rintro (z | z)
                  · omega
                  · exact z (by first | (rw [if_pos (by omega)]; assumption) | (rw [if_neg (by omega)]; assumption))
                have efg : fgV tx p = 2 := fgV_2 (by assumption) (by assumption)
                have hll : (f 37).length = 4 := hL 37 (by decide) (by decide)
                refine ih (k0 + 1) (p + 2 + 1) _ _ _ _ (by omega) (by omega) (by omega) hC_q_17 hL_q_16 (hx.fx (by rw [e_q_16]; exact fx.rf.u)) (by rw [e_q_16]; exact hfx.u) (frm.tr (frm.tr (frm.tr (frm.tr hf hf_q_3) hf_q_12) hf_q_16) hf_q_17) (fun hz w2 f2 sp2 hC2 hL2 hfx2 hf2 => hF (by rw [rdM_s hstep, efg, hz]; rfl) w2 f2 sp2 hC2 hL2 hfx2 hf2) (fun l e hl w2 f2 hC2 hL2 hfx2 hhi hlow hf2 => ?_)
                refine hS (nmV tx p :: l) e (by rw [rdM_s hstep, efg, hl]; rfl) w2 f2 hC2 hL2 hfx2 (fun t ht => ?_) (fun t ht => by rw [hlow t (by omega), e_q_16, fu_s, List.getElem?_set_ne (by omega)]) hf2
                match t, ht with
                | 0, _ => rw [Nat.add_zero, hlow k0 (by omega), e_q_16, fu_s, nm2 (by assumption) (by assumption)]; exact List.getElem?_set_self (by omega)
                | t + 1, ht => have h9 := hhi t (Nat.lt_of_succ_lt_succ ht); rw [show k0 + (t + 1) = k0 + 1 + t by omega]; exact h9
              · refine R_iconst r_140_110 (v := nI 0) rfl ?_
                refine R_iret r_140_111 (ty := .boolean) rfl (by decide) (by decide) ?_
                refine hF (rdM_n ?_) _ _ _ hC_q_12 hL hfx (frm.tr (frm.tr hf hf_q_3) hf_q_12)
                refine Or.inr ?_
                rw [fgV_2 (by assumption) (by assumption)]
                first | (rw [if_pos (by omega)]; assumption) | (rw [if_neg (by omega)]; assumption)
            · refine R_bipush r_140_100 (v := nI 44) rfl ?_
              refine R_goto r_140_102 (by decide) ?_
              refine R_icmp_eq_N r_140_107 (by decide) (by omega) (by omega) (fun h_18 => ?_) (fun h_18 => ?_)
              · refine R_aload_n r_140_112 rfl (by decide) ?_
                refine R_getf r_140_113 (by decide) hC_q_12.1 rfl ?_
                refine R_iload_n r_140_116 rfl ?_
                refine R_iload r_140_117 rfl ?_
                refine R_mst r_140_119 hC_q_12 hL (by decide) (by decide) (by show _ < (4 : Nat); omega) (by decide) (fun w_q_19 f_q_19 hC_q_19 hL_q_19 e_q_19 hf_q_19 => ?_)
                refine R_aload_n r_140_120 rfl (by decide) ?_
                refine R_dup r_140_121 rfl ?_
                refine R_getf r_140_122 (by decide) hC_q_19.1 rfl ?_
                refine R_iconst r_140_125 (v := nI 1) rfl ?_
                refine R_iaddN r_140_126 ?_
                refine R_mp_sp r_140_127 hC_q_19 rfl rfl (fun w_q_20 hC_q_20 hf_q_20 => ?_)
                refine R_iinc1 r_140_130 rfl rfl ?_
                refine R_goto r_140_133 (by decide) ?_
                have hstep : ¬ (fgV tx p = 0 ∨ ltA tx (p + fgV tx p) ≠ (if k0 + 1 < n then 44 else 59)) := by
                  rw [fgV_2 (by assumption) (by assumption)]
                  rintro (z | z)
                  · omega
                  · exact z (by first | (rw [if_pos (by omega)]; assumption) | (rw [if_neg (by omega)]; assumption))
                have efg : fgV tx p = 2 := fgV_2 (by assumption) (by assumption)
                have hll : (f 37).length = 4 := hL 37 (by decide) (by decide)
                refine ih (k0 + 1) (p + 2 + 1) _ _ _ _ (by omega) (by omega) (by omega) hC_q_20 hL_q_19 (hx.fx (by rw [e_q_19]; exact fx.rf.u)) (by rw [e_q_19]; exact hfx.u) (frm.tr (frm.tr (frm.tr (frm.tr hf hf_q_3) hf_q_12) hf_q_19) hf_q_20) (fun hz w2 f2 sp2 hC2 hL2 hfx2 hf2 => hF (by rw [rdM_s hstep, efg, hz]; rfl) w2 f2 sp2 hC2 hL2 hfx2 hf2) (fun l e hl w2 f2 hC2 hL2 hfx2 hhi hlow hf2 => ?_)
                refine hS (nmV tx p :: l) e (by rw [rdM_s hstep, efg, hl]; rfl) w2 f2 hC2 hL2 hfx2 (fun t ht => ?_) (fun t ht => by rw [hlow t (by omega), e_q_19, fu_s, List.getElem?_set_ne (by omega)]) hf2
                match t, ht with
                | 0, _ => rw [Nat.add_zero, hlow k0 (by omega), e_q_19, fu_s, nm2 (by assumption) (by assumption)]; exact List.getElem?_set_self (by omega)
                | t + 1, ht => have h9 := hhi t (Nat.lt_of_succ_lt_succ ht); rw [show k0 + (t + 1) = k0 + 1 + t by omega]; exact h9
              · refine R_iconst r_140_110 (v := nI 0) rfl ?_
                refine R_iret r_140_111 (ty := .boolean) rfl (by decide) (by decide) ?_
                refine hF (rdM_n ?_) _ _ _ hC_q_12 hL hfx (frm.tr (frm.tr hf hf_q_3) hf_q_12)
                refine Or.inr ?_
                rw [fgV_2 (by assumption) (by assumption)]
                first | (rw [if_pos (by omega)]; assumption) | (rw [if_neg (by omega)]; assumption)
          · refine R_iload_n r_140_33 rfl ?_
            refine R_iconst r_140_34 (v := nI 3) rfl ?_
            refine R_icmpF r_140_35 (by decide) (by decide) ?_
            refine R_bipush r_140_38 (v := nI 10) rfl ?_
            refine R_iload r_140_40 rfl ?_
            refine R_imulN r_140_42 ?_
            refine R_aload_n r_140_43 rfl (by decide) ?_
            refine R_aload_n r_140_44 rfl (by decide) ?_
            refine R_getf r_140_45 (by decide) hC_q_12.1 rfl ?_
            refine R_call2 r_140_48 rfl (sm_rvM rfl rfl rfl hC_q_12) (Nat.le_of_ble_eq_true rfl) (Nat.le_of_ble_eq_true rfl) ?_
            refine m_letterAt hC_q_12 hx (by omega) ?_
            refine R_iaddN r_140_51 ?_
            have hfd := fd1 (by assumption : figB (ltA tx (p + 2)) = true)
            refine R_bipush r_140_52 (v := nI 48) rfl ?_
            refine R_isubN r_140_54 (by omega) ?_
            refine R_istore r_140_55 rfl ?_
            refine R_iinc1 r_140_57 rfl rfl ?_
            refine R_aload_n r_140_60 rfl (by decide) ?_
            refine R_dup r_140_61 rfl ?_
            refine R_getf r_140_62 (by decide) hC_q_12.1 rfl ?_
            refine R_iconst r_140_65 (v := nI 1) rfl ?_
            refine R_iaddN r_140_66 ?_
            refine R_mp_sp r_140_67 hC_q_12 rfl rfl (fun w_q_21 hC_q_21 hf_q_21 => ?_)
            refine R_goto r_140_70 (by decide) ?_
            rw [show p + 2 + 1 = p + 3 from rfl] at hC_q_21
            refine R_aload_n r_140_12 rfl (by decide) ?_
            refine R_aload_n r_140_13 rfl (by decide) ?_
            refine R_getf r_140_14 (by decide) hC_q_21.1 rfl ?_
            refine R_call2 r_140_17 rfl (sm_rvM rfl rfl rfl hC_q_21) (Nat.le_of_ble_eq_true rfl) (Nat.le_of_ble_eq_true rfl) ?_
            refine m_letterAt hC_q_21 hx (by omega) ?_
            refine R_i2lN r_140_20 (by omega) ?_
            refine R_ldc2_w r_140_21 (v := lN 48) rfl ?_
            refine R_ldc2_w r_140_24 (v := lN 57) rfl ?_
            refine R_call3 r_140_27 rfl rfl (Nat.le_of_ble_eq_true rfl) (Nat.le_of_ble_eq_true rfl) ?_
            refine m_in (in_fig (hx.2.2 _)) ?_
            refine R_if_eq_b r_140_30 (by decide) (fun h_22 => ?_) (fun h_22 => ?_)
            · refine R_iload_n r_140_73 rfl ?_
              refine R_i2lN r_140_74 (by omega) ?_
              refine R_lconst r_140_75 (v := lN 1) rfl ?_
              refine R_ldc2_w r_140_76 (v := lN 2) rfl ?_
              refine R_call3 r_140_79 rfl rfl (Nat.le_of_ble_eq_true rfl) (Nat.le_of_ble_eq_true rfl) ?_
              refine m_in (c := false) (by decide) ?_
              refine R_ifT r_140_82 (by decide) (by decide) ?_
              refine R_iconst r_140_110 (v := nI 0) rfl ?_
              refine R_iret r_140_111 (ty := .boolean) rfl (by decide) (by decide) ?_
              refine hF (rdM_n ?_) _ _ _ hC_q_21 hL hfx (frm.tr (frm.tr (frm.tr hf hf_q_3) hf_q_12) hf_q_21)
              exact fg3 (by assumption) (by assumption) (by assumption)
            · refine R_iload_n r_140_33 rfl ?_
              refine R_iconst r_140_34 (v := nI 3) rfl ?_
              refine R_icmpT r_140_35 (by decide) (by decide) ?_
              refine R_iload_n r_140_73 rfl ?_
              refine R_i2lN r_140_74 (by omega) ?_
              refine R_lconst r_140_75 (v := lN 1) rfl ?_
              refine R_ldc2_w r_140_76 (v := lN 2) rfl ?_
              refine R_call3 r_140_79 rfl rfl (Nat.le_of_ble_eq_true rfl) (Nat.le_of_ble_eq_true rfl) ?_
              refine m_in (c := false) (by decide) ?_
              refine R_ifT r_140_82 (by decide) (by decide) ?_
              refine R_iconst r_140_110 (v := nI 0) rfl ?_
              refine R_iret r_140_111 (ty := .boolean) rfl (by decide) (by decide) ?_
              refine hF (rdM_n ?_) _ _ _ hC_q_21 hL hfx (frm.tr (frm.tr (frm.tr hf hf_q_3) hf_q_12) hf_q_21)
              exact fg3 (by assumption) (by assumption) (by assumption)
