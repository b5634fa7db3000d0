/-! the class reads an item of the text -/
abbrev ltA (tx : List Nat) (p : Nat) : Nat := tx.getD p 0
def figB (c : Nat) : Bool := decide (48 ≤ c) && decide (c ≤ 57)
theorem figB_t {c : Nat} (h : 48 ≤ c) (h2 : c ≤ 57) : figB c = true := by unfold figB; rw [decide_eq_true h, decide_eq_true h2]; rfl
theorem figB_f1 {c : Nat} (h : c < 48) : figB c = false := by unfold figB; rw [decide_eq_false (by omega)]; rfl
theorem figB_f2 {c : Nat} (h : 57 < c) : figB c = false := by unfold figB; rw [decide_eq_false (by omega : ¬ c ≤ 57), Bool.and_false]
theorem figB_d {c : Nat} (h : figB c = true) : 48 ≤ c ∧ c ≤ 57 := by
  unfold figB at h
  rw [Bool.and_eq_true, decide_eq_true_iff, decide_eq_true_iff] at h
  exact h
def fgV (tx : List Nat) (p : Nat) : Nat := if figB (ltA tx p) = true then (if figB (ltA tx (p + 1)) = true then 2 else 1) else 0
theorem fgV_0 {tx : List Nat} {p : Nat} (h : figB (ltA tx p) = false) : fgV tx p = 0 := by unfold fgV; rw [if_neg (by rw [h]; decide)]
theorem fgV_1 {tx : List Nat} {p : Nat} (h : figB (ltA tx p) = true) (h2 : figB (ltA tx (p + 1)) = false) : fgV tx p = 1 := by unfold fgV; rw [if_pos h, if_neg (by rw [h2]; decide)]
theorem fgV_2 {tx : List Nat} {p : Nat} (h : figB (ltA tx p) = true) (h2 : figB (ltA tx (p + 1)) = true) : fgV tx p = 2 := by unfold fgV; rw [if_pos h, if_pos h2]
theorem fg2 {tx : List Nat} {p : Nat} (h : fgV tx p = 2) : figB (ltA tx (p + 1)) = true := by
  unfold fgV at h
  split at h
  · split at h
    · assumption
    · omega
  · omega
theorem fgV_le (tx : List Nat) (p : Nat) : fgV tx p ≤ 2 := by unfold fgV; split <;> (try split) <;> omega
def nmV (tx : List Nat) (p : Nat) : Nat := if fgV tx p = 2 then 10 * (ltA tx p - 48) + ltA tx (p + 1) - 48 else ltA tx p - 48
def noN (c : Nat) : Nat := if c = 105 then 4 else if c = 98 ∨ c = 100 ∨ c = 109 ∨ c = 104 ∨ c = 115 then 1 else 0
def lsN (c : Nat) : Nat := if c = 98 ∨ c = 104 then 1 else 0
def msN (c k : Nat) : Nat := if c = 105 then (if k < 2 then 3 else if k = 2 then 7 else 9) else if c = 98 then 8 else if c = 100 then 9 else if c = 109 then 40 else if c = 104 then 9 else 10
theorem nmV_le {tx : List Nat} {p : Nat} (h : figB (ltA tx p) = true) : nmV tx p ≤ 99 := by
  have h0 := figB_d h
  unfold nmV
  split
  · have := figB_d (fg2 (by assumption)); omega
  · omega
theorem noN_le (c : Nat) : noN c ≤ 4 := by unfold noN; split <;> (try split) <;> omega
theorem lsN_le (c : Nat) : lsN c ≤ 1 := by unfold lsN; split <;> omega
theorem msN_le (c k : Nat) : msN c k ≤ 40 := by unfold msN; (repeat' split) <;> omega
/-- r numbers more, from the place p on, the k-th first, of n in all -/
def rdC (tx : List Nat) (c n : Nat) : Nat → Nat → Nat → Option (List Nat × Nat)
  | 0, _, p => some ([], p)
  | r + 1, k, p => if fgV tx p = 0 ∨ nmV tx p < lsN c ∨ msN c k < nmV tx p ∨ ltA tx (p + fgV tx p) ≠ (if k + 1 < n then 44 else 59) then none else (rdC tx c n r (k + 1) (p + fgV tx p + 1)).map (fun q => (nmV tx p :: q.1, q.2))
theorem rdC_n {tx : List Nat} {c n r k p : Nat} (h : fgV tx p = 0 ∨ nmV tx p < lsN c ∨ msN c k < nmV tx p ∨ ltA tx (p + fgV tx p) ≠ (if k + 1 < n then 44 else 59)) : rdC tx c n (r + 1) k p = none := by rw [rdC, if_pos h]
theorem rdC_s {tx : List Nat} {c n r k p : Nat} (h : ¬ (fgV tx p = 0 ∨ nmV tx p < lsN c ∨ msN c k < nmV tx p ∨ ltA tx (p + fgV tx p) ≠ (if k + 1 < n then 44 else 59))) : rdC tx c n (r + 1) k p = (rdC tx c n r (k + 1) (p + fgV tx p + 1)).map (fun q => (nmV tx p :: q.1, q.2)) := by rw [rdC, if_neg h]
/-- the item at p: its numbers, and the place behind it -/
def itC (tx : List Nat) (p : Nat) : Option (List Nat × Nat) := if noN (ltA tx p) = 0 then none else rdC tx (ltA tx p) (noN (ltA tx p)) (noN (ltA tx p)) 0 (p + 1)
def isM (wd : sm_W) (c e : Int32) (l : List Int32) : Prop := wd[3]? = some (.inr (.inr (2, [.ref 4, .int c, .int e]))) ∧ wd[4]? = some (.inl (0, l)) ∧ l.length = 4
theorem isM.of {wd w2 : sm_W} {c e : Int32} {l : List Int32} (h : isM wd c e l) (h3 : w2[3]? = wd[3]?) (h4 : w2[4]? = wd[4]?) : isM w2 c e l := ⟨h3.trans h.1, h4.trans h.2.1, h.2.2⟩
theorem isT_set {wd : sm_W} {tx : List Nat} {k : Nat} {e : sm_E} (hk : k ≠ 1 ∧ k ≠ 2) (h : isT wd tx) : isT (wd.set k e) tx := isT_of h (List.getElem?_set_ne hk.1) (List.getElem?_set_ne hk.2)
theorem isT.lt {wd : sm_W} {tx : List Nat} (h : isT wd tx) (p : Nat) : ltA tx p < 127 := h.choose_spec.2.2.2.2.2 p
theorem lt_out {tx : List Nat} {p : Nat} (h : tx.length ≤ p) : ltA tx p = 0 := by
  show tx.getD p 0 = 0
  rw [List.getD_eq_getElem?_getD, List.getElem?_eq_none h]; rfl
theorem c_letterAt {xs : List Int32} {d : Nat} {wd : sm_W} {Q : Option Value → sm_W → Prop} {tx : List Nat} (hT : isT wd tx) {p : Nat} (hp : p < 2147483648) (hQ : Q (some (.int (nI (ltA tx p)))) wd) : Ct xs (d) 22 [.ref 1, .int (nI p)] wd Q := by
  unfold Ct
  show RT xs (d) 22 0 [some (.ref 1), some (.int (nI p))] [] wd Q
  obtain ⟨l, h1, h2, hc, hle, hall, hbd⟩ := id hT
  refine R_iload_n r_22_0 rfl ?_
  refine R_if_lt_N r_22_1 (by decide) (by omega) ?_
  refine R_iload_n r_22_4 rfl ?_
  refine R_aload_n r_22_5 rfl (by decide) ?_
  refine R_getf r_22_6 (by decide) h1 rfl ?_
  refine R_icmp_ge_N r_22_9 (by decide) (by omega) (by omega) (fun h_1 => ?_) (fun h_1 => ?_)
  · refine R_iconst r_22_30 (v := nI 0) rfl ?_
    refine R_iret r_22_31 (ty := .int) rfl rfl (by decide) ?_
    rw [lt_out (by omega)] at hQ; exact hQ
  · refine R_iload_n r_22_12 rfl ?_
    refine R_aload_n r_22_13 rfl (by decide) ?_
    refine R_getf r_22_14 (by decide) h1 rfl ?_
    refine R_alenIm r_22_17 ⟨(by decide), (by decide)⟩ h2 (m := 200) hc ?_
    refine R_icmp_ge_N r_22_18 (by decide) (by omega) (by omega) (fun h_2 => ?_) (fun h_2 => ?_)
    · refine R_iconst r_22_30 (v := nI 0) rfl ?_
      refine R_iret r_22_31 (ty := .int) rfl rfl (by decide) ?_
      rw [lt_out (by omega)] at hQ; exact hQ
    · refine R_aload_n r_22_21 rfl (by decide) ?_
      refine R_getf r_22_22 (by decide) h1 rfl ?_
      refine R_iload_n r_22_25 rfl ?_
      refine R_cald r_22_26 h2 (sm_ixG (hall p (by omega)) (by omega)) ?_
      refine R_goto r_22_27 (by decide) ?_
      refine R_iret r_22_31 (ty := .int) rfl rfl (by decide) ?_
      exact hQ
theorem c_isFigure {xs : List Int32} {d : Nat} {wd : sm_W} {Q : Option Value → sm_W → Prop} {c : Nat} (hcc : c < 2147483648) (hQ : Q (some (.int (b2i (figB c)))) wd) : Ct xs (d) 25 [.int (nI c)] wd Q := by
  unfold Ct
  show RT xs (d) 25 0 [some (.int (nI c))] [] wd Q
  refine R_iload_n r_25_0 rfl ?_
  refine R_bipush r_25_1 (v := nI 48) rfl ?_
  refine R_icmp_lt_N r_25_3 (by decide) (by omega) (by omega) (fun h_1 => ?_) (fun h_1 => ?_)
  · refine R_iconst r_25_16 (v := nI 0) rfl ?_
    refine R_iret r_25_17 (ty := .boolean) rfl (by decide) (by decide) ?_
    first | (rw [figB_f1 (by omega)] at hQ; exact hQ) | (rw [figB_f2 (by omega)] at hQ; exact hQ)
  · refine R_iload_n r_25_6 rfl ?_
    refine R_bipush r_25_7 (v := nI 57) rfl ?_
    refine R_icmp_gt_N r_25_9 (by decide) (by omega) (by omega) (fun h_2 => ?_) (fun h_2 => ?_)
    · refine R_iconst r_25_16 (v := nI 0) rfl ?_
      refine R_iret r_25_17 (ty := .boolean) rfl (by decide) (by decide) ?_
      first | (rw [figB_f1 (by omega)] at hQ; exact hQ) | (rw [figB_f2 (by omega)] at hQ; exact hQ)
    · refine R_iconst r_25_12 (v := nI 1) rfl ?_
      refine R_goto r_25_13 (by decide) ?_
      refine R_iret r_25_17 (ty := .boolean) rfl (by decide) (by decide) ?_
      rw [figB_t (by omega) (by omega)] at hQ; exact hQ
theorem c_figuresAt {xs : List Int32} {d : Nat} {wd : sm_W} {Q : Option Value → sm_W → Prop} {tx : List Nat} (hT : isT wd tx) {p : Nat} (hp : p < 1000) (hQ : Q (some (.int (nI (fgV tx p)))) wd) : Ct xs (d + 1) 24 [.ref 1, .int (nI p)] wd Q := by
  unfold Ct
  show RT xs (d + 1) 24 0 [some (.ref 1), some (.int (nI p))] [] wd Q
  obtain ⟨l, h1, h2, hc, hle, hall, hbd⟩ := id hT
  refine R_aload_n r_24_0 rfl (by decide) ?_
  refine R_iload_n r_24_1 rfl ?_
  refine R_call2 r_24_2 rfl (sm_rv1 rfl rfl h1) (Nat.le_of_ble_eq_true rfl) (Nat.le_of_ble_eq_true rfl) ?_
  refine c_letterAt hT (by omega) ?_
  refine R_call1 r_24_5 rfl rfl (Nat.le_of_ble_eq_true rfl) (Nat.le_of_ble_eq_true rfl) ?_
  refine c_isFigure (Nat.lt_trans (hT.lt _) (by decide)) ?_
  refine R_if_ne_b r_24_8 (by decide) (fun h_1 => ?_) (fun h_1 => ?_)
  · refine R_aload_n r_24_13 rfl (by decide) ?_
    refine R_iload_n r_24_14 rfl ?_
    refine R_iconst r_24_15 (v := nI 1) rfl ?_
    refine R_iaddN r_24_16 ?_
    refine R_call2 r_24_17 rfl (sm_rv1 rfl rfl h1) (Nat.le_of_ble_eq_true rfl) (Nat.le_of_ble_eq_true rfl) ?_
    refine c_letterAt hT (by omega) ?_
    refine R_call1 r_24_20 rfl rfl (Nat.le_of_ble_eq_true rfl) (Nat.le_of_ble_eq_true rfl) ?_
    refine c_isFigure (Nat.lt_trans (hT.lt _) (by decide)) ?_
    refine R_if_eq_b r_24_23 (by decide) (fun h_2 => ?_) (fun h_2 => ?_)
    · refine R_iconst r_24_30 (v := nI 1) rfl ?_
      refine R_iret r_24_31 (ty := .int) rfl rfl (by decide) ?_
      rw [fgV_1 (by assumption) (by assumption)] at hQ; exact hQ
    · refine R_iconst r_24_26 (v := nI 2) rfl ?_
      refine R_goto r_24_27 (by decide) ?_
      refine R_iret r_24_31 (ty := .int) rfl rfl (by decide) ?_
      rw [fgV_2 (by assumption) (by assumption)] at hQ; exact hQ
  · refine R_iconst r_24_11 (v := nI 0) rfl ?_
    refine R_iret r_24_12 (ty := .int) rfl rfl (by decide) ?_
    rw [fgV_0 (by assumption)] at hQ; exact hQ
theorem c_numberAt {xs : List Int32} {d : Nat} {wd : sm_W} {Q : Option Value → sm_W → Prop} {tx : List Nat} (hT : isT wd tx) {p : Nat} (hp : p < 1000) (hfg : figB (ltA tx p) = true) (hQ : Q (some (.int (nI (nmV tx p)))) wd) : Ct xs (d + 1) 26 [.ref 1, .int (nI p), .int (nI (fgV tx p))] wd Q := by
  unfold Ct
  show RT xs (d + 1) 26 0 [some (.ref 1), some (.int (nI p)), some (.int (nI (fgV tx p))), none] [] wd Q
  obtain ⟨l, h1, h2, hc, hle, hall, hbd⟩ := id hT
  have hfd := figB_d hfg
  have hf2 := fgV_le tx p
  have hl0 := hT.lt p
  have hl1 := hT.lt (p + 1)
  refine R_aload_n r_26_0 rfl (by decide) ?_
  refine R_iload_n r_26_1 rfl ?_
  refine R_call2 r_26_2 rfl (sm_rv1 rfl rfl h1) (Nat.le_of_ble_eq_true rfl) (Nat.le_of_ble_eq_true rfl) ?_
  refine c_letterAt hT (by omega) ?_
  refine R_bipush r_26_5 (v := nI 48) rfl ?_
  refine R_isubN r_26_7 (by omega) ?_
  refine R_istore_n r_26_8 rfl ?_
  refine R_iload_n r_26_9 rfl ?_
  refine R_iconst r_26_10 (v := nI 2) rfl ?_
  refine R_icmp_ne_N r_26_11 (by decide) (by omega) (by omega) (fun h_1 => ?_) (fun h_1 => ?_)
  · refine R_iload_n r_26_32 rfl ?_
    refine R_iret r_26_33 (ty := .int) rfl rfl (by decide) ?_
    unfold nmV at hQ; first | (rw [if_pos (by assumption)] at hQ; exact hQ) | (rw [if_neg (by assumption)] at hQ; exact hQ)
  · refine R_bipush r_26_14 (v := nI 10) rfl ?_
    refine R_iload_n r_26_16 rfl ?_
    refine R_imulN r_26_17 ?_
    refine R_aload_n r_26_18 rfl (by decide) ?_
    refine R_iload_n r_26_19 rfl ?_
    refine R_iconst r_26_20 (v := nI 1) rfl ?_
    refine R_iaddN r_26_21 ?_
    refine R_call2 r_26_22 rfl (sm_rv1 rfl rfl h1) (Nat.le_of_ble_eq_true rfl) (Nat.le_of_ble_eq_true rfl) ?_
    refine c_letterAt hT (by omega) ?_
    refine R_iaddN r_26_25 ?_
    refine R_bipush r_26_26 (v := nI 48) rfl ?_
    refine R_isubN r_26_28 (by have := figB_d (fg2 (by assumption)); omega) ?_
    refine R_goto r_26_29 (by decide) ?_
    refine R_iret r_26_33 (ty := .int) rfl rfl (by decide) ?_
    unfold nmV at hQ; first | (rw [if_pos (by assumption)] at hQ; exact hQ) | (rw [if_neg (by assumption)] at hQ; exact hQ)
theorem c_numberAt0 {xs : List Int32} {d : Nat} {wd : sm_W} {Q : Option Value → sm_W → Prop} {tx : List Nat} (hT : isT wd tx) {p : Nat} (hp : p < 1000) (hQ : ∀ v, Q (some (.int v)) wd) : Ct xs (d + 1) 26 [.ref 1, .int (nI p), .int (nI 0)] wd Q := by
  unfold Ct
  show RT xs (d + 1) 26 0 [some (.ref 1), some (.int (nI p)), some (.int (nI 0)), none] [] wd Q
  obtain ⟨l, h1, h2, hc, hle, hall, hbd⟩ := id hT
  refine R_aload_n r_26_0 rfl (by decide) ?_
  refine R_iload_n r_26_1 rfl ?_
  refine R_call2 r_26_2 rfl (sm_rv1 rfl rfl h1) (Nat.le_of_ble_eq_true rfl) (Nat.le_of_ble_eq_true rfl) ?_
  refine c_letterAt hT (by omega) ?_
  refine R_bipush r_26_5 (v := nI 48) rfl ?_
  refine R_isub r_26_7 ?_
  refine R_istore_n r_26_8 rfl ?_
  refine R_iload_n r_26_9 rfl ?_
  refine R_iconst r_26_10 (v := nI 2) rfl ?_
  refine R_icmpT r_26_11 (by decide) (by decide) ?_
  refine R_iload_n r_26_32 rfl ?_
  refine R_iret r_26_33 (ty := .int) rfl rfl (by decide) ?_
  exact hQ _
theorem c_numbersOf {xs : List Int32} {d : Nat} {wd : sm_W} {Q : Option Value → sm_W → Prop} {c : Nat} (hcc : c < 127) (hQ : Q (some (.int (nI (noN c)))) wd) : Ct xs (d) 23 [.int (nI c)] wd Q := by
  unfold Ct
  show RT xs (d) 23 0 [some (.int (nI c))] [] wd Q
  refine R_iload_n r_23_0 rfl ?_
  rcases (by omega : (c < 98 ∨ 115 < c) ∨ c = 98 ∨ c = 99 ∨ c = 100 ∨ c = 101 ∨ c = 102 ∨ c = 103 ∨ c = 104 ∨ c = 105 ∨ c = 106 ∨ c = 107 ∨ c = 108 ∨ c = 109 ∨ c = 110 ∨ c = 111 ∨ c = 112 ∨ c = 113 ∨ c = 114 ∨ c = 115) with hts_1 | hts_1 | hts_1 | hts_1 | hts_1 | hts_1 | hts_1 | hts_1 | hts_1 | hts_1 | hts_1 | hts_1 | hts_1 | hts_1 | hts_1 | hts_1 | hts_1 | hts_1 | hts_1
  · refine R_tsOut r_23_1 (by rw [nI_toInt (by omega)]; omega) (t := 92) (by decide) ?_
    refine R_iconst r_23_92 (v := nI 0) rfl ?_
    refine R_iret r_23_93 (ty := .int) rfl rfl (by decide) ?_
    rw [show noN c = 0 from by unfold noN; rw [if_neg (by omega), if_neg (by omega)]] at hQ; exact hQ
  · subst hts_1
    refine R_tsIn r_23_1 (by decide) (by rfl) (t := 90) (by decide) ?_
    refine R_iconst r_23_90 (v := nI 1) rfl ?_
    refine R_iret r_23_91 (ty := .int) rfl rfl (by decide) ?_
    exact hQ
  · subst hts_1
    refine R_tsIn r_23_1 (by decide) (by rfl) (t := 92) (by decide) ?_
    refine R_iconst r_23_92 (v := nI 0) rfl ?_
    refine R_iret r_23_93 (ty := .int) rfl rfl (by decide) ?_
    exact hQ
  · subst hts_1
    refine R_tsIn r_23_1 (by decide) (by rfl) (t := 90) (by decide) ?_
    refine R_iconst r_23_90 (v := nI 1) rfl ?_
    refine R_iret r_23_91 (ty := .int) rfl rfl (by decide) ?_
    exact hQ
  · subst hts_1
    refine R_tsIn r_23_1 (by decide) (by rfl) (t := 92) (by decide) ?_
    refine R_iconst r_23_92 (v := nI 0) rfl ?_
    refine R_iret r_23_93 (ty := .int) rfl rfl (by decide) ?_
    exact hQ
  · subst hts_1
    refine R_tsIn r_23_1 (by decide) (by rfl) (t := 92) (by decide) ?_
    refine R_iconst r_23_92 (v := nI 0) rfl ?_
    refine R_iret r_23_93 (ty := .int) rfl rfl (by decide) ?_
    exact hQ
  · subst hts_1
    refine R_tsIn r_23_1 (by decide) (by rfl) (t := 92) (by decide) ?_
    refine R_iconst r_23_92 (v := nI 0) rfl ?_
    refine R_iret r_23_93 (ty := .int) rfl rfl (by decide) ?_
    exact hQ
  · subst hts_1
    refine R_tsIn r_23_1 (by decide) (by rfl) (t := 90) (by decide) ?_
    refine R_iconst r_23_90 (v := nI 1) rfl ?_
    refine R_iret r_23_91 (ty := .int) rfl rfl (by decide) ?_
    exact hQ
  · subst hts_1
    refine R_tsIn r_23_1 (by decide) (by rfl) (t := 88) (by decide) ?_
    refine R_iconst r_23_88 (v := nI 4) rfl ?_
    refine R_iret r_23_89 (ty := .int) rfl rfl (by decide) ?_
    exact hQ
  · subst hts_1
    refine R_tsIn r_23_1 (by decide) (by rfl) (t := 92) (by decide) ?_
    refine R_iconst r_23_92 (v := nI 0) rfl ?_
    refine R_iret r_23_93 (ty := .int) rfl rfl (by decide) ?_
    exact hQ
  · subst hts_1
    refine R_tsIn r_23_1 (by decide) (by rfl) (t := 92) (by decide) ?_
    refine R_iconst r_23_92 (v := nI 0) rfl ?_
    refine R_iret r_23_93 (ty := .int) rfl rfl (by decide) ?_
    exact hQ
  · subst hts_1
    refine R_tsIn r_23_1 (by decide) (by rfl) (t := 92) (by decide) ?_
    refine R_iconst r_23_92 (v := nI 0) rfl ?_
    refine R_iret r_23_93 (ty := .int) rfl rfl (by decide) ?_
    exact hQ
  · subst hts_1
    refine R_tsIn r_23_1 (by decide) (by rfl) (t := 90) (by decide) ?_
    refine R_iconst r_23_90 (v := nI 1) rfl ?_
    refine R_iret r_23_91 (ty := .int) rfl rfl (by decide) ?_
    exact hQ
  · subst hts_1
    refine R_tsIn r_23_1 (by decide) (by rfl) (t := 92) (by decide) ?_
    refine R_iconst r_23_92 (v := nI 0) rfl ?_
    refine R_iret r_23_93 (ty := .int) rfl rfl (by decide) ?_
    exact hQ
  · subst hts_1
    refine R_tsIn r_23_1 (by decide) (by rfl) (t := 92) (by decide) ?_
    refine R_iconst r_23_92 (v := nI 0) rfl ?_
    refine R_iret r_23_93 (ty := .int) rfl rfl (by decide) ?_
    exact hQ
  · subst hts_1
    refine R_tsIn r_23_1 (by decide) (by rfl) (t := 92) (by decide) ?_
    refine R_iconst r_23_92 (v := nI 0) rfl ?_
    refine R_iret r_23_93 (ty := .int) rfl rfl (by decide) ?_
    exact hQ
  · subst hts_1
    refine R_tsIn r_23_1 (by decide) (by rfl) (t := 92) (by decide) ?_
    refine R_iconst r_23_92 (v := nI 0) rfl ?_
    refine R_iret r_23_93 (ty := .int) rfl rfl (by decide) ?_
    exact hQ
  · subst hts_1
    refine R_tsIn r_23_1 (by decide) (by rfl) (t := 92) (by decide) ?_
    refine R_iconst r_23_92 (v := nI 0) rfl ?_
    refine R_iret r_23_93 (ty := .int) rfl rfl (by decide) ?_
    exact hQ
  · subst hts_1
    refine R_tsIn r_23_1 (by decide) (by rfl) (t := 90) (by decide) ?_
    refine R_iconst r_23_90 (v := nI 1) rfl ?_
    refine R_iret r_23_91 (ty := .int) rfl rfl (by decide) ?_
    exact hQ
theorem c_least {xs : List Int32} {d : Nat} {wd : sm_W} {Q : Option Value → sm_W → Prop} {c : Nat} (hcc : c < 127) (hQ : Q (some (.int (nI (lsN c)))) wd) : Ct xs (d) 27 [.int (nI c)] wd Q := by
  unfold Ct
  show RT xs (d) 27 0 [some (.int (nI c))] [] wd Q
  refine R_iload_n r_27_0 rfl ?_
  refine R_bipush r_27_1 (v := nI 98) rfl ?_
  refine R_icmp_eq_N r_27_3 (by decide) (by omega) (by omega) (fun h_1 => ?_) (fun h_1 => ?_)
  · refine R_iconst r_27_12 (v := nI 1) rfl ?_
    refine R_goto r_27_13 (by decide) ?_
    refine R_iret r_27_17 (ty := .int) rfl rfl (by decide) ?_
    unfold lsN at hQ; first | (rw [if_pos (by omega)] at hQ; exact hQ) | (rw [if_neg (by omega)] at hQ; exact hQ)
  · refine R_iload_n r_27_6 rfl ?_
    refine R_bipush r_27_7 (v := nI 104) rfl ?_
    refine R_icmp_ne_N r_27_9 (by decide) (by omega) (by omega) (fun h_2 => ?_) (fun h_2 => ?_)
    · refine R_iconst r_27_16 (v := nI 0) rfl ?_
      refine R_iret r_27_17 (ty := .int) rfl rfl (by decide) ?_
      unfold lsN at hQ; first | (rw [if_pos (by omega)] at hQ; exact hQ) | (rw [if_neg (by omega)] at hQ; exact hQ)
    · refine R_iconst r_27_12 (v := nI 1) rfl ?_
      refine R_goto r_27_13 (by decide) ?_
      refine R_iret r_27_17 (ty := .int) rfl rfl (by decide) ?_
      unfold lsN at hQ; first | (rw [if_pos (by omega)] at hQ; exact hQ) | (rw [if_neg (by omega)] at hQ; exact hQ)
theorem c_most {xs : List Int32} {d : Nat} {wd : sm_W} {Q : Option Value → sm_W → Prop} {c k : Nat} (hcc : c < 127) (hk : k < 8) (hQ : Q (some (.int (nI (msN c k)))) wd) : Ct xs (d) 28 [.int (nI c), .int (nI k)] wd Q := by
  unfold Ct
  show RT xs (d) 28 0 [some (.int (nI c)), some (.int (nI k))] [] wd Q
  refine R_iload_n r_28_0 rfl ?_
  rcases (by omega : (c < 98 ∨ 109 < c) ∨ c = 98 ∨ c = 99 ∨ c = 100 ∨ c = 101 ∨ c = 102 ∨ c = 103 ∨ c = 104 ∨ c = 105 ∨ c = 106 ∨ c = 107 ∨ c = 108 ∨ c = 109) with hts_1 | hts_1 | hts_1 | hts_1 | hts_1 | hts_1 | hts_1 | hts_1 | hts_1 | hts_1 | hts_1 | hts_1 | hts_1
  · refine R_tsOut r_28_1 (by rw [nI_toInt (by omega)]; omega) (t := 98) (by decide) ?_
    refine R_bipush r_28_98 (v := nI 10) rfl ?_
    refine R_iret r_28_100 (ty := .int) rfl rfl (by decide) ?_
    rw [show msN c k = 10 from by unfold msN; simp (disch := omega) only [if_pos, if_neg, ite_true, ite_false]; first | rfl | (repeat (first | rw [if_pos (by omega)] | rw [if_neg (by omega)]))] at hQ; exact hQ
  · subst hts_1
    refine R_tsIn r_28_1 (by decide) (by rfl) (t := 86) (by decide) ?_
    refine R_bipush r_28_86 (v := nI 8) rfl ?_
    refine R_iret r_28_88 (ty := .int) rfl rfl (by decide) ?_
    rw [show msN 98 k = 8 from by unfold msN; simp (disch := omega) only [if_pos, if_neg, ite_true, ite_false]; first | rfl | (repeat (first | rw [if_pos (by omega)] | rw [if_neg (by omega)]))] at hQ; exact hQ
  · subst hts_1
    refine R_tsIn r_28_1 (by decide) (by rfl) (t := 98) (by decide) ?_
    refine R_bipush r_28_98 (v := nI 10) rfl ?_
    refine R_iret r_28_100 (ty := .int) rfl rfl (by decide) ?_
    rw [show msN 99 k = 10 from by unfold msN; simp (disch := omega) only [if_pos, if_neg, ite_true, ite_false]; first | rfl | (repeat (first | rw [if_pos (by omega)] | rw [if_neg (by omega)]))] at hQ; exact hQ
  · subst hts_1
    refine R_tsIn r_28_1 (by decide) (by rfl) (t := 89) (by decide) ?_
    refine R_bipush r_28_89 (v := nI 9) rfl ?_
    refine R_iret r_28_91 (ty := .int) rfl rfl (by decide) ?_
    rw [show msN 100 k = 9 from by unfold msN; simp (disch := omega) only [if_pos, if_neg, ite_true, ite_false]; first | rfl | (repeat (first | rw [if_pos (by omega)] | rw [if_neg (by omega)]))] at hQ; exact hQ
  · subst hts_1
    refine R_tsIn r_28_1 (by decide) (by rfl) (t := 98) (by decide) ?_
    refine R_bipush r_28_98 (v := nI 10) rfl ?_
    refine R_iret r_28_100 (ty := .int) rfl rfl (by decide) ?_
    rw [show msN 101 k = 10 from by unfold msN; simp (disch := omega) only [if_pos, if_neg, ite_true, ite_false]; first | rfl | (repeat (first | rw [if_pos (by omega)] | rw [if_neg (by omega)]))] at hQ; exact hQ
  · subst hts_1
    refine R_tsIn r_28_1 (by decide) (by rfl) (t := 98) (by decide) ?_
    refine R_bipush r_28_98 (v := nI 10) rfl ?_
    refine R_iret r_28_100 (ty := .int) rfl rfl (by decide) ?_
    rw [show msN 102 k = 10 from by unfold msN; simp (disch := omega) only [if_pos, if_neg, ite_true, ite_false]; first | rfl | (repeat (first | rw [if_pos (by omega)] | rw [if_neg (by omega)]))] at hQ; exact hQ
  · subst hts_1
    refine R_tsIn r_28_1 (by decide) (by rfl) (t := 98) (by decide) ?_
    refine R_bipush r_28_98 (v := nI 10) rfl ?_
    refine R_iret r_28_100 (ty := .int) rfl rfl (by decide) ?_
    rw [show msN 103 k = 10 from by unfold msN; simp (disch := omega) only [if_pos, if_neg, ite_true, ite_false]; first | rfl | (repeat (first | rw [if_pos (by omega)] | rw [if_neg (by omega)]))] at hQ; exact hQ
  · subst hts_1
    refine R_tsIn r_28_1 (by decide) (by rfl) (t := 95) (by decide) ?_
    refine R_bipush r_28_95 (v := nI 9) rfl ?_
    refine R_iret r_28_97 (ty := .int) rfl rfl (by decide) ?_
    rw [show msN 104 k = 9 from by unfold msN; simp (disch := omega) only [if_pos, if_neg, ite_true, ite_false]; first | rfl | (repeat (first | rw [if_pos (by omega)] | rw [if_neg (by omega)]))] at hQ; exact hQ
  · subst hts_1
    refine R_tsIn r_28_1 (by decide) (by rfl) (t := 64) (by decide) ?_
    refine R_iload_n r_28_64 rfl ?_
    refine R_iconst r_28_65 (v := nI 2) rfl ?_
    refine R_icmp_ge_N r_28_66 (by decide) (by omega) (by omega) (fun h_2 => ?_) (fun h_2 => ?_)
    · refine R_iload_n r_28_73 rfl ?_
      refine R_iconst r_28_74 (v := nI 2) rfl ?_
      refine R_icmp_ne_N r_28_75 (by decide) (by omega) (by omega) (fun h_3 => ?_) (fun h_3 => ?_)
      · refine R_bipush r_28_83 (v := nI 9) rfl ?_
        refine R_iret r_28_85 (ty := .int) rfl rfl (by decide) ?_
        rw [show msN 105 k = 9 from by unfold msN; simp (disch := omega) only [if_pos, if_neg, ite_true, ite_false]; first | rfl | (repeat (first | rw [if_pos (by omega)] | rw [if_neg (by omega)]))] at hQ; exact hQ
      · refine R_bipush r_28_78 (v := nI 7) rfl ?_
        refine R_goto r_28_80 (by decide) ?_
        refine R_iret r_28_85 (ty := .int) rfl rfl (by decide) ?_
        rw [show msN 105 k = 7 from by unfold msN; simp (disch := omega) only [if_pos, if_neg, ite_true, ite_false]; first | rfl | (repeat (first | rw [if_pos (by omega)] | rw [if_neg (by omega)]))] at hQ; exact hQ
    · refine R_iconst r_28_69 (v := nI 3) rfl ?_
      refine R_goto r_28_70 (by decide) ?_
      refine R_iret r_28_85 (ty := .int) rfl rfl (by decide) ?_
      rw [show msN 105 k = 3 from by unfold msN; simp (disch := omega) only [if_pos, if_neg, ite_true, ite_false]; first | rfl | (repeat (first | rw [if_pos (by omega)] | rw [if_neg (by omega)]))] at hQ; exact hQ
  · subst hts_1
    refine R_tsIn r_28_1 (by decide) (by rfl) (t := 98) (by decide) ?_
    refine R_bipush r_28_98 (v := nI 10) rfl ?_
    refine R_iret r_28_100 (ty := .int) rfl rfl (by decide) ?_
    rw [show msN 106 k = 10 from by unfold msN; simp (disch := omega) only [if_pos, if_neg, ite_true, ite_false]; first | rfl | (repeat (first | rw [if_pos (by omega)] | rw [if_neg (by omega)]))] at hQ; exact hQ
  · subst hts_1
    refine R_tsIn r_28_1 (by decide) (by rfl) (t := 98) (by decide) ?_
    refine R_bipush r_28_98 (v := nI 10) rfl ?_
    refine R_iret r_28_100 (ty := .int) rfl rfl (by decide) ?_
    rw [show msN 107 k = 10 from by unfold msN; simp (disch := omega) only [if_pos, if_neg, ite_true, ite_false]; first | rfl | (repeat (first | rw [if_pos (by omega)] | rw [if_neg (by omega)]))] at hQ; exact hQ
  · subst hts_1
    refine R_tsIn r_28_1 (by decide) (by rfl) (t := 98) (by decide) ?_
    refine R_bipush r_28_98 (v := nI 10) rfl ?_
    refine R_iret r_28_100 (ty := .int) rfl rfl (by decide) ?_
    rw [show msN 108 k = 10 from by unfold msN; simp (disch := omega) only [if_pos, if_neg, ite_true, ite_false]; first | rfl | (repeat (first | rw [if_pos (by omega)] | rw [if_neg (by omega)]))] at hQ; exact hQ
  · subst hts_1
    refine R_tsIn r_28_1 (by decide) (by rfl) (t := 92) (by decide) ?_
    refine R_bipush r_28_92 (v := nI 40) rfl ?_
    refine R_iret r_28_94 (ty := .int) rfl rfl (by decide) ?_
    rw [show msN 109 k = 40 from by unfold msN; simp (disch := omega) only [if_pos, if_neg, ite_true, ite_false]; first | rfl | (repeat (first | rw [if_pos (by omega)] | rw [if_neg (by omega)]))] at hQ; exact hQ
theorem c_inumber {xs : List Int32} {d : Nat} {wd : sm_W} {Q : Option Value → sm_W → Prop} {c e : Int32} {l : List Int32} (hM : isM wd c e l) {k : Nat} (hk : k < 4) {v : Int32} (hv : l[k]? = some v) (hQ : Q (some (.int v)) wd) : Ct xs (d) 30 [.ref 3, .int (nI k)] wd Q := by
  unfold Ct
  show RT xs (d) 30 0 [some (.ref 3), some (.int (nI k))] [] wd Q
  refine R_iload_n r_30_0 rfl ?_
  refine R_if_lt_N r_30_1 (by decide) (by omega) ?_
  refine R_iload_n r_30_4 rfl ?_
  refine R_aload_n r_30_5 rfl (by decide) ?_
  refine R_getf r_30_6 (by decide) hM.1 rfl ?_
  refine R_alenIm r_30_9 ⟨(by decide), (by decide)⟩ hM.2.1 (m := 4) hM.2.2 ?_
  refine R_icmp_ge_N r_30_10 (by decide) (by omega) (by omega) (fun h_1 => ?_) (fun h_1 => ?_)
  · refine R_iconst r_30_22 (v := nI 0) rfl ?_
    refine R_iret r_30_23 (ty := .int) rfl rfl (by decide) ?_
    exfalso; omega
  · refine R_aload_n r_30_13 rfl (by decide) ?_
    refine R_getf r_30_14 (by decide) hM.1 rfl ?_
    refine R_iload_n r_30_17 rfl ?_
    refine R_iald r_30_18 (by decide) hM.2.1 (sm_ixG hv (by omega)) ?_
    refine R_goto r_30_19 (by decide) ?_
    refine R_iret r_30_23 (ty := .int) rfl rfl (by decide) ?_
    exact hQ
theorem c_iletter {xs : List Int32} {d : Nat} {wd : sm_W} {Q : Option Value → sm_W → Prop} {c e : Int32} {l : List Int32} (hM : isM wd c e l) (hQ : Q (some (.int c)) wd) : Ct xs (d) 31 [.ref 3] wd Q := by
  unfold Ct
  show RT xs (d) 31 0 [some (.ref 3)] [] wd Q
  refine R_aload_n r_31_0 rfl (by decide) ?_
  refine R_getf r_31_1 (by decide) hM.1 rfl ?_
  refine R_iret r_31_4 (ty := .int) rfl rfl (by decide) ?_
  exact hQ
theorem c_behind {xs : List Int32} {d : Nat} {wd : sm_W} {Q : Option Value → sm_W → Prop} {c e : Int32} {l : List Int32} (hM : isM wd c e l) (hQ : Q (some (.int e)) wd) : Ct xs (d) 37 [.ref 3] wd Q := by
  unfold Ct
  show RT xs (d) 37 0 [some (.ref 3)] [] wd Q
  refine R_aload_n r_37_0 rfl (by decide) ?_
  refine R_getf r_37_1 (by decide) hM.1 rfl ?_
  refine R_iret r_37_4 (ty := .int) rfl rfl (by decide) ?_
  exact hQ
theorem dif_lt {n : Nat} (h : 0 < n) : decide (0 < n) = true := decide_eq_true h
theorem lp_rf {xs : List Int32} {d : Nat} {Q : Option Value → sm_W → Prop} {tx : List Nat} {c n st0 : Nat} (hcc : c < 127) {e0 : Int32} {wd0 : sm_W}  : ∀ (k : Nat) (k0 pl : Nat) (nl : List Int32) (h6 h7 : Option Value) (wd : sm_W), (k0 + k = n) → (n ≤ 4) → (pl ≤ 300 + 3 * k0) → (isT wd tx) → (isM wd (nI c) e0 nl) → (frm 3 4 wd0 wd) → (rdC tx c n k k0 pl = none → ∀ w2, (∃ c e l, isM w2 c e l) → frm 3 4 wd0 w2 → Q (some (.int (b2i false))) w2) → (∀ l e, rdC tx c n k k0 pl = some (l, e) → ∀ w2 l3, isM w2 (nI c) (nI e) l3 → (∀ t, t < k0 → l3[t]? = nl[t]?) → (∀ t, t < l.length → l3[k0 + t]? = some (nI (l.getD t 0))) → frm 3 4 wd0 w2 → Q (some (.int (b2i (decide (0 < n))))) w2) → RT xs (d + 2) 21 25 [some (.ref 3), some (.ref 1), some (.int (nI st0)), some (.int (nI n)), some (.int (nI pl)), some (.int (nI k0)), h6, h7] [] wd Q := by
  intro k
  induction k with
  | zero =>
    intro k0 pl nl h6 h7 wd hk hn4 hpl hT hM hf hF hS
    refine R_iload r_21_25 rfl ?_
    refine R_iload_n r_21_27 rfl ?_
    refine R_icmp_ge_N r_21_28 (by decide) (by omega) (by omega) (fun h_1 => ?_) (fun h_1 => ?_)
    · refine R_aload_n r_21_143 rfl (by decide) ?_
      refine R_iload r_21_144 rfl ?_
      refine R_putf r_21_146 hM.1 (Nat.le_of_ble_eq_true rfl) rfl rfl ?_
      refine R_iload_n r_21_149 rfl ?_
      refine R_if_le_N r_21_150 (by decide) (by omega) (fun h_2 => ?_) (fun h_2 => ?_)
      · refine R_iconst r_21_157 (v := nI 0) rfl ?_
        refine R_iret r_21_158 (ty := .boolean) rfl (by decide) (by decide) ?_
        have h9 := hS [] pl (by rw [show rdC tx c n 0 k0 pl = some ([], pl) from rfl]) _ nl ⟨sm_gs hM.1, sm_gn (by decide) hM.2.1, hM.2.2⟩ (fun _ _ => rfl) (fun t ht => absurd ht (Nat.not_lt_zero t)) (hf.st (by decide))
        first | (rw [decide_eq_true (by omega)] at h9; exact h9) | (rw [decide_eq_false (by omega)] at h9; exact h9)
      · refine R_iconst r_21_153 (v := nI 1) rfl ?_
        refine R_goto r_21_154 (by decide) ?_
        refine R_iret r_21_158 (ty := .boolean) rfl (by decide) (by decide) ?_
        have h9 := hS [] pl (by rw [show rdC tx c n 0 k0 pl = some ([], pl) from rfl]) _ nl ⟨sm_gs hM.1, sm_gn (by decide) hM.2.1, hM.2.2⟩ (fun _ _ => rfl) (fun t ht => absurd ht (Nat.not_lt_zero t)) (hf.st (by decide))
        first | (rw [decide_eq_true (by omega)] at h9; exact h9) | (rw [decide_eq_false (by omega)] at h9; exact h9)
    · exfalso; omega
  | succ k ih =>
    intro k0 pl nl h6 h7 wd hk hn4 hpl hT hM hf hF hS
    refine R_iload r_21_25 rfl ?_
    refine R_iload_n r_21_27 rfl ?_
    refine R_icmp_ge_N r_21_28 (by decide) (by omega) (by omega) (fun h_1 => ?_) (fun h_1 => ?_)
    · exfalso; omega
    · refine R_iload r_21_31 rfl ?_
      refine R_aload_n r_21_33 rfl (by decide) ?_
      refine R_getf r_21_34 (by decide) hM.1 rfl ?_
      refine R_alenIm r_21_37 ⟨(by decide), (by decide)⟩ hM.2.1 (m := 4) hM.2.2 ?_
      refine R_icmp_ge_N r_21_38 (by decide) (by omega) (by omega) (fun h_2 => ?_) (fun h_2 => ?_)
      · exfalso; omega
      · have hnl := hM.2.2
        have hfl := fgV_le tx pl
        have hls := lsN_le c
        have hms := msN_le c k0
        have hltp := hT.lt (pl + fgV tx pl)
        cases hfig : figB (ltA tx pl) with
        | false =>
          refine R_aload_n r_21_41 rfl (by decide) ?_
          refine R_iload r_21_42 rfl ?_
          refine R_call2 r_21_44 rfl (sm_rv1 rfl rfl hT.choose_spec.1) (Nat.le_of_ble_eq_true rfl) (Nat.le_of_ble_eq_true rfl) ?_
          refine c_figuresAt hT (by omega) ?_
          refine R_istore r_21_47 rfl ?_
          refine R_aload_n r_21_49 rfl (by decide) ?_
          refine R_iload r_21_50 rfl ?_
          refine R_iload r_21_52 rfl ?_
          refine R_call3 r_21_54 rfl (sm_rv1 rfl rfl hT.choose_spec.1) (Nat.le_of_ble_eq_true rfl) (Nat.le_of_ble_eq_true rfl) ?_
          rw [fgV_0 hfig]
          refine c_numberAt0 hT (by omega) (fun v0 => ?_)
          refine R_istore r_21_57 rfl ?_
          refine R_iload r_21_59 rfl ?_
          refine R_if_eq_N r_21_61 (by decide) (by omega) (fun h_33 => ?_) (fun h_33 => ?_)
          · refine R_iconst r_21_90 (v := nI 0) rfl ?_
            refine R_iret r_21_91 (ty := .boolean) rfl (by decide) (by decide) ?_
            exact hF (rdC_n (Or.inl (fgV_0 hfig))) _ ⟨_, _, _, hM⟩ hf
          · exact absurd rfl (by assumption)
        | true =>
          have hnm := nmV_le hfig
          refine R_aload_n r_21_41 rfl (by decide) ?_
          refine R_iload r_21_42 rfl ?_
          refine R_call2 r_21_44 rfl (sm_rv1 rfl rfl hT.choose_spec.1) (Nat.le_of_ble_eq_true rfl) (Nat.le_of_ble_eq_true rfl) ?_
          refine c_figuresAt hT (by omega) ?_
          refine R_istore r_21_47 rfl ?_
          refine R_aload_n r_21_49 rfl (by decide) ?_
          refine R_iload r_21_50 rfl ?_
          refine R_iload r_21_52 rfl ?_
          refine R_call3 r_21_54 rfl (sm_rv1 rfl rfl hT.choose_spec.1) (Nat.le_of_ble_eq_true rfl) (Nat.le_of_ble_eq_true rfl) ?_
          refine c_numberAt hT (by omega) hfig ?_
          refine R_istore r_21_57 rfl ?_
          refine R_iload r_21_59 rfl ?_
          refine R_if_eq_N r_21_61 (by decide) (by omega) (fun h_33 => ?_) (fun h_33 => ?_)
          · exact absurd (by assumption : fgV tx pl = 0) (by unfold fgV; rw [if_pos hfig]; split <;> decide)
          · refine R_iload r_21_64 rfl ?_
            refine R_aload_n r_21_66 rfl (by decide) ?_
            refine R_getf r_21_67 (by decide) hM.1 rfl ?_
            refine R_call1 r_21_70 rfl rfl (Nat.le_of_ble_eq_true rfl) (Nat.le_of_ble_eq_true rfl) ?_
            refine c_least hcc ?_
            refine R_icmp_lt_N r_21_73 (by decide) (by omega) (by omega) (fun h_34 => ?_) (fun h_34 => ?_)
            · refine R_iconst r_21_90 (v := nI 0) rfl ?_
              refine R_iret r_21_91 (ty := .boolean) rfl (by decide) (by decide) ?_
              exact hF (rdC_n (by first | exact Or.inr (Or.inl (by assumption)) | exact Or.inr (Or.inr (Or.inl (by assumption))) | (refine Or.inr (Or.inr (Or.inr ?_)); first | (rw [if_pos (by assumption)]; assumption) | (rw [if_neg (by omega)]; assumption)))) _ ⟨_, _, _, hM⟩ hf
            · refine R_iload r_21_76 rfl ?_
              refine R_aload_n r_21_78 rfl (by decide) ?_
              refine R_getf r_21_79 (by decide) hM.1 rfl ?_
              refine R_iload r_21_82 rfl ?_
              refine R_call2 r_21_84 rfl rfl (Nat.le_of_ble_eq_true rfl) (Nat.le_of_ble_eq_true rfl) ?_
              refine c_most hcc (by omega) ?_
              refine R_icmp_le_N r_21_87 (by decide) (by omega) (by omega) (fun h_35 => ?_) (fun h_35 => ?_)
              · refine R_iload r_21_92 rfl ?_
                refine R_iload r_21_94 rfl ?_
                refine R_iaddN r_21_96 ?_
                refine R_istore r_21_97 rfl ?_
                refine R_aload_n r_21_99 rfl (by decide) ?_
                refine R_iload r_21_100 rfl ?_
                refine R_call2 r_21_102 rfl (sm_rv1 rfl rfl hT.choose_spec.1) (Nat.le_of_ble_eq_true rfl) (Nat.le_of_ble_eq_true rfl) ?_
                refine c_letterAt hT (by omega) ?_
                refine R_iload r_21_105 rfl ?_
                refine R_iconst r_21_107 (v := nI 1) rfl ?_
                refine R_iaddN r_21_108 ?_
                refine R_iload_n r_21_109 rfl ?_
                refine R_icmp_ge_N r_21_110 (by decide) (by omega) (by omega) (fun h_36 => ?_) (fun h_36 => ?_)
                · refine R_bipush r_21_118 (v := nI 59) rfl ?_
                  refine R_icmp_eq_N r_21_120 (by decide) (by omega) (by omega) (fun h_37 => ?_) (fun h_37 => ?_)
                  · refine R_iinc1 r_21_125 rfl rfl ?_
                    refine R_aload_n r_21_128 rfl (by decide) ?_
                    refine R_getf r_21_129 (by decide) hM.1 rfl ?_
                    refine R_iload r_21_132 rfl ?_
                    refine R_iload r_21_134 rfl ?_
                    refine R_iastN r_21_136 hM.2.1 (by omega) (by omega) ?_
                    refine R_iinc1 r_21_137 rfl rfl ?_
                    refine R_goto r_21_140 (by decide) ?_
                    have hstep : ¬ (fgV tx pl = 0 ∨ nmV tx pl < lsN c ∨ msN c k0 < nmV tx pl ∨ ltA tx (pl + fgV tx pl) ≠ (if k0 + 1 < n then 44 else 59)) := by
                      rintro (z | z | z | z)
                      · omega
                      · omega
                      · omega
                      · exact z (by first | (rw [if_pos (by assumption)]; assumption) | (rw [if_neg (by omega)]; assumption))
                    refine ih (k0 + 1) (pl + fgV tx pl + 1) (nl.set k0 (nI (nmV tx pl))) _ _ _ (by omega) (by omega) (by omega) (isT_set (by decide) hT) ⟨sm_gn (by decide) hM.1, sm_gs hM.2.1, by rw [List.length_set]; exact hM.2.2⟩ (hf.st (by decide)) (fun hz => hF (by rw [rdC_s hstep, hz]; rfl)) (fun l e hl w2 l3 hM3 hlow hhi hf3 => ?_)
                    refine hS (nmV tx pl :: l) e (by rw [rdC_s hstep, hl]; rfl) w2 l3 hM3 (fun t ht => by rw [hlow t (by omega), List.getElem?_set_ne (by omega)]) (fun t ht => ?_) hf3
                    match t, ht with
                    | 0, _ => rw [Nat.add_zero, hlow k0 (by omega)]; exact List.getElem?_set_self (by have := hM.2.2; omega)
                    | t + 1, ht => have h9 := hhi t (Nat.lt_of_succ_lt_succ ht); rw [show k0 + (t + 1) = k0 + 1 + t by omega]; exact h9
                  · refine R_iconst r_21_123 (v := nI 0) rfl ?_
                    refine R_iret r_21_124 (ty := .boolean) rfl (by decide) (by decide) ?_
                    exact hF (rdC_n (by first | exact Or.inr (Or.inl (by assumption)) | exact Or.inr (Or.inr (Or.inl (by assumption))) | (refine Or.inr (Or.inr (Or.inr ?_)); first | (rw [if_pos (by assumption)]; assumption) | (rw [if_neg (by omega)]; assumption)))) _ ⟨_, _, _, hM⟩ hf
                · refine R_bipush r_21_113 (v := nI 44) rfl ?_
                  refine R_goto r_21_115 (by decide) ?_
                  refine R_icmp_eq_N r_21_120 (by decide) (by omega) (by omega) (fun h_38 => ?_) (fun h_38 => ?_)
                  · refine R_iinc1 r_21_125 rfl rfl ?_
                    refine R_aload_n r_21_128 rfl (by decide) ?_
                    refine R_getf r_21_129 (by decide) hM.1 rfl ?_
                    refine R_iload r_21_132 rfl ?_
                    refine R_iload r_21_134 rfl ?_
                    refine R_iastN r_21_136 hM.2.1 (by omega) (by omega) ?_
                    refine R_iinc1 r_21_137 rfl rfl ?_
                    refine R_goto r_21_140 (by decide) ?_
                    have hstep : ¬ (fgV tx pl = 0 ∨ nmV tx pl < lsN c ∨ msN c k0 < nmV tx pl ∨ ltA tx (pl + fgV tx pl) ≠ (if k0 + 1 < n then 44 else 59)) := by
                      rintro (z | z | z | z)
                      · omega
                      · omega
                      · omega
                      · exact z (by first | (rw [if_pos (by assumption)]; assumption) | (rw [if_neg (by omega)]; assumption))
                    refine ih (k0 + 1) (pl + fgV tx pl + 1) (nl.set k0 (nI (nmV tx pl))) _ _ _ (by omega) (by omega) (by omega) (isT_set (by decide) hT) ⟨sm_gn (by decide) hM.1, sm_gs hM.2.1, by rw [List.length_set]; exact hM.2.2⟩ (hf.st (by decide)) (fun hz => hF (by rw [rdC_s hstep, hz]; rfl)) (fun l e hl w2 l3 hM3 hlow hhi hf3 => ?_)
                    refine hS (nmV tx pl :: l) e (by rw [rdC_s hstep, hl]; rfl) w2 l3 hM3 (fun t ht => by rw [hlow t (by omega), List.getElem?_set_ne (by omega)]) (fun t ht => ?_) hf3
                    match t, ht with
                    | 0, _ => rw [Nat.add_zero, hlow k0 (by omega)]; exact List.getElem?_set_self (by have := hM.2.2; omega)
                    | t + 1, ht => have h9 := hhi t (Nat.lt_of_succ_lt_succ ht); rw [show k0 + (t + 1) = k0 + 1 + t by omega]; exact h9
                  · refine R_iconst r_21_123 (v := nI 0) rfl ?_
                    refine R_iret r_21_124 (ty := .boolean) rfl (by decide) (by decide) ?_
                    exact hF (rdC_n (by first | exact Or.inr (Or.inl (by assumption)) | exact Or.inr (Or.inr (Or.inl (by assumption))) | (refine Or.inr (Or.inr (Or.inr ?_)); first | (rw [if_pos (by assumption)]; assumption) | (rw [if_neg (by omega)]; assumption)))) _ ⟨_, _, _, hM⟩ hf
              · refine R_iconst r_21_90 (v := nI 0) rfl ?_
                refine R_iret r_21_91 (ty := .boolean) rfl (by decide) (by decide) ?_
                exact hF (rdC_n (by first | exact Or.inr (Or.inl (by assumption)) | exact Or.inr (Or.inr (Or.inl (by assumption))) | (refine Or.inr (Or.inr (Or.inr ?_)); first | (rw [if_pos (by assumption)]; assumption) | (rw [if_neg (by omega)]; assumption)))) _ ⟨_, _, _, hM⟩ hf
theorem c_readFrom {xs : List Int32} {d : Nat} {wd : sm_W} {Q : Option Value → sm_W → Prop} {tx : List Nat} (hT : isT wd tx) {c0 e0 : Int32} {l : List Int32} (hM : isM wd c0 e0 l) {p : Nat} (hp : p ≤ 200) (hF : itC tx p = none → ∀ w2, (∃ c e l, isM w2 c e l) → frm 3 4 wd w2 → Q (some (.int (b2i false))) w2) (hS : ∀ l3 e, itC tx p = some (l3, e) → ∀ w2 l4, isM w2 (nI (ltA tx p)) (nI e) l4 → (∀ t, t < l3.length → l4[t]? = some (nI (l3.getD t 0))) → frm 3 4 wd w2 → Q (some (.int (b2i true))) w2) : Ct xs (d + 2) 21 [.ref 3, .ref 1, .int (nI p)] wd Q := by
  unfold Ct
  show RT xs (d + 2) 21 0 [some (.ref 3), some (.ref 1), some (.int (nI p)), none, none, none, none, none] [] wd Q
  refine R_aload_n r_21_0 rfl (by decide) ?_
  refine R_aload_n r_21_1 rfl (by decide) ?_
  refine R_iload_n r_21_2 rfl ?_
  refine R_call2 r_21_3 rfl (sm_rv1 rfl rfl hT.choose_spec.1) (Nat.le_of_ble_eq_true rfl) (Nat.le_of_ble_eq_true rfl) ?_
  refine c_letterAt hT (by omega) ?_
  refine R_putf r_21_6 hM.1 (Nat.le_of_ble_eq_true rfl) rfl rfl ?_
  refine R_aload_n r_21_9 rfl (by decide) ?_
  refine R_getf r_21_10 (by decide) (sm_gs hM.1) rfl ?_
  refine R_call1 r_21_13 rfl rfl (Nat.le_of_ble_eq_true rfl) (Nat.le_of_ble_eq_true rfl) ?_
  refine c_numbersOf (hT.lt _) ?_
  refine R_istore_n r_21_16 rfl ?_
  refine R_iload_n r_21_17 rfl ?_
  refine R_iconst r_21_18 (v := nI 1) rfl ?_
  refine R_iaddN r_21_19 ?_
  refine R_istore r_21_20 rfl ?_
  refine R_iconst r_21_22 (v := nI 0) rfl ?_
  refine R_istore r_21_23 rfl ?_
  refine lp_rf (n := noN (ltA tx p)) (hT.lt p) (wd0 := wd) (noN (ltA tx p)) 0 (p + 1) l _ _ _ (by omega) (noN_le _) (by omega) (isT_set (by decide) hT) ⟨sm_gs hM.1, sm_gn (by decide) hM.2.1, hM.2.2⟩ (frm.rf.st (by decide)) (fun hz w2 hw2 hf2 => hF (by unfold itC; split; rfl; exact hz) w2 hw2 hf2) (fun l3 e hl w2 l4 hM4 _ hhi hf2 => ?_)
  by_cases h0 : noN (ltA tx p) = 0
  · rw [decide_eq_false (by omega)]; exact hF (by unfold itC; rw [if_pos h0]) w2 ⟨_, _, _, hM4⟩ hf2
  · rw [decide_eq_true (by omega)]; exact hS l3 e (by unfold itC; rw [if_neg h0]; exact hl) w2 l4 hM4 (fun t ht => by have h9 := hhi t ht; rw [Nat.zero_add] at h9; exact h9) hf2
