/-! the model reads an item: the draft -/
def mD (D : sm_Is) (f : Nat → List Int32) : Prop := (f 24)[1]? = some (nI (iN D)) ∧ (f 29)[1]? = some (nI (iB D)) ∧ (∀ i, i < iN D → (f 25)[8 + i]? = some (nI ((iK D).getD i 0)) ∧ (f 26)[8 + i]? = some (nI (sLean (iF D) i)) ∧ (f 27)[8 + i]? = some (nI (sMind (iF D) i)) ∧ (f 28)[8 + i]? = some (nI ((iC D).getD i 0))) ∧ (∀ b, b < iB D → (f 30)[5 + b]? = some (nI ((iS D).getD b 0))) ∧ (f 31)[4]? = some (nI (iBd D)) ∧ (f 31)[5]? = some (nI (iM D)) ∧ (f 31)[6]? = some (nI (iP D)) ∧ (f 31)[7]? = some (nI (iX D))
theorem mD.cg {D : sm_Is} {f f2 : Nat → List Int32} (h : mD D f) (h2 : ∀ (k : Nat), 24 ≤ k → k ≤ 31 → ∀ (i : Nat), (f2 k)[i]? = (f k)[i]?) : mD D f2 :=
  ⟨(h2 24 (by decide) (by decide) 1).trans h.1, (h2 29 (by decide) (by decide) 1).trans h.2.1, fun i hi => ⟨(h2 25 (by decide) (by decide) _).trans (h.2.2.1 i hi).1, (h2 26 (by decide) (by decide) _).trans (h.2.2.1 i hi).2.1, (h2 27 (by decide) (by decide) _).trans (h.2.2.1 i hi).2.2.1, (h2 28 (by decide) (by decide) _).trans (h.2.2.1 i hi).2.2.2⟩, fun b hb => (h2 30 (by decide) (by decide) _).trans (h.2.2.2.1 b hb), (h2 31 (by decide) (by decide) _).trans h.2.2.2.2.1, (h2 31 (by decide) (by decide) _).trans h.2.2.2.2.2.1, (h2 31 (by decide) (by decide) _).trans h.2.2.2.2.2.2.1, (h2 31 (by decide) (by decide) _).trans h.2.2.2.2.2.2.2⟩
def lpos (k i : Nat) : Prop := (k = 24 ∧ i = 0) ∨ (k = 29 ∧ i = 0) ∨ (k = 25 ∧ i < 8) ∨ (k = 28 ∧ i < 8) ∨ (k = 30 ∧ i < 5) ∨ (k = 31 ∧ i < 4) ∨ k = 32
theorem mR.lo {I : sm_Is} {w : Nat} {f f2 : Nat → List Int32} (hW : iWF I) (h : mR I w f) (h2 : ∀ (k i : Nat), lpos k i → (f2 k)[i]? = (f k)[i]?) : mR I w f2 := by
  have h8 := hW.2.2.2.1
  have h5 := hW.2.2.2.2.1
  obtain ⟨⟨a1, a2, a3, a4, a5, a6, a7, a8⟩, h9⟩ := h
  refine ⟨⟨(h2 24 0 (by unfold lpos; omega)).trans a1, (h2 29 0 (by unfold lpos; omega)).trans a2, fun i hi => ⟨(h2 25 i (by unfold lpos; omega)).trans (a3 i hi).1, (h2 28 i (by unfold lpos; omega)).trans (a3 i hi).2⟩, fun b hb => (h2 30 b (by unfold lpos; omega)).trans (a4 b hb), (h2 31 0 (by unfold lpos; omega)).trans a5, (h2 31 1 (by unfold lpos; omega)).trans a6, (h2 31 2 (by unfold lpos; omega)).trans a7, (h2 31 3 (by unfold lpos; omega)).trans a8⟩, ?_⟩
  exact h9.cg h8 (fun k _ => h2 32 k (by unfold lpos; omega))
theorem mR.hi {I : sm_Is} {w k i : Nat} {v : Int32} {f : Nat → List Int32} (hW : iWF I) (h : mR I w f) (hn : ¬ lpos k i) : mR I w (fu f k ((f k).set i v)) := h.lo hW (fun k2 i2 hl => by
  by_cases e : k2 = k
  · subst e
    rw [fu_s, List.getElem?_set_ne (fun (z : i = i2) => hn (by rw [z]; exact hl))]
  · rw [fu_n e])
theorem fk.hi {f : Nat → List Int32} {k : Nat} {l : List Int32} (hk : 24 ≤ k ∧ k ≤ 32 ∨ 37 ≤ k) : fk f (fu f k l) := fk.rf.up (by omega)
theorem txF.fk {tx : List Nat} {f f2 : Nat → List Int32} (h : txF tx f) (hx : fk f f2) : txF tx f2 := by unfold txF; rw [hx 23 (by omega)]; exact h
theorem fx.fk {f f2 : Nat → List Int32} (h : fx f f2) : fk f f2 := fun k hk => h k (by omega)
theorem fx.mR {I : sm_Is} {w : Nat} {f f2 : Nat → List Int32} (hx : fx f f2) (h : mR I w f) : mR I w f2 := h.cg (fun k hk => hx k (by omega))
theorem fx.mD {D : sm_Is} {f f2 : Nat → List Int32} (hx : fx f f2) (h : mD D f) : mD D f2 := h.cg (fun k h1 h2 i => by rw [hx k (by omega)])
theorem okR4 {l : List Nat} (h : l.length = 4) : okR 105 0 l = true ↔ l.getD 0 0 < 4 ∧ l.getD 1 0 < 4 ∧ l.getD 2 0 < 8 ∧ l.getD 3 0 < 10 := by
  match l, h with
  | [a, b, c, d], _ =>
    show (decide (0 ≤ a) && decide (a ≤ 3) && (decide (0 ≤ b) && decide (b ≤ 3) && (decide (0 ≤ c) && decide (c ≤ 7) && (decide (0 ≤ d) && decide (d ≤ 9) && true)))) = true ↔ a < 4 ∧ b < 4 ∧ c < 8 ∧ d < 10
    simp only [Bool.and_eq_true, decide_eq_true_iff, and_true]
    omega
theorem okR1 {c : Nat} {l : List Nat} (h : l.length = 1) : okR c 0 l = true ↔ lsN c ≤ l.getD 0 0 ∧ l.getD 0 0 ≤ msN c 0 := by
  match l, h with
  | [a], _ =>
    show (decide (lsN c ≤ a) && decide (a ≤ msN c 0) && true) = true ↔ lsN c ≤ a ∧ a ≤ msN c 0
    simp only [Bool.and_eq_true, decide_eq_true_iff, and_true]
theorem m_figures {xs : List Int32} {d : Nat} {wd : sm_W} {Q : Option Value → sm_W → Prop} {tx : List Nat} {um km sn : Int32} {p n : Nat} {f : Nat → List Int32} (hC : mC wd (nI tx.length) um km sn (nI p) f) (hL : mL f) (hx : txF tx f) (hp : p ≤ 250) (hn : n ≤ 4) (hF : rdM tx n n 0 p = none → ∀ w2 f2 sp2, mC w2 (nI tx.length) um km sn sp2 f2 → mL f2 → fx f f2 → frm 22 40 wd w2 → Q (some (.int (b2i false))) w2) (hS : ∀ l e, rdM tx n n 0 p = some (l, e) → ∀ w2 f2, mC w2 (nI tx.length) um km sn (nI e) f2 → mL f2 → fx f f2 → (∀ t, t < n → (f2 37)[t]? = some (nI (l.getD t 0))) → frm 22 40 wd w2 → Q (some (.int (b2i true))) w2) : Ct xs (d + 2) 140 [.ref 22, .int (nI n)] wd Q := by
  unfold Ct
  show RT xs (d + 2) 140 0 [some (.ref 22), some (.int (nI n)), none, none, none] [] wd Q
  refine R_iconst r_140_0 (v := nI 0) rfl ?_
  refine R_istore_n r_140_1 rfl ?_
  exact lp_mfig (f0 := f) (wd0 := wd) n 0 p _ _ _ _ (by omega) hn (by omega) hC hL hx fx.rf frm.rf hF (fun l e hl w2 f2 hC2 hL2 hfx hhi _ hf => hS l e hl w2 f2 hC2 hL2 hfx (fun t ht => by have h9 := hhi t (by rw [(rdM_ok _ _ _ _ _ hl).1]; exact ht); rw [Nat.zero_add] at h9; exact h9) hf)
theorem m_noIsland {xs : List Int32} {d : Nat} {wd : sm_W} {Q : Option Value → sm_W → Prop} {tx : List Nat} {um km sn sp : Int32} {f : Nat → List Int32} (hC : mC wd (nI tx.length) um km sn sp f) (hL : mL f) {I : sm_Is} {w : Nat} (hR : mR I w f) (hW : iWF I) (hQ : ∀ w2 f2, mC w2 (nI tx.length) um km sn sp f2 → mL f2 → mR I w f2 → mD I0 f2 → fk f f2 → frm 22 40 wd w2 → Q none w2) : Ct xs (d) 129 [.ref 22, .int (nI 1)] wd Q := by
  unfold Ct
  show RT xs (d) 129 0 [some (.ref 22), some (.int (nI 1))] [] wd Q
  refine R_aload_n r_129_0 rfl (by decide) ?_
  refine R_getf r_129_1 (by decide) hC.1 rfl ?_
  refine R_iload_n r_129_4 rfl ?_
  refine R_iconst r_129_5 (v := nI 0) rfl ?_
  refine R_mst r_129_6 hC hL (by decide) (by decide) (by show _ < (2 : Nat); omega) (by decide) (fun w_q_1 f_q_1 hC_q_1 hL_q_1 e_q_1 hf_q_1 => ?_)
  have hR_q_1 : mR I w f_q_1 := by rw [e_q_1]; exact hR.hi hW (by unfold lpos; omega)
  refine R_aload_n r_129_7 rfl (by decide) ?_
  refine R_getf r_129_8 (by decide) hC_q_1.1 rfl ?_
  refine R_iload_n r_129_11 rfl ?_
  refine R_iconst r_129_12 (v := nI 0) rfl ?_
  refine R_mst r_129_13 hC_q_1 hL_q_1 (by decide) (by decide) (by show _ < (2 : Nat); omega) (by decide) (fun w_q_2 f_q_2 hC_q_2 hL_q_2 e_q_2 hf_q_2 => ?_)
  have hR_q_2 : mR I w f_q_2 := by rw [e_q_2]; exact hR_q_1.hi hW (by unfold lpos; omega)
  refine R_aload_n r_129_14 rfl (by decide) ?_
  refine R_getf r_129_15 (by decide) hC_q_2.1 rfl ?_
  refine R_iconst r_129_18 (v := nI 4) rfl ?_
  refine R_iload_n r_129_19 rfl ?_
  refine R_imulN r_129_20 ?_
  refine R_iconst r_129_21 (v := nI 4) rfl ?_
  refine R_mst r_129_22 hC_q_2 hL_q_2 (by decide) (by decide) (by show _ < (8 : Nat); omega) (by decide) (fun w_q_3 f_q_3 hC_q_3 hL_q_3 e_q_3 hf_q_3 => ?_)
  have hR_q_3 : mR I w f_q_3 := by rw [e_q_3]; exact hR_q_2.hi hW (by unfold lpos; omega)
  refine R_aload_n r_129_23 rfl (by decide) ?_
  refine R_getf r_129_24 (by decide) hC_q_3.1 rfl ?_
  refine R_iconst r_129_27 (v := nI 4) rfl ?_
  refine R_iload_n r_129_28 rfl ?_
  refine R_imulN r_129_29 ?_
  refine R_iconst r_129_30 (v := nI 1) rfl ?_
  refine R_iaddN r_129_31 ?_
  refine R_iconst r_129_32 (v := nI 0) rfl ?_
  refine R_mst r_129_33 hC_q_3 hL_q_3 (by decide) (by decide) (by show _ < (8 : Nat); omega) (by decide) (fun w_q_4 f_q_4 hC_q_4 hL_q_4 e_q_4 hf_q_4 => ?_)
  have hR_q_4 : mR I w f_q_4 := by rw [e_q_4]; exact hR_q_3.hi hW (by unfold lpos; omega)
  refine R_aload_n r_129_34 rfl (by decide) ?_
  refine R_getf r_129_35 (by decide) hC_q_4.1 rfl ?_
  refine R_iconst r_129_38 (v := nI 4) rfl ?_
  refine R_iload_n r_129_39 rfl ?_
  refine R_imulN r_129_40 ?_
  refine R_iconst r_129_41 (v := nI 2) rfl ?_
  refine R_iaddN r_129_42 ?_
  refine R_iconst r_129_43 (v := nI 5) rfl ?_
  refine R_mst r_129_44 hC_q_4 hL_q_4 (by decide) (by decide) (by show _ < (8 : Nat); omega) (by decide) (fun w_q_5 f_q_5 hC_q_5 hL_q_5 e_q_5 hf_q_5 => ?_)
  have hR_q_5 : mR I w f_q_5 := by rw [e_q_5]; exact hR_q_4.hi hW (by unfold lpos; omega)
  refine R_aload_n r_129_45 rfl (by decide) ?_
  refine R_getf r_129_46 (by decide) hC_q_5.1 rfl ?_
  refine R_iconst r_129_49 (v := nI 4) rfl ?_
  refine R_iload_n r_129_50 rfl ?_
  refine R_imulN r_129_51 ?_
  refine R_iconst r_129_52 (v := nI 3) rfl ?_
  refine R_iaddN r_129_53 ?_
  refine R_iconst r_129_54 (v := nI 3) rfl ?_
  refine R_mst r_129_55 hC_q_5 hL_q_5 (by decide) (by decide) (by show _ < (8 : Nat); omega) (by decide) (fun w_q_6 f_q_6 hC_q_6 hL_q_6 e_q_6 hf_q_6 => ?_)
  have hR_q_6 : mR I w f_q_6 := by rw [e_q_6]; exact hR_q_5.hi hW (by unfold lpos; omega)
  refine R_vret r_129_56 rfl ?_
  exact hQ _ _ hC_q_6 hL_q_6 hR_q_6 ⟨by rw [e_q_6, fu_n (by decide)]; rw [e_q_5, fu_n (by decide)]; rw [e_q_4, fu_n (by decide)]; rw [e_q_3, fu_n (by decide)]; rw [e_q_2, fu_n (by decide)]; rw [e_q_1, fu_s]; exact List.getElem?_set_self (by rw [hL 24 (by decide) (by decide)]; show _ < (2 : Nat); omega), by rw [e_q_6, fu_n (by decide)]; rw [e_q_5, fu_n (by decide)]; rw [e_q_4, fu_n (by decide)]; rw [e_q_3, fu_n (by decide)]; rw [e_q_2, fu_s]; exact List.getElem?_set_self (by rw [hL_q_1 29 (by decide) (by decide)]; show _ < (2 : Nat); omega), fun i hi => absurd hi (Nat.not_lt_zero i), fun b hb => absurd hb (Nat.not_lt_zero b), by rw [e_q_6, fu_s, List.getElem?_set_ne (by decide)]; rw [e_q_5, fu_s, List.getElem?_set_ne (by decide)]; rw [e_q_4, fu_s, List.getElem?_set_ne (by decide)]; rw [e_q_3, fu_s]; exact List.getElem?_set_self (by rw [hL_q_2 31 (by decide) (by decide)]; show _ < (8 : Nat); omega), by rw [e_q_6, fu_s, List.getElem?_set_ne (by decide)]; rw [e_q_5, fu_s, List.getElem?_set_ne (by decide)]; rw [e_q_4, fu_s]; exact List.getElem?_set_self (by rw [hL_q_3 31 (by decide) (by decide)]; show _ < (8 : Nat); omega), by rw [e_q_6, fu_s, List.getElem?_set_ne (by decide)]; rw [e_q_5, fu_s]; exact List.getElem?_set_self (by rw [hL_q_4 31 (by decide) (by decide)]; show _ < (8 : Nat); omega), by rw [e_q_6, fu_s]; exact List.getElem?_set_self (by rw [hL_q_5 31 (by decide) (by decide)]; show _ < (8 : Nat); omega)⟩ (fk.tr (fk_e e_q_1 (by decide)) (fk.tr (fk_e e_q_2 (by decide)) (fk.tr (fk_e e_q_3 (by decide)) (fk.tr (fk_e e_q_4 (by decide)) (fk.tr (fk_e e_q_5 (by decide)) (fk_e e_q_6 (by decide))))))) (frm.tr (frm.tr (frm.tr (frm.tr (frm.tr hf_q_1 hf_q_2) hf_q_3) hf_q_4) hf_q_5) hf_q_6)
theorem m_addIslander {xs : List Int32} {d : Nat} {wd : sm_W} {Q : Option Value → sm_W → Prop} {tx : List Nat} {um km sn sp : Int32} {f : Nat → List Int32} (hC : mC wd (nI tx.length) um km sn sp f) (hL : mL f) {I : sm_Is} {w : Nat} (hR : mR I w f) (hW : iWF I) {D : sm_Is} (hD : mD D f) (hWD : wfD D) (hn : iN D < 8) {k l jv c : Nat} (hl : l < 4) (hj : jv < 8) (hQ : ∀ w2 f2, mC w2 (nI tx.length) um km sn sp f2 → mL f2 → mR I w f2 → mD (tkIs D k l jv c) f2 → fk f f2 → frm 22 40 wd w2 → Q none w2) : Ct xs (d) 130 [.ref 22, .int (nI 1), .int (nI k), .int (nI l), .int (nI jv), .int (nI c)] wd Q := by
  unfold Ct
  show RT xs (d) 130 0 [some (.ref 22), some (.int (nI 1)), some (.int (nI k)), some (.int (nI l)), some (.int (nI jv)), some (.int (nI c)), none] [] wd Q
  refine R_bipush r_130_0 (v := nI 8) rfl ?_
  refine R_iload_n r_130_2 rfl ?_
  refine R_imulN r_130_3 ?_
  refine R_aload_n r_130_4 rfl (by decide) ?_
  refine R_getf r_130_5 (by decide) hC.1 rfl ?_
  refine R_iload_n r_130_8 rfl ?_
  refine R_iald r_130_9 (by decide) (hC.2 24 (by decide) (by decide)) (sm_ixG hD.1 (by decide)) ?_
  refine R_iaddN r_130_10 ?_
  refine R_istore r_130_11 rfl ?_
  refine R_aload_n r_130_13 rfl (by decide) ?_
  refine R_getf r_130_14 (by decide) hC.1 rfl ?_
  refine R_iload r_130_17 rfl ?_
  refine R_iload_n r_130_19 rfl ?_
  refine R_mst r_130_20 hC hL (by decide) (by decide) (by show _ < (16 : Nat); omega) (by decide) (fun w_q_1 f_q_1 hC_q_1 hL_q_1 e_q_1 hf_q_1 => ?_)
  have hR_q_1 : mR I w f_q_1 := by rw [e_q_1]; exact hR.hi hW (by unfold lpos; omega)
  refine R_aload_n r_130_21 rfl (by decide) ?_
  refine R_getf r_130_22 (by decide) hC_q_1.1 rfl ?_
  refine R_iload r_130_25 rfl ?_
  refine R_iload_n r_130_27 rfl ?_
  refine R_mst r_130_28 hC_q_1 hL_q_1 (by decide) (by decide) (by show _ < (16 : Nat); omega) (by decide) (fun w_q_2 f_q_2 hC_q_2 hL_q_2 e_q_2 hf_q_2 => ?_)
  have hR_q_2 : mR I w f_q_2 := by rw [e_q_2]; exact hR_q_1.up rfl
  refine R_aload_n r_130_29 rfl (by decide) ?_
  refine R_getf r_130_30 (by decide) hC_q_2.1 rfl ?_
  refine R_iload r_130_33 rfl ?_
  refine R_iload r_130_35 rfl ?_
  refine R_mst r_130_37 hC_q_2 hL_q_2 (by decide) (by decide) (by show _ < (16 : Nat); omega) (by decide) (fun w_q_3 f_q_3 hC_q_3 hL_q_3 e_q_3 hf_q_3 => ?_)
  have hR_q_3 : mR I w f_q_3 := by rw [e_q_3]; exact hR_q_2.up rfl
  refine R_aload_n r_130_38 rfl (by decide) ?_
  refine R_getf r_130_39 (by decide) hC_q_3.1 rfl ?_
  refine R_iload r_130_42 rfl ?_
  refine R_iload r_130_44 rfl ?_
  refine R_mst r_130_46 hC_q_3 hL_q_3 (by decide) (by decide) (by show _ < (16 : Nat); omega) (by decide) (fun w_q_4 f_q_4 hC_q_4 hL_q_4 e_q_4 hf_q_4 => ?_)
  have hR_q_4 : mR I w f_q_4 := by rw [e_q_4]; exact hR_q_3.hi hW (by unfold lpos; omega)
  refine R_aload_n r_130_47 rfl (by decide) ?_
  refine R_getf r_130_48 (by decide) hC_q_4.1 rfl ?_
  refine R_iload_n r_130_51 rfl ?_
  refine R_dup2 r_130_52 rfl rfl ?_
  refine R_iald r_130_53 (by decide) (hC_q_4.2 24 (by decide) (by decide)) (sm_ixG (by rw [e_q_4, fu_n (by decide)]; rw [e_q_3, fu_n (by decide)]; rw [e_q_2, fu_n (by decide)]; rw [e_q_1, fu_n (by decide)]; exact hD.1) (by decide)) ?_
  refine R_iconst r_130_54 (v := nI 1) rfl ?_
  refine R_iaddN r_130_55 ?_
  refine R_mst r_130_56 hC_q_4 hL_q_4 (by decide) (by decide) (by show _ < (2 : Nat); omega) (by decide) (fun w_q_5 f_q_5 hC_q_5 hL_q_5 e_q_5 hf_q_5 => ?_)
  have hR_q_5 : mR I w f_q_5 := by rw [e_q_5]; exact hR_q_4.hi hW (by unfold lpos; omega)
  refine R_vret r_130_57 rfl ?_
  refine hQ _ _ hC_q_5 hL_q_5 hR_q_5 ⟨by rw [e_q_5, fu_s]; exact List.getElem?_set_self (by rw [hL_q_4 24 (by decide) (by decide)]; show _ < (2 : Nat); omega), by rw [e_q_5, fu_n (by decide)]; rw [e_q_4, fu_n (by decide)]; rw [e_q_3, fu_n (by decide)]; rw [e_q_2, fu_n (by decide)]; rw [e_q_1, fu_n (by decide)]; exact hD.2.1, fun i hi => ?_, fun b hb => by rw [e_q_5, fu_n (by decide)]; rw [e_q_4, fu_n (by decide)]; rw [e_q_3, fu_n (by decide)]; rw [e_q_2, fu_n (by decide)]; rw [e_q_1, fu_n (by decide)]; exact hD.2.2.2.1 b hb, by rw [e_q_5, fu_n (by decide)]; rw [e_q_4, fu_n (by decide)]; rw [e_q_3, fu_n (by decide)]; rw [e_q_2, fu_n (by decide)]; rw [e_q_1, fu_n (by decide)]; exact hD.2.2.2.2.1, by rw [e_q_5, fu_n (by decide)]; rw [e_q_4, fu_n (by decide)]; rw [e_q_3, fu_n (by decide)]; rw [e_q_2, fu_n (by decide)]; rw [e_q_1, fu_n (by decide)]; exact hD.2.2.2.2.2.1, by rw [e_q_5, fu_n (by decide)]; rw [e_q_4, fu_n (by decide)]; rw [e_q_3, fu_n (by decide)]; rw [e_q_2, fu_n (by decide)]; rw [e_q_1, fu_n (by decide)]; exact hD.2.2.2.2.2.2.1, by rw [e_q_5, fu_n (by decide)]; rw [e_q_4, fu_n (by decide)]; rw [e_q_3, fu_n (by decide)]; rw [e_q_2, fu_n (by decide)]; rw [e_q_1, fu_n (by decide)]; exact hD.2.2.2.2.2.2.2⟩ (fk.tr (fk_e e_q_1 (by decide)) (fk.tr (fk_e e_q_2 (by decide)) (fk.tr (fk_e e_q_3 (by decide)) (fk.tr (fk_e e_q_4 (by decide)) (fk_e e_q_5 (by decide)))))) (frm.tr (frm.tr (frm.tr (frm.tr hf_q_1 hf_q_2) hf_q_3) hf_q_4) hf_q_5)
  have hi2 : i < iN D + 1 := hi
  have eL : sLean (iF (tkIs D k l jv c)) i = if i = iN D then l else sLean (iF D) i := by show sLean (wMind (wLean (iF D) (iN D) l) (iN D) jv) i = _; rw [sLean_wMind hn (by omega), sLean_wLean hn (by omega) hl]
  have eM : sMind (iF (tkIs D k l jv c)) i = if i = iN D then jv else sMind (iF D) i := by show sMind (wMind (wLean (iF D) (iN D) l) (iN D) jv) i = _; rw [sMind_wMind hn (by omega) hj, sMind_wLean hn (by omega)]
  have eK : (iK (tkIs D k l jv c)).getD i 0 = if i = iN D then k else (iK D).getD i 0 := set_get (by rw [hWD.1.1]; exact hn)
  have eC : (iC (tkIs D k l jv c)).getD i 0 = if i = iN D then c else (iC D).getD i 0 := set_get (by rw [hWD.1.2.1]; exact hn)
  rw [eL, eM, eK, eC]
  by_cases ei : i = iN D
  · subst ei
    rw [if_pos rfl, if_pos rfl, if_pos rfl, if_pos rfl]
    exact ⟨by rw [e_q_5, fu_n (by decide)]; rw [e_q_4, fu_n (by decide)]; rw [e_q_3, fu_n (by decide)]; rw [e_q_2, fu_n (by decide)]; rw [e_q_1, fu_s]; exact List.getElem?_set_self (by rw [hL 25 (by decide) (by decide)]; show _ < (16 : Nat); omega), by rw [e_q_5, fu_n (by decide)]; rw [e_q_4, fu_n (by decide)]; rw [e_q_3, fu_n (by decide)]; rw [e_q_2, fu_s]; exact List.getElem?_set_self (by rw [hL_q_1 26 (by decide) (by decide)]; show _ < (16 : Nat); omega), by rw [e_q_5, fu_n (by decide)]; rw [e_q_4, fu_n (by decide)]; rw [e_q_3, fu_s]; exact List.getElem?_set_self (by rw [hL_q_2 27 (by decide) (by decide)]; show _ < (16 : Nat); omega), by rw [e_q_5, fu_n (by decide)]; rw [e_q_4, fu_s]; exact List.getElem?_set_self (by rw [hL_q_3 28 (by decide) (by decide)]; show _ < (16 : Nat); omega)⟩
  · rw [if_neg ei, if_neg ei, if_neg ei, if_neg ei]
    have hDi := hD.2.2.1 i (by omega)
    exact ⟨by rw [e_q_5, fu_n (by decide)]; rw [e_q_4, fu_n (by decide)]; rw [e_q_3, fu_n (by decide)]; rw [e_q_2, fu_n (by decide)]; rw [e_q_1, fu_s, List.getElem?_set_ne (by omega)]; exact hDi.1, by rw [e_q_5, fu_n (by decide)]; rw [e_q_4, fu_n (by decide)]; rw [e_q_3, fu_n (by decide)]; rw [e_q_2, fu_s, List.getElem?_set_ne (by omega)]; rw [e_q_1, fu_n (by decide)]; exact hDi.2.1, by rw [e_q_5, fu_n (by decide)]; rw [e_q_4, fu_n (by decide)]; rw [e_q_3, fu_s, List.getElem?_set_ne (by omega)]; rw [e_q_2, fu_n (by decide)]; rw [e_q_1, fu_n (by decide)]; exact hDi.2.2.1, by rw [e_q_5, fu_n (by decide)]; rw [e_q_4, fu_s, List.getElem?_set_ne (by omega)]; rw [e_q_3, fu_n (by decide)]; rw [e_q_2, fu_n (by decide)]; rw [e_q_1, fu_n (by decide)]; exact hDi.2.2.2⟩
theorem m_islanderItem {xs : List Int32} {d : Nat} {wd : sm_W} {Q : Option Value → sm_W → Prop} {tx : List Nat} {um km sn : Int32} {p : Nat} {f : Nat → List Int32} (hC : mC wd (nI tx.length) um km sn (nI p) f) (hL : mL f) {I : sm_Is} {w : Nat} (hR : mR I w f) (hW : iWF I) (hx : txF tx f) (hp : p ≤ 200) {D : sm_Is} (hD : mD D f) (hWD : wfD D) (hF : (∀ l e, rdM tx 4 4 0 p = some (l, e) → ¬ (iN D < 8 ∧ okR 105 0 l = true)) → ∀ w2 f2 sp2, mC w2 (nI tx.length) um km sn sp2 f2 → mL f2 → mR I w f2 → mD D f2 → fk f f2 → frm 22 40 wd w2 → Q (some (.int (b2i false))) w2) (hS : ∀ l e, rdM tx 4 4 0 p = some (l, e) → iN D < 8 → okR 105 0 l = true → ∀ w2 f2, mC w2 (nI tx.length) um km sn (nI e) f2 → mL f2 → mR I w f2 → mD (tkIs D (l.getD 0 0) (l.getD 1 0) (l.getD 2 0) (l.getD 3 0)) f2 → fk f f2 → frm 22 40 wd w2 → Q (some (.int (b2i true))) w2) : Ct xs (d + 3) 139 [.ref 22] wd Q := by
  unfold Ct
  show RT xs (d + 3) 139 0 [some (.ref 22), none] [] wd Q
  refine R_aload_n r_139_0 rfl (by decide) ?_
  refine R_iconst r_139_1 (v := nI 4) rfl ?_
  refine R_call2 r_139_2 rfl (sm_rvM rfl rfl rfl hC) (Nat.le_of_ble_eq_true rfl) (Nat.le_of_ble_eq_true rfl) ?_
  refine m_figures hC hL hx (by omega) (by decide) (fun hz w2 f2 sp2 hC2 hL2 hfx2 hf2 => ?_) (fun ll e hll w2 f2 hC2 hL2 hfx2 hhi hf2 => ?_)
  · refine R_ifT r_139_5 (by decide) (by decide) ?_
    refine R_iconst r_139_65 (v := nI 0) rfl ?_
    refine R_istore_n r_139_66 rfl ?_
    refine R_iload_n r_139_67 rfl ?_
    refine R_ifT r_139_68 (by decide) (by decide) ?_
    refine R_iload_n r_139_100 rfl ?_
    refine R_iret r_139_101 (ty := .boolean) rfl (by decide) (by decide) ?_
    refine hF (fun l e hl => ?_) _ _ _ hC2 hL2 (fx.mR hfx2 hR) (fx.mD hfx2 hD) hfx2.fk hf2
    cases hz.symm.trans hl
  · refine R_ifF r_139_5 (by decide) (by decide) ?_
    have hn8 := hWD.1.2.2.2.1
    have h99 := (rdM_ok _ _ _ _ _ hll).2.2.2
    have h90 := h99 0
    have h91 := h99 1
    have h92 := h99 2
    have h93 := h99 3
    refine R_aload_n r_139_8 rfl (by decide) ?_
    refine R_getf r_139_9 (by decide) hC2.1 rfl ?_
    refine R_iconst r_139_12 (v := nI 1) rfl ?_
    refine R_iald r_139_13 (by decide) (hC2.2 24 (by decide) (by decide)) (sm_ixG (fx.mD hfx2 hD).1 (by decide)) ?_
    refine R_bipush r_139_14 (v := nI 8) rfl ?_
    refine R_icmp_ge_N r_139_16 (by decide) (by omega) (by omega) (fun h_1 => ?_) (fun h_1 => ?_)
    · refine R_iconst r_139_65 (v := nI 0) rfl ?_
      refine R_istore_n r_139_66 rfl ?_
      refine R_iload_n r_139_67 rfl ?_
      refine R_ifT r_139_68 (by decide) (by decide) ?_
      refine R_iload_n r_139_100 rfl ?_
      refine R_iret r_139_101 (ty := .boolean) rfl (by decide) (by decide) ?_
      refine hF (fun l e hl => ?_) _ _ _ hC2 hL2 (fx.mR hfx2 hR) (fx.mD hfx2 hD) hfx2.fk hf2
      cases (Option.some.inj (hll.symm.trans hl)); rintro ⟨z1, z2⟩; have z3 := (okR4 (rdM_ok _ _ _ _ _ hll).1).mp z2; omega
    · refine R_aload_n r_139_19 rfl (by decide) ?_
      refine R_getf r_139_20 (by decide) hC2.1 rfl ?_
      refine R_iconst r_139_23 (v := nI 0) rfl ?_
      refine R_iald r_139_24 (by decide) (hC2.2 37 (by decide) (by decide)) (sm_ixG (hhi 0 (by decide)) (by decide)) ?_
      refine R_iconst r_139_25 (v := nI 4) rfl ?_
      refine R_icmp_ge_N r_139_26 (by decide) (by omega) (by omega) (fun h_2 => ?_) (fun h_2 => ?_)
      · refine R_iconst r_139_65 (v := nI 0) rfl ?_
        refine R_istore_n r_139_66 rfl ?_
        refine R_iload_n r_139_67 rfl ?_
        refine R_ifT r_139_68 (by decide) (by decide) ?_
        refine R_iload_n r_139_100 rfl ?_
        refine R_iret r_139_101 (ty := .boolean) rfl (by decide) (by decide) ?_
        refine hF (fun l e hl => ?_) _ _ _ hC2 hL2 (fx.mR hfx2 hR) (fx.mD hfx2 hD) hfx2.fk hf2
        cases (Option.some.inj (hll.symm.trans hl)); rintro ⟨z1, z2⟩; have z3 := (okR4 (rdM_ok _ _ _ _ _ hll).1).mp z2; omega
      · refine R_aload_n r_139_29 rfl (by decide) ?_
        refine R_getf r_139_30 (by decide) hC2.1 rfl ?_
        refine R_iconst r_139_33 (v := nI 1) rfl ?_
        refine R_iald r_139_34 (by decide) (hC2.2 37 (by decide) (by decide)) (sm_ixG (hhi 1 (by decide)) (by decide)) ?_
        refine R_iconst r_139_35 (v := nI 4) rfl ?_
        refine R_icmp_ge_N r_139_36 (by decide) (by omega) (by omega) (fun h_3 => ?_) (fun h_3 => ?_)
        · refine R_iconst r_139_65 (v := nI 0) rfl ?_
          refine R_istore_n r_139_66 rfl ?_
          refine R_iload_n r_139_67 rfl ?_
          refine R_ifT r_139_68 (by decide) (by decide) ?_
          refine R_iload_n r_139_100 rfl ?_
          refine R_iret r_139_101 (ty := .boolean) rfl (by decide) (by decide) ?_
          refine hF (fun l e hl => ?_) _ _ _ hC2 hL2 (fx.mR hfx2 hR) (fx.mD hfx2 hD) hfx2.fk hf2
          cases (Option.some.inj (hll.symm.trans hl)); rintro ⟨z1, z2⟩; have z3 := (okR4 (rdM_ok _ _ _ _ _ hll).1).mp z2; omega
        · refine R_aload_n r_139_39 rfl (by decide) ?_
          refine R_getf r_139_40 (by decide) hC2.1 rfl ?_
          refine R_iconst r_139_43 (v := nI 2) rfl ?_
          refine R_iald r_139_44 (by decide) (hC2.2 37 (by decide) (by decide)) (sm_ixG (hhi 2 (by decide)) (by decide)) ?_
          refine R_bipush r_139_45 (v := nI 8) rfl ?_
          refine R_icmp_ge_N r_139_47 (by decide) (by omega) (by omega) (fun h_4 => ?_) (fun h_4 => ?_)
          · refine R_iconst r_139_65 (v := nI 0) rfl ?_
            refine R_istore_n r_139_66 rfl ?_
            refine R_iload_n r_139_67 rfl ?_
            refine R_ifT r_139_68 (by decide) (by decide) ?_
            refine R_iload_n r_139_100 rfl ?_
            refine R_iret r_139_101 (ty := .boolean) rfl (by decide) (by decide) ?_
            refine hF (fun l e hl => ?_) _ _ _ hC2 hL2 (fx.mR hfx2 hR) (fx.mD hfx2 hD) hfx2.fk hf2
            cases (Option.some.inj (hll.symm.trans hl)); rintro ⟨z1, z2⟩; have z3 := (okR4 (rdM_ok _ _ _ _ _ hll).1).mp z2; omega
          · refine R_aload_n r_139_50 rfl (by decide) ?_
            refine R_getf r_139_51 (by decide) hC2.1 rfl ?_
            refine R_iconst r_139_54 (v := nI 3) rfl ?_
            refine R_iald r_139_55 (by decide) (hC2.2 37 (by decide) (by decide)) (sm_ixG (hhi 3 (by decide)) (by decide)) ?_
            refine R_bipush r_139_56 (v := nI 10) rfl ?_
            refine R_icmp_ge_N r_139_58 (by decide) (by omega) (by omega) (fun h_5 => ?_) (fun h_5 => ?_)
            · refine R_iconst r_139_65 (v := nI 0) rfl ?_
              refine R_istore_n r_139_66 rfl ?_
              refine R_iload_n r_139_67 rfl ?_
              refine R_ifT r_139_68 (by decide) (by decide) ?_
              refine R_iload_n r_139_100 rfl ?_
              refine R_iret r_139_101 (ty := .boolean) rfl (by decide) (by decide) ?_
              refine hF (fun l e hl => ?_) _ _ _ hC2 hL2 (fx.mR hfx2 hR) (fx.mD hfx2 hD) hfx2.fk hf2
              cases (Option.some.inj (hll.symm.trans hl)); rintro ⟨z1, z2⟩; have z3 := (okR4 (rdM_ok _ _ _ _ _ hll).1).mp z2; omega
            · refine R_iconst r_139_61 (v := nI 1) rfl ?_
              refine R_goto r_139_62 (by decide) ?_
              refine R_istore_n r_139_66 rfl ?_
              refine R_iload_n r_139_67 rfl ?_
              refine R_ifF r_139_68 (by decide) (by decide) ?_
              refine R_aload_n r_139_71 rfl (by decide) ?_
              refine R_iconst r_139_72 (v := nI 1) rfl ?_
              refine R_aload_n r_139_73 rfl (by decide) ?_
              refine R_getf r_139_74 (by decide) hC2.1 rfl ?_
              refine R_iconst r_139_77 (v := nI 0) rfl ?_
              refine R_iald r_139_78 (by decide) (hC2.2 37 (by decide) (by decide)) (sm_ixG (hhi 0 (by decide)) (by decide)) ?_
              refine R_aload_n r_139_79 rfl (by decide) ?_
              refine R_getf r_139_80 (by decide) hC2.1 rfl ?_
              refine R_iconst r_139_83 (v := nI 1) rfl ?_
              refine R_iald r_139_84 (by decide) (hC2.2 37 (by decide) (by decide)) (sm_ixG (hhi 1 (by decide)) (by decide)) ?_
              refine R_aload_n r_139_85 rfl (by decide) ?_
              refine R_getf r_139_86 (by decide) hC2.1 rfl ?_
              refine R_iconst r_139_89 (v := nI 2) rfl ?_
              refine R_iald r_139_90 (by decide) (hC2.2 37 (by decide) (by decide)) (sm_ixG (hhi 2 (by decide)) (by decide)) ?_
              refine R_aload_n r_139_91 rfl (by decide) ?_
              refine R_getf r_139_92 (by decide) hC2.1 rfl ?_
              refine R_iconst r_139_95 (v := nI 3) rfl ?_
              refine R_iald r_139_96 (by decide) (hC2.2 37 (by decide) (by decide)) (sm_ixG (hhi 3 (by decide)) (by decide)) ?_
              refine R_call6 r_139_97 rfl (sm_rvM rfl rfl rfl hC2) (Nat.le_of_ble_eq_true rfl) (Nat.le_of_ble_eq_true rfl) ?_
              refine m_addIslander hC2 hL2 (fx.mR hfx2 hR) hW (fx.mD hfx2 hD) hWD (by omega) (by omega) (by omega) (fun w_q_6 f_q_6 hC_q_6 hL_q_6 hR_q_6 hD_q_6 hk_q_6 hf_q_6 => ?_)
              refine R_iload_n r_139_100 rfl ?_
              refine R_iret r_139_101 (ty := .boolean) rfl (by decide) (by decide) ?_
              exact hS ll e hll (by omega) ((okR4 (rdM_ok _ _ _ _ _ hll).1).mpr (by omega)) _ _ hC_q_6 hL_q_6 hR_q_6 hD_q_6 (fk.tr hfx2.fk hk_q_6) (frm.tr hf2 hf_q_6)
