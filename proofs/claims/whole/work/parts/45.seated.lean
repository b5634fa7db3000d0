/-! the model: who gets a seat, a bed -/
def grX (x : Int32) (b : Nat) : Bool := decide (x < 0) || decide (nI (b % 2) = x)
def frX (I : sm_Is) (w : Nat) (x : Int32) (b : Nat) : Nat := if b < iB I ∧ (sHeld w).testBit b = false ∧ grX x b = true then (iS I).getD b 0 else 0
def cumF (fr : Nat → Nat) : Nat → Nat
  | 0 => 0
  | b + 1 => cumF fr b + fr b
def lfN (fr : Nat → Nat) (n b : Nat) : Nat := fr b - (n - cumF fr b)
def seX (I : sm_Is) (w : Nat) (x : Int32) : Nat := if sIce w = true then 8 else cumF (frX I w x) 5
def boX (fr : Nat → Nat) (m : Nat) (ic : Bool) (s t : Nat) : Int32 := if ic = false ∧ s.testBit t = true ∧ (lowUp s m t).2 < m then nI (bosF fr 5 0 (lowUp s m t).2) else -4
def fs (f f2 : Nat → List Int32) : Prop := ∀ k, k ≠ 38 → k ≠ 39 → f2 k = f k
theorem fs.rf {f : Nat → List Int32} : fs f f := fun _ _ _ => rfl
theorem fs.tr {f g h : Nat → List Int32} (a : fs f g) (b : fs g h) : fs f h := fun k h1 h2 => (b k h1 h2).trans (a k h1 h2)
theorem fs.u8 {f g : Nat → List Int32} {l : List Int32} (a : fs f g) : fs f (fu g 38 l) := fun k h1 h2 => (fu_n h1).trans (a k h1 h2)
theorem fs.u9 {f g : Nat → List Int32} {l : List Int32} (a : fs f g) : fs f (fu g 39 l) := fun k h1 h2 => (fu_n h2).trans (a k h1 h2)
theorem pre_setv {α : Type} {l : List α} {i : Nat} {v : α} {g : Nat → α} (h : ∀ t, t < i → l[t]? = some (g t)) (hi : i < l.length) (hv : v = g i) : ∀ t, t < i + 1 → (l.set i v)[t]? = some (g t) := by
  subst hv; exact pre_set h hi
theorem cum_le (fr : Nat → Nat) {a : Nat} : ∀ b, a ≤ b → cumF fr a ≤ cumF fr b
  | 0, h => by rw [show a = 0 by omega]; exact Nat.le_refl _
  | b + 1, h => by
    by_cases e : a = b + 1
    · subst e; exact Nat.le_refl _
    · exact Nat.le_trans (cum_le fr b (by omega)) (Nat.le_add_right _ _)
theorem lf_cum {fr : Nat → Nat} {n : Nat} : ∀ b, (∀ t, t < b → lfN fr n t = 0) → cumF fr b ≤ n
  | 0, _ => Nat.zero_le _
  | b + 1, h => by
    have h1 := lf_cum b (fun t ht => h t (by omega))
    have h2 := h b (by omega)
    unfold lfN at h2
    show cumF fr b + fr b ≤ n
    omega
theorem lf_pos {fr : Nat → Nat} {n b : Nat} (h : 0 < lfN fr n b) (hc : cumF fr b ≤ n) : n < cumF fr (b + 1) := by
  unfold lfN at h
  show n < cumF fr b + fr b
  omega
theorem bos_at {fr : Nat → Nat} {n b : Nat} (h : cumF fr b ≤ n) (h2 : n < cumF fr (b + 1)) : ∀ (j k c : Nat), c + j = b → j < k → bosF fr k c (n - cumF fr c) = b
  | 0, k, c, h3, h4 => by
    obtain ⟨k, rfl⟩ : ∃ k2, k = k2 + 1 := ⟨k - 1, by omega⟩
    rw [show c = b by omega]
    have : cumF fr (b + 1) = cumF fr b + fr b := rfl
    rw [bosF_t (by omega)]
  | j + 1, k, c, h3, h4 => by
    obtain ⟨k, rfl⟩ : ∃ k2, k = k2 + 1 := ⟨k - 1, by omega⟩
    have h5 : cumF fr (c + 1) ≤ cumF fr b := cum_le fr b (by omega)
    have h6 : cumF fr (c + 1) = cumF fr c + fr c := rfl
    rw [bosF_f (by omega), show n - cumF fr c - fr c = n - cumF fr (c + 1) by omega]
    exact bos_at h h2 j k (c + 1) (by omega) (by omega)
theorem bos_is {fr : Nat → Nat} {n b : Nat} (hb : b < 5) (h : cumF fr b ≤ n) (h2 : n < cumF fr (b + 1)) : bosF fr 5 0 n = b := bos_at h h2 b 5 0 (by omega) hb
theorem lf_set {fr : Nat → Nat} {n bb : Nat} {l : List Int32} (h : ∀ t, t < 5 → l[t]? = some (nI (lfN fr n t))) (hb : bb < 5) (hc : cumF fr bb ≤ n) (h2 : 0 < lfN fr n bb) : ∀ t, t < 5 → (l.set bb (nI (lfN fr n bb - 1)))[t]? = some (nI (lfN fr (n + 1) t)) := by
  intro t ht
  have h3 := lf_pos h2 hc
  by_cases e : bb = t
  · subst e
    have hl : bb < l.length := (List.getElem?_eq_some_iff.mp (h bb hb)).1
    rw [List.getElem?_set_self hl]
    unfold lfN at h2 ⊢
    congr 2
    omega
  · rw [List.getElem?_set_ne e, h t ht]
    congr 2
    unfold lfN
    by_cases e2 : t < bb
    · have h5 : cumF fr (t + 1) ≤ cumF fr bb := cum_le fr bb (by omega)
      have h6 : cumF fr (t + 1) = cumF fr t + fr t := rfl
      omega
    · have h5 : cumF fr (bb + 1) ≤ cumF fr t := cum_le fr t (by omega)
      omega
theorem lf_0 (fr : Nat → Nat) (t : Nat) : lfN fr 0 t = fr t := by unfold lfN; omega
theorem lp_s176 {xs : List Int32} {d : Nat} {wd : sm_W} {Q : Option Value → sm_W → Prop} {ln um km sn sp : Int32} {f : Nat → List Int32} (hC : mC wd ln um km sn sp f) {I : sm_Is} {w : Nat} (hR : mR I w f) (hL : mL f) (hW : iWF I) {s : Nat} {x : Int32} {hv i : Nat} {h5 : Option Value} {bo : Int32} (hs : s < 256) (hi : i < 8) (hbo : (f 38)[i]? = some bo) (hT : s.testBit i = true → (0 ≤ bo ∨ sIce w = true) → RT xs (d + 1) 154 86 [some (.ref 22), some (.int (nI s)), some (.int x), some (.int (nI (hv ||| 1 <<< i))), some (.int (nI (i + 1))), h5] [] wd Q) (hF : (s.testBit i = false ∨ (¬ 0 ≤ bo ∧ sIce w = false)) → RT xs (d + 1) 154 86 [some (.ref 22), some (.int (nI s)), some (.int x), some (.int (nI (hv))), some (.int (nI (i + 1))), h5] [] wd Q) : RT xs (d + 1) 154 176 [some (.ref 22), some (.int (nI s)), some (.int x), some (.int (nI (hv))), some (.int (nI (i))), h5] [] wd Q := by
  refine R_iload_n r_154_176 rfl ?_
  refine R_iload_n r_154_177 rfl ?_
  refine R_iload r_154_178 rfl ?_
  refine R_call2 r_154_180 rfl rfl (Nat.le_of_ble_eq_true rfl) (Nat.le_of_ble_eq_true rfl) ?_
  refine m_has (by omega) (by omega) ?_
  refine R_if_eq_b r_154_183 (by decide) (fun h_1 => ?_) (fun h_1 => ?_)
  · refine R_iconst r_154_214 (v := nI 0) rfl ?_
    refine R_iorN r_154_215 ?_
    refine R_istore_n r_154_216 rfl ?_
    refine R_iinc1 r_154_217 rfl rfl ?_
    refine R_goto r_154_220 (by decide) ?_
    first | exact hT (by assumption) (Or.inl (by assumption)) | exact hT (by assumption) (Or.inr (by assumption)) | (rw [Nat.or_zero]; exact hF (Or.inl (by assumption))) | (rw [Nat.or_zero]; exact hF (Or.inr ⟨by assumption, by assumption⟩))
  · refine R_aload_n r_154_186 rfl (by decide) ?_
    refine R_getf r_154_187 (by decide) hC.1 rfl ?_
    refine R_iload r_154_190 rfl ?_
    refine R_iald r_154_192 (by decide) (hC.2 38 (by decide) (by decide)) (sm_ixG hbo (by omega)) ?_
    refine R_if_ge r_154_193 (by decide) (fun h_2 => ?_) (fun h_2 => ?_)
    · refine R_iconst r_154_207 (v := nI 1) rfl ?_
      refine R_iload r_154_208 rfl ?_
      refine R_ishlN r_154_210 (by omega) ?_
      refine R_goto r_154_211 (by decide) ?_
      refine R_iorN r_154_215 ?_
      refine R_istore_n r_154_216 rfl ?_
      refine R_iinc1 r_154_217 rfl rfl ?_
      refine R_goto r_154_220 (by decide) ?_
      first | exact hT (by assumption) (Or.inl (by assumption)) | exact hT (by assumption) (Or.inr (by assumption)) | (rw [Nat.or_zero]; exact hF (Or.inl (by assumption))) | (rw [Nat.or_zero]; exact hF (Or.inr ⟨by assumption, by assumption⟩))
    · refine R_aload_n r_154_196 rfl (by decide) ?_
      refine R_getf r_154_197 (by decide) hC.1 rfl ?_
      refine R_bipush r_154_200 (v := nI 22) rfl ?_
      refine R_iald r_154_202 (by decide) (hC.2 32 (by decide) (by decide)) hR.ni ?_
      refine R_iconst r_154_203 (v := nI 1) rfl ?_
      refine R_icmp_ne_b1 r_154_204 (by decide) (fun h_3 => ?_) (fun h_3 => ?_)
      · refine R_iconst r_154_214 (v := nI 0) rfl ?_
        refine R_iorN r_154_215 ?_
        refine R_istore_n r_154_216 rfl ?_
        refine R_iinc1 r_154_217 rfl rfl ?_
        refine R_goto r_154_220 (by decide) ?_
        first | exact hT (by assumption) (Or.inl (by assumption)) | exact hT (by assumption) (Or.inr (by assumption)) | (rw [Nat.or_zero]; exact hF (Or.inl (by assumption))) | (rw [Nat.or_zero]; exact hF (Or.inr ⟨by assumption, by assumption⟩))
      · refine R_iconst r_154_207 (v := nI 1) rfl ?_
        refine R_iload r_154_208 rfl ?_
        refine R_ishlN r_154_210 (by omega) ?_
        refine R_goto r_154_211 (by decide) ?_
        refine R_iorN r_154_215 ?_
        refine R_istore_n r_154_216 rfl ?_
        refine R_iinc1 r_154_217 rfl rfl ?_
        refine R_goto r_154_220 (by decide) ?_
        first | exact hT (by assumption) (Or.inl (by assumption)) | exact hT (by assumption) (Or.inr (by assumption)) | (rw [Nat.or_zero]; exact hF (Or.inl (by assumption))) | (rw [Nat.or_zero]; exact hF (Or.inr ⟨by assumption, by assumption⟩))
theorem nI_pos2 {n : Nat} (h : n < 2147483648) : (0 : Int32) ≤ nI n := by
  rw [Int32.le_iff_toInt_le, nI_toInt h]
  have : (0 : Int32).toInt = 0 := rfl
  omega
theorem lp_fnd {xs : List Int32} {d : Nat} {wd : sm_W} {Q : Option Value → sm_W → Prop} {ln um km sn sp : Int32} {f : Nat → List Int32} (hC : mC wd ln um km sn sp f) {I : sm_Is} {w : Nat} (hR : mR I w f) (hL : mL f) (hW : iWF I) {s : Nat} {x : Int32} {hv i bb : Nat} (hs : s < 256) (hi : i < 8) (hbit : s.testBit i = true) (hbb : bb < 5) (hbo : (f 38)[i]? = some (nI bb)) (K : ∀ h5, RT xs (d + 1) 154 86 [some (.ref 22), some (.int (nI s)), some (.int x), some (.int (nI (hv ||| 1 <<< i))), some (.int (nI (i + 1))), h5] [] wd Q) : RT xs (d + 1) 154 105 [some (.ref 22), some (.int (nI s)), some (.int x), some (.int (nI (hv))), some (.int (nI (i))), some (.int (nI (bb + 1)))] [] wd Q := by
  refine R_iload r_154_105 rfl ?_
  refine R_iconst r_154_107 (v := nI 5) rfl ?_
  refine R_icmp_ge_N r_154_108 (by decide) (by omega) (by omega) (fun h_1 => ?_) (fun h_1 => ?_)
  · exact lp_s176 hC hR hL hW hs hi hbo (fun _ _ => K _) (fun z => z.elim (fun y => Bool.noConfusion (hbit.symm.trans y)) (fun y => absurd (nI_pos2 (by omega)) y.1))
  · refine R_iload_n r_154_111 rfl ?_
    refine R_iload r_154_112 rfl ?_
    refine R_call2 r_154_114 rfl rfl (Nat.le_of_ble_eq_true rfl) (Nat.le_of_ble_eq_true rfl) ?_
    refine m_has (by omega) (by omega) ?_
    refine R_if_eq_b r_154_117 (by decide) (fun h_2 => ?_) (fun h_2 => ?_)
    · exact Bool.noConfusion (hbit.symm.trans (by assumption : s.testBit i = false))
    · refine R_aload_n r_154_120 rfl (by decide) ?_
      refine R_getf r_154_121 (by decide) hC.1 rfl ?_
      refine R_iload r_154_124 rfl ?_
      refine R_iald r_154_126 (by decide) (hC.2 38 (by decide) (by decide)) (sm_ixG hbo (by omega)) ?_
      refine R_if_ge_N r_154_127 (by decide) (by omega) ?_
      exact lp_s176 hC hR hL hW hs hi hbo (fun _ _ => K _) (fun z => z.elim (fun y => Bool.noConfusion (hbit.symm.trans y)) (fun y => absurd (nI_pos2 (by omega)) y.1))
theorem lp_sin {xs : List Int32} {d : Nat} {wd : sm_W} {Q : Option Value → sm_W → Prop} {ln um km sn sp : Int32} {f : Nat → List Int32} (hC : mC wd ln um km sn sp f) {I : sm_Is} {w : Nat} (hR : mR I w f) (hL : mL f) (hW : iWF I) {s : Nat} {x : Int32} {hv i n : Nat} {fr : Nat → Nat} (hfr : ∀ t, fr t ≤ 8) (hs : s < 256) (hi : i < 8) (hbit : s.testBit i = true) (hni : sIce w = false) (hbo : (f 38)[i]? = some (-4)) (hlf : ∀ t, t < 5 → (f 39)[t]? = some (nI (lfN fr n t))) (K2 : cumF fr 5 ≤ n → ∀ h5, RT xs (d + 1) 154 86 [some (.ref 22), some (.int (nI s)), some (.int x), some (.int (nI (hv))), some (.int (nI (i + 1))), h5] [] wd Q) (K3 : ∀ bb wd2, bb < 5 → cumF fr bb ≤ n → 0 < lfN fr n bb → mC wd2 ln um km sn sp (fu (fu f 39 ((f 39).set bb (nI (lfN fr n bb - 1)))) 38 ((f 38).set i (nI bb))) → frm 22 40 wd wd2 → ∀ h5, RT xs (d + 1) 154 86 [some (.ref 22), some (.int (nI s)), some (.int x), some (.int (nI (hv ||| 1 <<< i))), some (.int (nI (i + 1))), h5] [] wd2 Q)  : ∀ (k : Nat) (b : Nat), (b + k = 5) → (∀ t, t < b → lfN fr n t = 0) → RT xs (d + 1) 154 105 [some (.ref 22), some (.int (nI s)), some (.int x), some (.int (nI hv)), some (.int (nI i)), some (.int (nI b))] [] wd Q := by
  intro k
  induction k with
  | zero =>
    intro b hk hz
    refine R_iload r_154_105 rfl ?_
    refine R_iconst r_154_107 (v := nI 5) rfl ?_
    refine R_icmp_ge_N r_154_108 (by decide) (by omega) (by omega) (fun h_1 => ?_) (fun h_1 => ?_)
    · exact lp_s176 hC hR hL hW hs hi hbo (fun _ z => z.elim (fun y => absurd y (by decide)) (fun y => Bool.noConfusion (hni.symm.trans y))) (fun _ => K2 (by have := lf_cum b hz; rw [show b = 5 by omega] at this; exact this) _)
    · exfalso; omega
  | succ k ih =>
    intro b hk hz
    have hfb := hfr b
    have hlb : lfN fr n b ≤ 8 := Nat.le_trans (Nat.sub_le _ _) hfb
    refine R_iload r_154_105 rfl ?_
    refine R_iconst r_154_107 (v := nI 5) rfl ?_
    refine R_icmp_ge_N r_154_108 (by decide) (by omega) (by omega) (fun h_1 => ?_) (fun h_1 => ?_)
    · exfalso; omega
    · refine R_iload_n r_154_111 rfl ?_
      refine R_iload r_154_112 rfl ?_
      refine R_call2 r_154_114 rfl rfl (Nat.le_of_ble_eq_true rfl) (Nat.le_of_ble_eq_true rfl) ?_
      refine m_has (by omega) (by omega) ?_
      refine R_if_eq_b r_154_117 (by decide) (fun h_2 => ?_) (fun h_2 => ?_)
      · exact Bool.noConfusion (hbit.symm.trans (by assumption : s.testBit i = false))
      · refine R_aload_n r_154_120 rfl (by decide) ?_
        refine R_getf r_154_121 (by decide) hC.1 rfl ?_
        refine R_iload r_154_124 rfl ?_
        refine R_iald r_154_126 (by decide) (hC.2 38 (by decide) (by decide)) (sm_ixG hbo (by omega)) ?_
        refine R_ifF r_154_127 (by decide) (by decide) ?_
        refine R_aload_n r_154_130 rfl (by decide) ?_
        refine R_getf r_154_131 (by decide) hC.1 rfl ?_
        refine R_bipush r_154_134 (v := nI 22) rfl ?_
        refine R_iald r_154_136 (by decide) (hC.2 32 (by decide) (by decide)) hR.ni ?_
        refine R_if_ne_b r_154_137 (by decide) (fun h_3 => ?_) (fun h_3 => ?_)
        · exact Bool.noConfusion (hni.symm.trans (by assumption : sIce w = true))
        · refine R_aload_n r_154_140 rfl (by decide) ?_
          refine R_getf r_154_141 (by decide) hC.1 rfl ?_
          refine R_iload r_154_144 rfl ?_
          refine R_iald r_154_146 (by decide) (hC.2 39 (by decide) (by decide)) (sm_ixG (hlf b (by omega)) (by omega)) ?_
          refine R_if_le_N r_154_147 (by decide) (by omega) (fun h_4 => ?_) (fun h_4 => ?_)
          · refine R_iinc1 r_154_170 rfl rfl ?_
            refine R_goto r_154_173 (by decide) ?_
            exact ih (b + 1) (by omega) (fun t ht => by by_cases e : t = b; exact e ▸ (by omega); exact hz t (by omega))
          · refine R_aload_n r_154_150 rfl (by decide) ?_
            refine R_getf r_154_151 (by decide) hC.1 rfl ?_
            refine R_iload r_154_154 rfl ?_
            refine R_dup2 r_154_156 rfl rfl ?_
            refine R_iald r_154_157 (by decide) (hC.2 39 (by decide) (by decide)) (sm_ixG (hlf b (by omega)) (by omega)) ?_
            refine R_iconst r_154_158 (v := nI 1) rfl ?_
            refine R_isubN r_154_159 (by omega) ?_
            refine R_mst r_154_160 hC hL (by decide) (by decide) (by show _ < (5 : Nat); omega) (by decide) (fun w_q_5 f_q_5 hC_q_5 hL_q_5 e_q_5 hf_q_5 => ?_)
            have hR_q_5 : mR I w f_q_5 := by rw [e_q_5]; exact hR.up rfl
            refine R_aload_n r_154_161 rfl (by decide) ?_
            refine R_getf r_154_162 (by decide) hC_q_5.1 rfl ?_
            refine R_iload r_154_165 rfl ?_
            refine R_iload r_154_167 rfl ?_
            refine R_mst r_154_169 hC_q_5 hL_q_5 (by decide) (by decide) (by show _ < (8 : Nat); omega) (by decide) (fun w_q_6 f_q_6 hC_q_6 hL_q_6 e_q_6 hf_q_6 => ?_)
            have hR_q_6 : mR I w f_q_6 := by rw [e_q_6]; exact hR_q_5.up rfl
            refine R_iinc1 r_154_170 rfl rfl ?_
            refine R_goto r_154_173 (by decide) ?_
            rw [e_q_5, fu_n (by decide : (38 : Nat) ≠ 39)] at e_q_6
            have hC9 := hC_q_6
            rw [e_q_6] at hC9
            exact lp_fnd hC_q_6 hR_q_6 hL_q_6 hW hs hi hbit (by omega) (by rw [e_q_6, fu_s]; exact List.getElem?_set_self (by rw [hL 38 (by decide) (by decide)]; exact hi)) (fun h5 => K3 b _ (by omega) (lf_cum b hz) (by omega) hC9 (frm.tr hf_q_5 hf_q_6) h5)
theorem lp_s105 {xs : List Int32} {d : Nat} {wd : sm_W} {Q : Option Value → sm_W → Prop} {ln um km sn sp : Int32} {f : Nat → List Int32} (hC : mC wd ln um km sn sp f) {I : sm_Is} {w : Nat} (hR : mR I w f) (hL : mL f) (hW : iWF I) {s : Nat} {x : Int32} {hv i n : Nat} {fr : Nat → Nat} (hfr : ∀ t, fr t ≤ 8) (hs : s < 256) (hi : i < 8) (hbo : (f 38)[i]? = some (-4)) (hlf : sIce w = false → ∀ t, t < 5 → (f 39)[t]? = some (nI (lfN fr n t))) (K0 : s.testBit i = false → ∀ h5, RT xs (d + 1) 154 86 [some (.ref 22), some (.int (nI s)), some (.int x), some (.int (nI (hv))), some (.int (nI (i + 1))), h5] [] wd Q) (K1 : s.testBit i = true → sIce w = true → ∀ h5, RT xs (d + 1) 154 86 [some (.ref 22), some (.int (nI s)), some (.int x), some (.int (nI (hv ||| 1 <<< i))), some (.int (nI (i + 1))), h5] [] wd Q) (K2 : s.testBit i = true → sIce w = false → cumF fr 5 ≤ n → ∀ h5, RT xs (d + 1) 154 86 [some (.ref 22), some (.int (nI s)), some (.int x), some (.int (nI (hv))), some (.int (nI (i + 1))), h5] [] wd Q) (K3 : s.testBit i = true → sIce w = false → ∀ bb wd2, bb < 5 → cumF fr bb ≤ n → 0 < lfN fr n bb → mC wd2 ln um km sn sp (fu (fu f 39 ((f 39).set bb (nI (lfN fr n bb - 1)))) 38 ((f 38).set i (nI bb))) → frm 22 40 wd wd2 → ∀ h5, RT xs (d + 1) 154 86 [some (.ref 22), some (.int (nI s)), some (.int x), some (.int (nI (hv ||| 1 <<< i))), some (.int (nI (i + 1))), h5] [] wd2 Q) : RT xs (d + 1) 154 105 [some (.ref 22), some (.int (nI s)), some (.int x), some (.int (nI (hv))), some (.int (nI (i))), some (.int (nI 0))] [] wd Q := by
  cases hbit : s.testBit i with
  | false =>
    refine R_iload r_154_105 rfl ?_
    refine R_iconst r_154_107 (v := nI 5) rfl ?_
    refine R_icmpF r_154_108 (by decide) (by decide) ?_
    refine R_iload_n r_154_111 rfl ?_
    refine R_iload r_154_112 rfl ?_
    refine R_call2 r_154_114 rfl rfl (Nat.le_of_ble_eq_true rfl) (Nat.le_of_ble_eq_true rfl) ?_
    refine m_has (by omega) (by omega) ?_
    refine R_if_eq_b r_154_117 (by decide) (fun h_1 => ?_) (fun h_1 => ?_)
    · exact lp_s176 hC hR hL hW hs hi hbo (fun z _ => Bool.noConfusion (hbit.symm.trans z)) (fun _ => K0 hbit _)
    · exact Bool.noConfusion (hbit.symm.trans (by assumption : s.testBit i = true))
  | true =>
    cases hni : sIce w with
    | false => exact lp_sin hC hR hL hW hfr hs hi hbit hni hbo (hlf hni) (K2 hbit hni) (K3 hbit hni) 5 0 (by omega) (fun t ht => absurd ht (by omega))
    | true =>
      refine R_iload r_154_105 rfl ?_
      refine R_iconst r_154_107 (v := nI 5) rfl ?_
      refine R_icmpF r_154_108 (by decide) (by decide) ?_
      refine R_iload_n r_154_111 rfl ?_
      refine R_iload r_154_112 rfl ?_
      refine R_call2 r_154_114 rfl rfl (Nat.le_of_ble_eq_true rfl) (Nat.le_of_ble_eq_true rfl) ?_
      refine m_has (by omega) (by omega) ?_
      refine R_if_eq_b r_154_117 (by decide) (fun h_1 => ?_) (fun h_1 => ?_)
      · exact Bool.noConfusion (hbit.symm.trans (by assumption : s.testBit i = false))
      · refine R_aload_n r_154_120 rfl (by decide) ?_
        refine R_getf r_154_121 (by decide) hC.1 rfl ?_
        refine R_iload r_154_124 rfl ?_
        refine R_iald r_154_126 (by decide) (hC.2 38 (by decide) (by decide)) (sm_ixG hbo (by omega)) ?_
        refine R_ifF r_154_127 (by decide) (by decide) ?_
        refine R_aload_n r_154_130 rfl (by decide) ?_
        refine R_getf r_154_131 (by decide) hC.1 rfl ?_
        refine R_bipush r_154_134 (v := nI 22) rfl ?_
        refine R_iald r_154_136 (by decide) (hC.2 32 (by decide) (by decide)) hR.ni ?_
        refine R_if_ne_b r_154_137 (by decide) (fun h_2 => ?_) (fun h_2 => ?_)
        · exact lp_s176 hC hR hL hW hs hi hbo (fun _ _ => K1 hbit hni _) (fun z => z.elim (fun y => Bool.noConfusion (hbit.symm.trans y)) (fun y => Bool.noConfusion (hni.symm.trans y.2)))
        · exact Bool.noConfusion (hni.symm.trans (by assumption : sIce w = false))
theorem frX_le {I : sm_Is} (hW : iWF I) (w : Nat) (x : Int32) (b : Nat) : frX I w x b ≤ 8 := by
  unfold frX
  split
  · exact hW.2.2.2.2.2.2.2.1 b
  · decide
theorem boX_f {fr : Nat → Nat} {m s t : Nat} {ic : Bool} (h : ¬ (ic = false ∧ s.testBit t = true ∧ (lowUp s m t).2 < m)) : -4 = boX fr m ic s t := by unfold boX; rw [if_neg h]
theorem boX_t {fr : Nat → Nat} {m s t b : Nat} {ic : Bool} (h : ic = false ∧ s.testBit t = true ∧ (lowUp s m t).2 < m) (h2 : bosF fr 5 0 (lowUp s m t).2 = b) : nI b = boX fr m ic s t := by unfold boX; rw [if_pos h, h2]
theorem seX_i {I : sm_Is} {w : Nat} {x : Int32} (h : sIce w = true) : seX I w x = 8 := if_pos h
theorem seX_n {I : sm_Is} {w : Nat} {x : Int32} (h : sIce w = false) : seX I w x = cumF (frX I w x) 5 := if_neg (by rw [h]; decide)
theorem lp_seat2 {xs : List Int32} {d : Nat} {Q : Option Value → sm_W → Prop} {I : sm_Is} {w : Nat} (hW : iWF I) {ln um km sn sp : Int32} {s : Nat} {x : Int32} (hs : s < 256) {wd0 : sm_W} {f0 : Nat → List Int32} (hQ : ∀ wd f, mC wd ln um km sn sp f → mL f → mR I w f → fs f0 f → frm 22 40 wd0 wd → (∀ t, t < 8 → (f 38)[t]? = some (boX (frX I w x) (seX I w x) (sIce w) s t)) → Q (some (.int (nI (lowUp s (seX I w x) 8).1))) wd)  : ∀ (k : Nat) (i : Nat) (h5 : Option Value) (wd : sm_W) (f : Nat → List Int32), (i + k = 8) → (mC wd ln um km sn sp f) → (mL f) → (mR I w f) → (fs f0 f) → (frm 22 40 wd0 wd) → (sIce w = false → ∀ t, t < 5 → (f 39)[t]? = some (nI (lfN (frX I w x) (lowUp s (seX I w x) i).2 t))) → (∀ t, t < i → (f 38)[t]? = some (boX (frX I w x) (seX I w x) (sIce w) s t)) → RT xs (d + 1) 154 86 [some (.ref 22), some (.int (nI s)), some (.int x), some (.int (nI (lowUp s (seX I w x) i).1)), some (.int (nI i)), h5] [] wd Q := by
  intro k
  induction k with
  | zero =>
    intro i h5 wd f hk hC hL hR hfs hf hlf hbo
    refine R_iload r_154_86 rfl ?_
    refine R_bipush r_154_88 (v := nI 8) rfl ?_
    refine R_icmp_ge_N r_154_90 (by decide) (by omega) (by omega) (fun h_1 => ?_) (fun h_1 => ?_)
    · refine R_iload_n r_154_223 rfl ?_
      refine R_iret r_154_224 (ty := .int) rfl rfl (by decide) ?_
      obtain rfl : i = 8 := by omega
      exact hQ _ _ hC hL hR hfs hf hbo
    · exfalso; omega
  | succ k ih =>
    intro i h5 wd f hk hC hL hR hfs hf hlf hbo
    refine R_iload r_154_86 rfl ?_
    refine R_bipush r_154_88 (v := nI 8) rfl ?_
    refine R_icmp_ge_N r_154_90 (by decide) (by omega) (by omega) (fun h_1 => ?_) (fun h_1 => ?_)
    · exfalso; omega
    · refine R_aload_n r_154_93 rfl (by decide) ?_
      refine R_getf r_154_94 (by decide) hC.1 rfl ?_
      refine R_iload r_154_97 rfl ?_
      refine R_bipush r_154_99 (v := (-4)) rfl ?_
      refine R_mst r_154_101 hC hL (by decide) (by decide) (by show _ < (8 : Nat); omega) (by decide) (fun w_q_2 f_q_2 hC_q_2 hL_q_2 e_q_2 hf_q_2 => ?_)
      have hR_q_2 : mR I w f_q_2 := by rw [e_q_2]; exact hR.up rfl
      refine R_iconst r_154_102 (v := nI 0) rfl ?_
      refine R_istore r_154_103 rfl ?_
      have e8 : f_q_2 38 = (f 38).set i (-4) := by rw [e_q_2, fu_s]
      have e9 : f_q_2 39 = f 39 := by rw [e_q_2, fu_n (by decide)]
      have h8l : (f 38).length = 8 := hL 38 (by decide) (by decide)
      have hfq : fs f0 f_q_2 := by rw [e_q_2]; exact hfs.u8
      refine lp_s105 hC_q_2 hR_q_2 hL_q_2 hW (frX_le hW w x) (n := (lowUp s (seX I w x) i).2) hs (by omega) (by rw [e8]; exact List.getElem?_set_self (by omega)) (by rw [e9]; exact hlf) (fun hb h5 => ?_) (fun hb hi h5 => ?_) (fun hb hi hn h5 => ?_) (fun hb hi bb wd2 hbb hcb hlb hC9 hf9 h5 => ?_)
      · have h9 := ih (i + 1) h5 _ _ (by omega) hC_q_2 hL_q_2 hR_q_2 hfq (frm.tr hf hf_q_2) (by rw [e9, lowUp_f hb]; exact hlf) (by rw [e8]; exact pre_setv hbo (by omega) (boX_f (fun z => Bool.noConfusion (hb.symm.trans z.2.1))))
        rw [lowUp_f hb] at h9
        exact h9
      · have hlt : (lowUp s (seX I w x) i).2 < seX I w x := by rw [seX_i hi]; exact Nat.lt_of_le_of_lt (lowUp_2 s 8 i) (by omega)
        have h9 := ih (i + 1) h5 _ _ (by omega) hC_q_2 hL_q_2 hR_q_2 hfq (frm.tr hf hf_q_2) (fun z => Bool.noConfusion (hi.symm.trans z)) (by rw [e8]; exact pre_setv hbo (by omega) (boX_f (fun z => Bool.noConfusion (hi.symm.trans z.1))))
        rw [lowUp_t hlt hb] at h9
        exact h9
      · have hge : seX I w x ≤ (lowUp s (seX I w x) i).2 := by rw [seX_n hi] at hn ⊢; exact hn
        have h9 := ih (i + 1) h5 _ _ (by omega) hC_q_2 hL_q_2 hR_q_2 hfq (frm.tr hf hf_q_2) (by rw [e9, lowUp_g hge]; exact hlf) (by rw [e8]; exact pre_setv hbo (by omega) (boX_f (fun z => Nat.not_lt.mpr hge z.2.2)))
        rw [lowUp_g hge] at h9
        exact h9
      · have hlp := lf_pos hlb hcb
        have hlt : (lowUp s (seX I w x) i).2 < seX I w x := by
          have := cum_le (frX I w x) (a := bb + 1) 5 (by omega)
          have h0 := seX_n (I := I) (x := x) hi
          omega
        rw [e8, e9, List.set_set] at hC9
        have h9 := ih (i + 1) h5 _ _ (by omega) hC9 ((hL_q_2.up (by rw [e9, List.length_set])).up (by rw [fu_n (by decide), e8, List.length_set, List.length_set])) ((hR_q_2.up rfl).up rfl) hfq.u9.u8 (frm.tr (frm.tr hf hf_q_2) hf9) (fun _ => by rw [fu_n (by decide), fu_s, lowUp_t hlt hb]; exact lf_set (hlf hi) hbb hcb hlb) (by rw [fu_s]; exact pre_setv hbo (by omega) (boX_t ⟨hi, hb, hlt⟩ (bos_is hbb hcb hlp)))
        rw [lowUp_t hlt hb] at h9
        exact h9
theorem ev_t {I : sm_Is} {w b : Nat} {x : Int32} (h1 : b < iB I) (h2 : (sHeld w).testBit b = false) (h3 : x < 0 ∨ nI (b % 2) = x) : (iS I).getD b 0 = frX I w x b := by
  unfold frX grX
  rw [if_pos ⟨h1, h2, by rcases h3 with h | h <;> simp [h]⟩]
theorem ev_1 {I : sm_Is} {w b : Nat} {x : Int32} (h1 : iB I ≤ b) : 0 = frX I w x b := by
  unfold frX; rw [if_neg (fun z => by omega)]
theorem ev_2 {I : sm_Is} {w b : Nat} {x : Int32} (h1 : (sHeld w).testBit b = true) : 0 = frX I w x b := by
  unfold frX; rw [if_neg (fun z => Bool.noConfusion (h1.symm.trans z.2.1))]
theorem ev_3 {I : sm_Is} {w b : Nat} {x : Int32} (h1 : ¬ x < 0) (h2 : ¬ nI (b % 2) = x) : 0 = frX I w x b := by
  unfold frX grX; rw [if_neg (fun z => by have := z.2.2; simp [h1, h2] at this)]
theorem lp_seat1 {xs : List Int32} {d : Nat} {Q : Option Value → sm_W → Prop} {I : sm_Is} {w : Nat} (hW : iWF I) {ln um km sn sp : Int32} {s : Nat} {x : Int32} (hs : s < 256) {wd0 : sm_W} {f0 : Nat → List Int32} (hQ : ∀ wd f, mC wd ln um km sn sp f → mL f → mR I w f → fs f0 f → frm 22 40 wd0 wd → (∀ t, t < 5 → (f 39)[t]? = some (nI (frX I w x t))) → ∀ h5, RT xs (d + 1) 154 83 [some (.ref 22), some (.int (nI s)), some (.int x), some (.int (nI (0))), some (.int (nI (5))), h5] [] wd Q)  : ∀ (k : Nat) (b : Nat) (h5 : Option Value) (wd : sm_W) (f : Nat → List Int32), (b + k = 5) → (mC wd ln um km sn sp f) → (mL f) → (mR I w f) → (fs f0 f) → (frm 22 40 wd0 wd) → (∀ t, t < b → (f 39)[t]? = some (nI (frX I w x t))) → RT xs (d + 1) 154 5 [some (.ref 22), some (.int (nI s)), some (.int x), some (.int (nI 0)), some (.int (nI b)), h5] [] wd Q := by
  intro k
  induction k with
  | zero =>
    intro b h5 wd f hk hC hL hR hfs hf hp
    obtain ⟨hW1, hW2, hW3, hW4, hW5, hW6, hW7, hW8, hW9, hW10, hW11, hW12, hW13, hW14, hW15⟩ := id hW
    refine R_iload r_154_5 rfl ?_
    refine R_iconst r_154_7 (v := nI 5) rfl ?_
    refine R_icmp_ge_N r_154_8 (by decide) (by omega) (by omega) (fun h_1 => ?_) (fun h_1 => ?_)
    · obtain rfl : b = 5 := by omega
      exact hQ _ _ hC hL hR hfs hf hp _
    · exfalso; omega
  | succ k ih =>
    intro b h5 wd f hk hC hL hR hfs hf hp
    obtain ⟨hW1, hW2, hW3, hW4, hW5, hW6, hW7, hW8, hW9, hW10, hW11, hW12, hW13, hW14, hW15⟩ := id hW
    refine R_iload r_154_5 rfl ?_
    refine R_iconst r_154_7 (v := nI 5) rfl ?_
    refine R_icmp_ge_N r_154_8 (by decide) (by omega) (by omega) (fun h_1 => ?_) (fun h_1 => ?_)
    · exfalso; omega
    · refine R_iload r_154_11 rfl ?_
      refine R_aload_n r_154_13 rfl (by decide) ?_
      refine R_getf r_154_14 (by decide) hC.1 rfl ?_
      refine R_iconst r_154_17 (v := nI 0) rfl ?_
      refine R_iald r_154_18 (by decide) (hC.2 29 (by decide) (by decide)) hR.rB ?_
      refine R_icmp_ge_N r_154_19 (by decide) (by omega) (by omega) (fun h_2 => ?_) (fun h_2 => ?_)
      · refine R_iconst r_154_51 (v := nI 0) rfl ?_
        refine R_istore r_154_52 rfl ?_
        refine R_aload_n r_154_54 rfl (by decide) ?_
        refine R_getf r_154_55 (by decide) hC.1 rfl ?_
        refine R_iload r_154_58 rfl ?_
        refine R_iload r_154_60 rfl ?_
        refine R_ifT r_154_62 (by decide) (by decide) ?_
        refine R_iconst r_154_75 (v := nI 0) rfl ?_
        refine R_mst r_154_76 hC hL (by decide) (by decide) (by show _ < (5 : Nat); omega) (by decide) (fun w_q_3 f_q_3 hC_q_3 hL_q_3 e_q_3 hf_q_3 => ?_)
        have hR_q_3 : mR I w f_q_3 := by rw [e_q_3]; exact hR.up rfl
        refine R_iinc1 r_154_77 rfl rfl ?_
        refine R_goto r_154_80 (by decide) ?_
        exact ih (b + 1) _ _ _ (by omega) hC_q_3 hL_q_3 hR_q_3 (by rw [e_q_3]; exact hfs.u9) (frm.tr hf hf_q_3) (by rw [e_q_3, fu_s]; exact pre_setv (g := fun t => nI (frX I w x t)) hp (by rw [hL 39 (by decide) (by decide)]; show b < 5; omega) (congrArg nI (by first | exact ev_t (by assumption) (by assumption) (Or.inl (by assumption)) | exact ev_t (by assumption) (by assumption) (Or.inr (by assumption)) | exact ev_1 (by assumption) | exact ev_2 (by assumption) | exact ev_3 (by assumption) (by assumption))))
      · refine R_aload_n r_154_22 rfl (by decide) ?_
        refine R_getf r_154_23 (by decide) hC.1 rfl ?_
        refine R_bipush r_154_26 (v := nI 16) rfl ?_
        refine R_iload r_154_28 rfl ?_
        refine R_iaddN r_154_30 ?_
        refine R_iald r_154_31 (by decide) (hC.2 32 (by decide) (by decide)) (hR.nh (by omega)) ?_
        refine R_if_ne_b r_154_32 (by decide) (fun h_4 => ?_) (fun h_4 => ?_)
        · refine R_iconst r_154_51 (v := nI 0) rfl ?_
          refine R_istore r_154_52 rfl ?_
          refine R_aload_n r_154_54 rfl (by decide) ?_
          refine R_getf r_154_55 (by decide) hC.1 rfl ?_
          refine R_iload r_154_58 rfl ?_
          refine R_iload r_154_60 rfl ?_
          refine R_ifT r_154_62 (by decide) (by decide) ?_
          refine R_iconst r_154_75 (v := nI 0) rfl ?_
          refine R_mst r_154_76 hC hL (by decide) (by decide) (by show _ < (5 : Nat); omega) (by decide) (fun w_q_5 f_q_5 hC_q_5 hL_q_5 e_q_5 hf_q_5 => ?_)
          have hR_q_5 : mR I w f_q_5 := by rw [e_q_5]; exact hR.up rfl
          refine R_iinc1 r_154_77 rfl rfl ?_
          refine R_goto r_154_80 (by decide) ?_
          exact ih (b + 1) _ _ _ (by omega) hC_q_5 hL_q_5 hR_q_5 (by rw [e_q_5]; exact hfs.u9) (frm.tr hf hf_q_5) (by rw [e_q_5, fu_s]; exact pre_setv (g := fun t => nI (frX I w x t)) hp (by rw [hL 39 (by decide) (by decide)]; show b < 5; omega) (congrArg nI (by first | exact ev_t (by assumption) (by assumption) (Or.inl (by assumption)) | exact ev_t (by assumption) (by assumption) (Or.inr (by assumption)) | exact ev_1 (by assumption) | exact ev_2 (by assumption) | exact ev_3 (by assumption) (by assumption))))
        · refine R_iload_n r_154_35 rfl ?_
          refine R_if_lt r_154_36 (by decide) (fun h_6 => ?_) (fun h_6 => ?_)
          · refine R_iconst r_154_47 (v := nI 1) rfl ?_
            refine R_goto r_154_48 (by decide) ?_
            refine R_istore r_154_52 rfl ?_
            refine R_aload_n r_154_54 rfl (by decide) ?_
            refine R_getf r_154_55 (by decide) hC.1 rfl ?_
            refine R_iload r_154_58 rfl ?_
            refine R_iload r_154_60 rfl ?_
            refine R_ifF r_154_62 (by decide) (by decide) ?_
            refine R_aload_n r_154_65 rfl (by decide) ?_
            refine R_getf r_154_66 (by decide) hC.1 rfl ?_
            refine R_iload r_154_69 rfl ?_
            refine R_iald r_154_71 (by decide) (hC.2 30 (by decide) (by decide)) (hR.rS (by omega) hW5) ?_
            refine R_goto r_154_72 (by decide) ?_
            refine R_mst r_154_76 hC hL (by decide) (by decide) (by show _ < (5 : Nat); omega) (by decide) (fun w_q_7 f_q_7 hC_q_7 hL_q_7 e_q_7 hf_q_7 => ?_)
            have hR_q_7 : mR I w f_q_7 := by rw [e_q_7]; exact hR.up rfl
            refine R_iinc1 r_154_77 rfl rfl ?_
            refine R_goto r_154_80 (by decide) ?_
            exact ih (b + 1) _ _ _ (by omega) hC_q_7 hL_q_7 hR_q_7 (by rw [e_q_7]; exact hfs.u9) (frm.tr hf hf_q_7) (by rw [e_q_7, fu_s]; exact pre_setv (g := fun t => nI (frX I w x t)) hp (by rw [hL 39 (by decide) (by decide)]; show b < 5; omega) (congrArg nI (by first | exact ev_t (by assumption) (by assumption) (Or.inl (by assumption)) | exact ev_t (by assumption) (by assumption) (Or.inr (by assumption)) | exact ev_1 (by assumption) | exact ev_2 (by assumption) | exact ev_3 (by assumption) (by assumption))))
          · refine R_iload r_154_39 rfl ?_
            refine R_iconst r_154_41 (v := nI 2) rfl ?_
            refine R_iremN r_154_42 (by omega) (by omega) (by omega) ?_
            refine R_iload_n r_154_43 rfl ?_
            refine R_icmp_ne r_154_44 (by decide) (fun h_8 => ?_) (fun h_8 => ?_)
            · refine R_iconst r_154_51 (v := nI 0) rfl ?_
              refine R_istore r_154_52 rfl ?_
              refine R_aload_n r_154_54 rfl (by decide) ?_
              refine R_getf r_154_55 (by decide) hC.1 rfl ?_
              refine R_iload r_154_58 rfl ?_
              refine R_iload r_154_60 rfl ?_
              refine R_ifT r_154_62 (by decide) (by decide) ?_
              refine R_iconst r_154_75 (v := nI 0) rfl ?_
              refine R_mst r_154_76 hC hL (by decide) (by decide) (by show _ < (5 : Nat); omega) (by decide) (fun w_q_9 f_q_9 hC_q_9 hL_q_9 e_q_9 hf_q_9 => ?_)
              have hR_q_9 : mR I w f_q_9 := by rw [e_q_9]; exact hR.up rfl
              refine R_iinc1 r_154_77 rfl rfl ?_
              refine R_goto r_154_80 (by decide) ?_
              exact ih (b + 1) _ _ _ (by omega) hC_q_9 hL_q_9 hR_q_9 (by rw [e_q_9]; exact hfs.u9) (frm.tr hf hf_q_9) (by rw [e_q_9, fu_s]; exact pre_setv (g := fun t => nI (frX I w x t)) hp (by rw [hL 39 (by decide) (by decide)]; show b < 5; omega) (congrArg nI (by first | exact ev_t (by assumption) (by assumption) (Or.inl (by assumption)) | exact ev_t (by assumption) (by assumption) (Or.inr (by assumption)) | exact ev_1 (by assumption) | exact ev_2 (by assumption) | exact ev_3 (by assumption) (by assumption))))
            · refine R_iconst r_154_47 (v := nI 1) rfl ?_
              refine R_goto r_154_48 (by decide) ?_
              refine R_istore r_154_52 rfl ?_
              refine R_aload_n r_154_54 rfl (by decide) ?_
              refine R_getf r_154_55 (by decide) hC.1 rfl ?_
              refine R_iload r_154_58 rfl ?_
              refine R_iload r_154_60 rfl ?_
              refine R_ifF r_154_62 (by decide) (by decide) ?_
              refine R_aload_n r_154_65 rfl (by decide) ?_
              refine R_getf r_154_66 (by decide) hC.1 rfl ?_
              refine R_iload r_154_69 rfl ?_
              refine R_iald r_154_71 (by decide) (hC.2 30 (by decide) (by decide)) (hR.rS (by omega) hW5) ?_
              refine R_goto r_154_72 (by decide) ?_
              refine R_mst r_154_76 hC hL (by decide) (by decide) (by show _ < (5 : Nat); omega) (by decide) (fun w_q_10 f_q_10 hC_q_10 hL_q_10 e_q_10 hf_q_10 => ?_)
              have hR_q_10 : mR I w f_q_10 := by rw [e_q_10]; exact hR.up rfl
              refine R_iinc1 r_154_77 rfl rfl ?_
              refine R_goto r_154_80 (by decide) ?_
              exact ih (b + 1) _ _ _ (by omega) hC_q_10 hL_q_10 hR_q_10 (by rw [e_q_10]; exact hfs.u9) (frm.tr hf hf_q_10) (by rw [e_q_10, fu_s]; exact pre_setv (g := fun t => nI (frX I w x t)) hp (by rw [hL 39 (by decide) (by decide)]; show b < 5; omega) (congrArg nI (by first | exact ev_t (by assumption) (by assumption) (Or.inl (by assumption)) | exact ev_t (by assumption) (by assumption) (Or.inr (by assumption)) | exact ev_1 (by assumption) | exact ev_2 (by assumption) | exact ev_3 (by assumption) (by assumption))))
theorem m_seated {xs : List Int32} {d : Nat} {wd : sm_W} {Q : Option Value → sm_W → Prop} {ln um km sn sp : Int32} {f : Nat → List Int32} (hC : mC wd ln um km sn sp f) {I : sm_Is} {w : Nat} (hR : mR I w f) (hL : mL f) (hW : iWF I) {s : Nat} {x : Int32} (hs : s < 256) (hQ : ∀ wd2 f2, mC wd2 ln um km sn sp f2 → mL f2 → mR I w f2 → fs f f2 → frm 22 40 wd wd2 → (∀ t, t < 8 → (f2 38)[t]? = some (boX (frX I w x) (seX I w x) (sIce w) s t)) → Q (some (.int (nI (lowUp s (seX I w x) 8).1))) wd2)  : Ct xs (d + 1) 154 [.ref 22, .int (nI s), .int x] wd Q := by
  unfold Ct
  show RT xs (d + 1) 154 0 [some (.ref 22), some (.int (nI s)), some (.int x), none, none, none] [] wd Q
  obtain ⟨hW1, hW2, hW3, hW4, hW5, hW6, hW7, hW8, hW9, hW10, hW11, hW12, hW13, hW14, hW15⟩ := id hW
  refine R_iconst r_154_0 (v := nI 0) rfl ?_
  refine R_istore_n r_154_1 rfl ?_
  refine R_iconst r_154_2 (v := nI 0) rfl ?_
  refine R_istore r_154_3 rfl ?_
  refine lp_seat1 hW hs (f0 := f) (wd0 := wd) (fun wd1 f1 hC1 hL1 hR1 hfs1 hf1 hp1 h5 => ?_) 5 0 _ _ _ (by omega) hC hL hR fs.rf frm.rf (fun t ht => absurd ht (by omega))
  refine R_iconst r_154_83 (v := nI 0) rfl ?_
  refine R_istore r_154_84 rfl ?_
  exact lp_seat2 hW hs hQ 8 0 _ _ _ (by omega) hC1 hL1 hR1 hfs1 hf1 (fun _ t ht => by rw [show (lowUp s (seX I w x) 0).2 = 0 from rfl, lf_0]; exact hp1 t ht) (fun t ht => absurd ht (by omega))
