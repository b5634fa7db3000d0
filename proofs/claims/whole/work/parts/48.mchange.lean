/-! the model: changes, undone, kept -/
theorem sLean_wLean {w i l i2 : Nat} (hi : i < 8) (hi2 : i2 < 8) (hl : l < 4) : sLean (wLean w i l) i2 = if i2 = i then l else sLean w i2 := by
  unfold sLean wLean
  by_cases e : i2 = i
  · subst e
    rw [if_pos rfl, sp_sw_ne (p := 8 + i2) (p2 := i2) (by omega) (by omega), sp_sw_same (by omega), sp_sw_same (by omega)]
    have : ∀ l, l < 4 → (l &&& 1) % 2 ^ 1 + 2 * (l >>> 1 % 2 ^ 1) = l := by decide
    exact this l hl
  · rw [if_neg e, sp_sw_ne (by omega) (by omega), sp_sw_ne (by omega) (by omega), sp_sw_ne (by omega) (by omega), sp_sw_ne (by omega) (by omega)]
theorem sMind_wLean {w i l i2 : Nat} (hi : i < 8) (hi2 : i2 < 8) : sMind (wLean w i l) i2 = sMind w i2 := by
  unfold sMind wLean
  rw [sp_sw_ne (by omega) (by omega), sp_sw_ne (by omega) (by omega)]
theorem sHeld_wLean {w i l : Nat} (hi : i < 8) : sHeld (wLean w i l) = sHeld w := by
  unfold sHeld wLean
  rw [sp_sw_ne (by omega) (by omega), sp_sw_ne (by omega) (by omega)]
theorem sStorm_wLean {w i l : Nat} (hi : i < 8) : sStorm (wLean w i l) = sStorm w := by
  unfold sStorm wLean
  rw [sp_sw_ne (by omega) (by omega), sp_sw_ne (by omega) (by omega)]
theorem sIce_wLean {w i l : Nat} (hi : i < 8) : sIce (wLean w i l) = sIce w := by
  unfold sIce wLean
  rw [sp_sw_ne (by omega) (by omega), sp_sw_ne (by omega) (by omega)]
theorem sLean_wMind {w i l i2 : Nat} (hi : i < 8) (hi2 : i2 < 8) : sLean (wMind w i l) i2 = sLean w i2 := by
  unfold sLean wMind
  rw [sp_sw_ne (by omega) (by omega), sp_sw_ne (by omega) (by omega)]
theorem sMind_wMind {w i l i2 : Nat} (hi : i < 8) (hi2 : i2 < 8) (hl : l < 8) : sMind (wMind w i l) i2 = if i2 = i then l else sMind w i2 := by
  unfold sMind wMind
  by_cases e : i2 = i
  · subst e
    rw [if_pos rfl, sp_sw_same (by omega)]
    exact Nat.mod_eq_of_lt hl
  · rw [if_neg e, sp_sw_ne (by omega) (by omega)]
theorem sHeld_wMind {w i l : Nat} (hi : i < 8) : sHeld (wMind w i l) = sHeld w := sp_sw_ne (by omega) (by omega)
theorem sStorm_wMind {w i l : Nat} (hi : i < 8) : sStorm (wMind w i l) = sStorm w := by unfold sStorm wMind; rw [sp_sw_ne (by omega) (by omega)]
theorem sIce_wMind {w i l : Nat} (hi : i < 8) : sIce (wMind w i l) = sIce w := by unfold sIce wMind; rw [sp_sw_ne (by omega) (by omega)]
theorem sLean_wHeld {w h i2 : Nat} (hi2 : i2 < 8) : sLean (wHeld w h) i2 = sLean w i2 := by
  unfold sLean wHeld
  rw [sp_sw_ne (by omega) (by omega), sp_sw_ne (by omega) (by omega)]
theorem sMind_wHeld {w h i2 : Nat} (hi2 : i2 < 8) : sMind (wHeld w h) i2 = sMind w i2 := sp_sw_ne (by omega) (by omega)
theorem sHeld_wHeld {w h : Nat} (hh : h < 32) : sHeld (wHeld w h) = h := (sp_sw_same (by omega)).trans (Nat.mod_eq_of_lt hh)
theorem sStorm_wHeld {w h : Nat} : sStorm (wHeld w h) = sStorm w := by unfold sStorm wHeld; rw [sp_sw_ne (by omega) (by omega)]
theorem sIce_wHeld {w h : Nat} : sIce (wHeld w h) = sIce w := by unfold sIce wHeld; rw [sp_sw_ne (by omega) (by omega)]
theorem sLean_wW {w i2 : Nat} {s i : Bool} (hi2 : i2 < 8) : sLean (wWeather w s i) i2 = sLean w i2 := by
  unfold sLean wWeather
  rw [sp_sw_ne (by omega) (by omega), sp_sw_ne (by omega) (by omega), sp_sw_ne (by omega) (by omega), sp_sw_ne (by omega) (by omega)]
theorem sMind_wW {w i2 : Nat} {s i : Bool} (hi2 : i2 < 8) : sMind (wWeather w s i) i2 = sMind w i2 := by
  unfold sMind wWeather
  rw [sp_sw_ne (by omega) (by omega), sp_sw_ne (by omega) (by omega)]
theorem sHeld_wW {w : Nat} {s i : Bool} : sHeld (wWeather w s i) = sHeld w := by
  unfold sHeld wWeather
  rw [sp_sw_ne (by omega) (by omega), sp_sw_ne (by omega) (by omega)]
theorem sStorm_wW {w : Nat} {s i : Bool} : sStorm (wWeather w s i) = s := by
  unfold sStorm wWeather
  rw [sp_sw_ne (by omega) (by omega), sp_sw_same (by omega)]
  cases s <;> rfl
theorem sIce_wW {w : Nat} {s i : Bool} : sIce (wWeather w s i) = i := by
  unfold sIce wWeather
  rw [sp_sw_same (by omega)]
  cases i <;> rfl
theorem wf_lean {I : sm_Is} {w i l : Nat} (h8 : iN I ≤ 8) (h : wfW I w) (hi : i < iN I) (hl : l < 4) : wfW I (wLean w i l) :=
  ⟨wLean_lt h.1 (by omega), fun t ht => by rw [sMind_wLean (by omega) (by omega)]; exact h.2.1 t ht, fun t h1 h2 => by rw [sLean_wLean (by omega) h2 hl, if_neg (by omega)]; exact h.2.2.1 t h1 h2, by rw [sHeld_wLean (by omega)]; exact h.2.2.2⟩
theorem wf_mind {I : sm_Is} {w i l : Nat} (h8 : iN I ≤ 8) (h : wfW I w) (hi : i < iN I) (hl : l < iN I) : wfW I (wMind w i l) :=
  ⟨wMind_lt h.1 (by omega), fun t ht => by rw [sMind_wMind (by omega) (by omega) (by omega)]; split; exact hl; exact h.2.1 t ht, fun t h1 h2 => by rw [sLean_wMind (by omega) h2]; exact h.2.2.1 t h1 h2, by rw [sHeld_wMind (by omega)]; exact h.2.2.2⟩
theorem wf_held {I : sm_Is} {w hh : Nat} (h8 : iN I ≤ 8) (h5 : iB I ≤ 5) (h : wfW I w) (hl : hh < 2 ^ iB I) : wfW I (wHeld w hh) :=
  ⟨wHeld_lt h.1, fun t ht => by rw [sMind_wHeld (by omega)]; exact h.2.1 t ht, fun t h1 h2 => by rw [sLean_wHeld h2]; exact h.2.2.1 t h1 h2, by rw [sHeld_wHeld (Nat.lt_of_lt_of_le hl (Nat.pow_le_pow_right (n := 2) (by decide) h5))]; exact hl⟩
theorem wf_W {I : sm_Is} {w : Nat} {s i : Bool} (h8 : iN I ≤ 8) (h : wfW I w) : wfW I (wWeather w s i) :=
  ⟨wWeather_lt h.1, fun t ht => by rw [sMind_wW (by omega)]; exact h.2.1 t ht, fun t h1 h2 => by rw [sLean_wW h2]; exact h.2.2.1 t h1 h2, by rw [sHeld_wW]; exact h.2.2.2⟩
def rup (k : Nat) (v : Int32) (g : Nat → Option Int32) : Nat → Option Int32 := fun j => if j = k then some v else g j
theorem rup_s (k : Nat) (v : Int32) (g : Nat → Option Int32) : rup k v g k = some v := if_pos rfl
theorem rup_n {k j : Nat} {v : Int32} {g : Nat → Option Int32} (h : j ≠ k) : rup k v g j = g j := if_neg h
theorem row_lean {I : sm_Is} {w i l : Nat} {g : Nat → Option Int32} (h8 : iN I ≤ 8) (h : rowR I w g) (hi : i < iN I) (hl : l < 4) : rowR I (wLean w i l) (rup i (nI l) g) := by
  refine ⟨fun t ht => ⟨?_, ?_⟩, fun b hb => ?_, ?_, ?_⟩
  · rw [sLean_wLean (by omega) (by omega) hl]
    by_cases e : t = i
    · subst e; rw [rup_s, if_pos rfl]
    · rw [rup_n e, if_neg e]; exact (h.1 t ht).1
  · rw [sMind_wLean (by omega) (by omega), rup_n (by omega)]; exact (h.1 t ht).2
  · rw [sHeld_wLean (by omega), rup_n (by omega)]; exact h.2.1 b hb
  · rw [sStorm_wLean (by omega), rup_n (by omega)]; exact h.2.2.1
  · rw [sIce_wLean (by omega), rup_n (by omega)]; exact h.2.2.2
theorem row_mind {I : sm_Is} {w i l : Nat} {g : Nat → Option Int32} (h8 : iN I ≤ 8) (h : rowR I w g) (hi : i < iN I) (hl : l < 8) : rowR I (wMind w i l) (rup (8 + i) (nI l) g) := by
  refine ⟨fun t ht => ⟨?_, ?_⟩, fun b hb => ?_, ?_, ?_⟩
  · rw [sLean_wMind (by omega) (by omega), rup_n (by omega)]; exact (h.1 t ht).1
  · rw [sMind_wMind (by omega) (by omega) hl]
    by_cases e : t = i
    · subst e; rw [rup_s, if_pos rfl]
    · rw [rup_n (by omega), if_neg e]; exact (h.1 t ht).2
  · rw [sHeld_wMind (by omega), rup_n (by omega)]; exact h.2.1 b hb
  · rw [sStorm_wMind (by omega), rup_n (by omega)]; exact h.2.2.1
  · rw [sIce_wMind (by omega), rup_n (by omega)]; exact h.2.2.2
theorem row_held {I : sm_Is} {w b0 hh : Nat} {v : Bool} {g : Nat → Option Int32} (h8 : iN I ≤ 8) (h : rowR I w g) (hb0 : b0 < 5) (hh32 : hh < 32) (hv : hh.testBit b0 = v) (ho : ∀ b, b < 5 → b ≠ b0 → hh.testBit b = (sHeld w).testBit b) : rowR I (wHeld w hh) (rup (16 + b0) (b2i v) g) := by
  refine ⟨fun t ht => ⟨?_, ?_⟩, fun b hb => ?_, ?_, ?_⟩
  · rw [sLean_wHeld (by omega), rup_n (by omega)]; exact (h.1 t ht).1
  · rw [sMind_wHeld (by omega), rup_n (by omega)]; exact (h.1 t ht).2
  · rw [sHeld_wHeld hh32]
    by_cases e : b = b0
    · subst e; rw [rup_s, hv]
    · rw [rup_n (by omega), ho b hb e]; exact h.2.1 b hb
  · rw [sStorm_wHeld, rup_n (by omega)]; exact h.2.2.1
  · rw [sIce_wHeld, rup_n (by omega)]; exact h.2.2.2
theorem row_storm {I : sm_Is} {w : Nat} {s i : Bool} {g : Nat → Option Int32} (h8 : iN I ≤ 8) (h : rowR I w g) (hi : sIce w = i) : rowR I (wWeather w s i) (rup 21 (b2i s) g) := by
  refine ⟨fun t ht => ⟨?_, ?_⟩, fun b hb => ?_, ?_, ?_⟩
  · rw [sLean_wW (by omega), rup_n (by omega)]; exact (h.1 t ht).1
  · rw [sMind_wW (by omega), rup_n (by omega)]; exact (h.1 t ht).2
  · rw [sHeld_wW, rup_n (by omega)]; exact h.2.1 b hb
  · rw [sStorm_wW, rup_s]
  · rw [sIce_wW, rup_n (by omega), ← hi]; exact h.2.2.2
theorem row_ice {I : sm_Is} {w : Nat} {s i : Bool} {g : Nat → Option Int32} (h8 : iN I ≤ 8) (h : rowR I w g) (hs : sStorm w = s) : rowR I (wWeather w s i) (rup 22 (b2i i) g) := by
  refine ⟨fun t ht => ⟨?_, ?_⟩, fun b hb => ?_, ?_, ?_⟩
  · rw [sLean_wW (by omega), rup_n (by omega)]; exact (h.1 t ht).1
  · rw [sMind_wW (by omega), rup_n (by omega)]; exact (h.1 t ht).2
  · rw [sHeld_wW, rup_n (by omega)]; exact h.2.1 b hb
  · rw [sStorm_wW, rup_n (by omega), ← hs]; exact h.2.2.1
  · rw [sIce_wW, rup_s]
theorem row_set {I : sm_Is} {w k : Nat} {v : Int32} {l : List Int32} (h8 : iN I ≤ 8) (hk : k < l.length) (h : rowR I w (rup k v (fun j => l[j]?))) : rowR I w (fun j => (l.set k v)[j]?) := by
  refine h.cg h8 (fun j _ => ?_)
  by_cases e : j = k
  · subst e; rw [rup_s]; exact List.getElem?_set_self hk
  · rw [rup_n e]; exact List.getElem?_set_ne (Ne.symm e)
theorem mR.now {I : sm_Is} {w w2 : Nat} {f : Nat → List Int32} {l : List Int32} (h : mR I w f) (h2 : rowR I w2 (fun j => l[j]?)) : mR I w2 (fu f 32 l) := by
  unfold mR
  rw [fu_n (by decide : (24 : Nat) ≠ 32), fu_n (by decide : (25 : Nat) ≠ 32), fu_n (by decide : (28 : Nat) ≠ 32), fu_n (by decide : (29 : Nat) ≠ 32), fu_n (by decide : (30 : Nat) ≠ 32), fu_n (by decide : (31 : Nat) ≠ 32), fu_s]
  exact ⟨h.1, h2⟩
theorem mR.cg {I : sm_Is} {w : Nat} {f f2 : Nat → List Int32} (h : mR I w f) (h2 : ∀ k, (k = 24 ∨ k = 25 ∨ k = 28 ∨ k = 29 ∨ k = 30 ∨ k = 31 ∨ k = 32) → f2 k = f k) : mR I w f2 := by
  unfold mR
  rw [h2 24 (by omega), h2 25 (by omega), h2 28 (by omega), h2 29 (by omega), h2 30 (by omega), h2 31 (by omega), h2 32 (by omega)]
  exact h
theorem mR.cgn {I : sm_Is} {w w2 : Nat} {f f2 : Nat → List Int32} (h : mR I w f) (h2 : ∀ k, k ≠ 32 → f2 k = f k) (h3 : rowR I w2 (fun k => (f2 32)[k]?)) : mR I w2 f2 := by
  unfold mR
  rw [h2 24 (by omega), h2 25 (by omega), h2 28 (by omega), h2 29 (by omega), h2 30 (by omega), h2 31 (by omega)]
  exact ⟨h.1, h3⟩
theorem pre_copy {l s : List Int32} {b a i : Nat} {v : Int32} (h : ∀ t, t < i → l[b + t]? = s[a + t]?) (hi : b + i < l.length) (hv : s[a + i]? = some v) : ∀ t, t < i + 1 → (l.set (b + i) v)[b + t]? = s[a + t]? := by
  intro t ht
  by_cases e : t = i
  · subst e; rw [List.getElem?_set_self hi, hv]
  · rw [List.getElem?_set_ne (by omega)]; exact h t (by omega)
theorem low_copy {l s : List Int32} {b i : Nat} {v : Int32} (h : ∀ t, t < b → l[t]? = s[t]?) : ∀ t, t < b → (l.set (b + i) v)[t]? = s[t]? := by
  intro t ht
  rw [List.getElem?_set_ne (by omega)]; exact h t ht
theorem pre_setv' {α : Type} {l : List α} {i : Nat} {v : α} {g : Nat → Option α} (h : ∀ t, t < i → l[t]? = g t) (hi : i < l.length) (hv : some v = g i) : ∀ t, t < i + 1 → (l.set i v)[t]? = g t := by
  intro t ht
  by_cases e : t = i
  · subst e; rw [List.getElem?_set_self hi, hv]
  · rw [List.getElem?_set_ne (Ne.symm e)]; exact h t (by omega)
theorem lp_note1 {xs : List Int32} {d : Nat} {Q : Option Value → sm_W → Prop} {ln um km sn sp : Int32} {f0 : Nat → List Int32} {wd0 : sm_W} (hQ : ∀ wd f, mC wd ln um km sn sp f → mL f → (∀ q, q ≠ 33 → f q = f0 q) → frm 22 40 wd0 wd → (∀ t, t < 168 → (f 33)[t]? = (f0 33)[24 + t]?) → RT xs (d) 165 39 [some (.ref 22), some (.int (nI 168))] [] wd Q)  : ∀ (k : Nat) (k0 : Nat) (wd : sm_W) (f : Nat → List Int32), (k0 + k = 168) → (mC wd ln um km sn sp f) → (mL f) → (∀ q, q ≠ 33 → f q = f0 q) → (frm 22 40 wd0 wd) → (∀ t, t < k0 → (f 33)[t]? = (f0 33)[24 + t]?) → (∀ t, k0 ≤ t → (f 33)[t]? = (f0 33)[t]?) → RT xs (d) 165 11 [some (.ref 22), some (.int (nI k0))] [] wd Q := by
  intro k
  induction k with
  | zero =>
    intro k0 wd f hk hC hL ho hf hp hq
    refine R_iload_n r_165_11 rfl ?_
    refine R_sipush r_165_12 (v := nI 168) rfl ?_
    refine R_icmp_ge_N r_165_15 (by decide) (by omega) (by omega) (fun h_1 => ?_) (fun h_1 => ?_)
    · obtain rfl : k0 = 168 := by omega
      exact hQ _ _ hC hL ho hf hp
    · exfalso; omega
  | succ k ih =>
    intro k0 wd f hk hC hL ho hf hp hq
    have hdl : (f 33).length = 192 := hL 33 (by decide) (by decide)
    obtain ⟨v, hv⟩ : ∃ v, (f 33)[24 + k0]? = some v := ⟨_, List.getElem?_eq_getElem (by omega)⟩
    refine R_iload_n r_165_11 rfl ?_
    refine R_sipush r_165_12 (v := nI 168) rfl ?_
    refine R_icmp_ge_N r_165_15 (by decide) (by omega) (by omega) (fun h_1 => ?_) (fun h_1 => ?_)
    · exfalso; omega
    · refine R_aload_n r_165_18 rfl (by decide) ?_
      refine R_getf r_165_19 (by decide) hC.1 rfl ?_
      refine R_iload_n r_165_22 rfl ?_
      refine R_aload_n r_165_23 rfl (by decide) ?_
      refine R_getf r_165_24 (by decide) hC.1 rfl ?_
      refine R_bipush r_165_27 (v := nI 24) rfl ?_
      refine R_iload_n r_165_29 rfl ?_
      refine R_iaddN r_165_30 ?_
      refine R_iald r_165_31 (by decide) (hC.2 33 (by decide) (by decide)) (sm_ixG hv (by omega)) ?_
      refine R_mst r_165_32 hC hL (by decide) (by decide) (by show _ < (192 : Nat); omega) (by decide) (fun w_q_2 f_q_2 hC_q_2 hL_q_2 e_q_2 hf_q_2 => ?_)
      refine R_iinc1 r_165_33 rfl rfl ?_
      refine R_goto r_165_36 (by decide) ?_
      refine ih (k0 + 1) _ _ (by omega) hC_q_2 hL_q_2 (fun q hq => by rw [e_q_2, fu_n hq]; exact ho q hq) (frm.tr hf hf_q_2) ?_ ?_
      · rw [e_q_2, fu_s]; exact pre_setv' hp (by omega) (by rw [← hq _ (by omega)]; exact hv.symm)
      · intro t ht; rw [e_q_2, fu_s, List.getElem?_set_ne (by omega)]; exact hq t (by omega)
theorem lp_note2 {xs : List Int32} {d : Nat} {Q : Option Value → sm_W → Prop} {ln km sn sp : Int32} {n : Nat} (hn : 24 * n + 24 ≤ 192) {f0 : Nat → List Int32} {wd0 : sm_W} (hQ : ∀ wd f, mC wd ln (nI n) km sn sp f → mL f → (∀ q, q ≠ 33 → f q = f0 q) → frm 22 40 wd0 wd → (∀ t, t < 24 → (f 33)[24 * n + t]? = (f0 32)[0 + t]?) → (∀ t, t < 24 * n → (f 33)[t]? = (f0 33)[t]?) → RT xs (d) 165 83 [some (.ref 22), some (.int (nI 24))] [] wd Q)  : ∀ (k : Nat) (k0 : Nat) (wd : sm_W) (f : Nat → List Int32), (k0 + k = 24) → (mC wd ln (nI n) km sn sp f) → (mL f) → (∀ q, q ≠ 33 → f q = f0 q) → (frm 22 40 wd0 wd) → (∀ t, t < k0 → (f 33)[24 * n + t]? = (f0 32)[0 + t]?) → (∀ t, t < 24 * n → (f 33)[t]? = (f0 33)[t]?) → RT xs (d) 165 51 [some (.ref 22), some (.int (nI k0))] [] wd Q := by
  intro k
  induction k with
  | zero =>
    intro k0 wd f hk hC hL ho hf hp hq
    refine R_iload_n r_165_51 rfl ?_
    refine R_bipush r_165_52 (v := nI 24) rfl ?_
    refine R_icmp_ge_N r_165_54 (by decide) (by omega) (by omega) (fun h_1 => ?_) (fun h_1 => ?_)
    · obtain rfl : k0 = 24 := by omega
      exact hQ _ _ hC hL ho hf hp hq
    · exfalso; omega
  | succ k ih =>
    intro k0 wd f hk hC hL ho hf hp hq
    have hsl : (f 32).length = 24 := hL 32 (by decide) (by decide)
    have hdl : (f 33).length = 192 := hL 33 (by decide) (by decide)
    obtain ⟨v, hv⟩ : ∃ v, (f 32)[0 + k0]? = some v := ⟨_, List.getElem?_eq_getElem (by omega)⟩
    refine R_iload_n r_165_51 rfl ?_
    refine R_bipush r_165_52 (v := nI 24) rfl ?_
    refine R_icmp_ge_N r_165_54 (by decide) (by omega) (by omega) (fun h_1 => ?_) (fun h_1 => ?_)
    · exfalso; omega
    · refine R_aload_n r_165_57 rfl (by decide) ?_
      refine R_getf r_165_58 (by decide) hC.1 rfl ?_
      refine R_bipush r_165_61 (v := nI 24) rfl ?_
      refine R_aload_n r_165_63 rfl (by decide) ?_
      refine R_getf r_165_64 (by decide) hC.1 rfl ?_
      refine R_imulN r_165_67 ?_
      refine R_iload_n r_165_68 rfl ?_
      refine R_iaddN r_165_69 ?_
      refine R_aload_n r_165_70 rfl (by decide) ?_
      refine R_getf r_165_71 (by decide) hC.1 rfl ?_
      refine R_iload_n r_165_74 rfl ?_
      refine R_iald r_165_75 (by decide) (hC.2 32 (by decide) (by decide)) (sm_ixG (by rw [Nat.zero_add] at hv; exact hv) (by omega)) ?_
      refine R_mst r_165_76 hC hL (by decide) (by decide) (by show _ < (192 : Nat); omega) (by decide) (fun w_q_2 f_q_2 hC_q_2 hL_q_2 e_q_2 hf_q_2 => ?_)
      refine R_iinc1 r_165_77 rfl rfl ?_
      refine R_goto r_165_80 (by decide) ?_
      rw [ho 32 (by decide)] at hv
      refine ih (k0 + 1) _ _ (by omega) hC_q_2 hL_q_2 (fun q hq => by rw [e_q_2, fu_n hq]; exact ho q hq) (frm.tr hf hf_q_2) ?_ ?_
      · rw [e_q_2, fu_s]; exact pre_copy hp (by omega) hv
      · rw [e_q_2, fu_s]; exact low_copy hq
theorem push_len {c : Nat} (hc : 1 ≤ c) {ws : List Nat} (s : Nat) (h : ws.length ≤ c) : (pushW c ws s).length = (if ws.length = c then c - 1 else ws.length) + 1 := by
  unfold pushW
  rw [app_len]
  by_cases e : ws.length = c
  · rw [if_pos e, if_pos (by omega), List.length_drop, e]
  · rw [if_neg e, if_neg (by omega)]
theorem push_get {c : Nat} (hc : 1 ≤ c) {ws : List Nat} (s : Nat) (h : ws.length ≤ c) {t : Nat} (ht : t < (pushW c ws s).length) : (pushW c ws s).getD t 0 = if t = (if ws.length = c then c - 1 else ws.length) then s else if ws.length = c then ws.getD (1 + t) 0 else ws.getD t 0 := by
  rw [push_len hc s h] at ht
  unfold pushW
  by_cases e : ws.length = c
  · rw [if_pos (by omega), app_get (by rw [List.length_drop]; rw [if_pos e] at ht; omega), List.length_drop, e, if_pos rfl, if_pos rfl]
    congr 1
    rw [List.getD_eq_getElem?_getD, List.getElem?_drop, ← List.getD_eq_getElem?_getD]
  · rw [if_neg (by omega), if_neg e, if_neg e]
    rw [if_neg e] at ht
    exact app_get ht
theorem past_new {I : sm_Is} {w : Nat} {pa : List Nat} {l l2 now : List Int32} (h8 : iN I ≤ 8) (hl : pa.length ≤ 8) (h : ∀ t, t < pa.length → rowR I (pa.getD t 0) (fun k => l[24 * t + k]?)) (hw : rowR I w (fun k => now[k]?)) {n : Nat} (hn : n = if pa.length = 8 then 7 else pa.length) (h1 : ∀ t, t < 24 → l2[24 * n + t]? = now[0 + t]?) (h2 : ∀ t, t < 24 * n → l2[t]? = if pa.length = 8 then l[24 + t]? else l[t]?) : ∀ t, t < (pushW 8 pa w).length → rowR I ((pushW 8 pa w).getD t 0) (fun k => l2[24 * t + k]?) := by
  intro t ht
  rw [push_get (by decide) w hl ht]
  rw [push_len (by decide) w hl] at ht
  have en : (if pa.length = 8 then 8 - 1 else pa.length) = n := hn.symm
  rw [en] at ht ⊢
  by_cases e : t = n
  · subst e
    rw [if_pos rfl]
    exact hw.cg h8 (fun k hk => by show l2[24 * t + k]? = now[k]?; rw [h1 k hk, Nat.zero_add])
  · rw [if_neg e]
    by_cases e8 : pa.length = 8
    · rw [if_pos e8]
      rw [if_pos e8] at hn
      exact (h (1 + t) (by omega)).cg h8 (fun k hk => by show l2[24 * t + k]? = l[24 * (1 + t) + k]?; rw [h2 _ (by omega), if_pos e8]; congr 1; omega)
    · rw [if_neg e8]
      rw [if_neg e8] at hn
      exact (h t (by omega)).cg h8 (fun k hk => by show l2[24 * t + k]? = l[24 * t + k]?; rw [h2 _ (by omega), if_neg e8])
theorem note_end {I : sm_Is} {w : Nat} {tx pa sh : List Nat} {sn : List (Nat × Nat)} {f f3 : Nat → List Int32} {n : Nat} {sp : Int32} {wd : sm_W} (h8 : iN I ≤ 8) (hR : mR I w f) (hT : mT I tx pa sh sn f) (hn : n = if pa.length = 8 then 7 else pa.length) (hL3 : mL f3) (ho : ∀ q, q ≠ 33 → f3 q = f q) (h1 : ∀ t, t < 24 → (f3 33)[24 * n + t]? = (f 32)[0 + t]?) (h2 : ∀ t, t < 24 * n → (f3 33)[t]? = if pa.length = 8 then (f 33)[24 + t]? else (f 33)[t]?) (hC : mC wd (nI tx.length) (nI (n + 1)) (nI sh.length) (nI sn.length) sp f3) : mX wd tx I w (pushW 8 pa w) sh sn := by
  obtain ⟨hT1, hT2, hT3, hT4⟩ := hT
  have hlen : (pushW 8 pa w).length = n + 1 := by rw [push_len (by decide) w hT2.1, hn]
  refine ⟨sp, f3, by rw [hlen]; exact hC, hL3, hR.cg (fun k hk => ho k (by omega)), ?_, ⟨?_, ?_⟩, ?_, ?_⟩
  · rw [ho 23 (by decide)]; exact hT1
  · have := hT2.1
    rw [hlen, hn]
    split <;> omega
  · exact past_new h8 hT2.1 hT2.2 hR.2 hn h1 h2
  · rw [ho 34 (by decide)]; exact hT3
  · rw [ho 35 (by decide), ho 36 (by decide)]; exact hT4
theorem m_note {xs : List Int32} {d : Nat} {wd : sm_W} {Q : Option Value → sm_W → Prop} {tx : List Nat} {I : sm_Is} {w : Nat} {pa sh : List Nat} {sn : List (Nat × Nat)} (hX : mX wd tx I w pa sh sn) (hW : iWF I) (hw : wfW I w) (hQ : ∀ w2, mX w2 tx I w (pushW 8 pa w) sh sn → frm 22 40 wd w2 → Q none w2) : Ct xs (d) 165 [.ref 22] wd Q := by
  unfold Ct
  show RT xs (d) 165 0 [some (.ref 22), none] [] wd Q
  obtain ⟨sp, f, hC, hL, hR, hT⟩ := id hX
  obtain ⟨hW1, hW2, hW3, hW4, hW5, hW6, hW7, hW8, hW9, hW10, hW11, hW12, hW13, hW14, hW15⟩ := id hW
  obtain ⟨hT1, hT2, hT3, hT4⟩ := id hT
  refine R_aload_n r_165_0 rfl (by decide) ?_
  refine R_getf r_165_1 (by decide) hC.1 rfl ?_
  refine R_bipush r_165_4 (v := nI 8) rfl ?_
  refine R_icmp_ne_N r_165_6 (by decide) (by omega) (by omega) (fun h_1 => ?_) (fun h_1 => ?_)
  · refine R_iconst r_165_49 (v := nI 0) rfl ?_
    refine R_istore_n r_165_50 rfl ?_
    refine lp_note2 (n := pa.length) (f0 := f) (wd0 := wd) (by omega) (fun wd3 f3 hC3 hL3 ho3 hf3 hp3 hq3 => ?_) 24 0 _ _ (by omega) hC hL (fun _ _ => rfl) frm.rf (fun t ht => absurd ht (by omega)) (fun t ht => rfl)
    refine R_aload_n r_165_83 rfl (by decide) ?_
    refine R_dup r_165_84 rfl ?_
    refine R_getf r_165_85 (by decide) hC3.1 rfl ?_
    refine R_iconst r_165_88 (v := nI 1) rfl ?_
    refine R_iaddN r_165_89 ?_
    refine R_mp_um r_165_90 hC3 rfl rfl (fun w_q_51 hC_q_51 hf_q_51 => ?_)
    refine R_vret r_165_93 rfl ?_
    exact hQ _ (note_end hW4 hR hT (by rw [if_neg (by assumption)]) hL3 ho3 hp3 (fun t ht => by rw [if_neg (by assumption)]; exact hq3 t ht) hC_q_51) (frm.tr hf3 hf_q_51)
  · refine R_iconst r_165_9 (v := nI 0) rfl ?_
    refine R_istore_n r_165_10 rfl ?_
    have e8 : pa.length = 8 := by assumption
    refine lp_note1 (f0 := f) (wd0 := wd) (fun wd1 f1 hC1 hL1 ho1 hf1 hp1 => ?_) 168 0 _ _ (by omega) hC hL (fun _ _ => rfl) frm.rf (fun t ht => absurd ht (by omega)) (fun t ht => rfl)
    refine R_aload_n r_165_39 rfl (by decide) ?_
    refine R_dup r_165_40 rfl ?_
    refine R_getf r_165_41 (by decide) hC1.1 rfl ?_
    refine R_iconst r_165_44 (v := nI 1) rfl ?_
    refine R_isubN r_165_45 (by omega) ?_
    refine R_mp_um r_165_46 hC1 rfl rfl (fun w_q_21 hC_q_21 hf_q_21 => ?_)
    refine R_iconst r_165_49 (v := nI 0) rfl ?_
    refine R_istore_n r_165_50 rfl ?_
    rw [e8] at hC_q_21
    refine lp_note2 (n := 7) (f0 := f1) (wd0 := wd1) (by omega) (fun wd3 f3 hC3 hL3 ho3 hf3 hp3 hq3 => ?_) 24 0 _ _ (by omega) hC_q_21 hL1 (fun _ _ => rfl) hf_q_21 (fun t ht => absurd ht (by omega)) (fun t ht => rfl)
    rw [ho1 32 (by decide)] at hp3
    refine R_aload_n r_165_83 rfl (by decide) ?_
    refine R_dup r_165_84 rfl ?_
    refine R_getf r_165_85 (by decide) hC3.1 rfl ?_
    refine R_iconst r_165_88 (v := nI 1) rfl ?_
    refine R_iaddN r_165_89 ?_
    refine R_mp_um r_165_90 hC3 rfl rfl (fun w_q_51 hC_q_51 hf_q_51 => ?_)
    refine R_vret r_165_93 rfl ?_
    exact hQ _ (note_end hW4 hR hT (by rw [if_pos e8]) hL3 (fun q hq => (ho3 q hq).trans (ho1 q hq)) hp3 (fun t ht => by rw [if_pos e8, hq3 t ht]; exact hp1 t (by omega)) hC_q_51) (frm.tr (frm.tr hf1 hf3) hf_q_51)
theorem wfE {w : Nat} {I : sm_Is} (h : wfW I w) : w < 18446744073709551616 := h.1
theorem m_change {xs : List Int32} {d : Nat} {wd : sm_W} {Q : Option Value → sm_W → Prop} {tx : List Nat} {I : sm_Is} {w : Nat} {pa sh : List Nat} {sn : List (Nat × Nat)} (hX : mX wd tx I w pa sh sn) (hW : iWF I) (hw : wfW I w) {k n2 : Nat} {v old : Int32} (hk : k < 24) (hold : ∀ f, mR I w f → (f 32)[k]? = some old) (hnew : ∀ g, rowR I w g → rowR I n2 (rup k v g)) (hQ : ∀ w2, mX w2 tx I n2 (pushW 8 pa w) sh sn → frm 22 40 wd w2 → Q (some (.int old)) w2) : Ct xs (d + 1) 164 [.ref 22, .int (nI k), .int v] wd Q := by
  unfold Ct
  show RT xs (d + 1) 164 0 [some (.ref 22), some (.int (nI k)), some (.int v), none] [] wd Q
  obtain ⟨sp, f, hC, hL, hR, hT⟩ := id hX
  obtain ⟨hW1, hW2, hW3, hW4, hW5, hW6, hW7, hW8, hW9, hW10, hW11, hW12, hW13, hW14, hW15⟩ := id hW
  obtain ⟨hT1, hT2, hT3, hT4⟩ := id hT
  refine R_aload_n r_164_0 rfl (by decide) ?_
  refine R_call1 r_164_1 rfl (sm_rvM rfl rfl rfl hC) (Nat.le_of_ble_eq_true rfl) (Nat.le_of_ble_eq_true rfl) ?_
  refine m_note hX hW hw (fun w_q_1 hX_q_1 hf_q_1 => ?_)
  obtain ⟨sp2, f2, hC2, hL2, hR2, hT2b⟩ := id hX_q_1
  refine R_aload_n r_164_4 rfl (by decide) ?_
  refine R_getf r_164_5 (by decide) hC2.1 rfl ?_
  refine R_iload_n r_164_8 rfl ?_
  refine R_iald r_164_9 (by decide) (hC2.2 32 (by decide) (by decide)) (sm_ixG (hold _ hR2) (by omega)) ?_
  refine R_istore_n r_164_10 rfl ?_
  refine R_aload_n r_164_11 rfl (by decide) ?_
  refine R_getf r_164_12 (by decide) hC2.1 rfl ?_
  refine R_iload_n r_164_15 rfl ?_
  refine R_iload_n r_164_16 rfl ?_
  refine R_mst r_164_17 hC2 hL2 (by decide) (by decide) (by show _ < (24 : Nat); omega) (by decide) (fun w_q_2 f_q_2 hC_q_2 hL_q_2 e_q_2 hf_q_2 => ?_)
  refine R_iload_n r_164_18 rfl ?_
  refine R_iret r_164_19 (ty := .int) rfl rfl (by decide) ?_
  refine hQ _ ⟨_, _, hC_q_2, hL_q_2, ?_, hT2b.fk ?_⟩ (frm.tr hf_q_1 hf_q_2)
  · rw [e_q_2]; exact hR2.now (row_set hW4 (by rw [hL2 32 (by decide) (by decide)]; exact hk) (hnew _ hR2.2))
  · rw [e_q_2]; exact fk.rf.up (by decide)
theorem m_lean {xs : List Int32} {d : Nat} {wd : sm_W} {Q : Option Value → sm_W → Prop} {tx : List Nat} {I : sm_Is} {w : Nat} {pa sh : List Nat} {sn : List (Nat × Nat)} (hX : mX wd tx I w pa sh sn) (hW : iWF I) (hw : wfW I w) {x1 x2 : Int32} (hB : (inR x1 (iN I) && inR x2 4) = false → Q (some (.int (-1))) wd) (hQ : ∀ i l, i < iN I → l < 4 → x1 = nI i → x2 = nI l → ∀ w2, mX w2 tx I (wLean w i l) (pushW 8 pa w) sh sn → frm 22 40 wd w2 → Q (some (.int (nI (sLean w i)))) w2) : Ct xs (d + 2) 163 [.ref 22, .int x1, .int x2] wd Q := by
  unfold Ct
  show RT xs (d + 2) 163 0 [some (.ref 22), some (.int x1), some (.int x2)] [] wd Q
  obtain ⟨sp, f, hC, hL, hR, hT⟩ := id hX
  obtain ⟨hW1, hW2, hW3, hW4, hW5, hW6, hW7, hW8, hW9, hW10, hW11, hW12, hW13, hW14, hW15⟩ := id hW
  obtain ⟨hT1, hT2, hT3, hT4⟩ := id hT
  refine R_aload_n r_163_0 rfl (by decide) ?_
  refine R_iload_n r_163_1 rfl ?_
  refine R_call2 r_163_2 rfl (sm_rvM rfl rfl rfl hC) (Nat.le_of_ble_eq_true rfl) (Nat.le_of_ble_eq_true rfl) ?_
  refine m_isIslander hC hR hW ?_
  refine R_if_eq_b r_163_5 (by decide) (fun h_1 => ?_) (fun h_1 => ?_)
  · refine R_iconst r_163_29 (v := (-1)) rfl ?_
    refine R_iret r_163_30 (ty := .int) rfl rfl (by decide) ?_
    exact hB (by simp [*])
  · refine R_iload_n r_163_8 rfl ?_
    refine R_i2l r_163_9 ?_
    refine R_lconst r_163_10 (v := lN 0) rfl ?_
    refine R_ldc2_w r_163_11 (v := lN 3) rfl ?_
    refine R_call3 r_163_14 rfl rfl (Nat.le_of_ble_eq_true rfl) (Nat.le_of_ble_eq_true rfl) ?_
    refine m_in (c := inR x2 4) (in_q (by decide)) ?_
    refine R_if_eq_b r_163_17 (by decide) (fun h_2 => ?_) (fun h_2 => ?_)
    · refine R_iconst r_163_29 (v := (-1)) rfl ?_
      refine R_iret r_163_30 (ty := .int) rfl rfl (by decide) ?_
      exact hB (by simp [*])
    · obtain ⟨i, hi, rfl⟩ := inR_of (x := x1) (by assumption) (by omega)
      obtain ⟨l, hl, rfl⟩ := inR_of (x := x2) (by assumption) (by decide)
      refine R_aload_n r_163_20 rfl (by decide) ?_
      refine R_iload_n r_163_21 rfl ?_
      refine R_iload_n r_163_22 rfl ?_
      refine R_call3 r_163_23 rfl (sm_rvM rfl rfl rfl hC) (Nat.le_of_ble_eq_true rfl) (Nat.le_of_ble_eq_true rfl) ?_
      refine m_change hX hW hw (k := i) (v := nI l) (old := nI (sLean w i)) (by omega) (fun f h => (h.2.1 i hi).1) (fun g h => row_lean hW4 h hi hl) (fun w_q_3 hX_q_3 hf_q_3 => ?_)
      refine R_goto r_163_26 (by decide) ?_
      refine R_iret r_163_30 (ty := .int) rfl rfl (by decide) ?_
      exact hQ i l hi hl rfl rfl _ hX_q_3 hf_q_3
theorem m_mind {xs : List Int32} {d : Nat} {wd : sm_W} {Q : Option Value → sm_W → Prop} {tx : List Nat} {I : sm_Is} {w : Nat} {pa sh : List Nat} {sn : List (Nat × Nat)} (hX : mX wd tx I w pa sh sn) (hW : iWF I) (hw : wfW I w) {x1 x2 : Int32} (hB : (inR x1 (iN I) && inR x2 (iN I)) = false → Q (some (.int (-1))) wd) (hQ : ∀ i l, i < iN I → l < iN I → x1 = nI i → x2 = nI l → ∀ w2, mX w2 tx I (wMind w i l) (pushW 8 pa w) sh sn → frm 22 40 wd w2 → Q (some (.int (nI (sMind w i)))) w2) : Ct xs (d + 2) 166 [.ref 22, .int x1, .int x2] wd Q := by
  unfold Ct
  show RT xs (d + 2) 166 0 [some (.ref 22), some (.int x1), some (.int x2)] [] wd Q
  obtain ⟨sp, f, hC, hL, hR, hT⟩ := id hX
  obtain ⟨hW1, hW2, hW3, hW4, hW5, hW6, hW7, hW8, hW9, hW10, hW11, hW12, hW13, hW14, hW15⟩ := id hW
  obtain ⟨hT1, hT2, hT3, hT4⟩ := id hT
  refine R_aload_n r_166_0 rfl (by decide) ?_
  refine R_iload_n r_166_1 rfl ?_
  refine R_call2 r_166_2 rfl (sm_rvM rfl rfl rfl hC) (Nat.le_of_ble_eq_true rfl) (Nat.le_of_ble_eq_true rfl) ?_
  refine m_isIslander hC hR hW ?_
  refine R_if_eq_b r_166_5 (by decide) (fun h_1 => ?_) (fun h_1 => ?_)
  · refine R_iconst r_166_28 (v := (-1)) rfl ?_
    refine R_iret r_166_29 (ty := .int) rfl rfl (by decide) ?_
    exact hB (by simp [*])
  · refine R_aload_n r_166_8 rfl (by decide) ?_
    refine R_iload_n r_166_9 rfl ?_
    refine R_call2 r_166_10 rfl (sm_rvM rfl rfl rfl hC) (Nat.le_of_ble_eq_true rfl) (Nat.le_of_ble_eq_true rfl) ?_
    refine m_isIslander hC hR hW ?_
    refine R_if_eq_b r_166_13 (by decide) (fun h_2 => ?_) (fun h_2 => ?_)
    · refine R_iconst r_166_28 (v := (-1)) rfl ?_
      refine R_iret r_166_29 (ty := .int) rfl rfl (by decide) ?_
      exact hB (by simp [*])
    · obtain ⟨i, hi, rfl⟩ := inR_of (x := x1) (by assumption) (by omega)
      obtain ⟨l, hl, rfl⟩ := inR_of (x := x2) (by assumption) (by omega)
      refine R_aload_n r_166_16 rfl (by decide) ?_
      refine R_bipush r_166_17 (v := nI 8) rfl ?_
      refine R_iload_n r_166_19 rfl ?_
      refine R_iaddN r_166_20 ?_
      refine R_iload_n r_166_21 rfl ?_
      refine R_call3 r_166_22 rfl (sm_rvM rfl rfl rfl hC) (Nat.le_of_ble_eq_true rfl) (Nat.le_of_ble_eq_true rfl) ?_
      refine m_change hX hW hw (k := 8 + i) (v := nI l) (old := nI (sMind w i)) (by omega) (fun f h => (h.2.1 i hi).2) (fun g h => row_mind hW4 h hi (by omega)) (fun w_q_3 hX_q_3 hf_q_3 => ?_)
      refine R_goto r_166_25 (by decide) ?_
      refine R_iret r_166_29 (ty := .int) rfl rfl (by decide) ?_
      exact hQ i l hi hl rfl rfl _ hX_q_3 hf_q_3
theorem b2n_le (c : Bool) : c.toNat ≤ 1 := Bool.toNat_le c
theorem nI_not (c : Bool) : nI (1 - c.toNat) = b2i (!c) := by cases c <;> rfl
theorem b2i_not (c : Bool) : nI 1 - b2i c = b2i (!c) := by cases c <;> decide
theorem hx_bit (h b t : Nat) : (h ^^^ 1 <<< b).testBit t = (h.testBit t ^^ decide (b = t)) := by rw [Nat.testBit_xor, bit1]
theorem hx_s (h b : Nat) : (h ^^^ 1 <<< b).testBit b = !h.testBit b := by rw [hx_bit]; simp
theorem hx_n {h b t : Nat} (e : t ≠ b) : (h ^^^ 1 <<< b).testBit t = h.testBit t := by rw [hx_bit, decide_eq_false (Ne.symm e)]; simp
theorem m_hold {xs : List Int32} {d : Nat} {wd : sm_W} {Q : Option Value → sm_W → Prop} {tx : List Nat} {I : sm_Is} {w : Nat} {pa sh : List Nat} {sn : List (Nat × Nat)} (hX : mX wd tx I w pa sh sn) (hW : iWF I) (hw : wfW I w) {x1 : Int32} (hB : inR x1 (iB I) = false → Q (some (.int (-1))) wd) (hQ : ∀ i, i < iB I → x1 = nI i → ∀ w2, mX w2 tx I (wHeld w (sHeld w ^^^ 1 <<< i)) (pushW 8 pa w) sh sn → frm 22 40 wd w2 → Q (some (.int (b2i ((sHeld w ^^^ 1 <<< i).testBit i)))) w2) : Ct xs (d + 2) 167 [.ref 22, .int x1] wd Q := by
  unfold Ct
  show RT xs (d + 2) 167 0 [some (.ref 22), some (.int x1)] [] wd Q
  obtain ⟨sp, f, hC, hL, hR, hT⟩ := id hX
  obtain ⟨hW1, hW2, hW3, hW4, hW5, hW6, hW7, hW8, hW9, hW10, hW11, hW12, hW13, hW14, hW15⟩ := id hW
  obtain ⟨hT1, hT2, hT3, hT4⟩ := id hT
  refine R_aload_n r_167_0 rfl (by decide) ?_
  refine R_iload_n r_167_1 rfl ?_
  refine R_call2 r_167_2 rfl (sm_rvM rfl rfl rfl hC) (Nat.le_of_ble_eq_true rfl) (Nat.le_of_ble_eq_true rfl) ?_
  refine m_isBoat hC hR hW ?_
  refine R_if_eq_b r_167_5 (by decide) (fun h_1 => ?_) (fun h_1 => ?_)
  · refine R_iconst r_167_32 (v := (-1)) rfl ?_
    refine R_iret r_167_33 (ty := .int) rfl rfl (by decide) ?_
    exact hB (by assumption)
  · obtain ⟨i, hi, rfl⟩ := inR_of (x := x1) (by assumption) (by omega)
    refine R_iconst r_167_8 (v := nI 1) rfl ?_
    refine R_aload_n r_167_9 rfl (by decide) ?_
    refine R_bipush r_167_10 (v := nI 16) rfl ?_
    refine R_iload_n r_167_12 rfl ?_
    refine R_iaddN r_167_13 ?_
    refine R_iconst r_167_14 (v := nI 1) rfl ?_
    refine R_aload_n r_167_15 rfl (by decide) ?_
    refine R_getf r_167_16 (by decide) hC.1 rfl ?_
    refine R_bipush r_167_19 (v := nI 16) rfl ?_
    refine R_iload_n r_167_21 rfl ?_
    refine R_iaddN r_167_22 ?_
    refine R_iald r_167_23 (by decide) (hC.2 32 (by decide) (by decide)) (hR.nh (by omega)) ?_
    refine R_isubN r_167_24 (b2n_le _) ?_
    refine R_call3 r_167_25 rfl (sm_rvM rfl rfl rfl hC) (Nat.le_of_ble_eq_true rfl) (Nat.le_of_ble_eq_true rfl) ?_
    refine m_change hX hW hw (k := 16 + i) (old := b2i ((sHeld w).testBit i)) (by omega) (fun f h => h.2.2.1 i (by omega)) (fun g h => by rw [nI_not]; exact row_held hW4 h (by omega) (hb_lt (by omega)) (hx_s _ _) (fun b _ hb => hx_n hb)) (fun w_q_2 hX_q_2 hf_q_2 => ?_)
    refine R_isub r_167_28 ?_
    refine R_goto r_167_29 (by decide) ?_
    refine R_iret r_167_33 (ty := .int) rfl rfl (by decide) ?_
    rw [b2i_not]
    have h9 := hQ i hi rfl _ hX_q_2 hf_q_2
    rw [hx_s] at h9
    exact h9
theorem m_weather0 {xs : List Int32} {d : Nat} {wd : sm_W} {Q : Option Value → sm_W → Prop} {tx : List Nat} {I : sm_Is} {w : Nat} {pa sh : List Nat} {sn : List (Nat × Nat)} (hX : mX wd tx I w pa sh sn) (hW : iWF I) (hw : wfW I w) (hQ : ∀ w2, mX w2 tx I (wWeather w (!sStorm w) (sIce w)) (pushW 8 pa w) sh sn → frm 22 40 wd w2 → Q (some (.int (b2i (!sStorm w)))) w2) : Ct xs (d + 2) 168 [.ref 22, .int (nI 0)] wd Q := by
  unfold Ct
  show RT xs (d + 2) 168 0 [some (.ref 22), some (.int (nI 0))] [] wd Q
  obtain ⟨sp, f, hC, hL, hR, hT⟩ := id hX
  obtain ⟨hW1, hW2, hW3, hW4, hW5, hW6, hW7, hW8, hW9, hW10, hW11, hW12, hW13, hW14, hW15⟩ := id hW
  obtain ⟨hT1, hT2, hT3, hT4⟩ := id hT
  refine R_iload_n r_168_0 rfl ?_
  refine R_i2lN r_168_1 (by omega) ?_
  refine R_lconst r_168_2 (v := lN 0) rfl ?_
  refine R_lconst r_168_3 (v := lN 1) rfl ?_
  refine R_call3 r_168_4 rfl rfl (Nat.le_of_ble_eq_true rfl) (Nat.le_of_ble_eq_true rfl) ?_
  refine m_in (c := true) (by decide) ?_
  refine R_if_eq_b r_168_7 (by decide) (fun h_1 => ?_) (fun h_1 => ?_)
  · exact absurd h_1 (by decide)
  · refine R_iconst r_168_10 (v := nI 1) rfl ?_
    refine R_aload_n r_168_11 rfl (by decide) ?_
    refine R_bipush r_168_12 (v := nI 21) rfl ?_
    refine R_iload_n r_168_14 rfl ?_
    refine R_iaddN r_168_15 ?_
    refine R_iconst r_168_16 (v := nI 1) rfl ?_
    refine R_aload_n r_168_17 rfl (by decide) ?_
    refine R_getf r_168_18 (by decide) hC.1 rfl ?_
    refine R_bipush r_168_21 (v := nI 21) rfl ?_
    refine R_iload_n r_168_23 rfl ?_
    refine R_iaddN r_168_24 ?_
    refine R_iald r_168_25 (by decide) (hC.2 32 (by decide) (by decide)) hR.ns ?_
    refine R_isubN r_168_26 (b2n_le _) ?_
    refine R_call3 r_168_27 rfl (sm_rvM rfl rfl rfl hC) (Nat.le_of_ble_eq_true rfl) (Nat.le_of_ble_eq_true rfl) ?_
    refine m_change hX hW hw (k := 21) (old := b2i (sStorm w)) (by omega) (fun f h => h.2.2.2.1) (fun g h => by rw [nI_not]; exact row_storm hW4 h rfl) (fun w_q_2 hX_q_2 hf_q_2 => ?_)
    refine R_isub r_168_30 ?_
    refine R_goto r_168_31 (by decide) ?_
    refine R_iret r_168_35 (ty := .int) rfl rfl (by decide) ?_
    rw [b2i_not]
    exact hQ _ hX_q_2 hf_q_2
theorem m_weather1 {xs : List Int32} {d : Nat} {wd : sm_W} {Q : Option Value → sm_W → Prop} {tx : List Nat} {I : sm_Is} {w : Nat} {pa sh : List Nat} {sn : List (Nat × Nat)} (hX : mX wd tx I w pa sh sn) (hW : iWF I) (hw : wfW I w) (hQ : ∀ w2, mX w2 tx I (wWeather w (sStorm w) (!sIce w)) (pushW 8 pa w) sh sn → frm 22 40 wd w2 → Q (some (.int (b2i (!sIce w)))) w2) : Ct xs (d + 2) 168 [.ref 22, .int (nI 1)] wd Q := by
  unfold Ct
  show RT xs (d + 2) 168 0 [some (.ref 22), some (.int (nI 1))] [] wd Q
  obtain ⟨sp, f, hC, hL, hR, hT⟩ := id hX
  obtain ⟨hW1, hW2, hW3, hW4, hW5, hW6, hW7, hW8, hW9, hW10, hW11, hW12, hW13, hW14, hW15⟩ := id hW
  obtain ⟨hT1, hT2, hT3, hT4⟩ := id hT
  refine R_iload_n r_168_0 rfl ?_
  refine R_i2lN r_168_1 (by omega) ?_
  refine R_lconst r_168_2 (v := lN 0) rfl ?_
  refine R_lconst r_168_3 (v := lN 1) rfl ?_
  refine R_call3 r_168_4 rfl rfl (Nat.le_of_ble_eq_true rfl) (Nat.le_of_ble_eq_true rfl) ?_
  refine m_in (c := true) (by decide) ?_
  refine R_if_eq_b r_168_7 (by decide) (fun h_1 => ?_) (fun h_1 => ?_)
  · exact absurd h_1 (by decide)
  · refine R_iconst r_168_10 (v := nI 1) rfl ?_
    refine R_aload_n r_168_11 rfl (by decide) ?_
    refine R_bipush r_168_12 (v := nI 21) rfl ?_
    refine R_iload_n r_168_14 rfl ?_
    refine R_iaddN r_168_15 ?_
    refine R_iconst r_168_16 (v := nI 1) rfl ?_
    refine R_aload_n r_168_17 rfl (by decide) ?_
    refine R_getf r_168_18 (by decide) hC.1 rfl ?_
    refine R_bipush r_168_21 (v := nI 21) rfl ?_
    refine R_iload_n r_168_23 rfl ?_
    refine R_iaddN r_168_24 ?_
    refine R_iald r_168_25 (by decide) (hC.2 32 (by decide) (by decide)) hR.ni ?_
    refine R_isubN r_168_26 (b2n_le _) ?_
    refine R_call3 r_168_27 rfl (sm_rvM rfl rfl rfl hC) (Nat.le_of_ble_eq_true rfl) (Nat.le_of_ble_eq_true rfl) ?_
    refine m_change hX hW hw (k := 22) (old := b2i (sIce w)) (by omega) (fun f h => h.2.2.2.2) (fun g h => by rw [nI_not]; exact row_ice hW4 h rfl) (fun w_q_2 hX_q_2 hf_q_2 => ?_)
    refine R_isub r_168_30 ?_
    refine R_goto r_168_31 (by decide) ?_
    refine R_iret r_168_35 (ty := .int) rfl rfl (by decide) ?_
    rw [b2i_not]
    exact hQ _ hX_q_2 hf_q_2
theorem m_weatherB {xs : List Int32} {d : Nat} {wd : sm_W} {Q : Option Value → sm_W → Prop} {tx : List Nat} {I : sm_Is} {w : Nat} {pa sh : List Nat} {sn : List (Nat × Nat)} (hX : mX wd tx I w pa sh sn) (hW : iWF I) (hw : wfW I w) {x1 : Int32} (h : inR x1 2 = false) (hB : Q (some (.int (-1))) wd) : Ct xs (d + 2) 168 [.ref 22, .int x1] wd Q := by
  unfold Ct
  show RT xs (d + 2) 168 0 [some (.ref 22), some (.int x1)] [] wd Q
  obtain ⟨sp, f, hC, hL, hR, hT⟩ := id hX
  obtain ⟨hW1, hW2, hW3, hW4, hW5, hW6, hW7, hW8, hW9, hW10, hW11, hW12, hW13, hW14, hW15⟩ := id hW
  obtain ⟨hT1, hT2, hT3, hT4⟩ := id hT
  refine R_iload_n r_168_0 rfl ?_
  refine R_i2l r_168_1 ?_
  refine R_lconst r_168_2 (v := lN 0) rfl ?_
  refine R_lconst r_168_3 (v := lN 1) rfl ?_
  refine R_call3 r_168_4 rfl rfl (Nat.le_of_ble_eq_true rfl) (Nat.le_of_ble_eq_true rfl) ?_
  refine m_in (c := inR x1 2) (in_q (by decide)) ?_
  refine R_if_eq_b r_168_7 (by decide) (fun h_1 => ?_) (fun h_1 => ?_)
  · refine R_iconst r_168_34 (v := (-1)) rfl ?_
    refine R_iret r_168_35 (ty := .int) rfl rfl (by decide) ?_
    exact hB
  · exact absurd h_1 (by rw [h]; decide)
