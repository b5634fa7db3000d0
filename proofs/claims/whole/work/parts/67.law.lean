/-! the law: every answer of the class is the model's -/
section RL
variable {xs : List Int32} {d j pc : Nat} {L : sm_L} {st : List Value} {wd : sm_W} {Q : Option Value → sm_W → Prop} {a b c : Nat}
theorem R_astore_n {i : Fin 4} (h : sm_ic j pc = some (.astore_n i, a, b, c)) {x : Nat} {L2 : sm_L} (hx : ¬ x = 1000003) (hl : sm_st1 (sm_ml j) L (i : Nat) (.ref x) = some L2) (k : RT xs d j (pc + 1) L2 st wd Q) : RT xs d j pc L (.ref x :: st) wd Q := RT.step h rfl rfl (by show (if x = 1000003 then none else (sm_st1 (sm_ml j) L (i : Nat) (.ref x)).map (fun L' => (pc + 1, L', st, wd))) = _; rw [if_neg hx, hl]; rfl) k
end RL
theorem lt4 {i n : Nat} (hi : i ≤ n) (hn : n ≤ 256) (h : ¬ (nI n - nI 4 < nI i)) : i + 4 ≤ n := by
  rw [Int32.lt_iff_toInt_lt, pk_sub_toInt (by omega) (by decide), nI_toInt (by omega)] at h
  omega
theorem JS.rv (h : JS wd) : ∃ fs, wd[0]? = some (.inr (.inr (0, fs))) := by
  obtain ⟨tx, I, w, pa, sh, sn, hX, -⟩ := h
  exact ⟨_, hX.1.1⟩
-- the size of the world
theorem sz_le : ∀ (wd : sm_W), (∀ e, e ∈ wd → sm_sz1 e ≤ 1000) → sm_sz wd ≤ wd.length * 1000
  | [], _ => Nat.le_refl _
  | e :: r, h => by
    have h1 := h e List.mem_cons_self
    have h2 := sz_le r (fun x hx => h x (List.mem_cons_of_mem _ hx))
    simp only [sm_sz, List.map_cons, List.sum_cons, List.length_cons] at h2 ⊢
    omega
theorem sz_at {wd : sm_W} {k : Nat} {e0 e : sm_E} (h : wd[k]? = some e) (he : wd[k]? = some e0) (hs : sm_sz1 e0 ≤ 1000) : sm_sz1 e ≤ 1000 := by
  rw [he] at h; cases h; exact hs
theorem lenM_le : ∀ k, 23 ≤ k → k ≤ 40 → lenM k ≤ 1000 := by
  intro k h1 h2
  have h : ∀ i, i < 18 → lenM (23 + i) ≤ 1000 := by decide
  have := h (k - 23) (by omega)
  rwa [show 23 + (k - 23) = k by omega] at this
theorem JS.sz {wd : sm_W} (h : JS wd) : wd.length ≤ 600000 ∧ sm_sz wd ≤ 7302250 := by
  obtain ⟨tx, I, w, pa, sh, sn, hX, hM, hW, hw, hpa, hsh, hsn, hl⟩ := h
  refine ⟨by omega, Nat.le_trans (sz_le wd fun e he => ?_) (by rw [hl]; decide)⟩
  obtain ⟨k, hk⟩ := List.mem_iff_getElem?.mp he
  have hk41 : k < 41 := by rw [← hl]; exact (List.getElem?_eq_some_iff.mp hk).1
  obtain ⟨hV, hP1, hP2, hS, hT, hD⟩ := hX
  obtain ⟨v0, hI, hN0⟩ := hV
  obtain ⟨e9, e10, e11, e12, -⟩ := hI
  obtain ⟨v1, v2, v3, v4, ln, e13, e14, l14⟩ := hN0
  obtain ⟨lp1, e15, e16, l16, -, -⟩ := hP1
  obtain ⟨lp2, e17, e18, l18, -, -⟩ := hP2
  obtain ⟨ls1, ls2, e19, e20, e21, l20, l21, -, -⟩ := hS
  obtain ⟨lt, e1, e2, l2, -, -, -⟩ := hT
  obtain ⟨b1, b2, a1, a2, a3, a4, a5, a6, a7, d0, d1, d2, d3, e3, e4, l4, e5, e6, e7, e8, l6, l7, l8⟩ := hD
  obtain ⟨sp, f, hC, hL, -, -⟩ := hM
  obtain ⟨i1, i2, i3, -⟩ := hW
  have s (e0 : sm_E) (h0 : wd[k]? = some e0) (h1 : sm_sz1 e0 ≤ 1000) : sm_sz1 e ≤ 1000 := sz_at hk h0 h1
  have e22 := hC.1
  by_cases h23 : 23 ≤ k
  · exact s _ (hC.2 k h23 (by omega)) (by show (f k).length ≤ 1000; rw [hL k h23 (by omega)]; exact lenM_le k h23 (by omega))
  · have h22 : k < 23 := by omega
    clear hk41 h23 he hC hL hpa hsh hsn
    match k, h22, s with
    | 0, _, s => exact s _ v0 (by show _ ≤ 1000; exact Nat.le_of_ble_eq_true rfl)
    | 1, _, s => exact s _ e1 (by show _ ≤ 1000; exact Nat.le_of_ble_eq_true rfl)
    | 2, _, s => exact s _ e2 (by show List.length _ ≤ 1000; rw [l2]; decide)
    | 3, _, s => exact s _ e3 (by show _ ≤ 1000; exact Nat.le_of_ble_eq_true rfl)
    | 4, _, s => exact s _ e4 (by show List.length _ ≤ 1000; rw [l4]; decide)
    | 5, _, s => exact s _ e5 (by show _ ≤ 1000; exact Nat.le_of_ble_eq_true rfl)
    | 6, _, s => exact s _ e6 (by show List.length _ ≤ 1000; rw [l6]; decide)
    | 7, _, s => exact s _ e7 (by show List.length _ ≤ 1000; rw [l7]; decide)
    | 8, _, s => exact s _ e8 (by show List.length _ ≤ 1000; rw [l8]; decide)
    | 9, _, s => exact s _ e9 (by show _ ≤ 1000; exact Nat.le_of_ble_eq_true rfl)
    | 10, _, s => exact s _ e10 (by show (List.map nI _).length ≤ 1000; rw [List.length_map, i1]; decide)
    | 11, _, s => exact s _ e11 (by show (List.map nI _).length ≤ 1000; rw [List.length_map, i2]; decide)
    | 12, _, s => exact s _ e12 (by show (List.map nI _).length ≤ 1000; rw [List.length_map, i3]; decide)
    | 13, _, s => exact s _ e13 (by show _ ≤ 1000; exact Nat.le_of_ble_eq_true rfl)
    | 14, _, s => exact s _ e14 (by show List.length _ ≤ 1000; rw [l14]; decide)
    | 15, _, s => exact s _ e15 (by show _ ≤ 1000; exact Nat.le_of_ble_eq_true rfl)
    | 16, _, s => exact s _ e16 (by show List.length _ ≤ 1000; rw [l16]; decide)
    | 17, _, s => exact s _ e17 (by show _ ≤ 1000; exact Nat.le_of_ble_eq_true rfl)
    | 18, _, s => exact s _ e18 (by show List.length _ ≤ 1000; rw [l18]; decide)
    | 19, _, s => exact s _ e19 (by show _ ≤ 1000; exact Nat.le_of_ble_eq_true rfl)
    | 20, _, s => exact s _ e20 (by show List.length _ ≤ 1000; rw [l20]; decide)
    | 21, _, s => exact s _ e21 (by show List.length _ ≤ 1000; rw [l21]; decide)
    | 22, _, s => exact s _ e22 (by show _ ≤ 1000; exact Nat.le_of_ble_eq_true rfl)
