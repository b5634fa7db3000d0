/-! the law: every answer of the class is the model's -/
section RL
variable {xs : List Int32} {d j pc : Nat} {L : sm_L} {st : List Value} {wd : sm_W} {Q : Option Value → sm_W → Prop} {a b c : Nat}
theorem R_astore_n {i : Fin 4} (h : sm_ic j pc = some (.astore_n i, a, b, c)) {x : Nat} {L2 : sm_L} (hx : ¬ x = 1000003) (hl : sm_st1 (sm_ml j) L (i : Nat) (.ref x) = some L2) (k : RT xs d j (pc + 1) L2 st wd Q) : RT xs d j pc L (.ref x :: st) wd Q := RT.step h rfl rfl (by show (if x = 1000003 then none else (sm_st1 (sm_ml j) L (i : Nat) (.ref x)).map (fun L' => (pc + 1, L', st, wd))) = _; rw [if_neg hx, hl]; rfl) k
end RL
theorem lt4 {i n : Nat} (hi : i ≤ n) (hn : n ≤ 256) (h : ¬ (nI n - nI 4 < nI i)) : i + 4 ≤ n := by
  rw [Int32.lt_iff_toInt_lt, pk_sub_toInt (by omega) (by decide), nI_toInt (by omega)] at h
  omega
theorem JS.rv {wd : sm_W} (h : JS wd) : ∃ fs, wd[0]? = some (.inr (.inr (0, fs))) := by
  obtain ⟨tx, I, w, pa, sh, sn, hX, -⟩ := h
  exact ⟨_, hX.1.1⟩
-- the size of the world
theorem sz_le : ∀ (wd : sm_W), (∀ e, e ∈ wd → sm_sz1 e ≤ 1000) → sm_sz wd ≤ wd.length * 1000
  | [], _ => Nat.le_refl _
  | e :: r, h => by
    have h1 := h e List.mem_cons_self
    have h2 := sz_le r (fun x hx => h x (List.mem_cons_of_mem _ hx))
    simp only [sm_sz, List.map_cons, List.sum_cons, List.length_cons] at h2 ⊢
    omega
theorem sz_at {wd : sm_W} {k : Nat} {e0 e : sm_E} (h : wd[k]? = some e) (he : wd[k]? = some e0) (hs : sm_sz1 e0 ≤ 1000) : sm_sz1 e ≤ 1000 := by
  rw [he] at h; cases h; exact hs
theorem lenM_le : ∀ k, 23 ≤ k → k ≤ 40 → lenM k ≤ 1000 := by
  intro k h1 h2
  have h : ∀ i, i < 18 → lenM (23 + i) ≤ 1000 := by decide
  have := h (k - 23) (by omega)
  rwa [show 23 + (k - 23) = k by omega] at this
theorem JS.sz {wd : sm_W} (h : JS wd) : wd.length ≤ 600000 ∧ sm_sz wd ≤ 7302250 := by
  obtain ⟨tx, I, w, pa, sh, sn, hX, hM, hW, hw, hpa, hsh, hsn, hl⟩ := h
  refine ⟨by omega, Nat.le_trans (sz_le wd fun e he => ?_) (by rw [hl]; decide)⟩
  obtain ⟨k, hk⟩ := List.mem_iff_getElem?.mp he
  have hk41 : k < 41 := by rw [← hl]; exact (List.getElem?_eq_some_iff.mp hk).1
  obtain ⟨hV, hP1, hP2, hS, hT, hD⟩ := hX
  obtain ⟨v0, hI, hN0⟩ := hV
  obtain ⟨e9, e10, e11, e12, -⟩ := hI
  obtain ⟨v1, v2, v3, v4, ln, e13, e14, l14⟩ := hN0
  obtain ⟨lp1, e15, e16, l16, -, -⟩ := hP1
  obtain ⟨lp2, e17, e18, l18, -, -⟩ := hP2
  obtain ⟨ls1, ls2, e19, e20, e21, l20, l21, -, -⟩ := hS
  obtain ⟨lt, e1, e2, l2, -, -, -⟩ := hT
  obtain ⟨b1, b2, a1, a2, a3, a4, a5, a6, a7, d0, d1, d2, d3, e3, e4, l4, e5, e6, e7, e8, l6, l7, l8⟩ := hD
  obtain ⟨sp, f, hC, hL, -, -⟩ := hM
  obtain ⟨i1, i2, i3, -⟩ := hW
  have s (e0 : sm_E) (h0 : wd[k]? = some e0) (h1 : sm_sz1 e0 ≤ 1000) : sm_sz1 e ≤ 1000 := sz_at hk h0 h1
  have e22 := hC.1
  by_cases h23 : 23 ≤ k
  · exact s _ (hC.2 k h23 (by omega)) (by show (f k).length ≤ 1000; rw [hL k h23 (by omega)]; exact lenM_le k h23 (by omega))
  · have h22 : k < 23 := by omega
    clear hk41 h23 he hC hL hpa hsh hsn
    match k, h22, s with
    | 0, _, s => exact s _ v0 (by show _ ≤ 1000; exact Nat.le_of_ble_eq_true rfl)
    | 1, _, s => exact s _ e1 (by show _ ≤ 1000; exact Nat.le_of_ble_eq_true rfl)
    | 2, _, s => exact s _ e2 (by show List.length _ ≤ 1000; rw [l2]; decide)
    | 3, _, s => exact s _ e3 (by show _ ≤ 1000; exact Nat.le_of_ble_eq_true rfl)
    | 4, _, s => exact s _ e4 (by show List.length _ ≤ 1000; rw [l4]; decide)
    | 5, _, s => exact s _ e5 (by show _ ≤ 1000; exact Nat.le_of_ble_eq_true rfl)
    | 6, _, s => exact s _ e6 (by show List.length _ ≤ 1000; rw [l6]; decide)
    | 7, _, s => exact s _ e7 (by show List.length _ ≤ 1000; rw [l7]; decide)
    | 8, _, s => exact s _ e8 (by show List.length _ ≤ 1000; rw [l8]; decide)
    | 9, _, s => exact s _ e9 (by show _ ≤ 1000; exact Nat.le_of_ble_eq_true rfl)
    | 10, _, s => exact s _ e10 (by show (List.map nI _).length ≤ 1000; rw [List.length_map, i1]; decide)
    | 11, _, s => exact s _ e11 (by show (List.map nI _).length ≤ 1000; rw [List.length_map, i2]; decide)
    | 12, _, s => exact s _ e12 (by show (List.map nI _).length ≤ 1000; rw [List.length_map, i3]; decide)
    | 13, _, s => exact s _ e13 (by show _ ≤ 1000; exact Nat.le_of_ble_eq_true rfl)
    | 14, _, s => exact s _ e14 (by show List.length _ ≤ 1000; rw [l14]; decide)
    | 15, _, s => exact s _ e15 (by show _ ≤ 1000; exact Nat.le_of_ble_eq_true rfl)
    | 16, _, s => exact s _ e16 (by show List.length _ ≤ 1000; rw [l16]; decide)
    | 17, _, s => exact s _ e17 (by show _ ≤ 1000; exact Nat.le_of_ble_eq_true rfl)
    | 18, _, s => exact s _ e18 (by show List.length _ ≤ 1000; rw [l18]; decide)
    | 19, _, s => exact s _ e19 (by show _ ≤ 1000; exact Nat.le_of_ble_eq_true rfl)
    | 20, _, s => exact s _ e20 (by show List.length _ ≤ 1000; rw [l20]; decide)
    | 21, _, s => exact s _ e21 (by show List.length _ ≤ 1000; rw [l21]; decide)
    | 22, _, s => exact s _ e22 (by show _ ≤ 1000; exact Nat.le_of_ble_eq_true rfl)
    | n + 23, h, _ => exact absurd h (by omega)
theorem lawc_0 {xs : List Int32} {wd : sm_W} {i : Nat} {Q : Option Value → sm_W → Prop} (hJ : JS wd) (hi : i < 256) {y1 : Int32} (h1 : xs[i + 1]? = some y1) {y2 : Int32} (h2 : xs[i + 2]? = some y2) {y3 : Int32} (h3 : xs[i + 3]? = some y3) (hQ : ∀ w3, JS w3 → RT xs 8 188 915 [some (.ref 1000004), some (.ref 0), some (.ref 22), some (.int (nI i))] [] w3 Q) : RT xs 8 188 172 [some (.ref 1000004), some (.ref 0), some (.ref 22), some (.int (nI i))] [] wd Q := by
  obtain ⟨fs, hrv⟩ := hJ.rv
  refine R_aload_n r_188_172 rfl (by decide) ?_
  refine R_aload_n r_188_173 rfl (by decide) ?_
  refine R_iload_n r_188_174 rfl ?_
  refine R_iconst r_188_175 (v := nI 1) rfl ?_
  refine R_iaddN r_188_176 ?_
  refine R_ialdX r_188_177 (sm_ixG h1 (by omega)) ?_
  refine R_call2 r_188_178 rfl (sm_rv1 rfl rfl hrv) (Nat.le_of_ble_eq_true rfl) (Nat.le_of_ble_eq_true rfl) ?_
  refine Ct.mono (jt_0 hJ) ?_
  rintro r w2 ⟨v, rfl, ⟨fs2, hv2⟩, hct⟩
  refine R_aload_n r_188_181 rfl (by decide) ?_
  refine R_aload_n r_188_182 rfl (by decide) ?_
  refine R_iload_n r_188_183 rfl ?_
  refine R_iconst r_188_184 (v := nI 1) rfl ?_
  refine R_iaddN r_188_185 ?_
  refine R_ialdX r_188_186 (sm_ixG h1 (by omega)) ?_
  refine R_call2 r_188_187 rfl (sm_rv1 rfl rfl hv2) (Nat.le_of_ble_eq_true rfl) (Nat.le_of_ble_eq_true rfl) ?_
  refine Ct.mono hct ?_
  rintro r2 w3 ⟨rfl, hJ3⟩
  exact R_icmpT r_188_190 (by decide) (by simp [sm_cnd]) (hQ w3 hJ3)
theorem lawc_1 {xs : List Int32} {wd : sm_W} {i : Nat} {Q : Option Value → sm_W → Prop} (hJ : JS wd) (hi : i < 256) {y1 : Int32} (h1 : xs[i + 1]? = some y1) {y2 : Int32} (h2 : xs[i + 2]? = some y2) {y3 : Int32} (h3 : xs[i + 3]? = some y3) (hQ : ∀ w3, JS w3 → RT xs 8 188 915 [some (.ref 1000004), some (.ref 0), some (.ref 22), some (.int (nI i))] [] w3 Q) : RT xs 8 188 195 [some (.ref 1000004), some (.ref 0), some (.ref 22), some (.int (nI i))] [] wd Q := by
  obtain ⟨fs, hrv⟩ := hJ.rv
  refine R_aload_n r_188_195 rfl (by decide) ?_
  refine R_call1 r_188_196 rfl (sm_rv1 rfl rfl hrv) (Nat.le_of_ble_eq_true rfl) (Nat.le_of_ble_eq_true rfl) ?_
  refine Ct.mono (jt_1 hJ) ?_
  rintro r w2 ⟨v, rfl, ⟨fs2, hv2⟩, hct⟩
  refine R_aload_n r_188_199 rfl (by decide) ?_
  refine R_call1 r_188_200 rfl (sm_rv1 rfl rfl hv2) (Nat.le_of_ble_eq_true rfl) (Nat.le_of_ble_eq_true rfl) ?_
  refine Ct.mono hct ?_
  rintro r2 w3 ⟨rfl, hJ3⟩
  exact R_icmpT r_188_203 (by decide) (by simp [sm_cnd]) (hQ w3 hJ3)
theorem lawc_2 {xs : List Int32} {wd : sm_W} {i : Nat} {Q : Option Value → sm_W → Prop} (hJ : JS wd) (hi : i < 256) {y1 : Int32} (h1 : xs[i + 1]? = some y1) {y2 : Int32} (h2 : xs[i + 2]? = some y2) {y3 : Int32} (h3 : xs[i + 3]? = some y3) (hQ : ∀ w3, JS w3 → RT xs 8 188 915 [some (.ref 1000004), some (.ref 0), some (.ref 22), some (.int (nI i))] [] w3 Q) : RT xs 8 188 208 [some (.ref 1000004), some (.ref 0), some (.ref 22), some (.int (nI i))] [] wd Q := by
  obtain ⟨fs, hrv⟩ := hJ.rv
  refine R_aload_n r_188_208 rfl (by decide) ?_
  refine R_call1 r_188_209 rfl (sm_rv1 rfl rfl hrv) (Nat.le_of_ble_eq_true rfl) (Nat.le_of_ble_eq_true rfl) ?_
  refine Ct.mono (jt_2 hJ) ?_
  rintro r w2 ⟨v, rfl, ⟨fs2, hv2⟩, hct⟩
  refine R_aload_n r_188_212 rfl (by decide) ?_
  refine R_call1 r_188_213 rfl (sm_rv1 rfl rfl hv2) (Nat.le_of_ble_eq_true rfl) (Nat.le_of_ble_eq_true rfl) ?_
  refine Ct.mono hct ?_
  rintro r2 w3 ⟨rfl, hJ3⟩
  exact R_icmpT r_188_216 (by decide) (by simp [sm_cnd]) (hQ w3 hJ3)
theorem lawc_3 {xs : List Int32} {wd : sm_W} {i : Nat} {Q : Option Value → sm_W → Prop} (hJ : JS wd) (hi : i < 256) {y1 : Int32} (h1 : xs[i + 1]? = some y1) {y2 : Int32} (h2 : xs[i + 2]? = some y2) {y3 : Int32} (h3 : xs[i + 3]? = some y3) (hQ : ∀ w3, JS w3 → RT xs 8 188 915 [some (.ref 1000004), some (.ref 0), some (.ref 22), some (.int (nI i))] [] w3 Q) : RT xs 8 188 221 [some (.ref 1000004), some (.ref 0), some (.ref 22), some (.int (nI i))] [] wd Q := by
  obtain ⟨fs, hrv⟩ := hJ.rv
  refine R_aload_n r_188_221 rfl (by decide) ?_
  refine R_call1 r_188_222 rfl (sm_rv1 rfl rfl hrv) (Nat.le_of_ble_eq_true rfl) (Nat.le_of_ble_eq_true rfl) ?_
  refine Ct.mono (jt_3 hJ) ?_
  rintro r w2 ⟨v, rfl, ⟨fs2, hv2⟩, hct⟩
  refine R_aload_n r_188_225 rfl (by decide) ?_
  refine R_call1 r_188_226 rfl (sm_rv1 rfl rfl hv2) (Nat.le_of_ble_eq_true rfl) (Nat.le_of_ble_eq_true rfl) ?_
  refine Ct.mono hct ?_
  rintro r2 w3 ⟨rfl, hJ3⟩
  exact R_icmpT r_188_229 (by decide) (by simp [sm_cnd]) (hQ w3 hJ3)
theorem lawc_4 {xs : List Int32} {wd : sm_W} {i : Nat} {Q : Option Value → sm_W → Prop} (hJ : JS wd) (hi : i < 256) {y1 : Int32} (h1 : xs[i + 1]? = some y1) {y2 : Int32} (h2 : xs[i + 2]? = some y2) {y3 : Int32} (h3 : xs[i + 3]? = some y3) (hQ : ∀ w3, JS w3 → RT xs 8 188 915 [some (.ref 1000004), some (.ref 0), some (.ref 22), some (.int (nI i))] [] w3 Q) : RT xs 8 188 234 [some (.ref 1000004), some (.ref 0), some (.ref 22), some (.int (nI i))] [] wd Q := by
  obtain ⟨fs, hrv⟩ := hJ.rv
  refine R_aload_n r_188_234 rfl (by decide) ?_
  refine R_aload_n r_188_235 rfl (by decide) ?_
  refine R_iload_n r_188_236 rfl ?_
  refine R_iconst r_188_237 (v := nI 1) rfl ?_
  refine R_iaddN r_188_238 ?_
  refine R_ialdX r_188_239 (sm_ixG h1 (by omega)) ?_
  refine R_aload_n r_188_240 rfl (by decide) ?_
  refine R_iload_n r_188_241 rfl ?_
  refine R_iconst r_188_242 (v := nI 2) rfl ?_
  refine R_iaddN r_188_243 ?_
  refine R_ialdX r_188_244 (sm_ixG h2 (by omega)) ?_
  refine R_call3 r_188_245 rfl (sm_rv1 rfl rfl hrv) (Nat.le_of_ble_eq_true rfl) (Nat.le_of_ble_eq_true rfl) ?_
  refine Ct.mono (jt_4 hJ) ?_
  rintro r w2 ⟨v, rfl, ⟨fs2, hv2⟩, hct⟩
  refine R_aload_n r_188_248 rfl (by decide) ?_
  refine R_aload_n r_188_249 rfl (by decide) ?_
  refine R_iload_n r_188_250 rfl ?_
  refine R_iconst r_188_251 (v := nI 1) rfl ?_
  refine R_iaddN r_188_252 ?_
  refine R_ialdX r_188_253 (sm_ixG h1 (by omega)) ?_
  refine R_aload_n r_188_254 rfl (by decide) ?_
  refine R_iload_n r_188_255 rfl ?_
  refine R_iconst r_188_256 (v := nI 2) rfl ?_
  refine R_iaddN r_188_257 ?_
  refine R_ialdX r_188_258 (sm_ixG h2 (by omega)) ?_
  refine R_call3 r_188_259 rfl (sm_rv1 rfl rfl hv2) (Nat.le_of_ble_eq_true rfl) (Nat.le_of_ble_eq_true rfl) ?_
  refine Ct.mono hct ?_
  rintro r2 w3 ⟨rfl, hJ3⟩
  exact R_icmpT r_188_262 (by decide) (by simp [sm_cnd]) (hQ w3 hJ3)
theorem lawc_5 {xs : List Int32} {wd : sm_W} {i : Nat} {Q : Option Value → sm_W → Prop} (hJ : JS wd) (hi : i < 256) {y1 : Int32} (h1 : xs[i + 1]? = some y1) {y2 : Int32} (h2 : xs[i + 2]? = some y2) {y3 : Int32} (h3 : xs[i + 3]? = some y3) (hQ : ∀ w3, JS w3 → RT xs 8 188 915 [some (.ref 1000004), some (.ref 0), some (.ref 22), some (.int (nI i))] [] w3 Q) : RT xs 8 188 267 [some (.ref 1000004), some (.ref 0), some (.ref 22), some (.int (nI i))] [] wd Q := by
  obtain ⟨fs, hrv⟩ := hJ.rv
  refine R_aload_n r_188_267 rfl (by decide) ?_
  refine R_aload_n r_188_268 rfl (by decide) ?_
  refine R_iload_n r_188_269 rfl ?_
  refine R_iconst r_188_270 (v := nI 1) rfl ?_
  refine R_iaddN r_188_271 ?_
  refine R_ialdX r_188_272 (sm_ixG h1 (by omega)) ?_
  refine R_aload_n r_188_273 rfl (by decide) ?_
  refine R_iload_n r_188_274 rfl ?_
  refine R_iconst r_188_275 (v := nI 2) rfl ?_
  refine R_iaddN r_188_276 ?_
  refine R_ialdX r_188_277 (sm_ixG h2 (by omega)) ?_
  refine R_call3 r_188_278 rfl (sm_rv1 rfl rfl hrv) (Nat.le_of_ble_eq_true rfl) (Nat.le_of_ble_eq_true rfl) ?_
  refine Ct.mono (jt_5 hJ) ?_
  rintro r w2 ⟨v, rfl, ⟨fs2, hv2⟩, hct⟩
  refine R_aload_n r_188_281 rfl (by decide) ?_
  refine R_aload_n r_188_282 rfl (by decide) ?_
  refine R_iload_n r_188_283 rfl ?_
  refine R_iconst r_188_284 (v := nI 1) rfl ?_
  refine R_iaddN r_188_285 ?_
  refine R_ialdX r_188_286 (sm_ixG h1 (by omega)) ?_
  refine R_aload_n r_188_287 rfl (by decide) ?_
  refine R_iload_n r_188_288 rfl ?_
  refine R_iconst r_188_289 (v := nI 2) rfl ?_
  refine R_iaddN r_188_290 ?_
  refine R_ialdX r_188_291 (sm_ixG h2 (by omega)) ?_
  refine R_call3 r_188_292 rfl (sm_rv1 rfl rfl hv2) (Nat.le_of_ble_eq_true rfl) (Nat.le_of_ble_eq_true rfl) ?_
  refine Ct.mono hct ?_
  rintro r2 w3 ⟨rfl, hJ3⟩
  exact R_icmpT r_188_295 (by decide) (by simp [sm_cnd]) (hQ w3 hJ3)
theorem lawc_6 {xs : List Int32} {wd : sm_W} {i : Nat} {Q : Option Value → sm_W → Prop} (hJ : JS wd) (hi : i < 256) {y1 : Int32} (h1 : xs[i + 1]? = some y1) {y2 : Int32} (h2 : xs[i + 2]? = some y2) {y3 : Int32} (h3 : xs[i + 3]? = some y3) (hQ : ∀ w3, JS w3 → RT xs 8 188 915 [some (.ref 1000004), some (.ref 0), some (.ref 22), some (.int (nI i))] [] w3 Q) : RT xs 8 188 300 [some (.ref 1000004), some (.ref 0), some (.ref 22), some (.int (nI i))] [] wd Q := by
  obtain ⟨fs, hrv⟩ := hJ.rv
  refine R_aload_n r_188_300 rfl (by decide) ?_
  refine R_aload_n r_188_301 rfl (by decide) ?_
  refine R_iload_n r_188_302 rfl ?_
  refine R_iconst r_188_303 (v := nI 1) rfl ?_
  refine R_iaddN r_188_304 ?_
  refine R_ialdX r_188_305 (sm_ixG h1 (by omega)) ?_
  refine R_call2 r_188_306 rfl (sm_rv1 rfl rfl hrv) (Nat.le_of_ble_eq_true rfl) (Nat.le_of_ble_eq_true rfl) ?_
  refine Ct.mono (jt_6 hJ) ?_
  rintro r w2 ⟨v, rfl, ⟨fs2, hv2⟩, hct⟩
  refine R_aload_n r_188_309 rfl (by decide) ?_
  refine R_aload_n r_188_310 rfl (by decide) ?_
  refine R_iload_n r_188_311 rfl ?_
  refine R_iconst r_188_312 (v := nI 1) rfl ?_
  refine R_iaddN r_188_313 ?_
  refine R_ialdX r_188_314 (sm_ixG h1 (by omega)) ?_
  refine R_call2 r_188_315 rfl (sm_rv1 rfl rfl hv2) (Nat.le_of_ble_eq_true rfl) (Nat.le_of_ble_eq_true rfl) ?_
  refine Ct.mono hct ?_
  rintro r2 w3 ⟨rfl, hJ3⟩
  exact R_icmpT r_188_318 (by decide) (by simp [sm_cnd]) (hQ w3 hJ3)
theorem lawc_7 {xs : List Int32} {wd : sm_W} {i : Nat} {Q : Option Value → sm_W → Prop} (hJ : JS wd) (hi : i < 256) {y1 : Int32} (h1 : xs[i + 1]? = some y1) {y2 : Int32} (h2 : xs[i + 2]? = some y2) {y3 : Int32} (h3 : xs[i + 3]? = some y3) (hQ : ∀ w3, JS w3 → RT xs 8 188 915 [some (.ref 1000004), some (.ref 0), some (.ref 22), some (.int (nI i))] [] w3 Q) : RT xs 8 188 323 [some (.ref 1000004), some (.ref 0), some (.ref 22), some (.int (nI i))] [] wd Q := by
  obtain ⟨fs, hrv⟩ := hJ.rv
  refine R_aload_n r_188_323 rfl (by decide) ?_
  refine R_aload_n r_188_324 rfl (by decide) ?_
  refine R_iload_n r_188_325 rfl ?_
  refine R_iconst r_188_326 (v := nI 1) rfl ?_
  refine R_iaddN r_188_327 ?_
  refine R_ialdX r_188_328 (sm_ixG h1 (by omega)) ?_
  refine R_call2 r_188_329 rfl (sm_rv1 rfl rfl hrv) (Nat.le_of_ble_eq_true rfl) (Nat.le_of_ble_eq_true rfl) ?_
  refine Ct.mono (jt_7 hJ) ?_
  rintro r w2 ⟨v, rfl, ⟨fs2, hv2⟩, hct⟩
  refine R_aload_n r_188_332 rfl (by decide) ?_
  refine R_aload_n r_188_333 rfl (by decide) ?_
  refine R_iload_n r_188_334 rfl ?_
  refine R_iconst r_188_335 (v := nI 1) rfl ?_
  refine R_iaddN r_188_336 ?_
  refine R_ialdX r_188_337 (sm_ixG h1 (by omega)) ?_
  refine R_call2 r_188_338 rfl (sm_rv1 rfl rfl hv2) (Nat.le_of_ble_eq_true rfl) (Nat.le_of_ble_eq_true rfl) ?_
  refine Ct.mono hct ?_
  rintro r2 w3 ⟨rfl, hJ3⟩
  exact R_icmpT r_188_341 (by decide) (by simp [sm_cnd]) (hQ w3 hJ3)
theorem lawc_8 {xs : List Int32} {wd : sm_W} {i : Nat} {Q : Option Value → sm_W → Prop} (hJ : JS wd) (hi : i < 256) {y1 : Int32} (h1 : xs[i + 1]? = some y1) {y2 : Int32} (h2 : xs[i + 2]? = some y2) {y3 : Int32} (h3 : xs[i + 3]? = some y3) (hQ : ∀ w3, JS w3 → RT xs 8 188 915 [some (.ref 1000004), some (.ref 0), some (.ref 22), some (.int (nI i))] [] w3 Q) : RT xs 8 188 346 [some (.ref 1000004), some (.ref 0), some (.ref 22), some (.int (nI i))] [] wd Q := by
  obtain ⟨fs, hrv⟩ := hJ.rv
  refine R_aload_n r_188_346 rfl (by decide) ?_
  refine R_aload_n r_188_347 rfl (by decide) ?_
  refine R_iload_n r_188_348 rfl ?_
  refine R_iconst r_188_349 (v := nI 1) rfl ?_
  refine R_iaddN r_188_350 ?_
  refine R_ialdX r_188_351 (sm_ixG h1 (by omega)) ?_
  refine R_aload_n r_188_352 rfl (by decide) ?_
  refine R_iload_n r_188_353 rfl ?_
  refine R_iconst r_188_354 (v := nI 2) rfl ?_
  refine R_iaddN r_188_355 ?_
  refine R_ialdX r_188_356 (sm_ixG h2 (by omega)) ?_
  refine R_call3 r_188_357 rfl (sm_rv1 rfl rfl hrv) (Nat.le_of_ble_eq_true rfl) (Nat.le_of_ble_eq_true rfl) ?_
  refine Ct.mono (jt_8 hJ) ?_
  rintro r w2 ⟨v, rfl, ⟨fs2, hv2⟩, hct⟩
  refine R_aload_n r_188_360 rfl (by decide) ?_
  refine R_aload_n r_188_361 rfl (by decide) ?_
  refine R_iload_n r_188_362 rfl ?_
  refine R_iconst r_188_363 (v := nI 1) rfl ?_
  refine R_iaddN r_188_364 ?_
  refine R_ialdX r_188_365 (sm_ixG h1 (by omega)) ?_
  refine R_aload_n r_188_366 rfl (by decide) ?_
  refine R_iload_n r_188_367 rfl ?_
  refine R_iconst r_188_368 (v := nI 2) rfl ?_
  refine R_iaddN r_188_369 ?_
  refine R_ialdX r_188_370 (sm_ixG h2 (by omega)) ?_
  refine R_call3 r_188_371 rfl (sm_rv1 rfl rfl hv2) (Nat.le_of_ble_eq_true rfl) (Nat.le_of_ble_eq_true rfl) ?_
  refine Ct.mono hct ?_
  rintro r2 w3 ⟨rfl, hJ3⟩
  exact R_icmpT r_188_374 (by decide) (by simp [sm_cnd]) (hQ w3 hJ3)
theorem lawc_9 {xs : List Int32} {wd : sm_W} {i : Nat} {Q : Option Value → sm_W → Prop} (hJ : JS wd) (hi : i < 256) {y1 : Int32} (h1 : xs[i + 1]? = some y1) {y2 : Int32} (h2 : xs[i + 2]? = some y2) {y3 : Int32} (h3 : xs[i + 3]? = some y3) (hQ : ∀ w3, JS w3 → RT xs 8 188 915 [some (.ref 1000004), some (.ref 0), some (.ref 22), some (.int (nI i))] [] w3 Q) : RT xs 8 188 379 [some (.ref 1000004), some (.ref 0), some (.ref 22), some (.int (nI i))] [] wd Q := by
  obtain ⟨fs, hrv⟩ := hJ.rv
  refine R_aload_n r_188_379 rfl (by decide) ?_
  refine R_aload_n r_188_380 rfl (by decide) ?_
  refine R_iload_n r_188_381 rfl ?_
  refine R_iconst r_188_382 (v := nI 1) rfl ?_
  refine R_iaddN r_188_383 ?_
  refine R_ialdX r_188_384 (sm_ixG h1 (by omega)) ?_
  refine R_call2 r_188_385 rfl (sm_rv1 rfl rfl hrv) (Nat.le_of_ble_eq_true rfl) (Nat.le_of_ble_eq_true rfl) ?_
  refine Ct.mono (jt_9 hJ) ?_
  rintro r w2 ⟨v, rfl, ⟨fs2, hv2⟩, hct⟩
  refine R_aload_n r_188_388 rfl (by decide) ?_
  refine R_aload_n r_188_389 rfl (by decide) ?_
  refine R_iload_n r_188_390 rfl ?_
  refine R_iconst r_188_391 (v := nI 1) rfl ?_
  refine R_iaddN r_188_392 ?_
  refine R_ialdX r_188_393 (sm_ixG h1 (by omega)) ?_
  refine R_call2 r_188_394 rfl (sm_rv1 rfl rfl hv2) (Nat.le_of_ble_eq_true rfl) (Nat.le_of_ble_eq_true rfl) ?_
  refine Ct.mono hct ?_
  rintro r2 w3 ⟨rfl, hJ3⟩
  exact R_icmpT r_188_397 (by decide) (by simp [sm_cnd]) (hQ w3 hJ3)
theorem lawc_10 {xs : List Int32} {wd : sm_W} {i : Nat} {Q : Option Value → sm_W → Prop} (hJ : JS wd) (hi : i < 256) {y1 : Int32} (h1 : xs[i + 1]? = some y1) {y2 : Int32} (h2 : xs[i + 2]? = some y2) {y3 : Int32} (h3 : xs[i + 3]? = some y3) (hQ : ∀ w3, JS w3 → RT xs 8 188 915 [some (.ref 1000004), some (.ref 0), some (.ref 22), some (.int (nI i))] [] w3 Q) : RT xs 8 188 402 [some (.ref 1000004), some (.ref 0), some (.ref 22), some (.int (nI i))] [] wd Q := by
  obtain ⟨fs, hrv⟩ := hJ.rv
  refine R_aload_n r_188_402 rfl (by decide) ?_
  refine R_aload_n r_188_403 rfl (by decide) ?_
  refine R_iload_n r_188_404 rfl ?_
  refine R_iconst r_188_405 (v := nI 1) rfl ?_
  refine R_iaddN r_188_406 ?_
  refine R_ialdX r_188_407 (sm_ixG h1 (by omega)) ?_
  refine R_aload_n r_188_408 rfl (by decide) ?_
  refine R_iload_n r_188_409 rfl ?_
  refine R_iconst r_188_410 (v := nI 2) rfl ?_
  refine R_iaddN r_188_411 ?_
  refine R_ialdX r_188_412 (sm_ixG h2 (by omega)) ?_
  refine R_call3 r_188_413 rfl (sm_rv1 rfl rfl hrv) (Nat.le_of_ble_eq_true rfl) (Nat.le_of_ble_eq_true rfl) ?_
  refine Ct.mono (jt_10 hJ) ?_
  rintro r w2 ⟨v, rfl, ⟨fs2, hv2⟩, hct⟩
  refine R_aload_n r_188_416 rfl (by decide) ?_
  refine R_aload_n r_188_417 rfl (by decide) ?_
  refine R_iload_n r_188_418 rfl ?_
  refine R_iconst r_188_419 (v := nI 1) rfl ?_
  refine R_iaddN r_188_420 ?_
  refine R_ialdX r_188_421 (sm_ixG h1 (by omega)) ?_
  refine R_aload_n r_188_422 rfl (by decide) ?_
  refine R_iload_n r_188_423 rfl ?_
  refine R_iconst r_188_424 (v := nI 2) rfl ?_
  refine R_iaddN r_188_425 ?_
  refine R_ialdX r_188_426 (sm_ixG h2 (by omega)) ?_
  refine R_call3 r_188_427 rfl (sm_rv1 rfl rfl hv2) (Nat.le_of_ble_eq_true rfl) (Nat.le_of_ble_eq_true rfl) ?_
  refine Ct.mono hct ?_
  rintro r2 w3 ⟨rfl, hJ3⟩
  exact R_icmpT r_188_430 (by decide) (by simp [sm_cnd]) (hQ w3 hJ3)
theorem lawc_11 {xs : List Int32} {wd : sm_W} {i : Nat} {Q : Option Value → sm_W → Prop} (hJ : JS wd) (hi : i < 256) {y1 : Int32} (h1 : xs[i + 1]? = some y1) {y2 : Int32} (h2 : xs[i + 2]? = some y2) {y3 : Int32} (h3 : xs[i + 3]? = some y3) (hQ : ∀ w3, JS w3 → RT xs 8 188 915 [some (.ref 1000004), some (.ref 0), some (.ref 22), some (.int (nI i))] [] w3 Q) : RT xs 8 188 435 [some (.ref 1000004), some (.ref 0), some (.ref 22), some (.int (nI i))] [] wd Q := by
  obtain ⟨fs, hrv⟩ := hJ.rv
  refine R_aload_n r_188_435 rfl (by decide) ?_
  refine R_aload_n r_188_436 rfl (by decide) ?_
  refine R_iload_n r_188_437 rfl ?_
  refine R_iconst r_188_438 (v := nI 1) rfl ?_
  refine R_iaddN r_188_439 ?_
  refine R_ialdX r_188_440 (sm_ixG h1 (by omega)) ?_
  refine R_aload_n r_188_441 rfl (by decide) ?_
  refine R_iload_n r_188_442 rfl ?_
  refine R_iconst r_188_443 (v := nI 2) rfl ?_
  refine R_iaddN r_188_444 ?_
  refine R_ialdX r_188_445 (sm_ixG h2 (by omega)) ?_
  refine R_call3 r_188_446 rfl (sm_rv1 rfl rfl hrv) (Nat.le_of_ble_eq_true rfl) (Nat.le_of_ble_eq_true rfl) ?_
  refine Ct.mono (jt_11 hJ) ?_
  rintro r w2 ⟨v, rfl, ⟨fs2, hv2⟩, hct⟩
  refine R_aload_n r_188_449 rfl (by decide) ?_
  refine R_aload_n r_188_450 rfl (by decide) ?_
  refine R_iload_n r_188_451 rfl ?_
  refine R_iconst r_188_452 (v := nI 1) rfl ?_
  refine R_iaddN r_188_453 ?_
  refine R_ialdX r_188_454 (sm_ixG h1 (by omega)) ?_
  refine R_aload_n r_188_455 rfl (by decide) ?_
  refine R_iload_n r_188_456 rfl ?_
  refine R_iconst r_188_457 (v := nI 2) rfl ?_
  refine R_iaddN r_188_458 ?_
  refine R_ialdX r_188_459 (sm_ixG h2 (by omega)) ?_
  refine R_call3 r_188_460 rfl (sm_rv1 rfl rfl hv2) (Nat.le_of_ble_eq_true rfl) (Nat.le_of_ble_eq_true rfl) ?_
  refine Ct.mono hct ?_
  rintro r2 w3 ⟨rfl, hJ3⟩
  exact R_icmpT r_188_463 (by decide) (by simp [sm_cnd]) (hQ w3 hJ3)
theorem lawc_12 {xs : List Int32} {wd : sm_W} {i : Nat} {Q : Option Value → sm_W → Prop} (hJ : JS wd) (hi : i < 256) {y1 : Int32} (h1 : xs[i + 1]? = some y1) {y2 : Int32} (h2 : xs[i + 2]? = some y2) {y3 : Int32} (h3 : xs[i + 3]? = some y3) (hQ : ∀ w3, JS w3 → RT xs 8 188 915 [some (.ref 1000004), some (.ref 0), some (.ref 22), some (.int (nI i))] [] w3 Q) : RT xs 8 188 468 [some (.ref 1000004), some (.ref 0), some (.ref 22), some (.int (nI i))] [] wd Q := by
  obtain ⟨fs, hrv⟩ := hJ.rv
  refine R_aload_n r_188_468 rfl (by decide) ?_
  refine R_aload_n r_188_469 rfl (by decide) ?_
  refine R_iload_n r_188_470 rfl ?_
  refine R_iconst r_188_471 (v := nI 1) rfl ?_
  refine R_iaddN r_188_472 ?_
  refine R_ialdX r_188_473 (sm_ixG h1 (by omega)) ?_
  refine R_aload_n r_188_474 rfl (by decide) ?_
  refine R_iload_n r_188_475 rfl ?_
  refine R_iconst r_188_476 (v := nI 2) rfl ?_
  refine R_iaddN r_188_477 ?_
  refine R_ialdX r_188_478 (sm_ixG h2 (by omega)) ?_
  refine R_call3 r_188_479 rfl (sm_rv1 rfl rfl hrv) (Nat.le_of_ble_eq_true rfl) (Nat.le_of_ble_eq_true rfl) ?_
  refine Ct.mono (jt_12 hJ) ?_
  rintro r w2 ⟨v, rfl, ⟨fs2, hv2⟩, hct⟩
  refine R_aload_n r_188_482 rfl (by decide) ?_
  refine R_aload_n r_188_483 rfl (by decide) ?_
  refine R_iload_n r_188_484 rfl ?_
  refine R_iconst r_188_485 (v := nI 1) rfl ?_
  refine R_iaddN r_188_486 ?_
  refine R_ialdX r_188_487 (sm_ixG h1 (by omega)) ?_
  refine R_aload_n r_188_488 rfl (by decide) ?_
  refine R_iload_n r_188_489 rfl ?_
  refine R_iconst r_188_490 (v := nI 2) rfl ?_
  refine R_iaddN r_188_491 ?_
  refine R_ialdX r_188_492 (sm_ixG h2 (by omega)) ?_
  refine R_call3 r_188_493 rfl (sm_rv1 rfl rfl hv2) (Nat.le_of_ble_eq_true rfl) (Nat.le_of_ble_eq_true rfl) ?_
  refine Ct.mono hct ?_
  rintro r2 w3 ⟨rfl, hJ3⟩
  exact R_icmpT r_188_496 (by decide) (by simp [sm_cnd]) (hQ w3 hJ3)
theorem lawc_13 {xs : List Int32} {wd : sm_W} {i : Nat} {Q : Option Value → sm_W → Prop} (hJ : JS wd) (hi : i < 256) {y1 : Int32} (h1 : xs[i + 1]? = some y1) {y2 : Int32} (h2 : xs[i + 2]? = some y2) {y3 : Int32} (h3 : xs[i + 3]? = some y3) (hQ : ∀ w3, JS w3 → RT xs 8 188 915 [some (.ref 1000004), some (.ref 0), some (.ref 22), some (.int (nI i))] [] w3 Q) : RT xs 8 188 501 [some (.ref 1000004), some (.ref 0), some (.ref 22), some (.int (nI i))] [] wd Q := by
  obtain ⟨fs, hrv⟩ := hJ.rv
  refine R_aload_n r_188_501 rfl (by decide) ?_
  refine R_aload_n r_188_502 rfl (by decide) ?_
  refine R_iload_n r_188_503 rfl ?_
  refine R_iconst r_188_504 (v := nI 1) rfl ?_
  refine R_iaddN r_188_505 ?_
  refine R_ialdX r_188_506 (sm_ixG h1 (by omega)) ?_
  refine R_call2 r_188_507 rfl (sm_rv1 rfl rfl hrv) (Nat.le_of_ble_eq_true rfl) (Nat.le_of_ble_eq_true rfl) ?_
  refine Ct.mono (jt_13 hJ) ?_
  rintro r w2 ⟨v, rfl, ⟨fs2, hv2⟩, hct⟩
  refine R_aload_n r_188_510 rfl (by decide) ?_
  refine R_aload_n r_188_511 rfl (by decide) ?_
  refine R_iload_n r_188_512 rfl ?_
  refine R_iconst r_188_513 (v := nI 1) rfl ?_
  refine R_iaddN r_188_514 ?_
  refine R_ialdX r_188_515 (sm_ixG h1 (by omega)) ?_
  refine R_call2 r_188_516 rfl (sm_rv1 rfl rfl hv2) (Nat.le_of_ble_eq_true rfl) (Nat.le_of_ble_eq_true rfl) ?_
  refine Ct.mono hct ?_
  rintro r2 w3 ⟨rfl, hJ3⟩
  exact R_icmpT r_188_519 (by decide) (by simp [sm_cnd]) (hQ w3 hJ3)
theorem lawc_14 {xs : List Int32} {wd : sm_W} {i : Nat} {Q : Option Value → sm_W → Prop} (hJ : JS wd) (hi : i < 256) {y1 : Int32} (h1 : xs[i + 1]? = some y1) {y2 : Int32} (h2 : xs[i + 2]? = some y2) {y3 : Int32} (h3 : xs[i + 3]? = some y3) (hQ : ∀ w3, JS w3 → RT xs 8 188 915 [some (.ref 1000004), some (.ref 0), some (.ref 22), some (.int (nI i))] [] w3 Q) : RT xs 8 188 524 [some (.ref 1000004), some (.ref 0), some (.ref 22), some (.int (nI i))] [] wd Q := by
  obtain ⟨fs, hrv⟩ := hJ.rv
  refine R_aload_n r_188_524 rfl (by decide) ?_
  refine R_aload_n r_188_525 rfl (by decide) ?_
  refine R_iload_n r_188_526 rfl ?_
  refine R_iconst r_188_527 (v := nI 1) rfl ?_
  refine R_iaddN r_188_528 ?_
  refine R_ialdX r_188_529 (sm_ixG h1 (by omega)) ?_
  refine R_call2 r_188_530 rfl (sm_rv1 rfl rfl hrv) (Nat.le_of_ble_eq_true rfl) (Nat.le_of_ble_eq_true rfl) ?_
  refine Ct.mono (jt_14 hJ) ?_
  rintro r w2 ⟨v, rfl, ⟨fs2, hv2⟩, hct⟩
  refine R_aload_n r_188_533 rfl (by decide) ?_
  refine R_aload_n r_188_534 rfl (by decide) ?_
  refine R_iload_n r_188_535 rfl ?_
  refine R_iconst r_188_536 (v := nI 1) rfl ?_
  refine R_iaddN r_188_537 ?_
  refine R_ialdX r_188_538 (sm_ixG h1 (by omega)) ?_
  refine R_call2 r_188_539 rfl (sm_rv1 rfl rfl hv2) (Nat.le_of_ble_eq_true rfl) (Nat.le_of_ble_eq_true rfl) ?_
  refine Ct.mono hct ?_
  rintro r2 w3 ⟨rfl, hJ3⟩
  exact R_icmpT r_188_542 (by decide) (by simp [sm_cnd]) (hQ w3 hJ3)
theorem lawc_15 {xs : List Int32} {wd : sm_W} {i : Nat} {Q : Option Value → sm_W → Prop} (hJ : JS wd) (hi : i < 256) {y1 : Int32} (h1 : xs[i + 1]? = some y1) {y2 : Int32} (h2 : xs[i + 2]? = some y2) {y3 : Int32} (h3 : xs[i + 3]? = some y3) (hQ : ∀ w3, JS w3 → RT xs 8 188 915 [some (.ref 1000004), some (.ref 0), some (.ref 22), some (.int (nI i))] [] w3 Q) : RT xs 8 188 547 [some (.ref 1000004), some (.ref 0), some (.ref 22), some (.int (nI i))] [] wd Q := by
  obtain ⟨fs, hrv⟩ := hJ.rv
  refine R_aload_n r_188_547 rfl (by decide) ?_
  refine R_call1 r_188_548 rfl (sm_rv1 rfl rfl hrv) (Nat.le_of_ble_eq_true rfl) (Nat.le_of_ble_eq_true rfl) ?_
  refine Ct.mono (jt_15 hJ) ?_
  rintro r w2 ⟨v, rfl, ⟨fs2, hv2⟩, hct⟩
  refine R_aload_n r_188_551 rfl (by decide) ?_
  refine R_call1 r_188_552 rfl (sm_rv1 rfl rfl hv2) (Nat.le_of_ble_eq_true rfl) (Nat.le_of_ble_eq_true rfl) ?_
  refine Ct.mono hct ?_
  rintro r2 w3 ⟨rfl, hJ3⟩
  exact R_icmpT r_188_555 (by decide) (by simp [sm_cnd]) (hQ w3 hJ3)
theorem lawc_16 {xs : List Int32} {wd : sm_W} {i : Nat} {Q : Option Value → sm_W → Prop} (hJ : JS wd) (hi : i < 256) {y1 : Int32} (h1 : xs[i + 1]? = some y1) {y2 : Int32} (h2 : xs[i + 2]? = some y2) {y3 : Int32} (h3 : xs[i + 3]? = some y3) (hQ : ∀ w3, JS w3 → RT xs 8 188 915 [some (.ref 1000004), some (.ref 0), some (.ref 22), some (.int (nI i))] [] w3 Q) : RT xs 8 188 560 [some (.ref 1000004), some (.ref 0), some (.ref 22), some (.int (nI i))] [] wd Q := by
  obtain ⟨fs, hrv⟩ := hJ.rv
  refine R_aload_n r_188_560 rfl (by decide) ?_
  refine R_aload_n r_188_561 rfl (by decide) ?_
  refine R_iload_n r_188_562 rfl ?_
  refine R_iconst r_188_563 (v := nI 1) rfl ?_
  refine R_iaddN r_188_564 ?_
  refine R_ialdX r_188_565 (sm_ixG h1 (by omega)) ?_
  refine R_call2 r_188_566 rfl (sm_rv1 rfl rfl hrv) (Nat.le_of_ble_eq_true rfl) (Nat.le_of_ble_eq_true rfl) ?_
  refine Ct.mono (jt_16 hJ) ?_
  rintro r w2 ⟨v, rfl, ⟨fs2, hv2⟩, hct⟩
  refine R_aload_n r_188_569 rfl (by decide) ?_
  refine R_aload_n r_188_570 rfl (by decide) ?_
  refine R_iload_n r_188_571 rfl ?_
  refine R_iconst r_188_572 (v := nI 1) rfl ?_
  refine R_iaddN r_188_573 ?_
  refine R_ialdX r_188_574 (sm_ixG h1 (by omega)) ?_
  refine R_call2 r_188_575 rfl (sm_rv1 rfl rfl hv2) (Nat.le_of_ble_eq_true rfl) (Nat.le_of_ble_eq_true rfl) ?_
  refine Ct.mono hct ?_
  rintro r2 w3 ⟨rfl, hJ3⟩
  exact R_icmpT r_188_578 (by decide) (by simp [sm_cnd]) (hQ w3 hJ3)
theorem lawc_17 {xs : List Int32} {wd : sm_W} {i : Nat} {Q : Option Value → sm_W → Prop} (hJ : JS wd) (hi : i < 256) {y1 : Int32} (h1 : xs[i + 1]? = some y1) {y2 : Int32} (h2 : xs[i + 2]? = some y2) {y3 : Int32} (h3 : xs[i + 3]? = some y3) (hQ : ∀ w3, JS w3 → RT xs 8 188 915 [some (.ref 1000004), some (.ref 0), some (.ref 22), some (.int (nI i))] [] w3 Q) : RT xs 8 188 583 [some (.ref 1000004), some (.ref 0), some (.ref 22), some (.int (nI i))] [] wd Q := by
  obtain ⟨fs, hrv⟩ := hJ.rv
  refine R_aload_n r_188_583 rfl (by decide) ?_
  refine R_aload_n r_188_584 rfl (by decide) ?_
  refine R_iload_n r_188_585 rfl ?_
  refine R_iconst r_188_586 (v := nI 1) rfl ?_
  refine R_iaddN r_188_587 ?_
  refine R_ialdX r_188_588 (sm_ixG h1 (by omega)) ?_
  refine R_call2 r_188_589 rfl (sm_rv1 rfl rfl hrv) (Nat.le_of_ble_eq_true rfl) (Nat.le_of_ble_eq_true rfl) ?_
  refine Ct.mono (jt_17 hJ) ?_
  rintro r w2 ⟨v, rfl, ⟨fs2, hv2⟩, hct⟩
  refine R_aload_n r_188_592 rfl (by decide) ?_
  refine R_aload_n r_188_593 rfl (by decide) ?_
  refine R_iload_n r_188_594 rfl ?_
  refine R_iconst r_188_595 (v := nI 1) rfl ?_
  refine R_iaddN r_188_596 ?_
  refine R_ialdX r_188_597 (sm_ixG h1 (by omega)) ?_
  refine R_call2 r_188_598 rfl (sm_rv1 rfl rfl hv2) (Nat.le_of_ble_eq_true rfl) (Nat.le_of_ble_eq_true rfl) ?_
  refine Ct.mono hct ?_
  rintro r2 w3 ⟨rfl, hJ3⟩
  exact R_icmpT r_188_601 (by decide) (by simp [sm_cnd]) (hQ w3 hJ3)
theorem lawc_18 {xs : List Int32} {wd : sm_W} {i : Nat} {Q : Option Value → sm_W → Prop} (hJ : JS wd) (hi : i < 256) {y1 : Int32} (h1 : xs[i + 1]? = some y1) {y2 : Int32} (h2 : xs[i + 2]? = some y2) {y3 : Int32} (h3 : xs[i + 3]? = some y3) (hQ : ∀ w3, JS w3 → RT xs 8 188 915 [some (.ref 1000004), some (.ref 0), some (.ref 22), some (.int (nI i))] [] w3 Q) : RT xs 8 188 606 [some (.ref 1000004), some (.ref 0), some (.ref 22), some (.int (nI i))] [] wd Q := by
  obtain ⟨fs, hrv⟩ := hJ.rv
  refine R_aload_n r_188_606 rfl (by decide) ?_
  refine R_call1 r_188_607 rfl (sm_rv1 rfl rfl hrv) (Nat.le_of_ble_eq_true rfl) (Nat.le_of_ble_eq_true rfl) ?_
  refine Ct.mono (jt_18 hJ) ?_
  rintro r w2 ⟨v, rfl, ⟨fs2, hv2⟩, hct⟩
  refine R_aload_n r_188_610 rfl (by decide) ?_
  refine R_call1 r_188_611 rfl (sm_rv1 rfl rfl hv2) (Nat.le_of_ble_eq_true rfl) (Nat.le_of_ble_eq_true rfl) ?_
  refine Ct.mono hct ?_
  rintro r2 w3 ⟨rfl, hJ3⟩
  exact R_icmpT r_188_614 (by decide) (by simp [sm_cnd]) (hQ w3 hJ3)
theorem lawc_19 {xs : List Int32} {wd : sm_W} {i : Nat} {Q : Option Value → sm_W → Prop} (hJ : JS wd) (hi : i < 256) {y1 : Int32} (h1 : xs[i + 1]? = some y1) {y2 : Int32} (h2 : xs[i + 2]? = some y2) {y3 : Int32} (h3 : xs[i + 3]? = some y3) (hQ : ∀ w3, JS w3 → RT xs 8 188 915 [some (.ref 1000004), some (.ref 0), some (.ref 22), some (.int (nI i))] [] w3 Q) : RT xs 8 188 619 [some (.ref 1000004), some (.ref 0), some (.ref 22), some (.int (nI i))] [] wd Q := by
  obtain ⟨fs, hrv⟩ := hJ.rv
  refine R_aload_n r_188_619 rfl (by decide) ?_
  refine R_aload_n r_188_620 rfl (by decide) ?_
  refine R_iload_n r_188_621 rfl ?_
  refine R_iconst r_188_622 (v := nI 1) rfl ?_
  refine R_iaddN r_188_623 ?_
  refine R_ialdX r_188_624 (sm_ixG h1 (by omega)) ?_
  refine R_call2 r_188_625 rfl (sm_rv1 rfl rfl hrv) (Nat.le_of_ble_eq_true rfl) (Nat.le_of_ble_eq_true rfl) ?_
  refine Ct.mono (jt_19 hJ) ?_
  rintro r w2 ⟨v, rfl, ⟨fs2, hv2⟩, hct⟩
  refine R_aload_n r_188_628 rfl (by decide) ?_
  refine R_aload_n r_188_629 rfl (by decide) ?_
  refine R_iload_n r_188_630 rfl ?_
  refine R_iconst r_188_631 (v := nI 1) rfl ?_
  refine R_iaddN r_188_632 ?_
  refine R_ialdX r_188_633 (sm_ixG h1 (by omega)) ?_
  refine R_call2 r_188_634 rfl (sm_rv1 rfl rfl hv2) (Nat.le_of_ble_eq_true rfl) (Nat.le_of_ble_eq_true rfl) ?_
  refine Ct.mono hct ?_
  rintro r2 w3 ⟨rfl, hJ3⟩
  exact R_icmpT r_188_637 (by decide) (by simp [sm_cnd]) (hQ w3 hJ3)
theorem lawc_20 {xs : List Int32} {wd : sm_W} {i : Nat} {Q : Option Value → sm_W → Prop} (hJ : JS wd) (hi : i < 256) {y1 : Int32} (h1 : xs[i + 1]? = some y1) {y2 : Int32} (h2 : xs[i + 2]? = some y2) {y3 : Int32} (h3 : xs[i + 3]? = some y3) (hQ : ∀ w3, JS w3 → RT xs 8 188 915 [some (.ref 1000004), some (.ref 0), some (.ref 22), some (.int (nI i))] [] w3 Q) : RT xs 8 188 642 [some (.ref 1000004), some (.ref 0), some (.ref 22), some (.int (nI i))] [] wd Q := by
  obtain ⟨fs, hrv⟩ := hJ.rv
  refine R_aload_n r_188_642 rfl (by decide) ?_
  refine R_aload_n r_188_643 rfl (by decide) ?_
  refine R_iload_n r_188_644 rfl ?_
  refine R_iconst r_188_645 (v := nI 1) rfl ?_
  refine R_iaddN r_188_646 ?_
  refine R_ialdX r_188_647 (sm_ixG h1 (by omega)) ?_
  refine R_aload_n r_188_648 rfl (by decide) ?_
  refine R_iload_n r_188_649 rfl ?_
  refine R_iconst r_188_650 (v := nI 2) rfl ?_
  refine R_iaddN r_188_651 ?_
  refine R_ialdX r_188_652 (sm_ixG h2 (by omega)) ?_
  refine R_call3 r_188_653 rfl (sm_rv1 rfl rfl hrv) (Nat.le_of_ble_eq_true rfl) (Nat.le_of_ble_eq_true rfl) ?_
  refine Ct.mono (jt_20 hJ) ?_
  rintro r w2 ⟨v, rfl, ⟨fs2, hv2⟩, hct⟩
  refine R_aload_n r_188_656 rfl (by decide) ?_
  refine R_aload_n r_188_657 rfl (by decide) ?_
  refine R_iload_n r_188_658 rfl ?_
  refine R_iconst r_188_659 (v := nI 1) rfl ?_
  refine R_iaddN r_188_660 ?_
  refine R_ialdX r_188_661 (sm_ixG h1 (by omega)) ?_
  refine R_aload_n r_188_662 rfl (by decide) ?_
  refine R_iload_n r_188_663 rfl ?_
  refine R_iconst r_188_664 (v := nI 2) rfl ?_
  refine R_iaddN r_188_665 ?_
  refine R_ialdX r_188_666 (sm_ixG h2 (by omega)) ?_
  refine R_call3 r_188_667 rfl (sm_rv1 rfl rfl hv2) (Nat.le_of_ble_eq_true rfl) (Nat.le_of_ble_eq_true rfl) ?_
  refine Ct.mono hct ?_
  rintro r2 w3 ⟨rfl, hJ3⟩
  exact R_icmpT r_188_670 (by decide) (by simp [sm_cnd]) (hQ w3 hJ3)
theorem lawc_21 {xs : List Int32} {wd : sm_W} {i : Nat} {Q : Option Value → sm_W → Prop} (hJ : JS wd) (hi : i < 256) {y1 : Int32} (h1 : xs[i + 1]? = some y1) {y2 : Int32} (h2 : xs[i + 2]? = some y2) {y3 : Int32} (h3 : xs[i + 3]? = some y3) (hQ : ∀ w3, JS w3 → RT xs 8 188 915 [some (.ref 1000004), some (.ref 0), some (.ref 22), some (.int (nI i))] [] w3 Q) : RT xs 8 188 675 [some (.ref 1000004), some (.ref 0), some (.ref 22), some (.int (nI i))] [] wd Q := by
  obtain ⟨fs, hrv⟩ := hJ.rv
  refine R_aload_n r_188_675 rfl (by decide) ?_
  refine R_aload_n r_188_676 rfl (by decide) ?_
  refine R_iload_n r_188_677 rfl ?_
  refine R_iconst r_188_678 (v := nI 1) rfl ?_
  refine R_iaddN r_188_679 ?_
  refine R_ialdX r_188_680 (sm_ixG h1 (by omega)) ?_
  refine R_call2 r_188_681 rfl (sm_rv1 rfl rfl hrv) (Nat.le_of_ble_eq_true rfl) (Nat.le_of_ble_eq_true rfl) ?_
  refine Ct.mono (jt_21 hJ) ?_
  rintro r w2 ⟨v, rfl, ⟨fs2, hv2⟩, hct⟩
  refine R_aload_n r_188_684 rfl (by decide) ?_
  refine R_aload_n r_188_685 rfl (by decide) ?_
  refine R_iload_n r_188_686 rfl ?_
  refine R_iconst r_188_687 (v := nI 1) rfl ?_
  refine R_iaddN r_188_688 ?_
  refine R_ialdX r_188_689 (sm_ixG h1 (by omega)) ?_
  refine R_call2 r_188_690 rfl (sm_rv1 rfl rfl hv2) (Nat.le_of_ble_eq_true rfl) (Nat.le_of_ble_eq_true rfl) ?_
  refine Ct.mono hct ?_
  rintro r2 w3 ⟨rfl, hJ3⟩
  exact R_icmpT r_188_693 (by decide) (by simp [sm_cnd]) (hQ w3 hJ3)
theorem lawc_22 {xs : List Int32} {wd : sm_W} {i : Nat} {Q : Option Value → sm_W → Prop} (hJ : JS wd) (hi : i < 256) {y1 : Int32} (h1 : xs[i + 1]? = some y1) {y2 : Int32} (h2 : xs[i + 2]? = some y2) {y3 : Int32} (h3 : xs[i + 3]? = some y3) (hQ : ∀ w3, JS w3 → RT xs 8 188 915 [some (.ref 1000004), some (.ref 0), some (.ref 22), some (.int (nI i))] [] w3 Q) : RT xs 8 188 698 [some (.ref 1000004), some (.ref 0), some (.ref 22), some (.int (nI i))] [] wd Q := by
  obtain ⟨fs, hrv⟩ := hJ.rv
  refine R_aload_n r_188_698 rfl (by decide) ?_
  refine R_aload_n r_188_699 rfl (by decide) ?_
  refine R_iload_n r_188_700 rfl ?_
  refine R_iconst r_188_701 (v := nI 1) rfl ?_
  refine R_iaddN r_188_702 ?_
  refine R_ialdX r_188_703 (sm_ixG h1 (by omega)) ?_
  refine R_aload_n r_188_704 rfl (by decide) ?_
  refine R_iload_n r_188_705 rfl ?_
  refine R_iconst r_188_706 (v := nI 2) rfl ?_
  refine R_iaddN r_188_707 ?_
  refine R_ialdX r_188_708 (sm_ixG h2 (by omega)) ?_
  refine R_call3 r_188_709 rfl (sm_rv1 rfl rfl hrv) (Nat.le_of_ble_eq_true rfl) (Nat.le_of_ble_eq_true rfl) ?_
  refine Ct.mono (jt_22 hJ) ?_
  rintro r w2 ⟨v, rfl, ⟨fs2, hv2⟩, hct⟩
  refine R_aload_n r_188_712 rfl (by decide) ?_
  refine R_aload_n r_188_713 rfl (by decide) ?_
  refine R_iload_n r_188_714 rfl ?_
  refine R_iconst r_188_715 (v := nI 1) rfl ?_
  refine R_iaddN r_188_716 ?_
  refine R_ialdX r_188_717 (sm_ixG h1 (by omega)) ?_
  refine R_aload_n r_188_718 rfl (by decide) ?_
  refine R_iload_n r_188_719 rfl ?_
  refine R_iconst r_188_720 (v := nI 2) rfl ?_
  refine R_iaddN r_188_721 ?_
  refine R_ialdX r_188_722 (sm_ixG h2 (by omega)) ?_
  refine R_call3 r_188_723 rfl (sm_rv1 rfl rfl hv2) (Nat.le_of_ble_eq_true rfl) (Nat.le_of_ble_eq_true rfl) ?_
  refine Ct.mono hct ?_
  rintro r2 w3 ⟨rfl, hJ3⟩
  exact R_icmpT r_188_726 (by decide) (by simp [sm_cnd]) (hQ w3 hJ3)
theorem lawc_23 {xs : List Int32} {wd : sm_W} {i : Nat} {Q : Option Value → sm_W → Prop} (hJ : JS wd) (hi : i < 256) {y1 : Int32} (h1 : xs[i + 1]? = some y1) {y2 : Int32} (h2 : xs[i + 2]? = some y2) {y3 : Int32} (h3 : xs[i + 3]? = some y3) (hQ : ∀ w3, JS w3 → RT xs 8 188 915 [some (.ref 1000004), some (.ref 0), some (.ref 22), some (.int (nI i))] [] w3 Q) : RT xs 8 188 731 [some (.ref 1000004), some (.ref 0), some (.ref 22), some (.int (nI i))] [] wd Q := by
  obtain ⟨fs, hrv⟩ := hJ.rv
  refine R_aload_n r_188_731 rfl (by decide) ?_
  refine R_call1 r_188_732 rfl (sm_rv1 rfl rfl hrv) (Nat.le_of_ble_eq_true rfl) (Nat.le_of_ble_eq_true rfl) ?_
  refine Ct.mono (jt_23 hJ) ?_
  rintro r w2 ⟨v, rfl, ⟨fs2, hv2⟩, hct⟩
  refine R_aload_n r_188_735 rfl (by decide) ?_
  refine R_call1 r_188_736 rfl (sm_rv1 rfl rfl hv2) (Nat.le_of_ble_eq_true rfl) (Nat.le_of_ble_eq_true rfl) ?_
  refine Ct.mono hct ?_
  rintro r2 w3 ⟨rfl, hJ3⟩
  exact R_icmpT r_188_739 (by decide) (by simp [sm_cnd]) (hQ w3 hJ3)
theorem lawc_24 {xs : List Int32} {wd : sm_W} {i : Nat} {Q : Option Value → sm_W → Prop} (hJ : JS wd) (hi : i < 256) {y1 : Int32} (h1 : xs[i + 1]? = some y1) {y2 : Int32} (h2 : xs[i + 2]? = some y2) {y3 : Int32} (h3 : xs[i + 3]? = some y3) (hQ : ∀ w3, JS w3 → RT xs 8 188 915 [some (.ref 1000004), some (.ref 0), some (.ref 22), some (.int (nI i))] [] w3 Q) : RT xs 8 188 744 [some (.ref 1000004), some (.ref 0), some (.ref 22), some (.int (nI i))] [] wd Q := by
  obtain ⟨fs, hrv⟩ := hJ.rv
  refine R_aload_n r_188_744 rfl (by decide) ?_
  refine R_aload_n r_188_745 rfl (by decide) ?_
  refine R_iload_n r_188_746 rfl ?_
  refine R_iconst r_188_747 (v := nI 1) rfl ?_
  refine R_iaddN r_188_748 ?_
  refine R_ialdX r_188_749 (sm_ixG h1 (by omega)) ?_
  refine R_call2 r_188_750 rfl (sm_rv1 rfl rfl hrv) (Nat.le_of_ble_eq_true rfl) (Nat.le_of_ble_eq_true rfl) ?_
  refine Ct.mono (jt_24 hJ) ?_
  rintro r w2 ⟨v, rfl, ⟨fs2, hv2⟩, hct⟩
  refine R_aload_n r_188_753 rfl (by decide) ?_
  refine R_aload_n r_188_754 rfl (by decide) ?_
  refine R_iload_n r_188_755 rfl ?_
  refine R_iconst r_188_756 (v := nI 1) rfl ?_
  refine R_iaddN r_188_757 ?_
  refine R_ialdX r_188_758 (sm_ixG h1 (by omega)) ?_
  refine R_call2 r_188_759 rfl (sm_rv1 rfl rfl hv2) (Nat.le_of_ble_eq_true rfl) (Nat.le_of_ble_eq_true rfl) ?_
  refine Ct.mono hct ?_
  rintro r2 w3 ⟨rfl, hJ3⟩
  exact R_icmpT r_188_762 (by decide) (by simp [sm_cnd]) (hQ w3 hJ3)
theorem lawc_25 {xs : List Int32} {wd : sm_W} {i : Nat} {Q : Option Value → sm_W → Prop} (hJ : JS wd) (hi : i < 256) {y1 : Int32} (h1 : xs[i + 1]? = some y1) {y2 : Int32} (h2 : xs[i + 2]? = some y2) {y3 : Int32} (h3 : xs[i + 3]? = some y3) (hQ : ∀ w3, JS w3 → RT xs 8 188 915 [some (.ref 1000004), some (.ref 0), some (.ref 22), some (.int (nI i))] [] w3 Q) : RT xs 8 188 767 [some (.ref 1000004), some (.ref 0), some (.ref 22), some (.int (nI i))] [] wd Q := by
  obtain ⟨fs, hrv⟩ := hJ.rv
  refine R_aload_n r_188_767 rfl (by decide) ?_
  refine R_aload_n r_188_768 rfl (by decide) ?_
  refine R_iload_n r_188_769 rfl ?_
  refine R_iconst r_188_770 (v := nI 1) rfl ?_
  refine R_iaddN r_188_771 ?_
  refine R_ialdX r_188_772 (sm_ixG h1 (by omega)) ?_
  refine R_aload_n r_188_773 rfl (by decide) ?_
  refine R_iload_n r_188_774 rfl ?_
  refine R_iconst r_188_775 (v := nI 2) rfl ?_
  refine R_iaddN r_188_776 ?_
  refine R_ialdX r_188_777 (sm_ixG h2 (by omega)) ?_
  refine R_call3 r_188_778 rfl (sm_rv1 rfl rfl hrv) (Nat.le_of_ble_eq_true rfl) (Nat.le_of_ble_eq_true rfl) ?_
  refine Ct.mono (jt_25 hJ) ?_
  rintro r w2 ⟨v, rfl, ⟨fs2, hv2⟩, hct⟩
  refine R_aload_n r_188_781 rfl (by decide) ?_
  refine R_aload_n r_188_782 rfl (by decide) ?_
  refine R_iload_n r_188_783 rfl ?_
  refine R_iconst r_188_784 (v := nI 1) rfl ?_
  refine R_iaddN r_188_785 ?_
  refine R_ialdX r_188_786 (sm_ixG h1 (by omega)) ?_
  refine R_aload_n r_188_787 rfl (by decide) ?_
  refine R_iload_n r_188_788 rfl ?_
  refine R_iconst r_188_789 (v := nI 2) rfl ?_
  refine R_iaddN r_188_790 ?_
  refine R_ialdX r_188_791 (sm_ixG h2 (by omega)) ?_
  refine R_call3 r_188_792 rfl (sm_rv1 rfl rfl hv2) (Nat.le_of_ble_eq_true rfl) (Nat.le_of_ble_eq_true rfl) ?_
  refine Ct.mono hct ?_
  rintro r2 w3 ⟨rfl, hJ3⟩
  exact R_icmpT r_188_795 (by decide) (by simp [sm_cnd]) (hQ w3 hJ3)
theorem lawc_26 {xs : List Int32} {wd : sm_W} {i : Nat} {Q : Option Value → sm_W → Prop} (hJ : JS wd) (hi : i < 256) {y1 : Int32} (h1 : xs[i + 1]? = some y1) {y2 : Int32} (h2 : xs[i + 2]? = some y2) {y3 : Int32} (h3 : xs[i + 3]? = some y3) (hQ : ∀ w3, JS w3 → RT xs 8 188 915 [some (.ref 1000004), some (.ref 0), some (.ref 22), some (.int (nI i))] [] w3 Q) : RT xs 8 188 800 [some (.ref 1000004), some (.ref 0), some (.ref 22), some (.int (nI i))] [] wd Q := by
  obtain ⟨fs, hrv⟩ := hJ.rv
  refine R_aload_n r_188_800 rfl (by decide) ?_
  refine R_aload_n r_188_801 rfl (by decide) ?_
  refine R_iload_n r_188_802 rfl ?_
  refine R_iconst r_188_803 (v := nI 1) rfl ?_
  refine R_iaddN r_188_804 ?_
  refine R_ialdX r_188_805 (sm_ixG h1 (by omega)) ?_
  refine R_call2 r_188_806 rfl (sm_rv1 rfl rfl hrv) (Nat.le_of_ble_eq_true rfl) (Nat.le_of_ble_eq_true rfl) ?_
  refine Ct.mono (jt_26 hJ) ?_
  rintro r w2 ⟨v, rfl, ⟨fs2, hv2⟩, hct⟩
  refine R_aload_n r_188_809 rfl (by decide) ?_
  refine R_aload_n r_188_810 rfl (by decide) ?_
  refine R_iload_n r_188_811 rfl ?_
  refine R_iconst r_188_812 (v := nI 1) rfl ?_
  refine R_iaddN r_188_813 ?_
  refine R_ialdX r_188_814 (sm_ixG h1 (by omega)) ?_
  refine R_call2 r_188_815 rfl (sm_rv1 rfl rfl hv2) (Nat.le_of_ble_eq_true rfl) (Nat.le_of_ble_eq_true rfl) ?_
  refine Ct.mono hct ?_
  rintro r2 w3 ⟨rfl, hJ3⟩
  exact R_icmpT r_188_818 (by decide) (by simp [sm_cnd]) (hQ w3 hJ3)
theorem lawc_27 {xs : List Int32} {wd : sm_W} {i : Nat} {Q : Option Value → sm_W → Prop} (hJ : JS wd) (hi : i < 256) {y1 : Int32} (h1 : xs[i + 1]? = some y1) {y2 : Int32} (h2 : xs[i + 2]? = some y2) {y3 : Int32} (h3 : xs[i + 3]? = some y3) (hQ : ∀ w3, JS w3 → RT xs 8 188 915 [some (.ref 1000004), some (.ref 0), some (.ref 22), some (.int (nI i))] [] w3 Q) : RT xs 8 188 823 [some (.ref 1000004), some (.ref 0), some (.ref 22), some (.int (nI i))] [] wd Q := by
  obtain ⟨fs, hrv⟩ := hJ.rv
  refine R_aload_n r_188_823 rfl (by decide) ?_
  refine R_aload_n r_188_824 rfl (by decide) ?_
  refine R_iload_n r_188_825 rfl ?_
  refine R_iconst r_188_826 (v := nI 1) rfl ?_
  refine R_iaddN r_188_827 ?_
  refine R_ialdX r_188_828 (sm_ixG h1 (by omega)) ?_
  refine R_aload_n r_188_829 rfl (by decide) ?_
  refine R_iload_n r_188_830 rfl ?_
  refine R_iconst r_188_831 (v := nI 2) rfl ?_
  refine R_iaddN r_188_832 ?_
  refine R_ialdX r_188_833 (sm_ixG h2 (by omega)) ?_
  refine R_aload_n r_188_834 rfl (by decide) ?_
  refine R_iload_n r_188_835 rfl ?_
  refine R_iconst r_188_836 (v := nI 3) rfl ?_
  refine R_iaddN r_188_837 ?_
  refine R_ialdX r_188_838 (sm_ixG h3 (by omega)) ?_
  refine R_call4 r_188_839 rfl (sm_rv1 rfl rfl hrv) (Nat.le_of_ble_eq_true rfl) (Nat.le_of_ble_eq_true rfl) ?_
  refine Ct.mono (jt_27 hJ) ?_
  rintro r w2 ⟨v, rfl, ⟨fs2, hv2⟩, hct⟩
  refine R_aload_n r_188_842 rfl (by decide) ?_
  refine R_aload_n r_188_843 rfl (by decide) ?_
  refine R_iload_n r_188_844 rfl ?_
  refine R_iconst r_188_845 (v := nI 1) rfl ?_
  refine R_iaddN r_188_846 ?_
  refine R_ialdX r_188_847 (sm_ixG h1 (by omega)) ?_
  refine R_aload_n r_188_848 rfl (by decide) ?_
  refine R_iload_n r_188_849 rfl ?_
  refine R_iconst r_188_850 (v := nI 2) rfl ?_
  refine R_iaddN r_188_851 ?_
  refine R_ialdX r_188_852 (sm_ixG h2 (by omega)) ?_
  refine R_aload_n r_188_853 rfl (by decide) ?_
  refine R_iload_n r_188_854 rfl ?_
  refine R_iconst r_188_855 (v := nI 3) rfl ?_
  refine R_iaddN r_188_856 ?_
  refine R_ialdX r_188_857 (sm_ixG h3 (by omega)) ?_
  refine R_call4 r_188_858 rfl (sm_rv1 rfl rfl hv2) (Nat.le_of_ble_eq_true rfl) (Nat.le_of_ble_eq_true rfl) ?_
  refine Ct.mono hct ?_
  rintro r2 w3 ⟨rfl, hJ3⟩
  exact R_icmpT r_188_861 (by decide) (by simp [sm_cnd]) (hQ w3 hJ3)
theorem lawc_28 {xs : List Int32} {wd : sm_W} {i : Nat} {Q : Option Value → sm_W → Prop} (hJ : JS wd) (hi : i < 256) {y1 : Int32} (h1 : xs[i + 1]? = some y1) {y2 : Int32} (h2 : xs[i + 2]? = some y2) {y3 : Int32} (h3 : xs[i + 3]? = some y3) (hQ : ∀ w3, JS w3 → RT xs 8 188 915 [some (.ref 1000004), some (.ref 0), some (.ref 22), some (.int (nI i))] [] w3 Q) : RT xs 8 188 866 [some (.ref 1000004), some (.ref 0), some (.ref 22), some (.int (nI i))] [] wd Q := by
  obtain ⟨fs, hrv⟩ := hJ.rv
  refine R_aload_n r_188_866 rfl (by decide) ?_
  refine R_call1 r_188_867 rfl (sm_rv1 rfl rfl hrv) (Nat.le_of_ble_eq_true rfl) (Nat.le_of_ble_eq_true rfl) ?_
  refine Ct.mono (jt_28 hJ) ?_
  rintro r w2 ⟨v, rfl, ⟨fs2, hv2⟩, hct⟩
  refine R_aload_n r_188_870 rfl (by decide) ?_
  refine R_call1 r_188_871 rfl (sm_rv1 rfl rfl hv2) (Nat.le_of_ble_eq_true rfl) (Nat.le_of_ble_eq_true rfl) ?_
  refine Ct.mono hct ?_
  rintro r2 w3 ⟨rfl, hJ3⟩
  exact R_icmpT r_188_874 (by decide) (by simp [sm_cnd]) (hQ w3 hJ3)
theorem lawc_29 {xs : List Int32} {wd : sm_W} {i : Nat} {Q : Option Value → sm_W → Prop} (hJ : JS wd) (hi : i < 256) {y1 : Int32} (h1 : xs[i + 1]? = some y1) {y2 : Int32} (h2 : xs[i + 2]? = some y2) {y3 : Int32} (h3 : xs[i + 3]? = some y3) (hQ : ∀ w3, JS w3 → RT xs 8 188 915 [some (.ref 1000004), some (.ref 0), some (.ref 22), some (.int (nI i))] [] w3 Q) : RT xs 8 188 879 [some (.ref 1000004), some (.ref 0), some (.ref 22), some (.int (nI i))] [] wd Q := by
  obtain ⟨fs, hrv⟩ := hJ.rv
  refine R_aload_n r_188_879 rfl (by decide) ?_
  refine R_call1 r_188_880 rfl (sm_rv1 rfl rfl hrv) (Nat.le_of_ble_eq_true rfl) (Nat.le_of_ble_eq_true rfl) ?_
  refine Ct.mono (jt_29 hJ) ?_
  rintro r w2 ⟨v, rfl, ⟨fs2, hv2⟩, hct⟩
  refine R_aload_n r_188_883 rfl (by decide) ?_
  refine R_call1 r_188_884 rfl (sm_rv1 rfl rfl hv2) (Nat.le_of_ble_eq_true rfl) (Nat.le_of_ble_eq_true rfl) ?_
  refine Ct.mono hct ?_
  rintro r2 w3 ⟨rfl, hJ3⟩
  exact R_icmpT r_188_887 (by decide) (by simp [sm_cnd]) (hQ w3 hJ3)
theorem lawc_30 {xs : List Int32} {wd : sm_W} {i : Nat} {Q : Option Value → sm_W → Prop} (hJ : JS wd) (hi : i < 256) {y1 : Int32} (h1 : xs[i + 1]? = some y1) {y2 : Int32} (h2 : xs[i + 2]? = some y2) {y3 : Int32} (h3 : xs[i + 3]? = some y3) (hQ : ∀ w3, JS w3 → RT xs 8 188 915 [some (.ref 1000004), some (.ref 0), some (.ref 22), some (.int (nI i))] [] w3 Q) : RT xs 8 188 892 [some (.ref 1000004), some (.ref 0), some (.ref 22), some (.int (nI i))] [] wd Q := by
  obtain ⟨fs, hrv⟩ := hJ.rv
  refine R_aload_n r_188_892 rfl (by decide) ?_
  refine R_aload_n r_188_893 rfl (by decide) ?_
  refine R_iload_n r_188_894 rfl ?_
  refine R_iconst r_188_895 (v := nI 1) rfl ?_
  refine R_iaddN r_188_896 ?_
  refine R_ialdX r_188_897 (sm_ixG h1 (by omega)) ?_
  refine R_call2 r_188_898 rfl (sm_rv1 rfl rfl hrv) (Nat.le_of_ble_eq_true rfl) (Nat.le_of_ble_eq_true rfl) ?_
  refine Ct.mono (jt_30 hJ) ?_
  rintro r w2 ⟨v, rfl, ⟨fs2, hv2⟩, hct⟩
  refine R_aload_n r_188_901 rfl (by decide) ?_
  refine R_aload_n r_188_902 rfl (by decide) ?_
  refine R_iload_n r_188_903 rfl ?_
  refine R_iconst r_188_904 (v := nI 1) rfl ?_
  refine R_iaddN r_188_905 ?_
  refine R_ialdX r_188_906 (sm_ixG h1 (by omega)) ?_
  refine R_call2 r_188_907 rfl (sm_rv1 rfl rfl hv2) (Nat.le_of_ble_eq_true rfl) (Nat.le_of_ble_eq_true rfl) ?_
  refine Ct.mono hct ?_
  rintro r2 w3 ⟨rfl, hJ3⟩
  exact R_icmpT r_188_910 (by decide) (by simp [sm_cnd]) (hQ w3 hJ3)
theorem law_sw {xs : List Int32} {wd : sm_W} {i : Nat} {y : Int32} {Q : Option Value → sm_W → Prop} (hJ : JS wd) (hi : i < 256) {y1 : Int32} (h1 : xs[i + 1]? = some y1) {y2 : Int32} (h2 : xs[i + 2]? = some y2) {y3 : Int32} (h3 : xs[i + 3]? = some y3) (hQ : ∀ w3, JS w3 → RT xs 8 188 915 [some (.ref 1000004), some (.ref 0), some (.ref 22), some (.int (nI i))] [] w3 Q) : RT xs 8 188 32 [some (.ref 1000004), some (.ref 0), some (.ref 22), some (.int (nI i))] [.int y] wd Q := by
  cases hy : inR y 31 with
  | false => exact R_tsOut r_188_32 (inR_out hy) (t := 915) (by decide) (hQ wd hJ)
  | true =>
    obtain ⟨q, hq, rfl⟩ := inR_of hy (by decide)
    clear hy
    match q, hq with
    | 0, _ => exact R_tsIn r_188_32 (by decide) (by rfl) (t := 172) (by decide) (lawc_0 hJ hi h1 h2 h3 hQ)
    | 1, _ => exact R_tsIn r_188_32 (by decide) (by rfl) (t := 195) (by decide) (lawc_1 hJ hi h1 h2 h3 hQ)
    | 2, _ => exact R_tsIn r_188_32 (by decide) (by rfl) (t := 208) (by decide) (lawc_2 hJ hi h1 h2 h3 hQ)
    | 3, _ => exact R_tsIn r_188_32 (by decide) (by rfl) (t := 221) (by decide) (lawc_3 hJ hi h1 h2 h3 hQ)
    | 4, _ => exact R_tsIn r_188_32 (by decide) (by rfl) (t := 234) (by decide) (lawc_4 hJ hi h1 h2 h3 hQ)
    | 5, _ => exact R_tsIn r_188_32 (by decide) (by rfl) (t := 267) (by decide) (lawc_5 hJ hi h1 h2 h3 hQ)
    | 6, _ => exact R_tsIn r_188_32 (by decide) (by rfl) (t := 300) (by decide) (lawc_6 hJ hi h1 h2 h3 hQ)
    | 7, _ => exact R_tsIn r_188_32 (by decide) (by rfl) (t := 323) (by decide) (lawc_7 hJ hi h1 h2 h3 hQ)
    | 8, _ => exact R_tsIn r_188_32 (by decide) (by rfl) (t := 346) (by decide) (lawc_8 hJ hi h1 h2 h3 hQ)
    | 9, _ => exact R_tsIn r_188_32 (by decide) (by rfl) (t := 379) (by decide) (lawc_9 hJ hi h1 h2 h3 hQ)
    | 10, _ => exact R_tsIn r_188_32 (by decide) (by rfl) (t := 402) (by decide) (lawc_10 hJ hi h1 h2 h3 hQ)
    | 11, _ => exact R_tsIn r_188_32 (by decide) (by rfl) (t := 435) (by decide) (lawc_11 hJ hi h1 h2 h3 hQ)
    | 12, _ => exact R_tsIn r_188_32 (by decide) (by rfl) (t := 468) (by decide) (lawc_12 hJ hi h1 h2 h3 hQ)
    | 13, _ => exact R_tsIn r_188_32 (by decide) (by rfl) (t := 501) (by decide) (lawc_13 hJ hi h1 h2 h3 hQ)
    | 14, _ => exact R_tsIn r_188_32 (by decide) (by rfl) (t := 524) (by decide) (lawc_14 hJ hi h1 h2 h3 hQ)
    | 15, _ => exact R_tsIn r_188_32 (by decide) (by rfl) (t := 547) (by decide) (lawc_15 hJ hi h1 h2 h3 hQ)
    | 16, _ => exact R_tsIn r_188_32 (by decide) (by rfl) (t := 560) (by decide) (lawc_16 hJ hi h1 h2 h3 hQ)
    | 17, _ => exact R_tsIn r_188_32 (by decide) (by rfl) (t := 583) (by decide) (lawc_17 hJ hi h1 h2 h3 hQ)
    | 18, _ => exact R_tsIn r_188_32 (by decide) (by rfl) (t := 606) (by decide) (lawc_18 hJ hi h1 h2 h3 hQ)
    | 19, _ => exact R_tsIn r_188_32 (by decide) (by rfl) (t := 619) (by decide) (lawc_19 hJ hi h1 h2 h3 hQ)
    | 20, _ => exact R_tsIn r_188_32 (by decide) (by rfl) (t := 642) (by decide) (lawc_20 hJ hi h1 h2 h3 hQ)
    | 21, _ => exact R_tsIn r_188_32 (by decide) (by rfl) (t := 675) (by decide) (lawc_21 hJ hi h1 h2 h3 hQ)
    | 22, _ => exact R_tsIn r_188_32 (by decide) (by rfl) (t := 698) (by decide) (lawc_22 hJ hi h1 h2 h3 hQ)
    | 23, _ => exact R_tsIn r_188_32 (by decide) (by rfl) (t := 731) (by decide) (lawc_23 hJ hi h1 h2 h3 hQ)
    | 24, _ => exact R_tsIn r_188_32 (by decide) (by rfl) (t := 744) (by decide) (lawc_24 hJ hi h1 h2 h3 hQ)
    | 25, _ => exact R_tsIn r_188_32 (by decide) (by rfl) (t := 767) (by decide) (lawc_25 hJ hi h1 h2 h3 hQ)
    | 26, _ => exact R_tsIn r_188_32 (by decide) (by rfl) (t := 800) (by decide) (lawc_26 hJ hi h1 h2 h3 hQ)
    | 27, _ => exact R_tsIn r_188_32 (by decide) (by rfl) (t := 823) (by decide) (lawc_27 hJ hi h1 h2 h3 hQ)
    | 28, _ => exact R_tsIn r_188_32 (by decide) (by rfl) (t := 866) (by decide) (lawc_28 hJ hi h1 h2 h3 hQ)
    | 29, _ => exact R_tsIn r_188_32 (by decide) (by rfl) (t := 879) (by decide) (lawc_29 hJ hi h1 h2 h3 hQ)
    | 30, _ => exact R_tsIn r_188_32 (by decide) (by rfl) (t := 892) (by decide) (lawc_30 hJ hi h1 h2 h3 hQ)
    | n + 31, h => exact absurd h (by omega)
theorem law_step {xs : List Int32} {wd : sm_W} {i : Nat} {Q : Option Value → sm_W → Prop} (hJ : JS wd) (hn : xs.length ≤ 256) (hi : i ≤ xs.length) (hQ : Q (some (.int 1)) wd) (hN : i + 4 ≤ xs.length → ∀ w3, JS w3 → RT xs 8 188 915 [some (.ref 1000004), some (.ref 0), some (.ref 22), some (.int (nI i))] [] w3 Q) : RT xs 8 188 18 [some (.ref 1000004), some (.ref 0), some (.ref 22), some (.int (nI i))] [] wd Q := by
  refine R_iload_n r_188_18 rfl ?_
  refine R_aload_n r_188_19 rfl (by decide) ?_
  refine R_alenX r_188_20 ?_
  refine R_iconst r_188_21 (v := nI 4) rfl ?_
  refine R_isub r_188_22 ?_
  refine R_icmp_gt r_188_23 (by decide) (fun _ => ?_) (fun hh => ?_)
  · refine R_iconst r_188_921 (v := 1) rfl ?_
    exact R_iret r_188_922 (ty := .boolean) rfl (by decide) (by decide) hQ
  · have h4 := lt4 hi hn hh
    obtain ⟨y0, h0⟩ : ∃ y, xs[i]? = some y := ⟨_, List.getElem?_eq_getElem (by omega)⟩
    obtain ⟨y1, h1⟩ : ∃ y, xs[i + 1]? = some y := ⟨_, List.getElem?_eq_getElem (by omega)⟩
    obtain ⟨y2, h2⟩ : ∃ y, xs[i + 2]? = some y := ⟨_, List.getElem?_eq_getElem (by omega)⟩
    obtain ⟨y3, h3⟩ : ∃ y, xs[i + 3]? = some y := ⟨_, List.getElem?_eq_getElem (by omega)⟩
    refine R_aload_n r_188_26 rfl (by decide) ?_
    refine R_iload_n r_188_27 rfl ?_
    refine R_ialdX r_188_28 (sm_ixG h0 (by omega)) ?_
    refine R_bipush r_188_29 (v := nI 31) rfl ?_
    refine R_iand r_188_31 ?_
    exact law_sw hJ (by omega) h1 h2 h3 (hN h4)
theorem law_loop {xs : List Int32} (hn : xs.length ≤ 256) : ∀ (k i : Nat) (wd : sm_W), xs.length ≤ i + k → i ≤ xs.length → JS wd → RT xs 8 188 18 [some (.ref 1000004), some (.ref 0), some (.ref 22), some (.int (nI i))] [] wd (fun r w => r = some (.int 1) ∧ JS w)
  | 0, i, wd, hk, hi, hJ => law_step hJ hn hi ⟨rfl, hJ⟩ (fun h4 => by exfalso; omega)
  | k + 1, i, wd, hk, hi, hJ => law_step hJ hn hi ⟨rfl, hJ⟩ (fun h4 w3 hJ3 => by
    refine R_iinc4 r_188_915 rfl rfl ?_
    refine R_goto r_188_918 (by decide) ?_
    exact law_loop hn k (i + 4) w3 (by omega) h4 hJ3)
theorem frm_app {w : sm_W} (hl : w.length = 22) : frm 22 40 w (w ++ T19) := by
  intro k hk
  rcases hk with h | h
  · exact List.getElem?_append_left (by omega)
  · rw [List.getElem?_eq_none (by rw [List.length_append, hl]; show 22 + 19 ≤ k; omega), List.getElem?_eq_none (by omega)]
theorem JS_first {w w2 : sm_W} (hl : w.length = 22) (hX : cX w [] I1 FI [] [] []) (hM : mX w2 [] I1 FI [] [] []) (hf : frm 22 40 (w ++ T19) w2) : JS w2 := by
  obtain ⟨e, he⟩ := hM.e40
  refine ⟨[], I1, FI, [], [], [], (hX.far (frm_app hl)).far hf, hM, I1_wf, cbl_wf I1_wfD (by decide +kernel), fun x hx => absurd hx (by simp), fun x hx => absurd hx (by simp), sn_nil, ?_⟩
  exact len_of (b := 40) (wd := w ++ T19) (by rw [List.length_append, hl]; rfl) rfl (frm.wide hf (by decide) (by decide)) he
theorem law_run {xs : List Int32} (hn : xs.length ≤ 256) : RT xs 8 188 0 (sm_ent 4 [.ref 1000004]) [] [] (fun r w => r = some (.int 1) ∧ JS w) := by
  show RT xs 8 188 0 [some (.ref 1000004), none, none, none] [] [] _
  refine R_newO r_188_0 (by decide) (n := 0) rfl (by decide) ?_
  refine R_dup r_188_3 rfl ?_
  refine R_call1 r_188_4 rfl rfl (Nat.le_of_ble_eq_true rfl) (Nat.le_of_ble_eq_true rfl) ?_
  show Ct xs 7 0 [.ref 0] [objD 0] _
  refine c_init (d := 0) (fun w hX hl => ?_)
  show RT xs 8 188 7 _ [.ref 0] w _
  refine R_astore_n r_188_7 (by decide) rfl ?_
  refine R_newO r_188_8 (by decide) (n := 22) hl (by decide) ?_
  refine R_dup r_188_11 rfl ?_
  refine R_call1 r_188_12 rfl rfl (Nat.le_of_ble_eq_true rfl) (Nat.le_of_ble_eq_true rfl) ?_
  show Ct xs 7 128 [.ref 22] (w ++ [objD 7]) _
  refine m_init (d := 6) hl (fun w2 hM hf => ?_)
  show RT xs 8 188 15 _ [.ref 22] w2 _
  refine R_astore_n r_188_15 (by decide) rfl ?_
  refine R_iconst r_188_16 (v := nI 0) rfl ?_
  refine R_istore_n r_188_17 rfl ?_
  exact law_loop hn xs.length 0 w2 (by omega) (by omega) (JS_first hl hX hM hf)
theorem law_ok (xl : List Int32) (hL : xl.length ≤ 256) : ∃ (f : Nat) (wd' : sm_W), sm_run xl f 8 188 0 (sm_ent 4 [.ref 1000004]) [] [] = some (some (.int 1), wd') ∧ wd'.length ≤ 600000 ∧ sm_sz wd' ≤ 7302250 := by
  obtain ⟨f, ⟨r, wd'⟩, hq, h1, h2⟩ := law_run hL
  have h1 : r = some (.int 1) := h1
  subst h1
  exact ⟨f, wd', hq, h2.sz⟩
