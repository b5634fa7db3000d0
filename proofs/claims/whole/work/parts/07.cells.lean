/-! locals, constants and cells: each step of the small machine is one of the real one -/
/-- a text's constant, by ldc_w: as the kit's row for ldc -/
theorem sm_ldcwT {p : Program} {l : Launch} {e : Env} {R : Room} {s : State} {m : MethodId} {args : Array Value} {below : List Frame} {meth : Method} {c : Code} {locs : List Loc} {cells slots : Nat} {T : State} (X : Stand p l e R s m args below meth c T locs cells slots) (hexec : p.tables.exec = Jvm.exec) {own text : String} {index q : Nat} (hown : s.vm.findClass own = some m.cls) (hconst : (Cond.stringRef own index text).before args s = true) (hev : (Term.string own index).eval args s none [] s = some (.ref q)) {g : JFrame} (hg : g.method = m) (hdg : decode c.code g.pc = .ok (.ldc_w index, 3)) :
    ∀ target, Steps p.tables e below (T.setTop { g with pc := g.pc + 3, stack := .ref q :: g.stack }) target → Steps p.tables e below (T.setTop g) target := by
  obtain ⟨k, cf, i, a', hk, hcf, hcp, -, hr, hev'⟩ := Cond.stringRef_spec hown hconst
  cases hev.symm.trans hev'
  obtain ⟨k', hk', he⟩ := X.warmed.alike.2.2 _ _ hk
  have hr' : k'.resolved[index]? = some (some (.string q)) := by
    rcases X.warmed.entry hk hk' index with h | ⟨h, -⟩
    · rw [h]; exact hr
    · rw [hr] at h; cases h
  intro target hrest
  subst hg
  jvm_step X.here [hexec, hdg, ldc_w.wp_string (e := e) (s := T) (f := g) X.here.top hk' (by rw [he]; exact hcf) hcp hr']
  exact hrest
theorem sm_ldcwS {p : Program} {l : Launch} {e : Env} {R : Room} {s : State} {m : MethodId} {args : Array Value} {below : List Frame} {meth : Method} {c : Code} {H : Heap} {locs : List Loc} {cells slots : Nat} {Q : State → Prop} {cc : ByteArray} {pc : Nat} {ls : Array Slot} {rest : List Value} (hexec : p.tables.exec = Jvm.exec) (hb : c.code = cc) {own tx : String} {index q : Nat} (hown : s.vm.findClass own = some m.cls) (hZ : vk_R own index tx q s) (hdg : decode cc pc = .ok (.ldc_w index, 3))
    (k : W p l e R s m args below meth c H locs cells slots Q (F0 m (pc + 3) ls (.ref q :: rest))) : W p l e R s m args below meth c H locs cells slots Q (F0 m pc ls rest) := by
  intro T hT X
  obtain ⟨t, a1, b1⟩ := k T hT X
  exact ⟨t, sm_ldcwT X hexec hown (text := tx) (q := q) hZ.1 hZ.2 (g := F0 m pc ls rest) rfl (by rw [hb]; exact hdg) t a1, b1⟩
def sm_tx : String := "i0,1,0,2;i0,3,0,1;i1,1,0,0;i2,0,1,3;i2,2,5,1;i2,0,4,0;i3,3,0,4;i0,0,0,2;b2;b3;d4;m6;h5;s3;"
/-- what lies in the heap for good: the text, the statics, the script -/
def sm_Fx (g : sm_G) (xs : List Int32) (U : State) (H : Heap) : Prop :=
  va_O "java/lang/String" g.2.1 (sm_A g) U H ∧ va_OF "java/lang/String" "coder" "B" (.int 0) g.2.1 (sm_A g) U H ∧ va_OF "java/lang/String" "value" "[B" (.ref g.2.2.1) g.2.1 (sm_A g) U H ∧
  va_T .byte g.2.2.1 sm_text.length (fun j => .int (sm_text.getD j 0)) (sm_A g) U H ∧ va_Z "java/lang/String" "COMPACT_STRINGS" "Z" (.int 1) (sm_A g) U H ∧
  va_Z "jdk/internal/util/Preconditions" "SIOOBE_FORMATTER" "Ljava/util/function/BiFunction;" g.2.2.2.1 (sm_A g) U H ∧ vk_R "LeavingVote" 258 sm_tx g.2.1 U ∧
  va_Nw (.methodLinkNest "LeavingVote$Night" 71 ⟨"LeavingVote", "lowest", "(II)I"⟩ "LeavingVote") U ∧ va_Nw (.methodLinkNest "LeavingVote$Standing" 19 ⟨"LeavingVote", "oneIf", "(Z)I"⟩ "LeavingVote") U ∧
  va_X g.2.2.2.2.1 xs.length (fun j => xs.getD j 0) U H ∧ g.2.2.2.2.1 < H.size ∧ g.2.2.2.2.1 < g.1 ∧ sm_fv g
theorem sm_Fx.mv {g : sm_G} {xs : List Int32} {s U : State} {H : Heap} (h : sm_Fx g xs s s.heap) (hW : s.WarmedH U.vm) (hz : s.heap.size ≤ H.size) (hk : ∀ q : Nat, q < s.heap.size → ¬ sm_A g q → H[q]? = s.heap[q]?) : sm_Fx g xs U H := by
  obtain ⟨h1, h2, h3, h4, h5, h6, h7, h8, h9, h10, h11, h12, h13⟩ := h
  have hv := hW.alike
  exact ⟨va_O.moved hv (h1.kept hk), va_OF.moved hv (h2.kept hk), va_OF.moved hv (h3.kept hk), va_T.moved hv (h4.kept hk), va_Z.moved hv (h5.kept hk), va_Z.moved hv (h6.kept hk), vk_R.warm hW h7, va_Nw.warmM hW h8, va_Nw.warmM hW h9, va_X.moved hv (h10.kept (hk _ h11 (Nat.not_le.mpr h12))), Nat.lt_of_lt_of_le h11 hz, h12, h13⟩
theorem sm_Fx.calling {g : sm_G} {xs : List Int32} {U : State} {jf : JFrame} {mk : MethodId} {a : Array Value} (h : sm_Fx g xs U U.heap) : sm_Fx g xs (U.calling jf mk a) (U.calling jf mk a).heap := by
  obtain ⟨h1, h2, h3, h4, h5, h6, h7, h8, h9, h10, h11, h12, h13⟩ := h
  have hv : U.vm.Alike (U.calling jf mk a).vm := Vm.Alike.refl U.vm
  exact ⟨va_O.moved hv h1, va_OF.moved hv h2, va_OF.moved hv h3, va_T.moved hv h4, va_Z.moved hv h5, va_Z.moved hv h6, vk_R.same (u := U) rfl h7, va_Nw.same (u := U) rfl rfl h8, va_Nw.same (u := U) rfl rfl h9, va_X.moved hv h10, h11, h12, h13⟩
/-- what holds while a method of the tables runs -/
def sm_C (g : sm_G) (D : va_G) (xs : List Int32) (p : Program) (d j : Nat) (R : Room) (s : State) (m : MethodId) (args : Array Value) (meth : Method) (c : Code) : Prop :=
  p.tables.exec = Jvm.exec ∧ c.code = sm_b j ∧ c.maxLocals = sm_ml j ∧ s.vm.findClass (sm_y j).cls = some m.cls ∧ (∀ w ∈ lw_tblG, w.before args s = true) ∧ va_K D sm_cl (sm_tys g) s ∧ sm_Fx g xs s s.heap ∧ g.1 ≤ s.heap.size ∧ d ≤ R.frames ∧ 43 * d ≤ R.locals ∧ ((sm_y j).name = "<init>" → meth.name = "<init>")
def sm_Ok (j pc : Nat) (en : sm_I) : Prop := sm_okR j en = true ∧ ∃ n, decode (sm_b j) pc = .ok (en.1, n) ∧ (sm_sw en.1 = false → n = sm_len en.1)
theorem sm_ic_ok {j pc : Nat} {en : sm_I} (hj : j < sm_N + 1) (h : sm_ic j pc = some en) : sm_Ok j pc en := by
  have h1 := sm_okC_all hj
  have h2 : pc < (sm_cs.getD j []).length := by
    unfold sm_ic at h
    split at h
    · rename_i e he
      exact (List.getElem?_eq_some_iff.mp he).1
    · cases h
  have h3 := List.all_eq_true.mp h1 pc (List.mem_range.mpr h2)
  unfold sm_okP at h3
  rw [h] at h3
  simp only [sm_okE, Bool.and_eq_true] at h3
  refine ⟨h3.2, ?_⟩
  have h4 := h3.1
  split at h4
  · rename_i i n hd
    simp only [Bool.and_eq_true, decide_eq_true_eq, Bool.or_eq_true, beq_iff_eq] at h4
    obtain ⟨h5, h6⟩ := h4
    subst h5
    exact ⟨n, hd, fun z => by rw [z] at h6; simpa using h6⟩
  · cases h4
def sm_sz1 (e : sm_E) : Nat := match e with
  | .inl (_, l) => l.length
  | .inr (.inl l) => l.length
  | .inr (.inr (_, fs)) => fs.length
def sm_sz (wd : sm_W) : Nat := (wd.map sm_sz1).sum
theorem sm_sz_set : ∀ {wd : sm_W} {k : Nat} {e0 e : sm_E}, wd[k]? = some e0 → sm_sz1 e = sm_sz1 e0 → sm_sz (wd.set k e) = sm_sz wd
  | [], k, e0, e, h, _ => by simp at h
  | a :: r, 0, e0, e, h, h1 => by
    have h : a = e0 := by simpa using h
    subst h
    simp [sm_sz, h1]
  | a :: r, k + 1, e0, e, h, h1 => by
    have := sm_sz_set (wd := r) (k := k) (e0 := e0) (e := e) h h1
    simp only [sm_sz, List.set_cons_succ, List.map_cons, List.sum_cons] at this ⊢
    omega
theorem sm_sz_app (wd : sm_W) (e : sm_E) : sm_sz (wd ++ [e]) = sm_sz wd + sm_sz1 e := by simp [sm_sz]
theorem sm_cl_at {ci : Nat} (h : ci < 8) : sm_cl[ci]? = some (sm_cn ci, sm_T ci, sm_nf ci) := by
  rcases (by omega : ci = 0 ∨ ci = 1 ∨ ci = 2 ∨ ci = 3 ∨ ci = 4 ∨ ci = 5 ∨ ci = 6 ∨ ci = 7) with rfl | rfl | rfl | rfl | rfl | rfl | rfl | rfl <;> rfl
theorem sm_okI_at {ci : Nat} (h : ci < 8) : Cond.instantiable (sm_cn ci) (sm_nf ci) ∈ lw_tblG ∧ Cond.initialized (sm_cn ci) ∈ lw_tblG ∧ (∀ w ∈ u_ws (sm_cn ci) (sm_T ci) (sm_nf ci), w ∈ lw_tblG) ∧ (∀ k, k < sm_nf ci → parseFieldDescriptor (sm_T ci k).2.2.1 = some (sm_ty ci k)) ∧ (∀ a, a < sm_nf ci → ∀ b, b < sm_nf ci → a ≠ b → (sm_T ci a).2.1 ≠ (sm_T ci b).2.1) := by
  have h1 := List.all_eq_true.mp sm_okI_all ci (List.mem_range.mpr h)
  simp only [sm_okI, Bool.and_eq_true] at h1
  obtain ⟨⟨h2, h3⟩, h4⟩ := h1
  have h5 : ∀ k, k < sm_nf ci → sm_okL ci k = true := fun k hk => List.all_eq_true.mp h4 k (List.mem_range.mpr hk)
  refine ⟨lw_inG (sm_at_in h2) rfl, lw_inG (sm_at_in h3) rfl, fun w hw => ?_, fun k hk => ?_, fun a ha b hb hab => ?_⟩
  · obtain ⟨k, hk, rfl⟩ := List.mem_map.mp hw
    have h6 := h5 k (List.mem_range.mp hk)
    simp only [sm_okL, Bool.and_eq_true] at h6
    exact lw_inG (sm_at_in h6.1.1) (by unfold u_lay; split <;> rfl)
  · have h6 := h5 k hk
    simp only [sm_okL, Bool.and_eq_true, decide_eq_true_eq] at h6
    exact h6.1.2
  · have h6 := h5 a ha
    simp only [sm_okL, Bool.and_eq_true] at h6
    have h7 := List.all_eq_true.mp h6.2 b (List.mem_range.mpr hb)
    simp only [Bool.or_eq_true, decide_eq_true_eq] at h7
    exact h7.resolve_left hab
theorem sm_RW.set {g : sm_G} {D : va_G} {wd : sm_W} {H H1 : Heap} {k : Nat} {e0 e : sm_E} (h : sm_RW g D wd H) (hk : wd[k]? = some e0) (he : va_at D sm_cl (g.1 + k, sm_rE g e) H1) (hz : H1.size = H.size) (oq : ∀ q : Nat, q ≠ g.1 + k → H1[q]? = H[q]?) : sm_RW g D (wd.set k e) H1 := by
  refine ⟨by rw [hz, List.length_set]; exact h.1, by rw [List.length_set]; exact h.2.1, ?_⟩
  rw [sm_rW_set]
  exact h.2.2.set (sm_rW_D g wd) (sm_rW_get hk) he oq
theorem sm_RW.app {g : sm_G} {D : va_G} {wd : sm_W} {H H1 : Heap} {e : sm_E} (h : sm_RW g D wd H) (hl : wd.length < 1000000) (he : va_at D sm_cl (g.1 + wd.length, sm_rE g e) H1) (hz : H1.size = H.size + 1) (oq : ∀ q : Nat, q < H.size → H1[q]? = H[q]?) : sm_RW g D (wd ++ [e]) H1 := by
  refine ⟨by rw [hz, h.1, List.length_append]; rfl, by rw [List.length_append]; exact hl, ?_⟩
  rw [sm_rW_app]
  refine (h.2.2.kept fun k x hx => oq x.1 ((h.2.2 k x hx).lt)).app (fun k x hx => ?_)
  have hz : k < 1 := (List.getElem?_eq_some_iff.mp hx).1
  rw [show k = 0 by omega] at hx
  cases hx
  exact he
theorem sm_RW.lo {g : sm_G} {D : va_G} {wd : sm_W} {H : Heap} {k : Nat} {e : sm_E} (h : sm_RW g D wd H) (hk : wd[k]? = some e) : k < 1000000 := Nat.lt_of_lt_of_le (List.getElem?_eq_some_iff.mp hk).1 h.2.1
theorem sm_ix_ok {l : List Int32} {i x : Int32} (h : sm_ix l i = some x) : vp_in i l.length ∧ l.getD i.toNatClampNeg 0 = x := by
  unfold sm_ix at h
  split at h
  · cases h
  · rename_i hi
    obtain ⟨h1, h2⟩ := List.getElem?_eq_some_iff.mp h
    exact ⟨fun q => q.elim hi (fun q => absurd h1 (Nat.not_lt.mpr q)), by rw [List.getD_eq_getElem?_getD, h]; rfl⟩
theorem sm_ixl_ok {l : List Int64} {i : Int32} {x : Int64} (h : sm_ix l i = some x) : vp_in i l.length ∧ l.getD i.toNatClampNeg 0 = x := by
  unfold sm_ix at h
  split at h
  · cases h
  · rename_i hi
    obtain ⟨h1, h2⟩ := List.getElem?_eq_some_iff.mp h
    exact ⟨fun q => q.elim hi (fun q => absurd h1 (Nat.not_lt.mpr q)), by rw [List.getD_eq_getElem?_getD, h]; rfl⟩
theorem sm_getD_set {α : Type} {l : List α} {k : Nat} {x z : α} (h : k < l.length) (j : Nat) : (l.set k x).getD j z = if j = k then x else l.getD j z := by
  by_cases hj : j = k
  · subst hj
    rw [if_pos rfl, List.getD_eq_getElem?_getD, List.getElem?_set_self h]; rfl
  · rw [if_neg hj, List.getD_eq_getElem?_getD, List.getElem?_set_ne (Ne.symm hj), ← List.getD_eq_getElem?_getD]
theorem sm_up_fit {g : sm_G} (hf : sm_fv g) {ty : FieldType} {v : Value} (h1 : narrow ty v = v) (h2 : fits ty v = true) : narrow ty (sm_up g v) = sm_up g v ∧ fits ty (sm_up g v) = true := by
  cases v with
  | ref k =>
    have h3 : sm_up g (.ref k) = .null ∨ ∃ a, sm_up g (.ref k) = .ref a := by
      by_cases hk : k = 1000003
      · subst hk
        exact hf
      · exact Or.inr (sm_up_ref hk)
    rcases h3 with h3 | ⟨a, h3⟩ <;> rw [h3] <;> cases ty <;> first | exact ⟨rfl, rfl⟩ | (cases h2; done)
  | _ => exact ⟨h1, h2⟩
section SM2
variable {p : Program} {l : Launch} {e : Env} {R : Room} {s : State} {m : MethodId} {args : Array Value} {below : List Frame} {meth : Method} {c : Code} {H : Heap} {locs : List Loc} {cells slots : Nat} {Q : State → Prop}
variable {pc : Nat} {ls : Array Slot} {g : sm_G} {D : va_G} {xs : List Int32} {d j : Nat}
theorem sm_loc_ok (C : sm_C g D xs p d j R s m args meth c) {en : sm_I} {L : sm_L} {st : List Value} {wd : sm_W} {q : Nat × sm_L × List Value × sm_W} (h : sm_loc (sm_ml j) en pc L st wd = some q) (hE : sm_Ok j pc en) (hl : sm_lv g ls (sm_ml j) L)
    (k : ∀ ls', sm_lv g ls' (sm_ml j) q.2.1 → W p l e R s m args below meth c H locs cells slots Q (F0 m q.1 ls' (q.2.2.1.map (sm_up g)))) : q.2.2.2 = wd ∧ W p l e R s m args below meth c H locs cells slots Q (F0 m pc ls (st.map (sm_up g))) := by
  obtain ⟨hx, hb, hml, hown, hts, hK, hFx, -, -, -, -⟩ := C
  have hf : sm_fv g := hFx.2.2.2.2.2.2.2.2.2.2.2.2
  obtain ⟨i, ea, eb, ec⟩ := en
  obtain ⟨hR, n, hd, hn⟩ := hE
  unfold sm_loc at h
  dsimp only at h hd hn hR
  split at h <;> (try (have hn := hn rfl; subst hn))
  · cases h
    exact ⟨rfl, lv_iconst hx hb hd rfl (k ls hl)⟩
  · cases h
    exact ⟨rfl, lv_bipush hx hb hd rfl (k ls hl)⟩
  · cases h
    exact ⟨rfl, lv_sipush hx hb hd rfl (k ls hl)⟩
  · cases h
    exact ⟨rfl, lv_lconst hx hb hd rfl (k ls hl)⟩
  · cases h
    simp only [sm_okR, Bool.and_eq_true, decide_eq_true_eq] at hR
    obtain ⟨h1, h2⟩ := hR
    subst h2
    rw [h1] at hown
    exact ⟨rfl, va_ldcS hx hb hown hFx.2.2.2.2.2.2.1 hd (k ls hl)⟩
  · cases h
    simp only [sm_okR] at hR
    by_cases h0 : ec = 0
    · rw [if_pos h0] at hR
      rw [if_pos h0] at k
      simp only [Bool.and_eq_true, decide_eq_true_eq] at hR
      obtain ⟨h1, h2⟩ := hR
      subst h2
      rw [h1] at hown
      exact ⟨rfl, sm_ldcwS hx hb hown hFx.2.2.2.2.2.2.1 hd (k ls hl)⟩
    · rw [if_neg h0] at hR
      rw [if_neg h0] at k
      exact ⟨rfl, lv_ldcw hx hb hown (hts _ (lw_inG (sm_at_in hR) rfl)) hd (k ls hl)⟩
  · cases h
    exact ⟨rfl, lv_ldc2 hx hb hown (hts _ (lw_inG (sm_at_in hR) rfl)) hd (k ls hl)⟩
  · split at h
    · rename_i hq
      cases h
      exact ⟨rfl, lv_iload hx hb hd (hl.2.2.2 _ _ hq) (k ls hl)⟩
    · cases h
  · split at h
    · rename_i hq
      cases h
      exact ⟨rfl, lv_iload_n hx hb hd rfl (hl.2.2.2 _ _ hq) (k ls hl)⟩
    · cases h
  · split at h
    · rename_i hq
      cases h
      exact ⟨rfl, lv_lload hx hb hd (hl.2.2.2 _ _ hq) (k ls hl)⟩
    · cases h
  · split at h
    · rename_i hq
      cases h
      exact ⟨rfl, lv_lload_n hx hb hd rfl (hl.2.2.2 _ _ hq) (k ls hl)⟩
    · cases h
  · split at h
    · split at h
      · cases h
      · rename_i hq h3
        cases h
        obtain ⟨a, ha⟩ := sm_up_ref (g := g) h3
        have h4 := hl.2.2.2 _ _ hq
        rw [ha] at h4
        refine ⟨rfl, lv_aload hx hb hd h4 ?_⟩
        rw [← ha]
        exact k ls hl
    · cases h
  · split at h
    · split at h
      · cases h
      · rename_i hq h3
        cases h
        obtain ⟨a, ha⟩ := sm_up_ref (g := g) h3
        have h4 := hl.2.2.2 _ _ hq
        rw [ha] at h4
        refine ⟨rfl, lv_aload_n hx hb hd rfl h4 ?_⟩
        rw [← ha]
        exact k ls hl
    · cases h
  · split at h
    · obtain ⟨L', h1, h2⟩ := Option.map_eq_some_iff.mp h
      subst h2
      exact ⟨rfl, lv_istore hx hb hd hl.has (sm_st1_lt h1) rfl (fun ls' h' => k ls' (sm_st1_ok hf hl h1 rfl h'))⟩
    · cases h
  · split at h
    · obtain ⟨L', h1, h2⟩ := Option.map_eq_some_iff.mp h
      subst h2
      exact ⟨rfl, lv_istore_n hx hb hd rfl hl.has (sm_st1_lt h1) rfl (fun ls' h' => k ls' (sm_st1_ok hf hl h1 rfl h'))⟩
    · cases h
  · split at h
    · obtain ⟨L', h1, h2⟩ := Option.map_eq_some_iff.mp h
      subst h2
      exact ⟨rfl, lv_lstore hx hb hd hl.has (sm_st2_lt h1) rfl (fun ls' h' => k ls' (sm_st2_ok hf hl h1 rfl h'))⟩
    · cases h
  · split at h
    · obtain ⟨L', h1, h2⟩ := Option.map_eq_some_iff.mp h
      subst h2
      exact ⟨rfl, lv_lstore_n hx hb hd rfl hl.has (sm_st2_lt h1) rfl (fun ls' h' => k ls' (sm_st2_ok hf hl h1 rfl h'))⟩
    · cases h
  · split at h
    · split at h
      · cases h
      · rename_i h3
        obtain ⟨L', h1, h2⟩ := Option.map_eq_some_iff.mp h
        subst h2
        obtain ⟨a, ha⟩ := sm_up_ref (g := g) h3
        refine ⟨rfl, ?_⟩
        rw [List.map_cons, ha]
        exact lv_astore_n hx hb hd rfl hl.has (sm_st1_lt h1) rfl (fun ls' h' => k ls' (sm_st1_ok hf hl h1 (by rw [ha]) h'))
    · cases h
  · split at h
    · rename_i hq
      obtain ⟨L', h1, h2⟩ := Option.map_eq_some_iff.mp h
      subst h2
      have h4 := sm_as_in g L 0 _ _ hq
      rw [Nat.zero_add] at h4
      obtain ⟨t, ht⟩ := List.getElem?_of_mem h4
      exact ⟨rfl, lv_iinc hx hb hd hl.has ht rfl (sm_st1_lt h1) rfl (fun ls' h' => k ls' (sm_st1_ok hf hl h1 rfl h'))⟩
    · cases h
  · cases h
end SM2
