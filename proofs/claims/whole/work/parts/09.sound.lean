/-! THE SMALL MACHINE IS SOUND: a run of it that ends is a contract of the real method -/
theorem sm_jump_wd {en : sm_I} {pc : Nat} {L : sm_L} {st : List Value} {wd : sm_W} {q : Nat × sm_L × List Value × sm_W} (h : sm_jump en pc L st wd = some q) : q.2.2.2 = wd := by
  unfold sm_jump at h
  (repeat' split at h) <;> first | (cases h; done) | (cases h; rfl)
theorem sm_loc_wd {ml : Nat} {en : sm_I} {pc : Nat} {L : sm_L} {st : List Value} {wd : sm_W} {q : Nat × sm_L × List Value × sm_W} (h : sm_loc ml en pc L st wd = some q) : q.2.2.2 = wd := by
  unfold sm_loc at h
  (repeat' split at h) <;> first | (cases h; done) | (cases h; rfl) | (obtain ⟨L', h1, h2⟩ := Option.map_eq_some_iff.mp h; subst h2; rfl)
theorem sm_mem_mono {xs : List Int32} {d : Nat} {en : sm_I} {pc : Nat} {L : sm_L} {st : List Value} {wd : sm_W} {q : Nat × sm_L × List Value × sm_W} (h : sm_mem xs d en pc L st wd = some q) : wd.length ≤ q.2.2.2.length ∧ sm_sz wd ≤ sm_sz q.2.2.2 := by
  unfold sm_mem at h
  (repeat' split at h) <;> first
    | (cases h; done)
    | (cases h; exact ⟨Nat.le_refl _, Nat.le_refl _⟩)
    | (cases h; exact ⟨by rw [List.length_append]; exact Nat.le_add_right _ _, by rw [sm_sz_app]; exact Nat.le_add_right _ _⟩)
    | (cases h; exact ⟨by rw [List.length_set]; exact Nat.le_refl _, Nat.le_of_eq (sm_sz_set (by assumption) (by simp [sm_sz1])).symm⟩)
theorem sm_step_mono {xs : List Int32} {d ml : Nat} {en : sm_I} {pc : Nat} {L : sm_L} {st : List Value} {wd : sm_W} {q : Nat × sm_L × List Value × sm_W} (h : sm_step xs d ml en pc L st wd = some q) : wd.length ≤ q.2.2.2.length ∧ sm_sz wd ≤ sm_sz q.2.2.2 := by
  unfold sm_step at h
  split at h
  · obtain ⟨st', h1, h2⟩ := Option.map_eq_some_iff.mp h
    subst h2
    exact ⟨Nat.le_refl _, Nat.le_refl _⟩
  · rw [sm_jump_wd h]; exact ⟨Nat.le_refl _, Nat.le_refl _⟩
  · rw [sm_loc_wd h]; exact ⟨Nat.le_refl _, Nat.le_refl _⟩
  · exact sm_mem_mono h
theorem sm_run_mono (xs : List Int32) : ∀ (f d j pc : Nat) (L : sm_L) (st : List Value) (wd : sm_W) (q : Option Value × sm_W), sm_run xs f d j pc L st wd = some q → wd.length ≤ q.2.length ∧ sm_sz wd ≤ sm_sz q.2 := by
  intro f
  induction f with
  | zero => intro d j pc L st wd q h; cases h
  | succ f ih =>
    intro d j pc L st wd q h
    unfold sm_run at h
    split at h
    · cases h
    · split at h
      · split at h
        · cases h
        · split at h
          · split at h
            · cases h
            · rename_i q1 h1
              have a1 := ih _ _ _ _ _ _ _ h1
              have a2 := ih _ _ _ _ _ _ _ h
              exact ⟨Nat.le_trans a1.1 a2.1, Nat.le_trans a1.2 a2.2⟩
          · cases h
      · split at h
        · cases h
          exact ⟨Nat.le_refl _, Nat.le_refl _⟩
        · split at h
          · cases h
          · rename_i q1 h1
            have a1 := sm_step_mono h1
            have a2 := ih _ _ _ _ _ _ _ h
            exact ⟨Nat.le_trans a1.1 a2.1, Nat.le_trans a1.2 a2.2⟩
theorem sm_exp_len {g : sm_G} (hf : sm_fv g) : ∀ as : List Value, (lg_sl (as.map (sm_up g))).length = (sm_exp as).length
  | [] => rfl
  | v :: r => by
    have ih := sm_exp_len hf r
    simp only [lg_sl] at ih ⊢
    rw [List.map_cons, List.flatMap_cons, List.length_append, ih, sm_up_cat hf, show sm_exp (v :: r) = if v.category = 2 then some v :: none :: sm_exp r else some v :: sm_exp r from rfl]
    split <;> simp <;> omega
theorem sm_exp_in {g : sm_G} (hf : sm_fv g) : ∀ (as : List Value) (k i : Nat) (v : Value), (sm_exp as)[i]? = some (some v) → (k + i, sm_up g v) ∈ lv_args k (as.map (sm_up g))
  | [], k, i, v, h => by simp [sm_exp] at h
  | w :: r, k, i, v, h => by
    unfold sm_exp at h
    rw [List.map_cons]
    unfold lv_args
    rw [sm_up_cat hf]
    split at h
    · rename_i hc
      rw [if_pos hc]
      match i, h with
      | 0, h =>
        have h : w = v := by simpa using h
        subst h
        exact List.mem_cons_self
      | 1, h => simp at h
      | i + 2, h =>
        have := sm_exp_in hf r (k + 2) i v (by simpa using h)
        rw [show k + 2 + i = k + (i + 2) by omega] at this
        exact List.mem_cons_of_mem _ this
    · rename_i hc
      rw [if_neg hc]
      match i, h with
      | 0, h =>
        have h : w = v := by simpa using h
        subst h
        exact List.mem_cons_self
      | i + 1, h =>
        have := sm_exp_in hf r (k + 1) i v (by simpa using h)
        rw [show k + 1 + i = k + (i + 1) by omega] at this
        exact List.mem_cons_of_mem _ this
theorem sm_ent_lv {g : sm_G} (hf : sm_fv g) {as : List Value} {n : Nat} (h : (sm_exp as).length ≤ n) : sm_lv g ((lg_sl (as.map (sm_up g)) ++ List.replicate (n - (lg_sl (as.map (sm_up g))).length) Slot.unset).toArray) n (sm_ent n as) := by
  have h1 := lv_entry (as.map (sm_up g)) (n := n) (by rw [sm_exp_len hf]; exact h)
  refine ⟨h1.1, h1.2.1, by simp [sm_ent]; omega, fun i v hi => ?_⟩
  unfold sm_ent at hi
  by_cases hl : i < (sm_exp as).length
  · rw [List.getElem?_append_left hl] at hi
    have := sm_exp_in hf as 0 i v hi
    rw [Nat.zero_add] at this
    exact h1.2.2 _ this
  · rw [List.getElem?_append_right (by omega)] at hi
    have := List.mem_of_getElem? hi
    rw [List.mem_replicate] at this
    cases this.2
def sm_rm (d mc ms : Nat) : Room := { frames := d, cells := mc, slots := ms, locals := 43 * d }
def sm_Pc (g : sm_G) (D : va_G) (xs : List Int32) (as : List Value) (wd : sm_W) : Array Value → State → Prop := fun v U => v = (as.map (sm_up g)).toArray ∧ sm_RW g D wd U.heap ∧ va_K D sm_cl (sm_tys g) U ∧ sm_Fx g xs U U.heap ∧ g.1 ≤ U.heap.size
def sm_Qc (g : sm_G) (D : va_G) (q : Option Value × sm_W) : Array Value → State → Outcome → State → Prop := fun _ st oc t => (oc = .returned (q.1.map (sm_up g)) ∧ sm_RW g D q.2 t.heap) ∧ va_F (sm_A g) st t
def sm_Wok (l : Launch) (xs : List Int32) (g : sm_G) (D : va_G) (f : Nat) : Prop := ∀ (d j pc : Nat) (L : sm_L) (st : List Value) (wd : sm_W) (q : Option Value × sm_W), j < sm_N + 1 → sm_run xs f d j pc L st wd = some q →
  ∀ (p : Program) (e : Env) (R : Room) (s : State) (m : MethodId) (args : Array Value) (below : List Frame) (meth : Method) (c : Code) (H : Heap) (locs : List Loc) (cells slots : Nat) (Q : State → Prop) (ls : Array Slot) (mc ms : Nat),
  sm_C g D xs p d j R s m args meth c → sm_RW g D wd H → va_S (sm_A g) s.heap H locs → sm_lv g ls (sm_ml j) L →
  cells + q.2.length ≤ mc + wd.length → slots + sm_sz q.2 ≤ ms + sm_sz wd → mc ≤ R.cells → ms ≤ R.slots →
  (∀ (pc' : Nat) (i : Instr) (st' : List Value) (H' : Heap) (locs' : List Loc) (ls' : Array Slot), decode (sm_b j) pc' = .ok (i, 1) → sm_ret j i st' = some q.1 → sm_RW g D q.2 H' → va_S (sm_A g) s.heap H' locs' → W p l e R s m args below meth c H' locs' mc ms Q (F0 m pc' ls' (st'.map (sm_up g)))) →
  W p l e R s m args below meth c H locs cells slots Q (F0 m pc ls (st.map (sm_up g)))
theorem sm_okM_at {j : Nat} (h : j < sm_N) : Cond.code (sm_y j) (sm_b j) (sm_ml j) (sm_rt j) ∈ lw_tblG ∧ Cond.initialized (sm_y j).cls ∈ lw_tblG ∧
    (sm_kd j = 0 → Cond.static (sm_y j) ∈ lw_tblG) ∧ (sm_kd j = 1 → Cond.instanceMethod (sm_y j) ∈ lw_tblG ∧ Cond.selects (sm_y j).cls (sm_y j) (sm_y j) ∈ lw_tblG ∧ sm_cn (sm_ci j) = (sm_y j).cls ∧ sm_ci j < 8) ∧
    (sm_kd j = 2 → Cond.instanceMethod (sm_y j) ∈ lw_tblG ∧ (sm_y j).name = "<init>" ∧ sm_rt j = none) ∧ (sm_kd j = 3 → Cond.instanceMethod (sm_y j) ∈ lw_tblG ∧ Cond.selects (sm_y j).cls (sm_y j) (sm_y j) ∈ lw_tblG ∧ (sm_y j).cls = "java/lang/String") ∧
    ((sm_y j).cls ≠ "java/lang/invoke/MethodHandle" ∧ (sm_y j).cls ≠ "java/lang/invoke/VarHandle" ∧ (parseMethodDescriptor (sm_y j).desc).map (fun d => d.parameters.length) = some (sm_na j)) ∧ plainName (sm_y j).cls = true ∧ sm_ml j ≤ 24 := by
  have h1 := sm_okM_all h
  simp only [sm_okM, Bool.and_eq_true, decide_eq_true_eq] at h1
  obtain ⟨⟨⟨⟨⟨⟨⟨h2, h3⟩, h4⟩, h5⟩, h6⟩, h7⟩, h8⟩, h9⟩ := h1
  refine ⟨lw_inG (sm_at_in h2) rfl, lw_inG (sm_at_in h3) rfl, fun z => ?_, fun z => ?_, fun z => ?_, fun z => ?_, ⟨h5, h6, h9⟩, h7, h8⟩
  · rw [z] at h4
    exact lw_inG (sm_at_in h4) rfl
  · rw [z] at h4
    simp only [Bool.and_eq_true, decide_eq_true_eq] at h4
    exact ⟨lw_inG (sm_at_in h4.1.1.1) rfl, lw_inG (sm_at_in h4.1.1.2) rfl, h4.1.2, h4.2⟩
  · rw [z] at h4
    simp only [Bool.and_eq_true, decide_eq_true_eq] at h4
    exact ⟨lw_inG (sm_at_in h4.1.1) rfl, h4.1.2, h4.2⟩
  · rw [z] at h4
    simp only [Bool.and_eq_true, decide_eq_true_eq] at h4
    exact ⟨lw_inG (sm_at_in h4.1.1) rfl, lw_inG (sm_at_in h4.1.2) rfl, h4.2⟩
theorem sm_met_of {l : Launch} {xs : List Int32} {g : sm_G} {D : va_G} {f : Nat} (h : sm_Wok l xs g D f) {d j : Nat} {as : List Value} {wd : sm_W} {q : Option Value × sm_W} (hf : sm_fv g) (hj : j < sm_N) (hr : sm_run xs f d j 0 (sm_ent (sm_ml j) as) [] wd = some q) (hlen : (sm_exp as).length ≤ sm_ml j) :
    Met l (sm_y j) (Cond.code (sm_y j) (sm_b j) (sm_ml j) (sm_rt j) :: lw_tblG) (sm_rm d (q.2.length - wd.length) (sm_sz q.2 - sm_sz wd)) (sm_Pc g D xs as wd) (sm_Qc g D q) (q.2.length - wd.length) (sm_sz q.2 - sm_sz wd) (sm_A g) := by
  have hM := sm_okM_at hj
  have hmono := sm_run_mono xs _ _ _ _ _ _ _ _ hr
  refine Met.ofW (cc := sm_b j) (maxL := sm_ml j) (ret := sm_rt j) hM.2.2.2.2.2.2.2.1 rfl ?_
  intro p e s m args below meth c s₁ B hml hv
  obtain ⟨rfl, hRW, hK, hFx, hgs⟩ := hv
  have hts := atoms_spec (ws := Cond.code (sm_y j) (sm_b j) (sm_ml j) (sm_rt j) :: lw_tblG) B.pre
  rw [lg_entry_eq]
  refine h d j 0 _ [] wd q (by omega) hr p e _ s m _ below meth c s.heap [] 0 0 _ _ (q.2.length - wd.length) (sm_sz q.2 - sm_sz wd) ⟨B.exec, B.bytes, hml, findClass_of_methodNamed B.named, fun w hw => hts w (List.mem_cons_of_mem _ hw), hK, hFx, hgs, Nat.le_refl _, Nat.le_refl _, fun hi => (name_of_methodNamed B.named B.method).1.trans hi⟩ hRW va_S.rf (sm_ent_lv hf hlen) (by omega) (by omega) (Nat.le_refl _) (Nat.le_refl _) ?_
  intro pc' i st' H' locs' ls' hd hret hRW' hS'
  have hq : ∀ t : State, t.heap = H' → s.WarmedH t.vm → sm_Qc g D q (as.map (sm_up g)).toArray s (.returned (q.1.map (sm_up g))) t := fun t ht _ => ⟨⟨rfl, by rw [ht]; exact hRW'⟩, hS'.F ht⟩
  obtain ⟨q1, q2⟩ := q
  unfold sm_ret at hret
  split at hret
  · split at hret
    · split at hret
      · rename_i v ty hty
        split at hret
        · rename_i hc
          cases hret
          exact W.zret B.exec B.bytes (B.returns.trans hty) hc.1 hq hS'.2.2 hd B.notSynchronized
        · cases hret
      · cases hret
    · cases hret
  · split at hret
    · split at hret
      · rename_i v hty
        cases hret
        exact W.lret B.exec B.bytes (B.returns.trans hty) hq hS'.2.2 hd B.notSynchronized
      · cases hret
    · cases hret
  · split at hret
    · split at hret
      · rename_i hty
        cases hret
        exact W.vret B.exec B.bytes (B.returns.trans hty) hq hS'.2.2 hd B.notSynchronized
      · cases hret
    · cases hret
  · cases hret
