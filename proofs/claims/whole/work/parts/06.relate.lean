/-! the small machine's worlds and the real ones; stack, jumps and locals -/
abbrev sm_G : Type := Nat × Nat × Nat × Value × Nat × (Nat × Nat × Nat)
def sm_up (g : sm_G) (v : Value) : Value := match v with
  | .ref k => if k < 1000000 then .ref (g.1 + k) else if k = 1000001 then .ref g.2.1 else if k = 1000002 then .ref g.2.2.1 else if k = 1000003 then g.2.2.2.1 else .ref g.2.2.2.2.1
  | v => v
def sm_fv (g : sm_G) : Prop := g.2.2.2.1 = .null ∨ ∃ a, g.2.2.2.1 = .ref a
theorem sm_up_lo {g : sm_G} {k : Nat} (h : k < 1000000) : sm_up g (.ref k) = .ref (g.1 + k) := if_pos h
theorem sm_up_cat {g : sm_G} (hf : sm_fv g) (v : Value) : (sm_up g v).category = v.category := by
  cases v with
  | ref k =>
    unfold sm_up
    dsimp only
    split
    · rfl
    · split
      · rfl
      · split
        · rfl
        · split
          · rcases hf with h | ⟨a, h⟩ <;> rw [h] <;> rfl
          · rfl
  | _ => rfl
theorem sm_up_ref {g : sm_G} {k : Nat} (h : k ≠ 1000003) : ∃ a, sm_up g (.ref k) = .ref a := by
  unfold sm_up
  dsimp only
  split
  · exact ⟨_, rfl⟩
  · split
    · exact ⟨_, rfl⟩
    · split
      · exact ⟨_, rfl⟩
      · exact ⟨_, rfl⟩
def sm_rE (g : sm_G) (e : sm_E) : va_E := match e with
  | .inl (t, l) => .inl (if t = 0 then g.2.2.2.2.2.1 else g.2.2.2.2.2.2.1, l.length, .inl (fun j => l.getD j 0))
  | .inr (.inl l) => .inl (g.2.2.2.2.2.2.2, l.length, .inr (.inl (fun j => l.getD j 0)))
  | .inr (.inr (ci, fs)) => .inr (ci, fs.map (sm_up g))
def sm_rW (g : sm_G) (wd : sm_W) : va_W := wd.mapIdx (fun k e => (g.1 + k, sm_rE g e))
abbrev sm_A (g : sm_G) : Nat → Prop := fun q => g.1 ≤ q
def sm_tys (g : sm_G) : List (ClassId × FieldType) := [(g.2.2.2.2.2.1, .int), (g.2.2.2.2.2.2.1, .char), (g.2.2.2.2.2.2.2, .long)]
def sm_RW (g : sm_G) (D : va_G) (wd : sm_W) (H : Heap) : Prop := H.size = g.1 + wd.length ∧ wd.length ≤ 1000000 ∧ va_P D sm_cl (sm_rW g wd) H
theorem sm_rW_len (g : sm_G) (wd : sm_W) : (sm_rW g wd).length = wd.length := by simp [sm_rW]
theorem sm_rW_get {g : sm_G} {wd : sm_W} {k : Nat} {e : sm_E} (h : wd[k]? = some e) : (sm_rW g wd)[k]? = some (g.1 + k, sm_rE g e) := by
  simp [sm_rW, List.getElem?_mapIdx, h]
theorem sm_rW_of {g : sm_G} {wd : sm_W} {k : Nat} {q : Nat × va_E} (h : (sm_rW g wd)[k]? = some q) : ∃ e, wd[k]? = some e ∧ q = (g.1 + k, sm_rE g e) := by
  simp only [sm_rW, List.getElem?_mapIdx, Option.map_eq_some_iff] at h
  obtain ⟨e, h1, h2⟩ := h
  exact ⟨e, h1, h2.symm⟩
theorem sm_rW_set (g : sm_G) (wd : sm_W) (k : Nat) (e : sm_E) : sm_rW g (wd.set k e) = (sm_rW g wd).set k (g.1 + k, sm_rE g e) := by
  apply List.ext_getElem?
  intro i
  by_cases h : k = i
  · subst h
    by_cases hk : k < wd.length
    · rw [List.getElem?_set_self (by rw [sm_rW_len]; exact hk)]
      exact sm_rW_get (List.getElem?_set_self hk)
    · rw [List.getElem?_eq_none (by simp [sm_rW_len]; omega), List.getElem?_eq_none (by simp [sm_rW_len]; omega)]
  · rw [List.getElem?_set_ne h]
    simp [sm_rW, List.getElem?_mapIdx, List.getElem?_set_ne h]
theorem sm_rW_app (g : sm_G) (wd : sm_W) (e : sm_E) : sm_rW g (wd ++ [e]) = sm_rW g wd ++ [(g.1 + wd.length, sm_rE g e)] := by
  simp [sm_rW, List.mapIdx_append]
theorem sm_rW_D (g : sm_G) (wd : sm_W) : va_D (sm_A g) (sm_rW g wd) := by
  refine ⟨fun i j p q hi hj h => ?_, fun k q hk => ?_⟩
  · obtain ⟨e1, -, rfl⟩ := sm_rW_of hi
    obtain ⟨e2, -, rfl⟩ := sm_rW_of hj
    dsimp only at h
    omega
  · obtain ⟨e1, -, rfl⟩ := sm_rW_of hk
    exact Nat.le_add_right _ _
/-- locals -/
def sm_lv (g : sm_G) (ls : Array Slot) (nL : Nat) (L : sm_L) : Prop := ls.size = nL ∧ lv_wf ls ∧ L.length = nL ∧ ∀ (i : Nat) (v : Value), L[i]? = some (some v) → ls[i]? = some (.val (sm_up g v))
def sm_as (g : sm_G) : Nat → sm_L → List (Nat × Value)
  | _, [] => []
  | k, none :: r => sm_as g (k + 1) r
  | k, some v :: r => (k, sm_up g v) :: sm_as g (k + 1) r
theorem sm_as_of (g : sm_G) : ∀ (L : sm_L) (k : Nat) (q : Nat × Value), q ∈ sm_as g k L → ∃ (i : Nat) (v : Value), L[i]? = some (some v) ∧ q = (k + i, sm_up g v)
  | [], k, q, h => by simp [sm_as] at h
  | none :: r, k, q, h => by
    obtain ⟨i, v, h1, h2⟩ := sm_as_of g r (k + 1) q h
    exact ⟨i + 1, v, h1, by rw [h2, Nat.add_right_comm]; rfl⟩
  | some w :: r, k, q, h => by
    rcases List.mem_cons.mp h with h | h
    · exact ⟨0, w, rfl, h⟩
    · obtain ⟨i, v, h1, h2⟩ := sm_as_of g r (k + 1) q h
      exact ⟨i + 1, v, h1, by rw [h2, Nat.add_right_comm]; rfl⟩
theorem sm_as_in (g : sm_G) : ∀ (L : sm_L) (k i : Nat) (v : Value), L[i]? = some (some v) → (k + i, sm_up g v) ∈ sm_as g k L
  | [], k, i, v, h => by simp at h
  | none :: r, k, 0, v, h => by simp at h
  | none :: r, k, i + 1, v, h => by
    have := sm_as_in g r (k + 1) i v h
    rw [Nat.add_right_comm] at this
    exact this
  | some w :: r, k, 0, v, h => by
    have h : w = v := by simpa using h
    subst h
    exact List.mem_cons_self
  | some w :: r, k, i + 1, v, h => by
    have := sm_as_in g r (k + 1) i v h
    rw [Nat.add_right_comm] at this
    exact List.mem_cons_of_mem _ this
theorem sm_lv.has {g : sm_G} {ls : Array Slot} {nL : Nat} {L : sm_L} (h : sm_lv g ls nL L) : lv_has ls nL (sm_as g 0 L) := by
  refine ⟨h.1, h.2.1, fun q hq => ?_⟩
  obtain ⟨i, v, h1, rfl⟩ := sm_as_of g L 0 q hq
  rw [Nat.zero_add]
  exact h.2.2.2 i v h1
theorem sm_nl_ok {L : sm_L} {i k : Nat} {v : Value} (h : sm_nl L i = true) (hk : L[k]? = some (some v)) (hi : k + 1 = i) : ¬ v.category = 2 := by
  subst hi
  simp only [sm_nl, hk] at h
  simpa using h
theorem sm_st1_ok {g : sm_G} (hf : sm_fv g) {ls ls' : Array Slot} {nL i : Nat} {L L' : sm_L} {v : Value} {lv' : List (Nat × Value)} (h : sm_lv g ls nL L) (hs : sm_st1 nL L i v = some L') (hl : (i, sm_up g v) :: (sm_as g 0 L).filter (fun q => !(q.1 == i) && !(q.1 + 1 == i && q.2.category == 2)) = lv') (h' : lv_has ls' nL lv') : sm_lv g ls' nL L' := by
  unfold sm_st1 at hs
  split at hs
  · rename_i hc
    cases hs
    subst hl
    refine ⟨h'.1, h'.2.1, by rw [List.length_set]; exact h.2.2.1, fun k w hk => ?_⟩
    by_cases hki : k = i
    · subst hki
      rw [List.getElem?_set_self (by rw [h.2.2.1]; exact hc.1)] at hk
      cases hk
      exact h'.2.2 _ List.mem_cons_self
    · rw [List.getElem?_set_ne (Ne.symm hki)] at hk
      refine h'.2.2 (k, sm_up g w) (List.mem_cons_of_mem _ (List.mem_filter.mpr ⟨by have := sm_as_in g L 0 k w hk; rwa [Nat.zero_add] at this, ?_⟩))
      by_cases h1 : k + 1 = i
      · have h2 := sm_nl_ok hc.2 hk h1
        rw [← sm_up_cat hf w] at h2
        simp [hki, h2]
      · simp [hki, h1]
  · cases hs
theorem sm_st1_lt {nL i : Nat} {L L' : sm_L} {v : Value} (hs : sm_st1 nL L i v = some L') : i < nL := by
  unfold sm_st1 at hs
  split at hs
  · rename_i hc; exact hc.1
  · cases hs
theorem sm_st2_ok {g : sm_G} (hf : sm_fv g) {ls ls' : Array Slot} {nL i : Nat} {L L' : sm_L} {v : Value} {lv' : List (Nat × Value)} (h : sm_lv g ls nL L) (hs : sm_st2 nL L i v = some L') (hl : (i, sm_up g v) :: (sm_as g 0 L).filter (fun q => !(q.1 == i) && (!(q.1 == i + 1) && !(q.1 + 1 == i && q.2.category == 2))) = lv') (h' : lv_has ls' nL lv') : sm_lv g ls' nL L' := by
  unfold sm_st2 at hs
  split at hs
  · rename_i hc
    cases hs
    subst hl
    refine ⟨h'.1, h'.2.1, by rw [List.length_set, List.length_set]; exact h.2.2.1, fun k w hk => ?_⟩
    by_cases hk1 : k = i + 1
    · subst hk1
      rw [List.getElem?_set_self (by rw [List.length_set, h.2.2.1]; exact hc.1)] at hk
      cases hk
    · rw [List.getElem?_set_ne (Ne.symm hk1)] at hk
      by_cases hki : k = i
      · subst hki
        rw [List.getElem?_set_self (by rw [h.2.2.1]; omega)] at hk
        cases hk
        exact h'.2.2 _ List.mem_cons_self
      · rw [List.getElem?_set_ne (Ne.symm hki)] at hk
        refine h'.2.2 (k, sm_up g w) (List.mem_cons_of_mem _ (List.mem_filter.mpr ⟨by have := sm_as_in g L 0 k w hk; rwa [Nat.zero_add] at this, ?_⟩))
        by_cases h1 : k + 1 = i
        · have h2 := sm_nl_ok hc.2 hk h1
          rw [← sm_up_cat hf w] at h2
          simp [hki, hk1, h2]
        · simp [hki, hk1, h1]
  · cases hs
theorem sm_st2_lt {nL i : Nat} {L L' : sm_L} {v : Value} (hs : sm_st2 nL L i v = some L') : i + 1 < nL := by
  unfold sm_st2 at hs
  split at hs
  · rename_i hc; exact hc.1
  · cases hs
section SM1
variable {p : Program} {l : Launch} {e : Env} {R : Room} {s : State} {m : MethodId} {args : Array Value} {below : List Frame} {meth : Method} {c : Code} {H : Heap} {locs : List Loc} {cells slots : Nat} {Q : State → Prop}
variable {cc : ByteArray} {pc : Nat} {ls : Array Slot} {g : sm_G}
theorem sm_pure_ok (hx : p.tables.exec = Jvm.exec) (hb : c.code = cc) (hf : sm_fv g) {i : Instr} {st st' : List Value} (h : sm_pure i st = some st') (hd : decode cc pc = .ok (i, 1))
    (k : W p l e R s m args below meth c H locs cells slots Q (F0 m (pc + 1) ls (st'.map (sm_up g)))) : W p l e R s m args below meth c H locs cells slots Q (F0 m pc ls (st.map (sm_up g))) := by
  unfold sm_pure at h
  split at h
  · split at h
    · cases h
      exact lv_iadd hx hb hd k
    · cases h
  · split at h
    · cases h
      exact lv_isub hx hb hd k
    · cases h
  · split at h
    · cases h
      exact lv_imul hx hb hd k
    · cases h
  · split at h
    · cases h
      exact lv_iand hx hb hd k
    · cases h
  · split at h
    · cases h
      exact lv_ior hx hb hd k
    · cases h
  · split at h
    · cases h
      exact lv_ixor hx hb hd k
    · cases h
  · split at h
    · cases h
      exact lv_ishl hx hb hd k
    · cases h
  · split at h
    · cases h
      exact lv_ishr hx hb hd k
    · cases h
  · split at h
    · cases h
      exact lv_iushr hx hb hd rfl k
    · cases h
  · split at h
    · split at h
      · cases h
      · rename_i hc
        cases h
        exact lv_idiv hx hb hd hc k
    · cases h
  · split at h
    · split at h
      · cases h
      · rename_i hc
        cases h
        exact lv_irem hx hb hd hc k
    · cases h
  · split at h
    · cases h
      exact lv_ladd hx hb hd k
    · cases h
  · split at h
    · cases h
      exact lv_lsub hx hb hd k
    · cases h
  · split at h
    · cases h
      exact lv_lmul hx hb hd k
    · cases h
  · split at h
    · cases h
      exact lv_land hx hb hd k
    · cases h
  · split at h
    · cases h
      exact lv_lor hx hb hd k
    · cases h
  · split at h
    · cases h
      exact lv_lxor hx hb hd k
    · cases h
  · split at h
    · split at h
      · cases h
      · rename_i hc
        cases h
        exact lv_lrem hx hb hd hc k
    · cases h
  · split at h
    · cases h
      exact lv_lshl hx hb hd rfl k
    · cases h
  · split at h
    · cases h
      exact lv_lushr hx hb hd rfl k
    · cases h
  · split at h
    · cases h
      exact W.lcmp hx hb hd k
    · cases h
  · split at h
    · cases h
      exact lv_i2l hx hb hd rfl k
    · cases h
  · split at h
    · cases h
      exact lv_l2i hx hb hd rfl k
    · cases h
  · split at h
    · cases h
      exact lv_i2c hx hb hd rfl k
    · cases h
  · split at h
    · split at h
      · rename_i hc
        cases h
        exact lv_dup hx hb hd (by rw [sm_up_cat hf]; exact hc) k
      · cases h
    · cases h
  · split at h
    · split at h
      · rename_i hc
        cases h
        exact lv_dup2_11 hx hb hd (by rw [sm_up_cat hf]; exact hc.1) (by rw [sm_up_cat hf]; exact hc.2) k
      · cases h
    · cases h
  · split at h
    · split at h
      · rename_i hc
        cases h
        exact lv_pop hx hb hd (by rw [sm_up_cat hf]; exact hc) k
      · cases h
    · cases h
  · cases h
theorem sm_jump_ok (hx : p.tables.exec = Jvm.exec) (hb : c.code = cc) {en : sm_I} {n : Nat} {L : sm_L} {st : List Value} {wd : sm_W} {q : Nat × sm_L × List Value × sm_W} (h : sm_jump en pc L st wd = some q) (hd : decode cc pc = .ok (en.1, n)) (hn : sm_sw en.1 = false → n = sm_len en.1)
    (k : W p l e R s m args below meth c H locs cells slots Q (F0 m q.1 ls (q.2.2.1.map (sm_up g)))) : q.2.1 = L ∧ q.2.2.2 = wd ∧ W p l e R s m args below meth c H locs cells slots Q (F0 m pc ls (st.map (sm_up g))) := by
  obtain ⟨i, a, b, d⟩ := en
  unfold sm_jump at h
  dsimp only at h hd hn
  split at h
  · rename_i off _
    have hn := hn rfl
    subst hn
    split at h
    · rename_i ht
      cases h
      exact ⟨rfl, rfl, lv_goto hx hb hd ht k⟩
    · cases h
  · rename_i cn off
    have hn := hn rfl
    subst hn
    split at h
    · split at h
      · rename_i x r ht
        cases h
        refine ⟨rfl, rfl, ?_⟩
        cases cn
        · exact lv_if_eq hx hb hd ht (fun h1 => by simpa [sm_cnd, h1] using k) (fun h1 => by simpa [sm_cnd, h1] using k)
        · exact lv_if_ne hx hb hd ht (fun h1 => by simpa [sm_cnd, h1] using k) (fun h1 => by simpa [sm_cnd, h1] using k)
        · exact lv_if_lt hx hb hd ht (fun h1 => by simpa [sm_cnd, h1] using k) (fun h1 => by simpa [sm_cnd, h1] using k)
        · exact lv_if_ge hx hb hd ht (fun h1 => by simpa [sm_cnd, h1] using k) (fun h1 => by simpa [sm_cnd, h1] using k)
        · exact lv_if_gt hx hb hd ht (fun h1 => by simpa [sm_cnd, h1] using k) (fun h1 => by simpa [sm_cnd, h1] using k)
        · exact lv_if_le hx hb hd ht (fun h1 => by simpa [sm_cnd, h1] using k) (fun h1 => by simpa [sm_cnd, h1] using k)
      · cases h
    · cases h
  · rename_i cn off
    have hn := hn rfl
    subst hn
    split at h
    · split at h
      · rename_i y x r ht
        cases h
        refine ⟨rfl, rfl, ?_⟩
        cases cn
        · exact lv_icmp_eq hx hb hd ht (fun h1 => by simpa [sm_cnd, h1] using k) (fun h1 => by simpa [sm_cnd, h1] using k)
        · exact lv_icmp_ne hx hb hd ht (fun h1 => by simpa [sm_cnd, h1] using k) (fun h1 => by simpa [sm_cnd, h1] using k)
        · exact lv_icmp_lt hx hb hd ht (fun h1 => by simpa [sm_cnd, h1] using k) (fun h1 => by simpa [sm_cnd, h1] using k)
        · exact lv_icmp_ge hx hb hd ht (fun h1 => by simpa [sm_cnd, h1] using k) (fun h1 => by simpa [sm_cnd, h1] using k)
        · exact lv_icmp_gt hx hb hd ht (fun h1 => by simpa [sm_cnd, h1] using k) (fun h1 => by simpa [sm_cnd, h1] using k)
        · exact lv_icmp_le hx hb hd ht (fun h1 => by simpa [sm_cnd, h1] using k) (fun h1 => by simpa [sm_cnd, h1] using k)
      · cases h
    · cases h
  · split at h
    · split at h
      · rename_i hout
        split at h
        · rename_i hp
          cases h
          exact ⟨rfl, rfl, lv_tableOut hx hb hd hout (Int.toNat_of_nonneg hp).symm k⟩
        · cases h
      · rename_i hin
        split at h
        · rename_i off ho
          split at h
          · rename_i hp
            cases h
            exact ⟨rfl, rfl, lv_tableIn hx hb hd (fun z => hin (Or.inl z)) (fun z => hin (Or.inr z)) ho (Int.toNat_of_nonneg hp).symm k⟩
          · cases h
        · cases h
    · cases h
  · split at h
    · split at h
      · rename_i hp
        cases h
        exact ⟨rfl, rfl, lv_lookup hx hb hd hp.1 rfl (Int.toNat_of_nonneg hp.2).symm k⟩
      · cases h
    · cases h
  · cases h
end SM1
