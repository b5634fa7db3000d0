theorem lw_good2 {w : Cond} (h : w ∈ lw_tblG) : w ∈ lw_tblG ∧ ((w.onTables && w.keeps) = true ∨ ∃ ty, w = .arrayClass ty) := ⟨h, good_of_word (lw_goodG h).2⟩
theorem lw_goodIn {ws : List Cond} (h : ∀ w ∈ ws, w ∈ lw_tblG) : GoodIn lw_tblG ws := fun w hw => lw_good2 (h w hw)
theorem sm_blind {g : sm_G} {D : va_G} {xs : List Int32} {as : List Value} {wd : sm_W} : FrameBlind (sm_Pc g D xs as wd) := fun a U jf mk h => by
  obtain ⟨h1, h2, h3, h4, h5⟩ := h
  exact ⟨h1, h2, va_K.moved (u := U) (U := U.calling jf mk a) (Vm.Alike.refl U.vm) h3, h4.calling, h5⟩
theorem sm_take {st : List Value} {n : Nat} {v : Value} (h : st[n]? = some v) : (st.take (n + 1)).reverse = v :: (st.take n).reverse := by
  rw [List.take_succ, h]
  simp
theorem sm_recv1 {j n : Nat} {st : List Value} {wd : sm_W} (hk : sm_kd j = 1) (h : sm_recv j n st wd = true) : ∃ (k : Nat) (fs : List Value), st[n - 1]? = some (.ref k) ∧ wd[k]? = some (.inr (.inr (sm_ci j, fs))) := by
  have h1 : (match st[n - 1]? with
    | some (.ref k) => (match wd[k]? with
      | some (.inr (.inr (ci, _))) => decide (ci = sm_ci j)
      | _ => false)
    | _ => false) = true := by
    unfold sm_recv at h
    rw [hk] at h
    exact h
  split at h1
  · rename_i k hk
    split at h1
    · rename_i ci fs hw
      have hci := of_decide_eq_true h1
      subst hci
      exact ⟨k, fs, hk, hw⟩
    · cases h1
  · cases h1
theorem sm_recv2 {j n : Nat} {st : List Value} {wd : sm_W} (hk : sm_kd j = 2) (h : sm_recv j n st wd = true) : ∃ k : Nat, st[n - 1]? = some (.ref k) ∧ k < 1000000 := by
  have h1 : (match st[n - 1]? with
    | some (.ref k) => decide (k < 1000000)
    | _ => false) = true := by
    unfold sm_recv at h
    rw [hk] at h
    exact h
  split at h1
  · rename_i k hk
    exact ⟨k, hk, of_decide_eq_true h1⟩
  · cases h1
theorem sm_recv3 {j n : Nat} {st : List Value} {wd : sm_W} (hk : sm_kd j = 3) (h : sm_recv j n st wd = true) : st[n - 1]? = some (.ref 1000001) := by
  have h1 : (match st[n - 1]? with
    | some (.ref k) => decide (k = 1000001)
    | _ => false) = true := by
    unfold sm_recv at h
    rw [hk] at h
    exact h
  split at h1
  · rename_i k hk
    have hci := of_decide_eq_true h1
    subst hci
    exact hk
  · cases h1
section SM4
variable {p : Program} {l : Launch} {e : Env} {R : Room} {s : State} {m : MethodId} {args : Array Value} {below : List Frame} {meth : Method} {c : Code} {H : Heap} {locs : List Loc} {cells slots : Nat} {Q : State → Prop}
variable {pc : Nat} {ls : Array Slot} {g : sm_G} {D : va_G} {xs : List Int32} {d j : Nat}
theorem sm_callk {st0 rest : List Value} {mc ms : Nat} {q : Option Value × sm_W} {a : Array Value} (hr : va_Run p l e R s m args below meth c H locs cells slots mc ms (F0 m pc ls st0) (rest.map (sm_up g)) (sm_Qc g D q a) (sm_A g)) (hS : va_S (sm_A g) s.heap H locs)
    (kk : ∀ (H1 : Heap) (locs1 : List Loc), sm_RW g D q.2 H1 → va_S (sm_A g) s.heap H1 locs1 → W p l e R s m args below meth c H1 locs1 (cells + mc) (slots + ms) Q (F0 m (pc + 3) ls ((sm_push q.1 rest).map (sm_up g)))) : W p l e R s m args below meth c H locs cells slots Q (F0 m pc ls st0) := by
  intro T hT X
  obtain ⟨v, st₀, t, T', L, h0, X', hL, e1, e2, ⟨⟨hv, hb⟩, hz, hk⟩, st⟩ := hr T hT X
  have hv : v = q.1.map (sm_up g) := by cases hv; rfl
  subst hv
  rw [h0] at hz hk
  have hpush : (q.1.map (sm_up g)).toList ++ rest.map (sm_up g) = (sm_push q.1 rest).map (sm_up g) := by
    cases q.1 <;> rfl
  obtain ⟨t2, a1, b1⟩ := kk T'.heap (locs ++ L) (by rw [e1]; exact hb) ⟨Nat.le_trans hS.1 (by rw [e1]; exact hz), fun q h1 h2 => by rw [e1, hk q (Nat.lt_of_lt_of_le h1 hS.1) h2]; exact hS.2.1 q h1 h2, fun q hq => by
      rcases List.mem_append.mp hq with h | h
      · exact hS.2.2 q h
      · exact hL q h⟩ T' rfl X'
  rw [← hpush] at a1
  exact ⟨t2, st t2 a1, b1⟩
theorem sm_call_ok (C : sm_C g D xs p (d + 1) j R s m args meth c) {f : Nat} (hW : sm_Wok l xs g D f) {en : sm_I} {L : sm_L} {st : List Value} {wd : sm_W} {q1 : Option Value × sm_W} (hE : sm_Ok j pc en) (hcall : sm_call en = true) (hrecv : sm_recv en.2.1 en.2.2.1 st wd = true) (hn : en.2.2.1 ≤ st.length) (hlen : (sm_exp (st.take en.2.2.1).reverse).length ≤ sm_ml en.2.1) (hcat : ((st.drop en.2.2.1).map fun v => v.category).sum ≤ 8)
    (h1 : sm_run xs f d en.2.1 0 (sm_ent (sm_ml en.2.1) (st.take en.2.2.1).reverse) [] wd = some q1) (hl : sm_lv g ls (sm_ml j) L) (hRW : sm_RW g D wd H) (hS : va_S (sm_A g) s.heap H locs)
    (hcs : cells + (q1.2.length - wd.length) ≤ R.cells) (hss : slots + (sm_sz q1.2 - sm_sz wd) ≤ R.slots)
    (kk : ∀ (H1 : Heap) (locs1 : List Loc), sm_RW g D q1.2 H1 → va_S (sm_A g) s.heap H1 locs1 → W p l e R s m args below meth c H1 locs1 (cells + (q1.2.length - wd.length)) (slots + (sm_sz q1.2 - sm_sz wd)) Q (F0 m (pc + 3) ls ((sm_push q1.1 (st.drop en.2.2.1)).map (sm_up g)))) : W p l e R s m args below meth c H locs cells slots Q (F0 m pc ls (st.map (sm_up g))) := by
  obtain ⟨hx, hb, hml, hown, hts, hK, hFx, hgs, hdR, hdl, hin⟩ := C
  have hf : sm_fv g := hFx.2.2.2.2.2.2.2.2.2.2.2.2
  obtain ⟨i, j', n, ec⟩ := en
  obtain ⟨hR, ln, hd, hn2⟩ := hE
  dsimp only at hR hd hn2 hrecv hn hlen hcat h1 kk
  have hj : j' < sm_N := by
    unfold sm_call at hcall
    dsimp only at hcall
    split at hcall
    · exact of_decide_eq_true hcall
    · exact of_decide_eq_true hcall
    · exact of_decide_eq_true hcall
    · cases hcall
  have hMj := sm_okM_at hj
  have hM := sm_met_of hW hf hj h1 hlen
  have hPU : ∀ U : State, U.heap = H → s.WarmedH U.vm → sm_Pc g D xs (st.take n).reverse wd (((st.take n).reverse).map (sm_up g)).toArray U := fun U hU hW2 =>
    ⟨rfl, by rw [hU]; exact hRW, va_K.moved hW2.alike hK, by rw [hU]; exact hFx.mv hW2 hS.1 hS.2.1, by rw [hU]; exact Nat.le_trans hgs hS.1⟩
  have hcat2 : (((st.drop n).map (sm_up g)).map fun v => v.category).sum ≤ 8 := by
    rw [List.map_map, show ((fun v : Value => v.category) ∘ sm_up g) = (fun v => v.category) from funext fun v => sm_up_cat hf v]; exact hcat
  have hstk : st.map (sm_up g) = (((st.take n).reverse).map (sm_up g)).reverse ++ (st.drop n).map (sm_up g) := by
    rw [List.map_reverse, List.reverse_reverse, ← List.map_append, List.take_append_drop]
  have hroom : (sm_rm d (q1.2.length - wd.length) (sm_sz q1.2 - sm_sz wd)).frames + 1 ≤ R.frames ∧ 8 + (sm_ml j' + 11) + (sm_rm d (q1.2.length - wd.length) (sm_sz q1.2 - sm_sz wd)).locals ≤ R.locals := ⟨hdR, by have := hMj.2.2.2.2.2.2.2.2; show 8 + (sm_ml j' + 11) + 43 * d ≤ R.locals; omega⟩
  have hinst : ∀ n', n = n' + 1 → st[n']? ≠ none := fun n' e9 z => by
    have := List.getElem?_eq_none_iff.mp z
    omega
  unfold sm_call at hcall
  dsimp only at hcall
  split at hcall
  · -- invokevirtual
    have hn2 := hn2 rfl
    subst hn2
    simp only [sm_okR, Bool.or_eq_true, Bool.and_eq_true, decide_eq_true_eq, beq_iff_eq] at hR
    have hR := hR.resolve_left (by have : sm_N < 9998 := by decide
                                   omega)
    obtain ⟨⟨⟨hkd, -⟩, hna⟩, hlk⟩ := hR
    have hlk := lw_inG (sm_at_in hlk) rfl
    have hna : n = sm_na j' + 1 := by rw [hna]; unfold sm_argc; rw [if_neg (by omega)]
    subst hna
    have hpl : ∃ k, st[sm_na j']? = some (.ref k) ∧ ((∃ b, sm_up g (.ref k) = .ref b ∧ ∃ cellB : Cell, H[b]? = some cellB ∧ cellB.vm.isStatics = false ∧ s.vm.findClass (sm_y j').cls = some cellB.cls) ∧ Cond.instanceMethod (sm_y j') ∈ lw_tblG ∧ Cond.selects (sm_y j').cls (sm_y j') (sm_y j') ∈ lw_tblG) := by
      rcases hkd with hkd | hkd
      · obtain ⟨k, fs, hk, hw⟩ := sm_recv1 hkd hrecv
        have h4 := hMj.2.2.2.1 hkd
        have hcl := sm_cl_at h4.2.2.2
        refine ⟨k, hk, ⟨_, sm_up_lo (hRW.lo hw), ?_⟩, h4.1, h4.2.1⟩
        have := va_recv hK hRW.2.2 hcl (sm_rW_get hw)
        rw [← h4.2.2.1]
        exact this
      · have hk := sm_recv3 hkd hrecv
        have h4 := hMj.2.2.2.2.2.1 hkd
        refine ⟨_, hk, ⟨g.2.1, rfl, ?_⟩, h4.1, h4.2.1⟩
        obtain ⟨cell, h5, h6, h7, -⟩ := hFx.1.kept hS.2.1
        rw [h4.2.2]
        exact ⟨cell, h5, h6, h7⟩
    obtain ⟨k, hk, ⟨b, hb1, hcell⟩, hi1, hi2⟩ := hpl
    rw [sm_take hk] at hM
    rw [sm_take hk, List.map_cons, hb1] at hPU hstk
    rw [hstk, List.reverse_cons, List.append_assoc]
    exact sm_callk (va_runV (C := (sm_y j').cls) (b := b) (As := ((st.take (sm_na j')).reverse).map (sm_up g)) (rest := (st.drop (sm_na j' + 1)).map (sm_up g)) ⟨hx, hb, hml, hown, hts⟩ hM
      (cwV (sm_na j') hts (lw_goodIn (fun w hw => by
        simp only [wsV, List.cons_append, List.nil_append, List.mem_cons] at hw
        rcases hw with rfl | rfl | rfl | rfl | rfl | hw
        · exact hlk
        · exact hi1
        · exact hi2
        · exact hMj.2.1
        · exact hMj.1
        · exact hw)) rfl rfl rfl ⟨rfl, hMj.2.2.2.2.2.2.1⟩ hroom)
      ⟨sm_blind, hcell, hPU⟩ rfl (by rw [List.length_map, List.length_reverse, List.length_take]; omega) hl.1 rfl (lv_room hcat2) hd ⟨hcs, hss⟩) hS kk
  · -- invokestatic
    have hn2 := hn2 rfl
    subst hn2
    simp only [sm_okR, Bool.or_eq_true, Bool.and_eq_true, decide_eq_true_eq, beq_iff_eq] at hR
    have hN : sm_N < 9996 := by decide
    rcases hR with ((hR | hR) | hR) | hR
    · omega
    · omega
    · omega
    · obtain ⟨⟨⟨hkd, -⟩, hna⟩, hlk⟩ := hR
      have hna : n = sm_na j' := by rw [hna]; unfold sm_argc; rw [if_pos hkd]
      subst hna
      have hstt := hMj.2.2.1 hkd
      rw [hstk]
      have hnAs : (((st.take (sm_na j')).reverse).map (sm_up g)).length = sm_na j' := by rw [List.length_map, List.length_reverse, List.length_take]; omega
      have hGw : GoodIn lw_tblG (Cond.code (sm_y j') (sm_b j') (sm_ml j') (sm_rt j') :: lw_tblG) := lw_goodIn (fun w hw => by
        rcases List.mem_cons.mp hw with rfl | hw
        · exact hMj.1
        · exact hw)
      split at hlk
      · simp only [Bool.and_eq_true, decide_eq_true_eq] at hlk
        obtain ⟨⟨ho, hi⟩, hy⟩ := hlk
        subst hi
        have hZ := hFx.2.2.2.2.2.2.2.1
        rw [← hy, ← ho] at hZ
        exact sm_callk (va_runSN (As := ((st.take (sm_na j')).reverse).map (sm_up g)) (rest := (st.drop (sm_na j')).map (sm_up g)) ⟨hx, hb, hml, hown, hts⟩ hM
          ⟨va_cnB (sm_na j') hts hGw rfl rfl rfl hZ (hts _ hMj.2.1) hMj.2.2.2.2.2.2.1 hroom, hts _ hstt, trivial⟩ ⟨sm_blind, hPU⟩ rfl hnAs hl.1 rfl (lv_room hcat2) hd ⟨hcs, hss⟩) hS kk
      · split at hlk
        · simp only [Bool.and_eq_true, decide_eq_true_eq] at hlk
          obtain ⟨⟨ho, hi⟩, hy⟩ := hlk
          subst hi
          have hZ := hFx.2.2.2.2.2.2.2.2.1
          rw [← hy, ← ho] at hZ
          exact sm_callk (va_runSN (As := ((st.take (sm_na j')).reverse).map (sm_up g)) (rest := (st.drop (sm_na j')).map (sm_up g)) ⟨hx, hb, hml, hown, hts⟩ hM
            ⟨va_cnB (sm_na j') hts hGw rfl rfl rfl hZ (hts _ hMj.2.1) hMj.2.2.2.2.2.2.1 hroom, hts _ hstt, trivial⟩ ⟨sm_blind, hPU⟩ rfl hnAs hl.1 rfl (lv_room hcat2) hd ⟨hcs, hss⟩) hS kk
        · exact sm_callk (va_runS (As := ((st.take (sm_na j')).reverse).map (sm_up g)) (rest := (st.drop (sm_na j')).map (sm_up g)) ⟨hx, hb, hml, hown, hts⟩ hM
            (va_cwS (sm_na j') hts (lw_goodIn (fun w hw => by
              simp only [va_wsS, List.cons_append, List.nil_append, List.mem_cons] at hw
              rcases hw with rfl | rfl | rfl | rfl | hw
              · exact lw_inG (sm_at_in hlk) rfl
              · exact hstt
              · exact hMj.2.1
              · exact hMj.1
              · exact hw)) rfl rfl rfl hMj.2.2.2.2.2.2.1 hroom) ⟨sm_blind, hPU⟩ rfl hnAs hl.1 rfl (lv_room hcat2) hd ⟨hcs, hss⟩) hS kk
  · -- invokespecial
    have hn2 := hn2 rfl
    subst hn2
    simp only [sm_okR, Bool.or_eq_true, decide_eq_true_eq] at hR
    have hN : sm_N < 9996 := by decide
    have hR := hR.resolve_left (by omega)
    rw [if_neg (by omega)] at hR
    simp only [Bool.and_eq_true, decide_eq_true_eq, beq_iff_eq] at hR
    obtain ⟨⟨⟨hkd, -⟩, hna⟩, hlk⟩ := hR
    have hlk := lw_inG (sm_at_in hlk) rfl
    have hna : n = sm_na j' + 1 := by rw [hna]; unfold sm_argc; rw [if_neg (by omega)]
    subst hna
    have h4 := hMj.2.2.2.2.1 hkd
    obtain ⟨k, hk, hklt⟩ := sm_recv2 hkd hrecv
    rw [Nat.add_sub_cancel] at hk
    rw [sm_take hk] at hM
    rw [sm_take hk, List.map_cons, sm_up_lo hklt] at hPU hstk
    rw [hstk, List.reverse_cons, List.append_assoc]
    rw [h4.2.2] at hM
    exact sm_callk (va_runI (b := g.1 + k) (As := ((st.take (sm_na j')).reverse).map (sm_up g)) (rest := (st.drop (sm_na j' + 1)).map (sm_up g)) ⟨hx, hb, hml, hown, hts⟩ hM
      (cwI (sm_na j') hts (lw_goodIn (fun w hw => by
        rcases List.mem_cons.mp hw with rfl | hw
        · have := hMj.1
          rw [h4.2.2] at this
          exact this
        · exact hw)) rfl rfl rfl (hts _ hMj.2.1) (hts _ hlk) (hts _ h4.1) h4.2.1 hMj.2.2.2.2.2.2.1 hroom)
      ⟨sm_blind, hPU⟩ rfl (by rw [List.length_map, List.length_reverse, List.length_take]; omega) hl.1 rfl (lv_room hcat2) hd ⟨hcs, hss⟩) hS kk
  · cases hcall
end SM4
theorem sm_ret_byte {j : Nat} {i : Instr} {st : List Value} {r : Option Value} (h : sm_ret j i st = some r) : sm_sw i = false ∧ sm_len i = 1 := by
  unfold sm_ret at h
  split at h
  · exact ⟨rfl, rfl⟩
  · exact ⟨rfl, rfl⟩
  · exact ⟨rfl, rfl⟩
  · cases h
theorem sm_pure_byte {i : Instr} {st : List Value} {r : List Value} (h : sm_pure i st = some r) : sm_sw i = false ∧ sm_len i = 1 := by
  unfold sm_pure at h
  split at h <;> first | exact ⟨rfl, rfl⟩ | (cases h; done)
/-- SOUNDNESS -/
theorem sm_wok (l : Launch) (xs : List Int32) (g : sm_G) (D : va_G) : ∀ f, sm_Wok l xs g D f := by
  intro f
  induction f with
  | zero => intro d j pc L st wd q hj h; cases h
  | succ f ih =>
    intro d j pc L st wd q hj h p e R s m args below meth c H locs cells slots Q ls mc ms C hRW hS hl hcs hss hmc hms fin
    unfold sm_run at h
    split at h
    · cases h
    · rename_i en hic
      have hE := sm_ic_ok hj hic
      split at h
      · rename_i hcall
        split at h
        · cases h
        · rename_i d'
          split at h
          · rename_i hcond
            split at h
            · cases h
            · rename_i q1 h1
              have m1 := sm_run_mono xs _ _ _ _ _ _ _ _ h1
              have m2 := sm_run_mono xs _ _ _ _ _ _ _ _ h
              refine sm_call_ok C ih hE hcall hcond.1 hcond.2.1 hcond.2.2.1 hcond.2.2.2 h1 hl hRW hS (by omega) (by omega) (fun H1 locs1 hRW1 hS1 => ?_)
              exact ih (d' + 1) j (pc + 3) L _ q1.2 q hj h p e R s m args below meth c H1 locs1 _ _ Q ls mc ms C hRW1 hS1 hl (by omega) (by omega) hmc hms fin
          · cases h
      · split at h
        · rename_i r hret
          cases h
          obtain ⟨hR, n, hd, hn⟩ := hE
          have hb1 := sm_ret_byte hret
          rw [hn hb1.1, hb1.2] at hd
          exact W.widen (k := mc) (n := ms) (Nat.le_of_add_le_add_right hcs) (Nat.le_of_add_le_add_right hss) (fin pc en.1 st H locs ls hd hret hRW hS)
        · split at h
          · cases h
          · rename_i q1 h1
            have m1 := sm_step_mono h1
            have m2 := sm_run_mono xs _ _ _ _ _ _ _ _ h
            unfold sm_step at h1
            split at h1
            · obtain ⟨st', h2, h3⟩ := Option.map_eq_some_iff.mp h1
              subst h3
              obtain ⟨hR, n, hd, hn⟩ := hE
              have hb1 := sm_pure_byte h2
              rw [hn hb1.1, hb1.2] at hd
              exact sm_pure_ok C.1 C.2.1 C.2.2.2.2.2.2.1.2.2.2.2.2.2.2.2.2.2.2.2 h2 hd (ih d j (pc + 1) L st' wd q hj h p e R s m args below meth c H locs cells slots Q ls mc ms C hRW hS hl hcs hss hmc hms fin)
            · have hwd := sm_jump_wd h1
              obtain ⟨hR, n, hd, hn⟩ := hE
              obtain ⟨q1a, q1b, q1c, q1d⟩ := q1
              dsimp only at hwd h m1
              subst hwd
              have key := fun hLe : q1b = L => ih d j q1a q1b q1c q1d q hj h p e R s m args below meth c H locs cells slots Q ls mc ms C hRW hS (by rw [hLe]; exact hl) hcs hss hmc hms fin
              have hLe : q1b = L := by
                unfold sm_jump at h1
                (repeat' split at h1) <;> first | (cases h1; done) | (cases h1; rfl)
              exact (sm_jump_ok C.1 C.2.1 h1 hd hn (key hLe)).2.2
            · have hwd := sm_loc_wd h1
              obtain ⟨q1a, q1b, q1c, q1d⟩ := q1
              dsimp only at hwd h m1
              subst hwd
              exact (sm_loc_ok C h1 hE hl (fun ls' hl' => ih d j q1a q1b q1c q1d q hj h p e R s m args below meth c H locs cells slots Q ls' mc ms C hRW hS hl' hcs hss hmc hms fin)).2
            · have hLe : q1.2.1 = L := by
                unfold sm_mem at h1
                (repeat' split at h1) <;> first | (cases h1; done) | (cases h1; rfl)
              refine (sm_mem_ok C h1 hE hl hRW hS (by omega) (by omega) (fun H1 locs1 c1 n1 hc1 hn1 hRW1 hS1 => ?_)).2
              exact ih d j q1.1 q1.2.1 q1.2.2.1 q1.2.2.2 q hj h p e R s m args below meth c H1 locs1 c1 n1 Q ls mc ms C hRW1 hS1 (by rw [hLe]; exact hl) (by omega) (by omega) hmc hms fin
