/-! fields, arrays, making -/
theorem sm_cb (t : ArrayType) : componentBytes (newarray.typeOf t) ≤ 8 := by cases t <;> decide
section SM3
variable {p : Program} {l : Launch} {e : Env} {R : Room} {s : State} {m : MethodId} {args : Array Value} {below : List Frame} {meth : Method} {c : Code} {H : Heap} {locs : List Loc} {cells slots : Nat} {Q : State → Prop}
variable {pc : Nat} {ls : Array Slot} {g : sm_G} {D : va_G} {xs : List Int32} {d j : Nat}
/-- a new array: it lies at the heap's end, its class is the table's -/
theorem sm_newa {cc : ByteArray} {rest : List Value} {wd : sm_W} (hx : p.tables.exec = Jvm.exec) (hb : c.code = cc) (hK : va_K D sm_cl (sm_tys g) s) {atype : ArrayType} (harr : (Cond.arrayClass (newarray.typeOf atype)).before args s = true) {ix : Nat} {cI : ClassId} (hix : (sm_tys g)[ix]? = some (cI, newarray.typeOf atype)) (hRA : va_RA s cI (newarray.typeOf atype) = (s.vm.findClass ("[" ++ (newarray.typeOf atype).toString) = some cI))
    (hRW : sm_RW g D wd H) (hS : va_S (sm_A g) s.heap H locs) (hl3 : wd.length < 1000000) {n : Int32} {N : Nat} (hn : ¬ n < 0) (hN : n.toNatClampNeg = N) (hbytes : N * componentBytes (newarray.typeOf atype) ≤ 536870912) (hcells : cells + 1 ≤ R.cells) (hslots : slots + N ≤ R.slots) (hdg : decode cc pc = .ok (.newarray atype, 2))
    {en : sm_E} {a0 : vp_A} (hen : sm_rE g en = .inl (cI, a0)) (ha : ∀ cA : ClassId, vp_cell cA a0 = arrV cA N (fun _ => defaultValue (newarray.typeOf atype)))
    (kk : ∀ H1 : Heap, sm_RW g D (wd ++ [en]) H1 → va_S (sm_A g) s.heap H1 locs → W p l e R s m args below meth c H1 locs (cells + 1) (slots + N) Q (F0 m (pc + 2) ls (.ref (g.1 + wd.length) :: rest))) : W p l e R s m args below meth c H locs cells slots Q (F0 m pc ls (.int n :: rest)) := by
  refine va_newaK hx hb harr rfl hdg rfl hn hN hbytes hcells hslots hRW.1 fun H1 cA e1 z1 o1 hAr hNm => ?_
  have h1 := (hK.2 ix _ hix).2
  rw [hRA] at h1
  have h2 : cA = cI := Option.some.inj (hNm.symm.trans h1)
  subst h2
  refine kk H1 (hRW.app hl3 ?_ (by rw [hRW.1]; exact z1) (fun q hq => o1 q (by rw [← hRW.1]; exact hq))) ⟨Nat.le_trans hS.1 (by rw [hRW.1]; omega), fun x h1 h2 => (o1 x (by rw [← hRW.1]; exact Nat.lt_of_lt_of_le h1 hS.1)).trans (hS.2.1 x h1 h2), hS.2.2⟩
  rw [hen]
  show H1[g.1 + wd.length]? = some (vp_cell _ _)
  rw [ha]
  exact e1
theorem sm_mem_ok (C : sm_C g D xs p d j R s m args meth c) {en : sm_I} {L : sm_L} {st : List Value} {wd : sm_W} {q : Nat × sm_L × List Value × sm_W} (h : sm_mem xs d en pc L st wd = some q) (hE : sm_Ok j pc en) (hl : sm_lv g ls (sm_ml j) L) (hRW : sm_RW g D wd H) (hS : va_S (sm_A g) s.heap H locs)
    (hcs : cells + q.2.2.2.length ≤ R.cells + wd.length) (hss : slots + sm_sz q.2.2.2 ≤ R.slots + sm_sz wd)
    (k : ∀ (H1 : Heap) (locs1 : List Loc) (c1 n1 : Nat), c1 + wd.length = cells + q.2.2.2.length → n1 + sm_sz wd = slots + sm_sz q.2.2.2 → sm_RW g D q.2.2.2 H1 → va_S (sm_A g) s.heap H1 locs1 → W p l e R s m args below meth c H1 locs1 c1 n1 Q (F0 m q.1 ls (q.2.2.1.map (sm_up g)))) : q.2.1 = L ∧ W p l e R s m args below meth c H locs cells slots Q (F0 m pc ls (st.map (sm_up g))) := by
  obtain ⟨hx, hb, hml, hown, hts, hK, hFx, hgs, hdR, hdl, hin⟩ := C
  have hf : sm_fv g := hFx.2.2.2.2.2.2.2.2.2.2.2.2
  obtain ⟨i, ea, eb, ec⟩ := en
  obtain ⟨hR, n, hd, hn⟩ := hE
  unfold sm_mem at h
  dsimp only at h hd hn hR
  split at h <;> (try (have hn := hn rfl; subst hn))
  · -- getfield
    split at h
    · rename_i k0 r
      split at h
      · rename_i h100
        split at h
        · rename_i hk0
          subst hk0
          cases h
          simp only [sm_okR, if_pos h100] at hR
          have hlk := hts _ (lw_inG (sm_at_in hR) rfl)
          refine ⟨rfl, ?_⟩
          have k := k H locs cells slots rfl rfl hRW hS
          by_cases hb0 : eb = 0
          · simp only [if_pos hb0] at hlk k
            exact vk_getf hx hb hFx.2.1 hS hown hlk (fun _ h9 => h9) hd k
          · simp only [if_neg hb0] at hlk k
            exact vk_getf hx hb hFx.2.2.1 hS hown hlk (fun _ h9 => h9) hd k
        · cases h
      · rename_i h100
        split at h
        · rename_i ci fs hw
          split at h
          · rename_i hci
            subst hci
            split at h
            · rename_i v hv
              cases h
              simp only [sm_okR, if_neg h100, Bool.and_eq_true, decide_eq_true_eq] at hR
              obtain ⟨⟨h8, h9⟩, h10⟩ := hR
              have hI := sm_okI_at h8
              refine ⟨rfl, ?_⟩
              rw [List.map_cons, sm_up_lo (hRW.lo hw)]
              exact va_get hx hb hts hI.2.2.1 hown hK hRW.2.2 k0 (sm_rW_get hw) (sm_cl_at h8) eb h9 (hts _ (lw_inG (sm_at_in h10) rfl)) (fun _ h9 => h9) (v := sm_up g v) (by rw [List.getElem?_map, hv]; rfl) hd (k H locs cells slots rfl rfl hRW hS)
            · cases h
          · cases h
        · cases h
    · cases h
  · -- putfield
    split at h
    · rename_i v k0 r
      split at h
      · rename_i ci fs hw
        split at h
        · rename_i hc
          obtain ⟨hci, hlen, hnar, hfit⟩ := hc
          subst hci
          cases h
          simp only [sm_okR, Bool.and_eq_true, Bool.or_eq_true, decide_eq_true_eq] at hR
          obtain ⟨⟨⟨h8, h9⟩, h10⟩, hfin⟩ := hR
          have hI := sm_okI_at h8
          have hlk := hts _ (lw_inG (sm_at_in h10) rfl)
          have hnf := sm_up_fit hf hnar hfit
          have hty := hI.2.2.2.1 eb h9
          have hcl := sm_cl_at h8
          have hap := va_apart (own := (sm_y j).cls) hts hI.2.2.1 (sm_ty ci) hI.2.2.2.1 hI.2.2.2.2 hK hcl
          obtain ⟨r0, g1, cell, q1, q2, q3, q4⟩ := hRW.2.2 k0 _ (sm_rW_get hw)
          have hr0 : r0 = (sm_cn ci, sm_T ci, sm_nf ci) := Option.some.inj (g1.symm.trans hcl)
          subst hr0
          obtain ⟨hSl, hfc, kC, hkC, hkind⟩ := hK.1 ci _ hcl
          obtain ⟨cf, kf, fi, f, hi, hsl⟩ := hSl eb h9
          have hst := (u_facts hfc hkC (u_lays hts hI.2.2.1 h9) hi).1
          have hlay := hts _ (hI.2.2.1 _ (u_in_lay h9))
          refine ⟨rfl, ?_⟩
          rw [List.map_cons, List.map_cons, sm_up_lo (hRW.lo hw)]
          have hgo : ∀ (H' : Heap) (locs' : List Loc), H'[g.1 + k0]? = some (cell.setSlot (D.2 ci eb) (sm_up g v)) → H'.size = H.size → (∀ q, q ≠ g.1 + k0 → H'[q]? = H[q]?) → va_S (sm_A g) s.heap H' locs' → W p l e R s m args below meth c H' locs' cells slots Q (F0 m (pc + 3) ls (r.map (sm_up g))) := by
            intro H' locs' e1 e2 e3 hS'
            refine k H' locs' cells slots (by rw [List.length_set]) (by rw [sm_sz_set hw]; show (fs.set eb v).length = fs.length; rw [List.length_set]) (hRW.set hw ?_ e2 e3) hS'
            refine ⟨_, hcl, t_OB.to (V := updV (vp_V (fs.map (sm_up g))) eb (sm_up g v)) ⟨_, e1, q2, q3, t_set q4 hap h9 (sm_up g v)⟩ (fun t _ => ?_)⟩
            dsimp only [sm_rE]
            rw [List.map_set]
            exact vp_updV_set (by rw [List.length_map]; exact hlen) (sm_up g v) t
          cases hfb : (sm_T ci eb).2.2.2 with
          | false =>
            unfold u_lay at hlay
            rw [if_neg (by rw [hfb]; decide)] at hlay
            have h6 := u_store hfc hkC hkind hlay hi hty hnf.1 hnf.2
            refine W.putK hx hb (f := f) ⟨hown, hlk, ⟨_, _, _, hi⟩, hst⟩ (by rw [q2]; exact h6) q1 q3 (by rw [hsl]; exact k2_hasslot (q4 eb h9)) rfl rfl hd fun H' e1 e2 e3 => ?_
            rw [hsl] at e1 ⊢
            exact hgo H' _ e1 e2 e3 (hS.put e2 e3 (Nat.le_add_right _ _))
          | true =>
            rw [hfb] at hfin
            have hfin := hfin.resolve_left (by decide)
            unfold u_lay at hlay
            rw [if_pos hfb] at hlay
            have hcf : m.cls = cf := by
              obtain ⟨_, _, c', _, _, _, -, -, hf', -, -, -, hown2, -⟩ := Cond.laysFinal_spec hlay
              have e1 : c' = cf := by have := hi.symm.trans hf'; simp at this; exact this.1.symm
              have e2 : (sm_T ci eb).1 = (sm_y j).cls := hfin.2
              rw [e2] at hown2
              rw [← e1]; exact Option.some.inj (hown.symm.trans hown2)
            have h6 := u_fits hfc hkC hkind (Or.inr hlay) hi hty hnf.1 hnf.2
            refine W.putFinK hx hb hown hlk hi hst hcf (hin hfin.1) (by rw [q2]; exact h6) q1 q3 (by rw [hsl]; exact k2_hasslot (q4 eb h9)) rfl rfl hd fun H' e1 e2 e3 => ?_
            rw [hsl] at e1 ⊢
            exact hgo H' _ e1 e2 e3 (hS.put e2 e3 (Nat.le_add_right _ _))
        · cases h
      · cases h
    · cases h
  · -- getstatic
    split at h
    · rename_i h0
      cases h
      simp only [sm_okR, if_pos h0] at hR
      exact ⟨rfl, va_gets hx hb hFx.2.2.2.2.1 hS hown (hts _ (lw_inG (sm_at_in hR) rfl)) (fun _ h9 => h9) hd (k H locs cells slots rfl rfl hRW hS)⟩
    · rename_i h0
      split at h
      · rename_i h1
        cases h
        simp only [sm_okR, if_neg h0, if_pos h1] at hR
        exact ⟨rfl, va_gets hx hb hFx.2.2.2.2.2.1 hS hown (hts _ (lw_inG (sm_at_in hR) rfl)) (fun _ h9 => h9) hd (k H locs cells slots rfl rfl hRW hS)⟩
      · cases h
  · -- iaload
    split at h
    · rename_i ix k0 r
      split at h
      · rename_i hk0
        subst hk0
        split at h
        · rename_i x hi
          cases h
          obtain ⟨hv, hg⟩ := sm_ix_ok hi
          refine ⟨rfl, va_sld hx hb hFx.2.2.2.2.2.2.2.2.2.1 hFx.2.2.2.2.2.2.2.2.2.2.1 (Nat.not_le.mpr hFx.2.2.2.2.2.2.2.2.2.2.2.1) hS hv hd ?_⟩
          rw [hg]
          exact k H locs cells slots rfl rfl hRW hS
        · cases h
      · split at h
        · rename_i la hw
          split at h
          · rename_i x hi
            cases h
            obtain ⟨hv, hg⟩ := sm_ix_ok hi
            refine ⟨rfl, ?_⟩
            rw [List.map_cons, List.map_cons, sm_up_lo (hRW.lo hw)]
            refine va_iald hx hb hK hRW.2.2 k0 0 (sm_rW_get hw) rfl hv hd ?_
            rw [hg]
            exact k H locs cells slots rfl rfl hRW hS
          · cases h
        · cases h
    · cases h
  · -- caload
    split at h
    · rename_i ix k0 r
      split at h
      · rename_i la hw
        split at h
        · rename_i x hi
          cases h
          obtain ⟨hv, hg⟩ := sm_ix_ok hi
          refine ⟨rfl, ?_⟩
          rw [List.map_cons, List.map_cons, sm_up_lo (hRW.lo hw)]
          refine va_cald hx hb hK hRW.2.2 k0 1 (sm_rW_get hw) rfl hv hd ?_
          rw [hg]
          exact k H locs cells slots rfl rfl hRW hS
        · cases h
      · cases h
    · cases h
  · -- baload
    split at h
    · rename_i ix k0 r
      split at h
      · rename_i hk0
        subst hk0
        split at h
        · rename_i x hi
          cases h
          obtain ⟨hv, hg⟩ := sm_ix_ok hi
          exact ⟨rfl, va_tb hx hb hFx.2.2.2.1 hS hv (v := .int x) (by rw [hg]) hd (k H locs cells slots rfl rfl hRW hS)⟩
        · cases h
      · cases h
    · cases h
  · -- laload
    split at h
    · rename_i ix k0 r
      split at h
      · rename_i la hw
        split at h
        · rename_i x hi
          cases h
          obtain ⟨hv, hg⟩ := sm_ixl_ok hi
          refine ⟨rfl, ?_⟩
          rw [List.map_cons, List.map_cons, sm_up_lo (hRW.lo hw)]
          refine va_lald hx hb hK hRW.2.2 k0 2 (sm_rW_get hw) rfl hv hd ?_
          rw [hg]
          exact k H locs cells slots rfl rfl hRW hS
        · cases h
      · cases h
    · cases h
  · -- iastore
    split at h
    · rename_i x ix k0 r
      split at h
      · rename_i la hw
        split at h
        · cases h
        · rename_i hi
          cases h
          refine ⟨rfl, ?_⟩
          rw [List.map_cons, List.map_cons, List.map_cons, sm_up_lo (hRW.lo hw)]
          refine W.iast hx hb (hRW.2.2 k0 _ (sm_rW_get hw)) ((hK.2 0 _ rfl).1 la.length (fun t => .int (la.getD t 0))) (fun q => by cases q) (by show ¬ (ix < 0 ∨ (arrV _ _ _).slots.size ≤ _); rw [arrV_size]; exact hi) rfl rfl hd fun H1 e1 z oq => ?_
          refine k H1 _ cells slots (by rw [List.length_set]) (by rw [sm_sz_set hw]; show (la.set _ x).length = la.length; rw [List.length_set]) (hRW.set hw ?_ z oq) (hS.put z oq (Nat.le_add_right _ _))
          show H1[g.1 + k0]? = some (vp_cell _ _)
          rw [e1]
          dsimp only [sm_rE]
          rw [vp_cell_i, vp_cell_i, arrV_store, List.length_set]
          congr 2
          funext t
          rw [sm_getD_set (Nat.not_le.mp fun z => hi (Or.inr z))]
          by_cases hq : t = ix.toNatClampNeg
          · simp [updV, hq]
          · simp [updV, hq]
      · cases h
    · cases h
  · -- castore
    split at h
    · rename_i x ix k0 r
      split at h
      · rename_i la hw
        split at h
        · cases h
        · rename_i hi
          cases h
          refine ⟨rfl, ?_⟩
          rw [List.map_cons, List.map_cons, List.map_cons, sm_up_lo (hRW.lo hw)]
          refine W.cast hx hb (hRW.2.2 k0 _ (sm_rW_get hw)) ((hK.2 1 _ rfl).1 la.length (fun t => .int (la.getD t 0))) (fun q => by cases q) (by show ¬ (ix < 0 ∨ (arrV _ _ _).slots.size ≤ _); rw [arrV_size]; exact hi) rfl rfl hd fun H1 e1 z oq => ?_
          refine k H1 _ cells slots (by rw [List.length_set]) (by rw [sm_sz_set hw]; show (la.set _ _).length = la.length; rw [List.length_set]) (hRW.set hw ?_ z oq) (hS.put z oq (Nat.le_add_right _ _))
          show H1[g.1 + k0]? = some (vp_cell _ _)
          rw [e1]
          dsimp only [sm_rE]
          rw [vp_cell_i, vp_cell_i, arrV_store, List.length_set]
          congr 2
          funext t
          rw [sm_getD_set (Nat.not_le.mp fun z => hi (Or.inr z))]
          by_cases hq : t = ix.toNatClampNeg
          · simp [updV, hq, vp_nar]
            try rfl
          · simp [updV, hq]
      · cases h
    · cases h
  · -- lastore
    split at h
    · rename_i x ix k0 r
      split at h
      · rename_i la hw
        split at h
        · cases h
        · rename_i hi
          cases h
          refine ⟨rfl, ?_⟩
          rw [List.map_cons, List.map_cons, List.map_cons, sm_up_lo (hRW.lo hw)]
          refine W.last hx hb (hRW.2.2 k0 _ (sm_rW_get hw)) ((hK.2 2 _ rfl).1 la.length (fun t => .long (la.getD t 0))) (fun q => by cases q) (by show ¬ (ix < 0 ∨ (arrV _ _ _).slots.size ≤ _); rw [arrV_size]; exact hi) rfl rfl hd fun H1 e1 z oq => ?_
          refine k H1 _ cells slots (by rw [List.length_set]) (by rw [sm_sz_set hw]; show (la.set _ x).length = la.length; rw [List.length_set]) (hRW.set hw ?_ z oq) (hS.put z oq (Nat.le_add_right _ _))
          show H1[g.1 + k0]? = some (vp_cell _ _)
          rw [e1]
          dsimp only [sm_rE]
          rw [vp_cell_l, vp_cell_l, arrV_store, List.length_set]
          congr 2
          funext t
          rw [sm_getD_set (Nat.not_le.mp fun z => hi (Or.inr z))]
          by_cases hq : t = ix.toNatClampNeg
          · simp [updV, hq]
          · simp [updV, hq]
      · cases h
    · cases h
  · -- arraylength
    split at h
    · rename_i k0 r
      split at h
      · rename_i hk0
        subst hk0
        cases h
        exact ⟨rfl, va_tlen hx hb hFx.2.2.2.1 hS rfl hd (k H locs cells slots rfl rfl hRW hS)⟩
      · split at h
        · rename_i hk0
          subst hk0
          cases h
          exact ⟨rfl, va_slen hx hb hFx.2.2.2.2.2.2.2.2.2.1 hFx.2.2.2.2.2.2.2.2.2.2.1 (Nat.not_le.mpr hFx.2.2.2.2.2.2.2.2.2.2.2.1) hS hd (k H locs cells slots rfl rfl hRW hS)⟩
        · split at h
          · rename_i t la hw
            cases h
            refine ⟨rfl, ?_⟩
            rw [List.map_cons, sm_up_lo (hRW.lo hw)]
            by_cases ht : t = 0
            · exact va_alen hx hb hK hRW.2.2 k0 0 (sm_rW_get hw) (ty := .int) (by rw [if_pos ht]; rfl) rfl hd (k H locs cells slots rfl rfl hRW hS)
            · exact va_alen hx hb hK hRW.2.2 k0 1 (sm_rW_get hw) (ty := .char) (by rw [if_neg ht]; rfl) rfl hd (k H locs cells slots rfl rfl hRW hS)
          · rename_i la hw
            cases h
            refine ⟨rfl, ?_⟩
            rw [List.map_cons, sm_up_lo (hRW.lo hw)]
            exact va_alen hx hb hK hRW.2.2 k0 2 (sm_rW_get hw) (ty := .long) rfl rfl hd (k H locs cells slots rfl rfl hRW hS)
          · cases h
    · cases h
  · -- new
    split at h
    · rename_i hc
      cases h
      simp only [sm_okR, Bool.or_eq_true, Bool.and_eq_true, decide_eq_true_eq] at hR
      have hR := hR.resolve_left (by omega)
      have hI := sm_okI_at hc.1
      have hcl := sm_cl_at hc.1
      have hKn := hK.1 ea _ hcl
      have hlenF : ((List.range (sm_nf ea)).map (fun t => defaultValue (sm_ty ea t))).length = sm_nf ea := by rw [List.length_map, List.length_range]
      simp only [List.length_append, List.length_singleton] at hcs
      rw [sm_sz_app] at hss
      have hs1 : sm_sz1 (.inr (.inr (ea, (List.range (sm_nf ea)).map (fun t => defaultValue (sm_ty ea t))))) = sm_nf ea := hlenF
      rw [hs1] at hss
      refine ⟨rfl, W.newcK hx hb hown (hts _ (lw_inG (sm_at_in hR.2) rfl)) (hts _ hI.1) (hts _ hI.2.1) rfl hd (by omega) (by omega) hKn.2.1 rfl fun H1 kC hkC e1 z1 o1 => ?_⟩
      have hk := k H1 locs (cells + 1) (slots + sm_nf ea) (by rw [List.length_append]; show _ = cells + (wd.length + 1); omega) (by rw [sm_sz_app, hs1]; omega)
        (hRW.app hc.2 ⟨_, hcl, (u_born (sm_ty ea) hts hI.2.2.1 hKn hkC (by rw [← hRW.1]; exact e1) hI.2.2.2.1).to (fun t ht => ?_)⟩ z1 o1)
        ⟨Nat.le_trans hS.1 (by omega), fun x h1 h2 => (o1 x (Nat.lt_of_lt_of_le h1 hS.1)).trans (hS.2.1 x h1 h2), hS.2.2⟩
      · rw [List.map_cons, sm_up_lo hc.2, ← hRW.1] at hk
        exact hk
      · show _ = vp_V (((List.range (sm_nf ea)).map (fun t => defaultValue (sm_ty ea t))).map (sm_up g)) t
        rw [vp_V, List.getD_eq_getElem?_getD, List.getElem?_map, List.getElem?_map, List.getElem?_range ht]
        show defaultValue (sm_ty ea t) = sm_up g (defaultValue (sm_ty ea t))
        cases sm_ty ea t <;> rfl
    · cases h
  · -- newarray
    rename_i ty
    split at h
    · rename_i n r
      split at h
      · cases h
      · rename_i hc
        have hc1 : ¬ n < 0 := fun z => hc (Or.inl z)
        have hc2 : n.toNatClampNeg ≤ 100000 := Nat.not_lt.mp fun z => hc (Or.inr (Or.inl z))
        have hc3 : wd.length < 1000000 := Nat.not_le.mp fun z => hc (Or.inr (Or.inr z))
        split at h
        · rename_i h2
          cases h
          simp only [List.length_append, List.length_singleton] at hcs
          rw [sm_sz_app] at hss
          have hs1 : sm_sz1 (.inr (.inl (List.replicate n.toNatClampNeg 0))) = n.toNatClampNeg := List.length_replicate
          rw [hs1] at hss
          cases ty <;> simp only [sm_okR, Bool.and_eq_true, decide_eq_true_eq] at hR <;> first
            | (cases hR; done)
            | (exfalso; have := hR.1; omega)
            | (refine ⟨rfl, sm_newa hx hb hK (hts _ (lw_inG (sm_at_in hR.2) rfl)) (ix := 2) rfl (by rfl) hRW hS hc3 hc1 rfl (Nat.le_trans (Nat.mul_le_mul hc2 (sm_cb _)) (by decide)) (by omega) (by omega) hd (en := .inr (.inl (List.replicate n.toNatClampNeg 0))) (a0 := (n.toNatClampNeg, .inr (.inl (fun t => (List.replicate n.toNatClampNeg 0).getD t 0)))) (by show (_ : va_E) = _; simp [sm_rE]) (fun cA => by rw [vp_cell_l]; congr 1; funext t; simp [List.getD_eq_getElem?_getD, List.getElem?_replicate]; split <;> rfl) (fun H1 hR1 hS1 => ?_)⟩
               have hk := k H1 locs (cells + 1) (slots + n.toNatClampNeg) (by rw [List.length_append]; show _ = cells + (wd.length + 1); omega) (by rw [sm_sz_app, hs1]; omega) hR1 hS1
               rw [List.map_cons, sm_up_lo hc3] at hk
               exact hk)
        · rename_i h2
          cases h
          simp only [List.length_append, List.length_singleton] at hcs
          rw [sm_sz_app] at hss
          have hs1 : sm_sz1 (.inl (ea, List.replicate n.toNatClampNeg 0)) = n.toNatClampNeg := List.length_replicate
          rw [hs1] at hss
          cases ty <;> simp only [sm_okR, Bool.and_eq_true, decide_eq_true_eq] at hR <;> first
            | (cases hR; done)
            | (exfalso; have := hR.1; omega)
            | (refine ⟨rfl, sm_newa hx hb hK (hts _ (lw_inG (sm_at_in hR.2) rfl)) (ix := 0) rfl (by rfl) hRW hS hc3 hc1 rfl (Nat.le_trans (Nat.mul_le_mul hc2 (sm_cb _)) (by decide)) (by omega) (by omega) hd (en := .inl (ea, List.replicate n.toNatClampNeg 0)) (a0 := (n.toNatClampNeg, .inl (fun t => (List.replicate n.toNatClampNeg 0).getD t 0))) (by show (_ : va_E) = _; simp [sm_rE, hR.1]) (fun cA => by rw [vp_cell_i]; congr 1; funext t; simp [List.getD_eq_getElem?_getD, List.getElem?_replicate]; split <;> rfl) (fun H1 hR1 hS1 => ?_)⟩
               have hk := k H1 locs (cells + 1) (slots + n.toNatClampNeg) (by rw [List.length_append]; show _ = cells + (wd.length + 1); omega) (by rw [sm_sz_app, hs1]; omega) hR1 hS1
               rw [List.map_cons, sm_up_lo hc3] at hk
               exact hk)
            | (refine ⟨rfl, sm_newa hx hb hK (hts _ (lw_inG (sm_at_in hR.2) rfl)) (ix := 1) rfl (by rfl) hRW hS hc3 hc1 rfl (Nat.le_trans (Nat.mul_le_mul hc2 (sm_cb _)) (by decide)) (by omega) (by omega) hd (en := .inl (ea, List.replicate n.toNatClampNeg 0)) (a0 := (n.toNatClampNeg, .inl (fun t => (List.replicate n.toNatClampNeg 0).getD t 0))) (by show (_ : va_E) = _; simp [sm_rE, hR.1]) (fun cA => by rw [vp_cell_i]; congr 1; funext t; simp [List.getD_eq_getElem?_getD, List.getElem?_replicate]; split <;> rfl) (fun H1 hR1 hS1 => ?_)⟩
               have hk := k H1 locs (cells + 1) (slots + n.toNatClampNeg) (by rw [List.length_append]; show _ = cells + (wd.length + 1); omega) (by rw [sm_sz_app, hs1]; omega) hR1 hS1
               rw [List.map_cons, sm_up_lo hc3] at hk
               exact hk)
    · cases h
  · -- objectInit
    split at h
    · rename_i k0 r
      split at h
      · rename_i hc
        cases h
        simp only [sm_okR, Bool.or_eq_true, decide_eq_true_eq] at hR
        have hR := hR.resolve_left (by omega)
        rw [if_pos hc.1] at hR
        refine ⟨rfl, ?_⟩
        rw [List.map_cons, sm_up_lo hc.2.2.1]
        refine W.objInit hx hb hown (hts _ (lw_inG (sm_at_in hR) rfl)) (hts _ (lw_inG sm_ok_obj.1 rfl)) (hts _ (lw_inG sm_ok_obj.2 rfl)) rfl (by rw [hml]; exact hl.1) rfl hd (by omega) ?_ (k H locs cells slots rfl rfl hRW hS)
        have : ((r.map (sm_up g)).map fun v => v.category).sum = (r.map fun v => v.category).sum := by
          rw [List.map_map]; congr 1; exact List.map_congr_left fun v _ => sm_up_cat hf v
        rw [this]
        show 2 * 0 + _ + 12 ≤ _
        omega
      · cases h
    · cases h
  · -- Math
    split at h
    · rename_i y x r
      split at h
      · rename_i hc
        have hsum : ((r.map (sm_up g)).map fun v => v.category).sum = (r.map fun v => v.category).sum := by
          rw [List.map_map]; congr 1; exact List.map_congr_left fun v _ => sm_up_cat hf v
        split at h
        · rename_i hk0
          subst hk0
          cases h
          simp only [sm_okR, Bool.or_eq_true, Bool.and_eq_true, decide_eq_true_eq] at hR
          rcases hR with ((hR | hR) | hR) | hR
          · omega
          · exact ⟨rfl, va_mmax hx hb (by rw [hml]; exact hl.1.symm) hown (hts _ (lw_inG (sm_at_in hR.2) rfl)) (hts _ (lw_inG (sm_at_in sm_ok_max.1) rfl)) (hts _ (lw_inG sm_ok_math rfl)) (hts _ (lw_inG (sm_at_in sm_ok_max.2) rfl)) (by omega) (by rw [hsum]; omega) (Nat.le_of_add_le_add_right hcs) (Nat.le_of_add_le_add_right hss) hd (k H locs cells slots rfl rfl hRW hS)⟩
          · omega
          · exact absurd hR.1.1.2 (by decide)
        · split at h
          · rename_i hk0
            subst hk0
            cases h
            simp only [sm_okR, Bool.or_eq_true, Bool.and_eq_true, decide_eq_true_eq] at hR
            rcases hR with ((hR | hR) | hR) | hR
            · omega
            · omega
            · exact ⟨rfl, va_mmin hx hb (by rw [hml]; exact hl.1.symm) hown (hts _ (lw_inG (sm_at_in hR.2) rfl)) (hts _ (lw_inG (sm_at_in sm_ok_min.1) rfl)) (hts _ (lw_inG sm_ok_math rfl)) (hts _ (lw_inG (sm_at_in sm_ok_min.2) rfl)) (by omega) (by rw [hsum]; omega) (Nat.le_of_add_le_add_right hcs) (Nat.le_of_add_le_add_right hss) hd (k H locs cells slots rfl rfl hRW hS)⟩
            · exact absurd hR.1.1.2 (by decide)
          · cases h
      · cases h
    · cases h
  · cases h
end SM3
