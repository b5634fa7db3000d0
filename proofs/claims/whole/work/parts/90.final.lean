/-! THE CLAIM OUT OF ONE WALK OF THE LAW'S BODY. Your part is whole_start (and what it stands on); all else here is the same for every law, but numbers. -/
def R_law : String := "LeavingVoteLaw"
def lw_P (b : Addr) (xs : List Int32) (args : Array Value) (s : State) : Prop := args = #[.ref b] ∧ s.IntsAt b xs ∧ xs.length ≤ 256 ∧ (Jvm.Cond.and given_1 narrow_1).before args s = true
def lw_Q (_ : Array Value) (s : State) (o : Outcome) (t : State) : Prop := o = .returned (some (.int 1)) ∧ Framed s o t [] 600000 7302250
def lw_Z (below : List Frame) (a : Array Value) (s : State) : State → Prop := fun t => ∃ o, t.status = .running ∧ Ended t below o ∧ lw_Q a s o t
/-- the law's own end, with 1 on the stack, nothing written that was there before, its room as the claim has it -/
theorem lw_ret {p : Program} {l : Launch} {e : Env} {s : State} {m : MethodId} {below : List Frame} {meth : Method} {c : Code} {b : Nat} (hx : p.tables.exec = Jvm.exec) (hb : c.code = code) (hr : meth.sig.returnType = ret) (hlocks : meth.locks = false) {pc : Nat} {H : Heap} {ls : Array Slot} (hdg : decode code pc = .ok (.ireturn, 1)) : W p l e room_1 s m #[Value.ref b] below meth c H [] 600000 7302250 (lw_Z below #[Value.ref b] s) (F0 m pc ls [.int 1]) := by
  intro T hT X
  obtain ⟨fs, hret, hrun, hended, hW, hframe⟩ := X.leave (v := some (.int 1)) (hlocks := hlocks) (fun h => by rw [hr] at h; cases h)
  have hmeth' : T.vm.method? m = some meth := X.method'
  refine ⟨T.setFrames fs, ?_, .returned (some (.int 1)), hrun, hended, rfl, ⟨_, rfl⟩, hW, hframe⟩
  jvm_step X.here [X.here.top, hx, hb, hdg, hmeth', hr, ret, narrow_b1]
  (try refine ⟨rfl, ?_⟩); (try refine ⟨rfl, ?_⟩)
  first | (intro acts; rw [hret _ acts rfl rfl rfl]) | rw [hret _ _ rfl rfl rfl]
  exact Steps.refl _
/-- what holds at the law's entry: the machine, the code, the tables' words (any of lw_tbl by 'hts w (by decide +kernel)'), the script of L ints xs at the cell b, what the Statement gives of the start (any of its parts by flat_of_before) -/
def lw_At (p : Program) (s : State) (m : MethodId) (meth : Method) (c : Code) (b L : Nat) (xs : Nat → Int32) : Prop :=
  p.tables.exec = Jvm.exec ∧ c.code = code ∧ meth.sig.returnType = ret ∧ c.maxLocals = 4 ∧ s.vm.findClass R_law = some m.cls ∧ (∀ w ∈ lw_tbl, w.before #[Value.ref b] s = true) ∧ va_X b L xs s s.heap ∧ b < s.heap.size ∧ meth.locks = false ∧ (Jvm.Cond.and given_1 narrow_1).before #[Value.ref b] s = true
-- whole_start: the law is a method of the small machine
theorem sm_b_law : sm_b 188 = code := rfl
theorem sm_ml_law : sm_ml 188 = 4 := rfl
theorem sm_y_law : (sm_y 188).cls = R_law := rfl
theorem sm_n_law : (sm_y 188).name ≠ "<init>" := by decide +kernel
theorem sm_k_str : Cond.stringRef "LeavingVote" 258 sm_tx ∈ lw_tbl := List.mem_of_getElem? (i := 188) (by decide +kernel)
theorem sm_k_n1 : Cond.methodLinkNest "LeavingVote$Night" 71 ⟨"LeavingVote", "lowest", "(II)I"⟩ "LeavingVote" ∈ lw_tbl := List.mem_of_getElem? (i := 508) (by decide +kernel)
theorem sm_k_n2 : Cond.methodLinkNest "LeavingVote$Standing" 19 ⟨"LeavingVote", "oneIf", "(Z)I"⟩ "LeavingVote" ∈ lw_tbl := List.mem_of_getElem? (i := 595) (by decide +kernel)
theorem sm_k_aI : Cond.arrayClass .int ∈ lw_tbl := List.mem_of_getElem? (i := 91) (by decide +kernel)
theorem sm_k_aC : Cond.arrayClass .char ∈ lw_tbl := List.mem_of_getElem? (i := 74) (by decide +kernel)
theorem sm_k_aL : Cond.arrayClass .long ∈ lw_tbl := List.mem_of_getElem? (i := 167) (by decide +kernel)
theorem sm_k_cs : Cond.laysStatic "java/lang/String" "COMPACT_STRINGS" "Z" ∈ lw_tbl := List.mem_of_getElem? (i := 198) (by decide +kernel)
theorem sm_k_sf : Cond.laysStatic "jdk/internal/util/Preconditions" "SIOOBE_FORMATTER" "Ljava/util/function/BiFunction;" ∈ lw_tbl := List.mem_of_getElem? (i := 214) (by decide +kernel)
theorem sm_k_is : Cond.initialized "java/lang/String" ∈ lw_tbl := List.mem_of_getElem? (i := 46) (by decide +kernel)
theorem sm_k_ip : Cond.initialized "jdk/internal/util/Preconditions" ∈ lw_tbl := List.mem_of_getElem? (i := 48) (by decide +kernel)
abbrev sm_tm : Term := Term.string "LeavingVote" 258
theorem sm_k_el : ∀ j, j < 90 → Cond.eq (.elem (.field sm_tm "java/lang/String" "value" "[B") (.int (Int32.ofNat j))) (.int (([sm_text].getD 0 []).getD j 0)) ∈ flatC (Jvm.Cond.and given_1 narrow_1) := by decide +kernel
theorem sm_text_len : sm_text.length = 90 := by decide +kernel
set_option maxHeartbeats 4000000 in
set_option maxRecDepth 100000 in
theorem whole_start {p : Program} {e : Env} {s : State} {m : MethodId} {below : List Frame} {meth : Method} {c : Code} (l : Launch) (hflags : l.flags = flags0) {b L : Nat} {xs : Nat → Int32} (hL : L ≤ 256) (C0 : lw_At p s m meth c b L xs) : W p l e room_1 s m #[Value.ref b] below meth c s.heap [] 0 0 (lw_Z below #[Value.ref b] s) (entryFrame m ([Value.ref b] : List Value).toArray 4) := by
  obtain ⟨hx, hb, hr, hml, hown, hts, hX, hbl, hlocks, hgv⟩ := id C0
  have hfl := flat_of_before _ hgv
  have hA0 : ∀ a : Nat, a < s.heap.size → ¬ (fun q : Nat => s.heap.size ≤ q) a := fun a h => Nat.not_le.mpr h
  obtain ⟨adK, adV, hvS, hvE⟩ := vk_Sof (args := #[Value.ref b]) (s := s) (N := 1) (tm := fun _ => sm_tm) (len := [90]) (byt := [sm_text]) (A := fun q : Nat => s.heap.size ≤ q)
    (fun i hi => by rw [show i = 0 by omega]; decide)
    (fun i hi => hfl _ (by decide +kernel)) (fun i hi => hfl _ (by decide +kernel)) (fun i hi => hfl _ (by decide +kernel))
    (fun i hi => by rw [show i = 0 by omega]; exact hfl _ (by decide +kernel))
    (fun i hi j hj => by
      rw [show i = 0 by omega] at hj ⊢
      exact hfl _ (sm_k_el j hj))
    (fun i j hi hj hij => by omega) hA0
  obtain ⟨hO, hO1, hO2, hO3⟩ := hvS.1 0 (by decide)
  have hZ1 := va_Zof (A := fun q : Nat => s.heap.size ≤ q) (hts _ sm_k_cs) (hts _ sm_k_is) (va_eqi (hfl (Cond.eq (.static "java/lang/String" "COMPACT_STRINGS" "Z") (.int 1)) (by decide +kernel))) hA0
  have hZq := va_Zqof (A := fun q : Nat => s.heap.size ≤ q) (hts _ sm_k_sf) (hts _ sm_k_ip) (hfl (Cond.isRef (.static "jdk/internal/util/Preconditions" "SIOOBE_FORMATTER" "Ljava/util/function/BiFunction;")) (by decide +kernel)) hA0
  obtain ⟨fv, hfv, hZ2⟩ : ∃ fv : Value, (fv = .null ∨ ∃ a, fv = .ref a) ∧ va_Z "jdk/internal/util/Preconditions" "SIOOBE_FORMATTER" "Ljava/util/function/BiFunction;" fv (fun q : Nat => s.heap.size ≤ q) s s.heap := by
    rcases hZq with h | ⟨t, h⟩
    · exact ⟨_, Or.inl rfl, h⟩
    · exact ⟨_, Or.inr ⟨t, rfl⟩, h⟩
  obtain ⟨cI, kI, pI, fI, gI, eI⟩ := Cond.arrayClass_spec (hts _ sm_k_aI)
  obtain ⟨cC, kC, pC, fC, gC, eC⟩ := Cond.arrayClass_spec (hts _ sm_k_aC)
  obtain ⟨cL, kL, pL, fL, gL, eL⟩ := Cond.arrayClass_spec (hts _ sm_k_aL)
  have htsG : ∀ w ∈ lw_tblG, w.before #[Value.ref b] s = true := fun w hw => hts w (lw_goodG hw).1
  have hKn : ∀ ci : Nat, ∃ q : ClassId × (Nat → Nat), ci < 8 → u_Kn s (sm_cn ci) (sm_T ci) (sm_nf ci) q.1 q.2 := by
    intro ci
    by_cases h : ci < 8
    · have hI := sm_okI_at h
      obtain ⟨cc, iS, hk⟩ := u_known htsG hI.2.2.1 (htsG _ hI.1)
      exact ⟨(cc, iS), fun _ => hk⟩
    · exact ⟨(0, fun _ => 0), fun z => absurd z h⟩
  obtain ⟨fk, hfk⟩ := Classical.axiomOfChoice hKn
  have hlen8 : sm_cl.length = 8 := rfl
  have hK : va_K (fun k => (fk k).1, fun k => (fk k).2) sm_cl [(cI, .int), (cC, .char), (cL, .long)] s := by
    refine ⟨fun ci q hq => ?_, fun k q hq => ?_⟩
    · have h8 : ci < 8 := by rw [← hlen8]; exact (List.getElem?_eq_some_iff.mp hq).1
      rw [sm_cl_at h8] at hq
      cases hq
      exact hfk ci h8
    · match k, hq with
      | 0, hq => cases hq; exact ⟨fun n z => ⟨fun k h => (by cases h), kI, gI, pI, eI⟩, fI⟩
      | 1, hq => cases hq; exact ⟨fun n z => ⟨fun k h => (by cases h), kC, gC, pC, eC⟩, fC⟩
      | 2, hq => cases hq; exact ⟨fun n z => ⟨fun k h => (by cases h), kL, gL, pL, eL⟩, fL⟩
      | k + 3, hq => simp at hq
  obtain ⟨f, wd', hrun, hwl, hws⟩ := law_ok ((List.range L).map xs) (by rw [List.length_map, List.length_range]; exact hL)
  have hxl : ((List.range L).map xs).length = L := by rw [List.length_map, List.length_range]
  have hX2 : va_X b ((List.range L).map xs).length (fun j => ((List.range L).map xs).getD j 0) s s.heap := by
    rw [hxl]
    obtain ⟨scr, h1, h2, h3, h4, h5⟩ := hX
    refine ⟨scr, h1, h2, h3, h4, fun j hj => ?_⟩
    show _ = some (Value.int (((List.range L).map xs).getD j 0))
    rw [h5 j hj, List.getD_eq_getElem?_getD, List.getElem?_map, List.getElem?_range hj]
    rfl
  have hFx : sm_Fx (s.heap.size, adK 0, adV 0, fv, b, (cI, cC, cL)) ((List.range L).map xs) s s.heap :=
    ⟨hO, hO1, hO2, by rw [sm_text_len]; exact hO3, hZ1, hZ2, vk_R.of (hts _ sm_k_str) (hvE 0 (by decide)), va_Nw.of rfl (hts _ sm_k_n1), va_Nw.of rfl (hts _ sm_k_n2), hX2, hbl, hbl, hfv⟩
  have hlv := sm_ent_lv (g := (s.heap.size, adK 0, adV 0, fv, b, (cI, cC, cL))) hfv (as := [.ref 1000004]) (n := 4) (by decide)
  rw [lg_entry_eq]
  refine sm_wok l _ (s.heap.size, adK 0, adV 0, fv, b, (cI, cC, cL)) (fun k => (fk k).1, fun k => (fk k).2) f 8 188 0 _ [] [] _ (by decide) hrun p e room_1 s m _ below meth c s.heap [] 0 0 _ _ 600000 7302250
    ⟨hx, hb.trans sm_b_law.symm, hml.trans sm_ml_law.symm, by rw [sm_y_law]; exact hown, htsG, hK, hFx, Nat.le_refl _, by decide, by decide, fun z => absurd z sm_n_law⟩ ⟨rfl, Nat.zero_le _, fun k q h => by simp [sm_rW] at h⟩ va_S.rf hlv (by show 0 + wd'.length ≤ 600000 + 0; omega) (by show 0 + sm_sz wd' ≤ 7302250 + 0; omega) (Nat.le_refl _) (Nat.le_refl _) ?_
  intro pc' i st' H' locs' ls' hd hret hRW' hS'
  unfold sm_ret at hret
  split at hret
  · split at hret
    · split at hret
      · split at hret
        · cases hret
          rw [sm_b_law] at hd
          exact va_forget (fun q hq => hS'.2.2 q hq) (lw_ret hx hb hr hlocks hd)
        · cases hret
      · cases hret
    · cases hret
  · split at hret
    · split at hret <;> cases hret
    · cases hret
  · split at hret
    · split at hret <;> cases hret
    · cases hret
  · cases hret

set_option maxHeartbeats 4000000 in
theorem lw_walk (l : Launch) (hflags : l.flags = flags0) (b : Addr) (xs : List Int32) : MetFree l x (headSpec (Jvm.Cond.code x code maxLocals ret :: tables_1) room_1) (lw_P b xs) (fun _ _ _ _ _ => True) lw_Q := by
  refine MetFree.of_bodyS (code := code) (maxLocals := maxLocals) (ret := ret) (by decide) ?_ ?_
  · intro args s m h hn
    obtain ⟨meth, c, h1, h2, h3, h4, h5, h6, -, -⟩ := Cond.code_spec hn (atoms_spec (ws := Jvm.Cond.code x code maxLocals ret :: tables_1) h _ List.mem_cons_self)
    exact ⟨meth, c, h1, h2, h3, h4, h5, h6⟩
  · intro p e s m args below meth c s₁ B hml0 hP _
    obtain ⟨rfl, hx, hbd, hgv⟩ := hP
    obtain ⟨scr, harrAt, hlist, hof, hsmall⟩ := hx
    obtain ⟨hcb, hkn, -, -⟩ := State.arrayAt?_spec harrAt
    have hown : s.vm.findClass R_law = some m.cls := findClass_of_methodNamed B.named
    have hts0 : ∀ c ∈ (Jvm.Cond.code x code maxLocals ret :: tables_1), c.before #[Value.ref b] s = true := atoms_spec (ws := Jvm.Cond.code x code maxLocals ret :: tables_1) B.pre
    have hts : ∀ w ∈ lw_tbl, w.before #[Value.ref b] s = true := k2_hts_sels lw_privs (fun w hw => hts0 w (List.mem_cons_of_mem _ hw)) lw_privs_ok
    have hml : c.maxLocals = 4 := B.maxLocals_eq (hts0 _ List.mem_cons_self)
    have X₀ : Stand p l e room_1 s m #[Value.ref b] below meth c s₁ [] 0 0 := Stand.of_body B
    have hh0 : s₁.heap = s.heap := by rw [B.state]; rfl
    have hsz : scr.slots.size = xs.length := by rw [← Array.length_toList, hlist, List.length_map]
    have hval : ∀ j : Nat, j < xs.length → scr.slots[j]? = some (.int (xs.getD j 0)) := fun j hj => by
      rw [← Array.getElem?_toList, hlist]
      simp [hj]
    have hbl : b < s.heap.size := (Array.getElem?_eq_some_iff.mp hcb).1
    have hX : va_X b xs.length (fun j => xs.getD j 0) s s.heap := ⟨scr, hcb, hof, hkn, hsz, hval⟩
    have K : W p l e room_1 s m #[Value.ref b] below meth c s₁.heap [] 0 0 (lw_Z below #[Value.ref b] s) (entryFrame m ([Value.ref b] : List Value).toArray 4) := by
      rw [hh0]
      exact whole_start l hflags hbd ⟨B.exec, B.bytes, B.returns, hml, hown, hts, hX, hbl, B.notSynchronized, hgv⟩
    obtain ⟨t, a1, o, b1, b2, b3⟩ := K s₁ rfl X₀
    exact ⟨t, o, a1, b1, b2, b3⟩
theorem lw_pre_spec {args : Array Value} {s : State} (h : (Jvm.Cond.and given_1 narrow_1).before args s = true) (hr : rest_1_c.before args s = true) : ∃ (b : Addr) (xs : List Int32), lw_P b xs args s := by
  have hs := flat_of_before _ h
  have hq := flat_of_before _ hr
  have hc : (Cond.count 1).before args s = true := hs _ (by decide +kernel)
  have harr : (Cond.arrayOf (.arg 0) .int).before args s = true := hs _ (by decide +kernel)
  have hle : (Cond.le (.length (.arg 0)) (.int 256)).before args s = true := hs _ (by decide +kernel)
  have hlen : (Cond.isInt (.length (.arg 0))).before args s = true := hq _ (by decide +kernel)
  have hall : (Cond.all (.arg 0) (.isInt (.elem (.arg 0) (.index 0)))).before args s = true := hq _ (by decide +kernel)
  obtain ⟨b, xs, hb, hx⟩ := State.ints_of_pre rfl harr hlen hall
  have hsm : xs.length < 2 ^ 31 := hx.choose_spec.2.2.2
  have hev : (Term.length (.arg 0)).eval args s none [] s = some (.int xs.length.toInt32) := hx.length_eval hb
  have hv := Cond.le_ints hev (show (Term.int 256).eval args s none [] s = some (.int 256) from rfl)
  have hd : xs.length.toInt32 ≤ 256 := by
    simpa [Cond.before, Cond.holds, hv] using hle
  have hN : xs.length ≤ 256 := (Int32.ofNat_le_ofNat hsm (by decide)).mp (show Int32.ofNat xs.length ≤ Int32.ofNat 256 from hd)
  exact ⟨b, xs, Cond.one_arg hc (show args[0]? = some (.ref b) from hb), hx, hN, h⟩
theorem lw_comes (l : Launch) (hflags : l.flags = flags0) : Comes l x (Jvm.Cond.code x code maxLocals ret :: tables_1) room_1 (fun tb e args s => Calls_1 tb e args s ∧ rest_1 tb e args s ∧ Pre_1 tb e args s)
    (fun _ _ args s o t => lw_Q args s o t) := by
  intro p e ha hc hk s m args below hf hfit hheap happ hpre
  obtain ⟨b, xs, hP⟩ := lw_pre_spec hpre.2.2 hpre.2.1
  obtain ⟨k, o, h1, h2, h3, hQ⟩ := lw_walk l hflags b xs p e ha hc hk s m args below hf ((Spec.applies_iff_loose hf).mp happ).1 hP trivial
  exact ⟨k, o, h1, h2, h3, hQ⟩
theorem lw_frame {s t : State} {o : Outcome} {args : Array Value} (h : Framed s o t [] 600000 7302250) :
    Framed s o t (fieldLocs frame_1_writes args s ++ arrayLocs frame_1_arrays args s ++ staticLocs frame_1_statics s) 600000 7302250 := h
theorem lw_limb (L : Cond) (hL : ∀ (args : Array Value) (s t : State), L.after args s (.returned (some (.int 1))) t = true) :
    ArmFor flags0 classFile x code maxLocals ret World_1 tables_1 room_1 Calls_1 rest_1 Pre_1
      (fun tb e a s o t => postC L tb e a s o t ∧ Framed s o t (fieldLocs frame_1_writes a s ++ arrayLocs frame_1_arrays a s ++ staticLocs frame_1_statics s) 600000 7302250) := by
  intro l hflags _ _ p e ha hc hk s m args below hf hfit hheap happ hpre
  obtain ⟨k, o, h1, h2, h3, rfl, hF⟩ := lw_comes l hflags p e ha hc hk s m args below hf hfit hheap happ hpre
  exact ⟨k, _, h1, h2, h3, hL args s _, lw_frame hF⟩
theorem i_vc : Claimed_1_1 ∧ Claimed_1_2 := ⟨lw_limb limb_1_1 (fun args s t => by simp [limb_1_1, Cond.after, Cond.holds, Cond.value]), lw_limb limb_1_2 (fun args s t => Cond.after_iff.mpr (by
  first | (rw [show limb_1_2 = Cond.eq .result (.int 1) from rfl, Cond.eq_ints (x := 1) (y := 1) rfl rfl]; simp; done) | (simp [limb_1_2, Cond.value, Term.eval]; done)))⟩
