/-! RULES over the small machine: RT: from this point the run ends, with an answer and a world that Q allows -/
def RT (xs : List Int32) (d j pc : Nat) (L : sm_L) (st : List Value) (wd : sm_W) (Q : Option Value → sm_W → Prop) : Prop := ∃ f q, sm_run xs f d j pc L st wd = some q ∧ Q q.1 q.2
def sm_bdy (xs : List Int32) (rc : Nat → Nat → Nat → sm_L → List Value → sm_W → Option (Option Value × sm_W)) (d j pc : Nat) (L : sm_L) (st : List Value) (wd : sm_W) : Option (Option Value × sm_W) := match sm_ic j pc with
    | none => none
    | some e => match sm_call e with
      | true => match d with
        | 0 => none
        | d' + 1 => if sm_recv e.2.1 e.2.2.1 st wd = true ∧ e.2.2.1 ≤ st.length ∧ (sm_exp (st.take e.2.2.1).reverse).length ≤ sm_ml e.2.1 ∧ ((st.drop e.2.2.1).map fun v => v.category).sum ≤ 8 then
            match rc d' e.2.1 0 (sm_ent (sm_ml e.2.1) (st.take e.2.2.1).reverse) [] wd with
            | none => none
            | some q => rc (d' + 1) j (pc + 3) L (sm_push q.1 (st.drop e.2.2.1)) q.2
          else none
      | false => match sm_ret j e.1 st with
        | some r => some (r, wd)
        | none => match sm_step xs d (sm_ml j) e pc L st wd with
          | none => none
          | some q => rc d j q.1 q.2.1 q.2.2.1 q.2.2.2
theorem sm_run_bdy (xs : List Int32) (f d j pc : Nat) (L : sm_L) (st : List Value) (wd : sm_W) : sm_run xs (f + 1) d j pc L st wd = sm_bdy xs (sm_run xs f) d j pc L st wd := rfl
theorem sm_bdy_mono (xs : List Int32) {rc rc2 : Nat → Nat → Nat → sm_L → List Value → sm_W → Option (Option Value × sm_W)} (hm : ∀ d j pc L st wd q, rc d j pc L st wd = some q → rc2 d j pc L st wd = some q) {d j pc : Nat} {L : sm_L} {st : List Value} {wd : sm_W} {q : Option Value × sm_W} (h : sm_bdy xs rc d j pc L st wd = some q) : sm_bdy xs rc2 d j pc L st wd = some q := by
  unfold sm_bdy at h ⊢
  cases hic : sm_ic j pc with
  | none => rw [hic] at h; cases h
  | some en =>
    simp only [hic] at h ⊢
    cases hcall : sm_call en with
    | true =>
      simp only [hcall] at h ⊢
      cases d with
      | zero => cases h
      | succ d' =>
        dsimp only at h ⊢
        split at h
        · rename_i hcond
          rw [if_pos hcond]
          cases h1 : rc d' en.2.1 0 (sm_ent (sm_ml en.2.1) (st.take en.2.2.1).reverse) [] wd with
          | none => rw [h1] at h; cases h
          | some q1 =>
            rw [h1] at h
            rw [hm _ _ _ _ _ _ _ h1]
            exact hm _ _ _ _ _ _ _ h
        · cases h
    | false =>
      simp only [hcall] at h ⊢
      cases hret : sm_ret j en.1 st with
      | some r => simp only [hret] at h ⊢; exact h
      | none =>
        simp only [hret] at h ⊢
        cases h1 : sm_step xs d (sm_ml j) en pc L st wd with
        | none => rw [h1] at h; cases h
        | some q1 =>
          rw [h1] at h
          exact hm _ _ _ _ _ _ _ h
theorem sm_run_succ (xs : List Int32) : ∀ (f d j pc : Nat) (L : sm_L) (st : List Value) (wd : sm_W) (q : Option Value × sm_W), sm_run xs f d j pc L st wd = some q → sm_run xs (f + 1) d j pc L st wd = some q := by
  intro f
  induction f with
  | zero => intro d j pc L st wd q h; cases h
  | succ f ih =>
    intro d j pc L st wd q h
    rw [sm_run_bdy] at h ⊢
    exact sm_bdy_mono xs ih h
theorem sm_run_add (xs : List Int32) {f : Nat} (k : Nat) {d j pc : Nat} {L : sm_L} {st : List Value} {wd : sm_W} {q : Option Value × sm_W} (h : sm_run xs f d j pc L st wd = some q) : sm_run xs (f + k) d j pc L st wd = some q := by
  induction k with
  | zero => exact h
  | succ k ih => exact sm_run_succ xs _ _ _ _ _ _ _ _ ih
section RTS
variable {xs : List Int32} {d j pc : Nat} {L : sm_L} {st : List Value} {wd : sm_W} {Q : Option Value → sm_W → Prop} {a b c : Nat}
theorem RT.mono {Q' : Option Value → sm_W → Prop} (h : RT xs d j pc L st wd Q') (hQ : ∀ r w, Q' r w → Q r w) : RT xs d j pc L st wd Q := by
  obtain ⟨f, q, h1, h2⟩ := h
  exact ⟨f, q, h1, hQ _ _ h2⟩
theorem RT.step {e : sm_I} {pc' : Nat} {L' : sm_L} {st' : List Value} {wd' : sm_W} (hic : sm_ic j pc = some e) (hc : sm_call e = false) (hr : sm_ret j e.1 st = none) (hs : sm_step xs d (sm_ml j) e pc L st wd = some (pc', L', st', wd')) (k : RT xs d j pc' L' st' wd' Q) : RT xs d j pc L st wd Q := by
  obtain ⟨f, q, h1, h2⟩ := k
  refine ⟨f + 1, q, ?_, h2⟩
  unfold sm_run
  simp only [hic, hc, hr, hs]
  exact h1
theorem RT.call {e : sm_I} (hic : sm_ic j pc = some e) (hc : sm_call e = true) (hrecv : sm_recv e.2.1 e.2.2.1 st wd = true) (hn : e.2.2.1 ≤ st.length) (hlen : (sm_exp (st.take e.2.2.1).reverse).length ≤ sm_ml e.2.1) (hcat : ((st.drop e.2.2.1).map fun v => v.category).sum ≤ 8)
    (k : RT xs d e.2.1 0 (sm_ent (sm_ml e.2.1) (st.take e.2.2.1).reverse) [] wd (fun r w => RT xs (d + 1) j (pc + 3) L (sm_push r (st.drop e.2.2.1)) w Q)) : RT xs (d + 1) j pc L st wd Q := by
  obtain ⟨f, q, h1, f2, q2, h2, h3⟩ := k
  refine ⟨f + f2 + 1, q2, ?_, h3⟩
  unfold sm_run
  simp only [hic, hc]
  rw [if_pos ⟨hrecv, hn, hlen, hcat⟩, sm_run_add xs f2 h1]
  rw [Nat.add_comm f f2]
  exact sm_run_add xs f h2
theorem RT.ret {e : sm_I} {r : Option Value} (hic : sm_ic j pc = some e) (hc : sm_call e = false) (hr : sm_ret j e.1 st = some r) (k : Q r wd) : RT xs d j pc L st wd Q := by
  refine ⟨1, (r, wd), ?_, k⟩
  unfold sm_run
  simp only [hic, hc, hr]
/-- a contract: the method's run from its entry -/
def Ct (xs : List Int32) (d j : Nat) (as : List Value) (wd : sm_W) (Q : Option Value → sm_W → Prop) : Prop := RT xs d j 0 (sm_ent (sm_ml j) as) [] wd Q
theorem Ct.mono {as : List Value} {Q' : Option Value → sm_W → Prop} (h : Ct xs d j as wd Q') (hQ : ∀ r w, Q' r w → Q r w) : Ct xs d j as wd Q := RT.mono h hQ

theorem R_iconst {n : Int} (h : sm_ic j pc = some (.iconst n, a, b, c)) {v : Int32} (hv : Int32.ofInt n = v) (k : RT xs d j (pc + 1) L (.int v :: st) wd Q) : RT xs d j pc L st wd Q := RT.step h rfl rfl (by subst hv; rfl) k
theorem R_bipush {n : Int} (h : sm_ic j pc = some (.bipush n, a, b, c)) {v : Int32} (hv : (Int8.ofInt n).toInt32 = v) (k : RT xs d j (pc + 2) L (.int v :: st) wd Q) : RT xs d j pc L st wd Q := RT.step h rfl rfl (by subst hv; rfl) k
theorem R_sipush {n : Int} (h : sm_ic j pc = some (.sipush n, a, b, c)) {v : Int32} (hv : (Int16.ofInt n).toInt32 = v) (k : RT xs d j (pc + 3) L (.int v :: st) wd Q) : RT xs d j pc L st wd Q := RT.step h rfl rfl (by subst hv; rfl) k
theorem R_lconst {n : Fin 2} (h : sm_ic j pc = some (.lconst n, a, b, c)) {v : Int64} (hv : Int64.ofNat (n : Nat) = v) (k : RT xs d j (pc + 1) L (.long v :: st) wd Q) : RT xs d j pc L st wd Q := RT.step h rfl rfl (by subst hv; rfl) k
theorem R_ldc_w {n : Nat} (h : sm_ic j pc = some (.ldc_w n, a, b, c)) (hc : c ≠ 0) {v : Int32} (hv : Int32.ofNat a = v) (k : RT xs d j (pc + 3) L (.int v :: st) wd Q) : RT xs d j pc L st wd Q := RT.step h rfl rfl (by subst hv; show some (pc + 3, L, (if c = 0 then Value.ref 1000001 else .int (Int32.ofNat a)) :: st, wd) = _; rw [if_neg hc]) k
theorem R_ldc_wS {n : Nat} (h : sm_ic j pc = some (.ldc_w n, a, b, 0)) (k : RT xs d j (pc + 3) L (.ref 1000001 :: st) wd Q) : RT xs d j pc L st wd Q := RT.step h rfl rfl rfl k
theorem R_ldc2_w {n : Nat} (h : sm_ic j pc = some (.ldc2_w n, a, b, c)) {v : Int64} (hv : sm_lv64 a b = v) (k : RT xs d j (pc + 3) L (.long v :: st) wd Q) : RT xs d j pc L st wd Q := RT.step h rfl rfl (by subst hv; rfl) k
theorem R_iload {i : Nat} (h : sm_ic j pc = some (.iload i, a, b, c)) {x : Int32} (hl : L[i]? = some (some (.int x))) (k : RT xs d j (pc + 2) L (.int x :: st) wd Q) : RT xs d j pc L st wd Q := RT.step h rfl rfl (by show (match L[i]? with | some (some (.int x)) => some (pc + 2, L, Value.int x :: st, wd) | _ => none) = _; rw [hl]) k
theorem R_iload_n {i : Fin 4} (h : sm_ic j pc = some (.iload_n i, a, b, c)) {x : Int32} (hl : L[(i : Nat)]? = some (some (.int x))) (k : RT xs d j (pc + 1) L (.int x :: st) wd Q) : RT xs d j pc L st wd Q := RT.step h rfl rfl (by show (match L[(i : Nat)]? with | some (some (.int x)) => some (pc + 1, L, Value.int x :: st, wd) | _ => none) = _; rw [hl]) k
theorem R_lload {i : Nat} (h : sm_ic j pc = some (.lload i, a, b, c)) {x : Int64} (hl : L[i]? = some (some (.long x))) (k : RT xs d j (pc + 2) L (.long x :: st) wd Q) : RT xs d j pc L st wd Q := RT.step h rfl rfl (by show (match L[i]? with | some (some (.long x)) => some (pc + 2, L, Value.long x :: st, wd) | _ => none) = _; rw [hl]) k
theorem R_lload_n {i : Fin 4} (h : sm_ic j pc = some (.lload_n i, a, b, c)) {x : Int64} (hl : L[(i : Nat)]? = some (some (.long x))) (k : RT xs d j (pc + 1) L (.long x :: st) wd Q) : RT xs d j pc L st wd Q := RT.step h rfl rfl (by show (match L[(i : Nat)]? with | some (some (.long x)) => some (pc + 1, L, Value.long x :: st, wd) | _ => none) = _; rw [hl]) k
theorem R_aload {i : Nat} (h : sm_ic j pc = some (.aload i, a, b, c)) {x : Nat} (hl : L[i]? = some (some (.ref x))) (hx : ¬ x = 1000003) (k : RT xs d j (pc + 2) L (.ref x :: st) wd Q) : RT xs d j pc L st wd Q := RT.step h rfl rfl (by show (match L[i]? with | some (some (.ref x)) => if x = 1000003 then none else some (pc + 2, L, Value.ref x :: st, wd) | _ => none) = _; rw [hl]; exact if_neg hx) k
theorem R_aload_n {i : Fin 4} (h : sm_ic j pc = some (.aload_n i, a, b, c)) {x : Nat} (hl : L[(i : Nat)]? = some (some (.ref x))) (hx : ¬ x = 1000003) (k : RT xs d j (pc + 1) L (.ref x :: st) wd Q) : RT xs d j pc L st wd Q := RT.step h rfl rfl (by show (match L[(i : Nat)]? with | some (some (.ref x)) => if x = 1000003 then none else some (pc + 1, L, Value.ref x :: st, wd) | _ => none) = _; rw [hl]; exact if_neg hx) k
theorem R_istore {i : Nat} (h : sm_ic j pc = some (.istore i, a, b, c)) {x : Int32} {L2 : sm_L} (hl : sm_st1 (sm_ml j) L i (.int x) = some L2) (k : RT xs d j (pc + 2) L2 st wd Q) : RT xs d j pc L (.int x :: st) wd Q := RT.step h rfl rfl (by show (sm_st1 (sm_ml j) L i (.int x)).map _ = _; rw [hl]; rfl) k
theorem R_istore_n {i : Fin 4} (h : sm_ic j pc = some (.istore_n i, a, b, c)) {x : Int32} {L2 : sm_L} (hl : sm_st1 (sm_ml j) L (i : Nat) (.int x) = some L2) (k : RT xs d j (pc + 1) L2 st wd Q) : RT xs d j pc L (.int x :: st) wd Q := RT.step h rfl rfl (by show (sm_st1 (sm_ml j) L (i : Nat) (.int x)).map _ = _; rw [hl]; rfl) k
theorem R_lstore {i : Nat} (h : sm_ic j pc = some (.lstore i, a, b, c)) {x : Int64} {L2 : sm_L} (hl : sm_st2 (sm_ml j) L i (.long x) = some L2) (k : RT xs d j (pc + 2) L2 st wd Q) : RT xs d j pc L (.long x :: st) wd Q := RT.step h rfl rfl (by show (sm_st2 (sm_ml j) L i (.long x)).map _ = _; rw [hl]; rfl) k
theorem R_lstore_n {i : Fin 4} (h : sm_ic j pc = some (.lstore_n i, a, b, c)) {x : Int64} {L2 : sm_L} (hl : sm_st2 (sm_ml j) L (i : Nat) (.long x) = some L2) (k : RT xs d j (pc + 1) L2 st wd Q) : RT xs d j pc L (.long x :: st) wd Q := RT.step h rfl rfl (by show (sm_st2 (sm_ml j) L (i : Nat) (.long x)).map _ = _; rw [hl]; rfl) k
theorem R_iinc {i : Nat} {n : Int} (h : sm_ic j pc = some (.iinc i n, a, b, c)) {x v : Int32} {L2 : sm_L} (hx : L[i]? = some (some (.int x))) (hv : x + Int32.ofInt n = v) (hl : sm_st1 (sm_ml j) L i (.int v) = some L2) (k : RT xs d j (pc + 3) L2 st wd Q) : RT xs d j pc L st wd Q := RT.step h rfl rfl (by subst hv; show (match L[i]? with | some (some (.int x)) => (sm_st1 (sm_ml j) L i (.int (x + Int32.ofInt n))).map (fun L' => (pc + 3, L', st, wd)) | _ => none) = _; rw [hx]; dsimp only; rw [hl]; rfl) k
theorem R_iadd {x y : Int32} (h : sm_ic j pc = some (.iadd, a, b, c)) (k : RT xs d j (pc + 1) L (.int (x + y) :: st) wd Q) : RT xs d j pc L (.int y :: .int x :: st) wd Q := RT.step h rfl rfl rfl k
theorem R_isub {x y : Int32} (h : sm_ic j pc = some (.isub, a, b, c)) (k : RT xs d j (pc + 1) L (.int (x - y) :: st) wd Q) : RT xs d j pc L (.int y :: .int x :: st) wd Q := RT.step h rfl rfl rfl k
theorem R_imul {x y : Int32} (h : sm_ic j pc = some (.imul, a, b, c)) (k : RT xs d j (pc + 1) L (.int (x * y) :: st) wd Q) : RT xs d j pc L (.int y :: .int x :: st) wd Q := RT.step h rfl rfl rfl k
theorem R_iand {x y : Int32} (h : sm_ic j pc = some (.iand, a, b, c)) (k : RT xs d j (pc + 1) L (.int (x &&& y) :: st) wd Q) : RT xs d j pc L (.int y :: .int x :: st) wd Q := RT.step h rfl rfl rfl k
theorem R_ior {x y : Int32} (h : sm_ic j pc = some (.ior, a, b, c)) (k : RT xs d j (pc + 1) L (.int (x ||| y) :: st) wd Q) : RT xs d j pc L (.int y :: .int x :: st) wd Q := RT.step h rfl rfl rfl k
theorem R_ixor {x y : Int32} (h : sm_ic j pc = some (.ixor, a, b, c)) (k : RT xs d j (pc + 1) L (.int (x ^^^ y) :: st) wd Q) : RT xs d j pc L (.int y :: .int x :: st) wd Q := RT.step h rfl rfl rfl k
theorem R_ishl {x y : Int32} (h : sm_ic j pc = some (.ishl, a, b, c)) (k : RT xs d j (pc + 1) L (.int (x <<< (y &&& 31)) :: st) wd Q) : RT xs d j pc L (.int y :: .int x :: st) wd Q := RT.step h rfl rfl rfl k
theorem R_ishr {x y : Int32} (h : sm_ic j pc = some (.ishr, a, b, c)) (k : RT xs d j (pc + 1) L (.int (x >>> (y &&& 31)) :: st) wd Q) : RT xs d j pc L (.int y :: .int x :: st) wd Q := RT.step h rfl rfl rfl k
theorem R_iushr {x y : Int32} (h : sm_ic j pc = some (.iushr, a, b, c)) (k : RT xs d j (pc + 1) L (.int (x.toUInt32 >>> (y.toUInt32 &&& Int32.toUInt32 31)).toInt32 :: st) wd Q) : RT xs d j pc L (.int y :: .int x :: st) wd Q := RT.step h rfl rfl rfl k
theorem R_idiv {x y : Int32} (h : sm_ic j pc = some (.idiv, a, b, c)) (hy : ¬ y = 0) (k : RT xs d j (pc + 1) L (.int (x / y) :: st) wd Q) : RT xs d j pc L (.int y :: .int x :: st) wd Q := RT.step h rfl rfl (by show Option.map _ (if y = 0 then none else some _) = _; rw [if_neg hy]; rfl) k
theorem R_irem {x y : Int32} (h : sm_ic j pc = some (.irem, a, b, c)) (hy : ¬ y = 0) (k : RT xs d j (pc + 1) L (.int (x - x / y * y) :: st) wd Q) : RT xs d j pc L (.int y :: .int x :: st) wd Q := RT.step h rfl rfl (by show Option.map _ (if y = 0 then none else some _) = _; rw [if_neg hy]; rfl) k
theorem R_ladd {x y : Int64} (h : sm_ic j pc = some (.ladd, a, b, c)) (k : RT xs d j (pc + 1) L (.long (x + y) :: st) wd Q) : RT xs d j pc L (.long y :: .long x :: st) wd Q := RT.step h rfl rfl rfl k
theorem R_lsub {x y : Int64} (h : sm_ic j pc = some (.lsub, a, b, c)) (k : RT xs d j (pc + 1) L (.long (x - y) :: st) wd Q) : RT xs d j pc L (.long y :: .long x :: st) wd Q := RT.step h rfl rfl rfl k
theorem R_lmul {x y : Int64} (h : sm_ic j pc = some (.lmul, a, b, c)) (k : RT xs d j (pc + 1) L (.long (x * y) :: st) wd Q) : RT xs d j pc L (.long y :: .long x :: st) wd Q := RT.step h rfl rfl rfl k
theorem R_land {x y : Int64} (h : sm_ic j pc = some (.land, a, b, c)) (k : RT xs d j (pc + 1) L (.long (x &&& y) :: st) wd Q) : RT xs d j pc L (.long y :: .long x :: st) wd Q := RT.step h rfl rfl rfl k
theorem R_lor {x y : Int64} (h : sm_ic j pc = some (.lor, a, b, c)) (k : RT xs d j (pc + 1) L (.long (x ||| y) :: st) wd Q) : RT xs d j pc L (.long y :: .long x :: st) wd Q := RT.step h rfl rfl rfl k
theorem R_lxor {x y : Int64} (h : sm_ic j pc = some (.lxor, a, b, c)) (k : RT xs d j (pc + 1) L (.long (x ^^^ y) :: st) wd Q) : RT xs d j pc L (.long y :: .long x :: st) wd Q := RT.step h rfl rfl rfl k
theorem R_lrem {x y : Int64} (h : sm_ic j pc = some (.lrem, a, b, c)) (hy : ¬ y = 0) (k : RT xs d j (pc + 1) L (.long (x - x / y * y) :: st) wd Q) : RT xs d j pc L (.long y :: .long x :: st) wd Q := RT.step h rfl rfl (by show Option.map _ (if y = 0 then none else some _) = _; rw [if_neg hy]; rfl) k
theorem R_lcmp {x y : Int64} (h : sm_ic j pc = some (.lcmp, a, b, c)) (k : RT xs d j (pc + 1) L (.int (lg_cmp x y) :: st) wd Q) : RT xs d j pc L (.long y :: .long x :: st) wd Q := RT.step h rfl rfl rfl k
theorem R_lshl {x : Int64} {y : Int32} (h : sm_ic j pc = some (.lshl, a, b, c)) (k : RT xs d j (pc + 1) L (.long (x <<< (y.toInt64 &&& 63)) :: st) wd Q) : RT xs d j pc L (.int y :: .long x :: st) wd Q := RT.step h rfl rfl rfl k
theorem R_lushr {x : Int64} {y : Int32} (h : sm_ic j pc = some (.lushr, a, b, c)) (k : RT xs d j (pc + 1) L (.long (x.toUInt64 >>> (y.toInt64.toUInt64 &&& Int64.toUInt64 63)).toInt64 :: st) wd Q) : RT xs d j pc L (.int y :: .long x :: st) wd Q := RT.step h rfl rfl rfl k
theorem R_i2l {x : Int32} (h : sm_ic j pc = some (.i2l, a, b, c)) (k : RT xs d j (pc + 1) L (.long x.toInt64 :: st) wd Q) : RT xs d j pc L (.int x :: st) wd Q := RT.step h rfl rfl rfl k
theorem R_l2i {x : Int64} (h : sm_ic j pc = some (.l2i, a, b, c)) (k : RT xs d j (pc + 1) L (.int x.toInt32 :: st) wd Q) : RT xs d j pc L (.long x :: st) wd Q := RT.step h rfl rfl rfl k
theorem R_i2c {x : Int32} (h : sm_ic j pc = some (.i2c, a, b, c)) (k : RT xs d j (pc + 1) L (.int (x.toUInt32 % 65536).toInt32 :: st) wd Q) : RT xs d j pc L (.int x :: st) wd Q := RT.step h rfl rfl rfl k
theorem R_dup {v : Value} (h : sm_ic j pc = some (.dup, a, b, c)) (hv : v.category = 1) (k : RT xs d j (pc + 1) L (v :: v :: st) wd Q) : RT xs d j pc L (v :: st) wd Q := RT.step h rfl rfl (by show Option.map _ (if v.category = 1 then some _ else none) = _; rw [if_pos hv]; rfl) k
theorem R_dup2 {v w : Value} (h : sm_ic j pc = some (.dup2, a, b, c)) (hv : v.category = 1) (hw : w.category = 1) (k : RT xs d j (pc + 1) L (v :: w :: v :: w :: st) wd Q) : RT xs d j pc L (v :: w :: st) wd Q := RT.step h rfl rfl (by show Option.map _ (if v.category = 1 ∧ w.category = 1 then some _ else none) = _; rw [if_pos ⟨hv, hw⟩]; rfl) k
theorem R_pop {v : Value} (h : sm_ic j pc = some (.pop, a, b, c)) (hv : v.category = 1) (k : RT xs d j (pc + 1) L st wd Q) : RT xs d j pc L (v :: st) wd Q := RT.step h rfl rfl (by show Option.map _ (if v.category = 1 then some _ else none) = _; rw [if_pos hv]; rfl) k
theorem R_goto {off : Int} (h : sm_ic j pc = some (.goto off, a, b, c)) (ht : (pc : Int) + off = (a : Int)) (k : RT xs d j a L st wd Q) : RT xs d j pc L st wd Q := RT.step h rfl rfl (by show (if (pc : Int) + off = (a : Int) then some _ else none) = _; rw [if_pos ht]) k
theorem R_if {off : Int} {cn : Jvm.ClassFile.Cond} {x : Int32} (h : sm_ic j pc = some (.ifCond cn off, a, b, c)) (ht : (pc : Int) + off = (a : Int)) (kt : sm_cnd cn x 0 = true → RT xs d j a L st wd Q) (kf : ¬ sm_cnd cn x 0 = true → RT xs d j (pc + 3) L st wd Q) : RT xs d j pc L (.int x :: st) wd Q := by
  by_cases hc : sm_cnd cn x 0 = true
  · exact RT.step h rfl rfl (by show (if (pc : Int) + off = (a : Int) then some (if sm_cnd cn x 0 = true then a else pc + 3, _) else none) = _; rw [if_pos ht, if_pos hc]) (kt hc)
  · exact RT.step h rfl rfl (by show (if (pc : Int) + off = (a : Int) then some (if sm_cnd cn x 0 = true then a else pc + 3, _) else none) = _; rw [if_pos ht, if_neg hc]) (kf hc)
theorem R_icmp {off : Int} {cn : Jvm.ClassFile.Cond} {x y : Int32} (h : sm_ic j pc = some (.if_icmp cn off, a, b, c)) (ht : (pc : Int) + off = (a : Int)) (kt : sm_cnd cn x y = true → RT xs d j a L st wd Q) (kf : ¬ sm_cnd cn x y = true → RT xs d j (pc + 3) L st wd Q) : RT xs d j pc L (.int y :: .int x :: st) wd Q := by
  by_cases hc : sm_cnd cn x y = true
  · exact RT.step h rfl rfl (by show (if (pc : Int) + off = (a : Int) then some (if sm_cnd cn x y = true then a else pc + 3, _) else none) = _; rw [if_pos ht, if_pos hc]) (kt hc)
  · exact RT.step h rfl rfl (by show (if (pc : Int) + off = (a : Int) then some (if sm_cnd cn x y = true then a else pc + 3, _) else none) = _; rw [if_pos ht, if_neg hc]) (kf hc)
theorem R_if_eq {off : Int} {x : Int32} (h : sm_ic j pc = some (.ifCond .eq off, a, b, c)) (ht : (pc : Int) + off = (a : Int)) (kt : x = 0 → RT xs d j a L st wd Q) (kf : ¬ x = 0 → RT xs d j (pc + 3) L st wd Q) : RT xs d j pc L (.int x :: st) wd Q := R_if h ht (fun q => kt (of_decide_eq_true q)) (fun q => kf (by simpa [sm_cnd] using q))
theorem R_icmp_eq {off : Int} {x y : Int32} (h : sm_ic j pc = some (.if_icmp .eq off, a, b, c)) (ht : (pc : Int) + off = (a : Int)) (kt : x = y → RT xs d j a L st wd Q) (kf : ¬ x = y → RT xs d j (pc + 3) L st wd Q) : RT xs d j pc L (.int y :: .int x :: st) wd Q := R_icmp h ht (fun q => kt (of_decide_eq_true q)) (fun q => kf (by simpa [sm_cnd] using q))
theorem R_if_ne {off : Int} {x : Int32} (h : sm_ic j pc = some (.ifCond .ne off, a, b, c)) (ht : (pc : Int) + off = (a : Int)) (kt : ¬ x = 0 → RT xs d j a L st wd Q) (kf : x = 0 → RT xs d j (pc + 3) L st wd Q) : RT xs d j pc L (.int x :: st) wd Q := R_if h ht (fun q => kt (of_decide_eq_true q)) (fun q => kf (by simpa [sm_cnd] using q))
theorem R_icmp_ne {off : Int} {x y : Int32} (h : sm_ic j pc = some (.if_icmp .ne off, a, b, c)) (ht : (pc : Int) + off = (a : Int)) (kt : ¬ x = y → RT xs d j a L st wd Q) (kf : x = y → RT xs d j (pc + 3) L st wd Q) : RT xs d j pc L (.int y :: .int x :: st) wd Q := R_icmp h ht (fun q => kt (of_decide_eq_true q)) (fun q => kf (by simpa [sm_cnd] using q))
theorem R_if_lt {off : Int} {x : Int32} (h : sm_ic j pc = some (.ifCond .lt off, a, b, c)) (ht : (pc : Int) + off = (a : Int)) (kt : x < 0 → RT xs d j a L st wd Q) (kf : ¬ x < 0 → RT xs d j (pc + 3) L st wd Q) : RT xs d j pc L (.int x :: st) wd Q := R_if h ht (fun q => kt (of_decide_eq_true q)) (fun q => kf (by simpa [sm_cnd] using q))
theorem R_icmp_lt {off : Int} {x y : Int32} (h : sm_ic j pc = some (.if_icmp .lt off, a, b, c)) (ht : (pc : Int) + off = (a : Int)) (kt : x < y → RT xs d j a L st wd Q) (kf : ¬ x < y → RT xs d j (pc + 3) L st wd Q) : RT xs d j pc L (.int y :: .int x :: st) wd Q := R_icmp h ht (fun q => kt (of_decide_eq_true q)) (fun q => kf (by simpa [sm_cnd] using q))
theorem R_if_ge {off : Int} {x : Int32} (h : sm_ic j pc = some (.ifCond .ge off, a, b, c)) (ht : (pc : Int) + off = (a : Int)) (kt : 0 ≤ x → RT xs d j a L st wd Q) (kf : ¬ 0 ≤ x → RT xs d j (pc + 3) L st wd Q) : RT xs d j pc L (.int x :: st) wd Q := R_if h ht (fun q => kt (of_decide_eq_true q)) (fun q => kf (by simpa [sm_cnd] using q))
theorem R_icmp_ge {off : Int} {x y : Int32} (h : sm_ic j pc = some (.if_icmp .ge off, a, b, c)) (ht : (pc : Int) + off = (a : Int)) (kt : y ≤ x → RT xs d j a L st wd Q) (kf : ¬ y ≤ x → RT xs d j (pc + 3) L st wd Q) : RT xs d j pc L (.int y :: .int x :: st) wd Q := R_icmp h ht (fun q => kt (of_decide_eq_true q)) (fun q => kf (by simpa [sm_cnd] using q))
theorem R_if_gt {off : Int} {x : Int32} (h : sm_ic j pc = some (.ifCond .gt off, a, b, c)) (ht : (pc : Int) + off = (a : Int)) (kt : 0 < x → RT xs d j a L st wd Q) (kf : ¬ 0 < x → RT xs d j (pc + 3) L st wd Q) : RT xs d j pc L (.int x :: st) wd Q := R_if h ht (fun q => kt (of_decide_eq_true q)) (fun q => kf (by simpa [sm_cnd] using q))
theorem R_icmp_gt {off : Int} {x y : Int32} (h : sm_ic j pc = some (.if_icmp .gt off, a, b, c)) (ht : (pc : Int) + off = (a : Int)) (kt : y < x → RT xs d j a L st wd Q) (kf : ¬ y < x → RT xs d j (pc + 3) L st wd Q) : RT xs d j pc L (.int y :: .int x :: st) wd Q := R_icmp h ht (fun q => kt (of_decide_eq_true q)) (fun q => kf (by simpa [sm_cnd] using q))
theorem R_if_le {off : Int} {x : Int32} (h : sm_ic j pc = some (.ifCond .le off, a, b, c)) (ht : (pc : Int) + off = (a : Int)) (kt : x ≤ 0 → RT xs d j a L st wd Q) (kf : ¬ x ≤ 0 → RT xs d j (pc + 3) L st wd Q) : RT xs d j pc L (.int x :: st) wd Q := R_if h ht (fun q => kt (of_decide_eq_true q)) (fun q => kf (by simpa [sm_cnd] using q))
theorem R_icmp_le {off : Int} {x y : Int32} (h : sm_ic j pc = some (.if_icmp .le off, a, b, c)) (ht : (pc : Int) + off = (a : Int)) (kt : x ≤ y → RT xs d j a L st wd Q) (kf : ¬ x ≤ y → RT xs d j (pc + 3) L st wd Q) : RT xs d j pc L (.int y :: .int x :: st) wd Q := R_icmp h ht (fun q => kt (of_decide_eq_true q)) (fun q => kf (by simpa [sm_cnd] using q))
theorem R_ifT {off : Int} {cn : Jvm.ClassFile.Cond} {x : Int32} (h : sm_ic j pc = some (.ifCond cn off, a, b, c)) (ht : (pc : Int) + off = (a : Int)) (hc : sm_cnd cn x 0 = true) (kt : RT xs d j a L st wd Q) : RT xs d j pc L (.int x :: st) wd Q := R_if h ht (fun _ => kt) (fun q => absurd hc q)
theorem R_ifF {off : Int} {cn : Jvm.ClassFile.Cond} {x : Int32} (h : sm_ic j pc = some (.ifCond cn off, a, b, c)) (ht : (pc : Int) + off = (a : Int)) (hc : sm_cnd cn x 0 = false) (kf : RT xs d j (pc + 3) L st wd Q) : RT xs d j pc L (.int x :: st) wd Q := R_if h ht (fun q => absurd q (by rw [hc]; decide)) (fun _ => kf)
theorem R_icmpT {off : Int} {cn : Jvm.ClassFile.Cond} {x y : Int32} (h : sm_ic j pc = some (.if_icmp cn off, a, b, c)) (ht : (pc : Int) + off = (a : Int)) (hc : sm_cnd cn x y = true) (kt : RT xs d j a L st wd Q) : RT xs d j pc L (.int y :: .int x :: st) wd Q := R_icmp h ht (fun _ => kt) (fun q => absurd hc q)
theorem R_icmpF {off : Int} {cn : Jvm.ClassFile.Cond} {x y : Int32} (h : sm_ic j pc = some (.if_icmp cn off, a, b, c)) (ht : (pc : Int) + off = (a : Int)) (hc : sm_cnd cn x y = false) (kf : RT xs d j (pc + 3) L st wd Q) : RT xs d j pc L (.int y :: .int x :: st) wd Q := R_icmp h ht (fun q => absurd q (by rw [hc]; decide)) (fun _ => kf)
theorem R_tsOut {d0 lo hi : Int} {offs : Array Int} {x : Int32} {t : Nat} (h : sm_ic j pc = some (.tableswitch d0 lo hi offs, a, b, c)) (hx : x.toInt < lo ∨ hi < x.toInt) (ht : (pc : Int) + d0 = (t : Int)) (k : RT xs d j t L st wd Q) : RT xs d j pc L (.int x :: st) wd Q := RT.step h rfl rfl (by show (if x.toInt < lo ∨ hi < x.toInt then (if 0 ≤ (pc : Int) + d0 then some (((pc : Int) + d0).toNat, L, st, wd) else none) else _) = _; rw [if_pos hx, ht, if_pos (Int.natCast_nonneg t)]; rfl) k
theorem R_tsIn {d0 lo hi off : Int} {offs : Array Int} {x : Int32} {t : Nat} (h : sm_ic j pc = some (.tableswitch d0 lo hi offs, a, b, c)) (hx : ¬ (x.toInt < lo ∨ hi < x.toInt)) (ho : offs[(x.toInt - lo).toNat]? = some off) (ht : (pc : Int) + off = (t : Int)) (k : RT xs d j t L st wd Q) : RT xs d j pc L (.int x :: st) wd Q := RT.step h rfl rfl (by show (if x.toInt < lo ∨ hi < x.toInt then _ else (match offs[(x.toInt - lo).toNat]? with | some off => if 0 ≤ (pc : Int) + off then some (((pc : Int) + off).toNat, L, st, wd) else none | none => none)) = _; rw [if_neg hx, ho]; dsimp only; rw [ht, if_pos (Int.natCast_nonneg t)]; rfl) k
theorem R_ls {d0 : Int} {ps : Array (Int × Int)} {x : Int32} {t : Nat} (h : sm_ic j pc = some (.lookupswitch d0 ps, a, b, c)) (hp : (ps.toList.zip (ps.toList.drop 1)).all (fun (a, next) => a.1 < next.1) = true) (ht : (pc : Int) + Op.lookupswitch.offset ps.toList d0 x.toInt = (t : Int)) (k : RT xs d j t L st wd Q) : RT xs d j pc L (.int x :: st) wd Q := RT.step h rfl rfl (by show (if _ ∧ 0 ≤ (pc : Int) + Op.lookupswitch.offset ps.toList d0 x.toInt then some (((pc : Int) + Op.lookupswitch.offset ps.toList d0 x.toInt).toNat, L, st, wd) else none) = _; rw [ht, if_pos ⟨hp, Int.natCast_nonneg t⟩]; rfl) k
theorem R_getf {i k0 : Nat} {fs : List Value} {v : Value} (h : sm_ic j pc = some (.getfield i, a, b, c)) (ha : ¬ a = 100) (hw : wd[k0]? = some (.inr (.inr (a, fs)))) (hv : fs[b]? = some v) (k : RT xs d j (pc + 3) L (v :: st) wd Q) : RT xs d j pc L (.ref k0 :: st) wd Q :=
  RT.step h rfl rfl (by
    show (if a = 100 then _ else (match wd[k0]? with
        | some (.inr (.inr (ci, fs))) => if ci = a then (match fs[b]? with
          | some v => some (pc + 3, L, v :: st, wd)
          | none => none) else none
        | _ => none)) = _
    rw [if_neg ha, hw]
    dsimp only
    rw [if_pos rfl, hv]) k
theorem R_putf {i k0 : Nat} {fs : List Value} {v : Value} (h : sm_ic j pc = some (.putfield i, a, b, c)) (hw : wd[k0]? = some (.inr (.inr (a, fs)))) (hl : b < fs.length) (hn : narrow (sm_ty a b) v = v) (hf : fits (sm_ty a b) v = true) (k : RT xs d j (pc + 3) L st (wd.set k0 (.inr (.inr (a, fs.set b v)))) Q) : RT xs d j pc L (v :: .ref k0 :: st) wd Q :=
  RT.step h rfl rfl (by
    show (match wd[k0]? with
      | some (.inr (.inr (ci, fs))) => if ci = a ∧ b < fs.length ∧ narrow (sm_ty a b) v = v ∧ fits (sm_ty a b) v = true then some (pc + 3, L, st, wd.set k0 (.inr (.inr (ci, fs.set b v)))) else none
      | _ => none) = _
    rw [hw]
    dsimp only
    rw [if_pos ⟨rfl, hl, hn, hf⟩]) k
theorem R_iald {k0 : Nat} {l : List Int32} {i x : Int32} (h : sm_ic j pc = some (.iaload, a, b, c)) (hk : ¬ k0 = 1000004) (hw : wd[k0]? = some (.inl (0, l))) (hi : sm_ix l i = some x) (k : RT xs d j (pc + 1) L (.int x :: st) wd Q) : RT xs d j pc L (.int i :: .ref k0 :: st) wd Q :=
  RT.step h rfl rfl (by
    show (if k0 = 1000004 then _ else (match wd[k0]? with
        | some (.inl (0, l)) => (match sm_ix l i with
          | some x => some (pc + 1, L, Value.int x :: st, wd)
          | none => none)
        | _ => none)) = _
    rw [if_neg hk]
    simp only [hw, hi]) k
theorem R_ialdX {i x : Int32} (h : sm_ic j pc = some (.iaload, a, b, c)) (hi : sm_ix xs i = some x) (k : RT xs d j (pc + 1) L (.int x :: st) wd Q) : RT xs d j pc L (.int i :: .ref 1000004 :: st) wd Q :=
  RT.step h rfl rfl (by
    show sm_mem xs d (Instr.iaload, a, b, c) pc L (.int i :: .ref 1000004 :: st) wd = _
    simp [sm_mem, hi]) k
theorem R_cald {k0 : Nat} {l : List Int32} {i x : Int32} (h : sm_ic j pc = some (.caload, a, b, c)) (hw : wd[k0]? = some (.inl (1, l))) (hi : sm_ix l i = some x) (k : RT xs d j (pc + 1) L (.int x :: st) wd Q) : RT xs d j pc L (.int i :: .ref k0 :: st) wd Q :=
  RT.step h rfl rfl (by
    show (match wd[k0]? with
        | some (.inl (1, l)) => (match sm_ix l i with
          | some x => some (pc + 1, L, Value.int x :: st, wd)
          | none => none)
        | _ => none) = _
    simp only [hw, hi]) k
theorem R_lald {k0 : Nat} {l : List Int64} {i : Int32} {x : Int64} (h : sm_ic j pc = some (.laload, a, b, c)) (hw : wd[k0]? = some (.inr (.inl l))) (hi : sm_ix l i = some x) (k : RT xs d j (pc + 1) L (.long x :: st) wd Q) : RT xs d j pc L (.int i :: .ref k0 :: st) wd Q :=
  RT.step h rfl rfl (by
    show (match wd[k0]? with
        | some (.inr (.inl l)) => (match sm_ix l i with
          | some x => some (pc + 1, L, Value.long x :: st, wd)
          | none => none)
        | _ => none) = _
    simp only [hw, hi]) k
theorem R_iast {k0 : Nat} {l : List Int32} {i x : Int32} (h : sm_ic j pc = some (.iastore, a, b, c)) (hw : wd[k0]? = some (.inl (0, l))) (hi : ¬ (i < 0 ∨ l.length ≤ i.toNatClampNeg)) (k : RT xs d j (pc + 1) L st (wd.set k0 (.inl (0, l.set i.toNatClampNeg x))) Q) : RT xs d j pc L (.int x :: .int i :: .ref k0 :: st) wd Q :=
  RT.step h rfl rfl (by
    show (match wd[k0]? with
        | some (.inl (0, l)) => if i < 0 ∨ l.length ≤ i.toNatClampNeg then none else some (pc + 1, L, st, wd.set k0 (.inl (0, l.set i.toNatClampNeg x)))
        | _ => none) = _
    simp only [hw]
    rw [if_neg hi]) k
theorem R_cast {k0 : Nat} {l : List Int32} {i x y : Int32} (h : sm_ic j pc = some (.castore, a, b, c)) (hw : wd[k0]? = some (.inl (1, l))) (hi : ¬ (i < 0 ∨ l.length ≤ i.toNatClampNeg)) (hy : vp_nar .char x = y) (k : RT xs d j (pc + 1) L st (wd.set k0 (.inl (1, l.set i.toNatClampNeg y))) Q) : RT xs d j pc L (.int x :: .int i :: .ref k0 :: st) wd Q :=
  RT.step h rfl rfl (by
    subst hy
    show (match wd[k0]? with
        | some (.inl (1, l)) => if i < 0 ∨ l.length ≤ i.toNatClampNeg then none else some (pc + 1, L, st, wd.set k0 (.inl (1, l.set i.toNatClampNeg (vp_nar .char x))))
        | _ => none) = _
    simp only [hw]
    rw [if_neg hi]) k
theorem R_last {k0 : Nat} {l : List Int64} {i : Int32} {x : Int64} (h : sm_ic j pc = some (.lastore, a, b, c)) (hw : wd[k0]? = some (.inr (.inl l))) (hi : ¬ (i < 0 ∨ l.length ≤ i.toNatClampNeg)) (k : RT xs d j (pc + 1) L st (wd.set k0 (.inr (.inl (l.set i.toNatClampNeg x)))) Q) : RT xs d j pc L (.long x :: .int i :: .ref k0 :: st) wd Q :=
  RT.step h rfl rfl (by
    show (match wd[k0]? with
        | some (.inr (.inl l)) => if i < 0 ∨ l.length ≤ i.toNatClampNeg then none else some (pc + 1, L, st, wd.set k0 (.inr (.inl (l.set i.toNatClampNeg x))))
        | _ => none) = _
    simp only [hw]
    rw [if_neg hi]) k
theorem R_alenI {k0 t : Nat} {l : List Int32} (h : sm_ic j pc = some (.arraylength, a, b, c)) (hk : ¬ k0 = 1000002 ∧ ¬ k0 = 1000004) (hw : wd[k0]? = some (.inl (t, l))) (k : RT xs d j (pc + 1) L (.int (nI l.length) :: st) wd Q) : RT xs d j pc L (.ref k0 :: st) wd Q :=
  RT.step h rfl rfl (by
    show (if k0 = 1000002 then _ else if k0 = 1000004 then _ else (match wd[k0]? with
        | some (.inl (_, l)) => some (pc + 1, L, Value.int (Int32.ofNat l.length) :: st, wd)
        | some (.inr (.inl l)) => some (pc + 1, L, Value.int (Int32.ofNat l.length) :: st, wd)
        | _ => none)) = _
    rw [if_neg hk.1, if_neg hk.2, hw]
    rfl) k
theorem R_alenL {k0 : Nat} {l : List Int64} (h : sm_ic j pc = some (.arraylength, a, b, c)) (hk : ¬ k0 = 1000002 ∧ ¬ k0 = 1000004) (hw : wd[k0]? = some (.inr (.inl l))) (k : RT xs d j (pc + 1) L (.int (nI l.length) :: st) wd Q) : RT xs d j pc L (.ref k0 :: st) wd Q :=
  RT.step h rfl rfl (by
    show (if k0 = 1000002 then _ else if k0 = 1000004 then _ else (match wd[k0]? with
        | some (.inl (_, l)) => some (pc + 1, L, Value.int (Int32.ofNat l.length) :: st, wd)
        | some (.inr (.inl l)) => some (pc + 1, L, Value.int (Int32.ofNat l.length) :: st, wd)
        | _ => none)) = _
    rw [if_neg hk.1, if_neg hk.2, hw]
    rfl) k
theorem R_alenX (h : sm_ic j pc = some (.arraylength, a, b, c)) (k : RT xs d j (pc + 1) L (.int (nI xs.length) :: st) wd Q) : RT xs d j pc L (.ref 1000004 :: st) wd Q := RT.step h rfl rfl rfl k
theorem R_max {i : Nat} {x y : Int32} (h : sm_ic j pc = some (.invokestatic i, 9997, b, c)) (hd : 1 ≤ d) (hc : (st.map fun v => v.category).sum ≤ 8) (k : RT xs d j (pc + 3) L (.int (if x < y then y else x) :: st) wd Q) : RT xs d j pc L (.int y :: .int x :: st) wd Q :=
  RT.step h rfl rfl (by show (if 1 ≤ d ∧ (st.map fun v => v.category).sum ≤ 8 then _ else none) = _; rw [if_pos ⟨hd, hc⟩]; rfl) k
theorem R_min {i : Nat} {x y : Int32} (h : sm_ic j pc = some (.invokestatic i, 9996, b, c)) (hd : 1 ≤ d) (hc : (st.map fun v => v.category).sum ≤ 8) (k : RT xs d j (pc + 3) L (.int (if y < x then y else x) :: st) wd Q) : RT xs d j pc L (.int y :: .int x :: st) wd Q :=
  RT.step h rfl rfl (by show (if 1 ≤ d ∧ (st.map fun v => v.category).sum ≤ 8 then _ else none) = _; rw [if_pos ⟨hd, hc⟩]; rfl) k
theorem R_iret {ty : FieldType} {v : Int32} (h : sm_ic j pc = some (.ireturn, a, b, c)) (hty : sm_rt j = some ty) (hn : narrow ty (.int v) = .int v) (hl : ty ≠ .long) (k : Q (some (.int v)) wd) : RT xs d j pc L [.int v] wd Q :=
  RT.ret h rfl (by show (match sm_rt j with | some ty => if narrow ty (Value.int v) = Value.int v ∧ ty ≠ FieldType.long then some (some (Value.int v)) else none | none => none) = _; simp only [hty]; rw [if_pos ⟨hn, hl⟩]) k
theorem R_lret {v : Int64} (h : sm_ic j pc = some (.lreturn, a, b, c)) (hty : sm_rt j = some .long) (k : Q (some (.long v)) wd) : RT xs d j pc L [.long v] wd Q :=
  RT.ret h rfl (by show (if sm_rt j = some .long then some (some (Value.long v)) else none) = _; rw [if_pos hty]) k
theorem R_vret (h : sm_ic j pc = some (.return_, a, b, c)) (hty : sm_rt j = none) (k : Q none wd) : RT xs d j pc L [] wd Q :=
  RT.ret h rfl (by show (if sm_rt j = none then some none else none) = _; rw [if_pos hty]) k
theorem R_call0 {i : Instr} {j2 c0 : Nat} {dmy : Nat} (h : sm_ic j pc = some (i, j2, 0, c0)) (hc : sm_call (i, j2, 0, c0) = true) (hr : sm_recv j2 0 (st) wd = true) (he : (sm_exp []).length ≤ sm_ml j2) (hcat : (st.map fun v => v.category).sum ≤ 8) (k : Ct xs d j2 [] wd (fun r w => RT xs (d + 1) j (pc + 3) L (sm_push r st) w Q)) : RT xs (d + 1) j pc L (st) wd Q := RT.call h hc hr (by show 0 ≤ (List.length (_ : List Value)); simp) he hcat k
theorem R_call1 {i : Instr} {j2 c0 : Nat} {a0 : Value} (h : sm_ic j pc = some (i, j2, 1, c0)) (hc : sm_call (i, j2, 1, c0) = true) (hr : sm_recv j2 1 (a0 :: st) wd = true) (he : (sm_exp [a0]).length ≤ sm_ml j2) (hcat : (st.map fun v => v.category).sum ≤ 8) (k : Ct xs d j2 [a0] wd (fun r w => RT xs (d + 1) j (pc + 3) L (sm_push r st) w Q)) : RT xs (d + 1) j pc L (a0 :: st) wd Q := RT.call h hc hr (by show 1 ≤ (List.length (_ : List Value)); simp) he hcat k
theorem R_call2 {i : Instr} {j2 c0 : Nat} {a0 a1 : Value} (h : sm_ic j pc = some (i, j2, 2, c0)) (hc : sm_call (i, j2, 2, c0) = true) (hr : sm_recv j2 2 (a1 :: a0 :: st) wd = true) (he : (sm_exp [a0, a1]).length ≤ sm_ml j2) (hcat : (st.map fun v => v.category).sum ≤ 8) (k : Ct xs d j2 [a0, a1] wd (fun r w => RT xs (d + 1) j (pc + 3) L (sm_push r st) w Q)) : RT xs (d + 1) j pc L (a1 :: a0 :: st) wd Q := RT.call h hc hr (by show 2 ≤ (List.length (_ : List Value)); simp) he hcat k
theorem R_call3 {i : Instr} {j2 c0 : Nat} {a0 a1 a2 : Value} (h : sm_ic j pc = some (i, j2, 3, c0)) (hc : sm_call (i, j2, 3, c0) = true) (hr : sm_recv j2 3 (a2 :: a1 :: a0 :: st) wd = true) (he : (sm_exp [a0, a1, a2]).length ≤ sm_ml j2) (hcat : (st.map fun v => v.category).sum ≤ 8) (k : Ct xs d j2 [a0, a1, a2] wd (fun r w => RT xs (d + 1) j (pc + 3) L (sm_push r st) w Q)) : RT xs (d + 1) j pc L (a2 :: a1 :: a0 :: st) wd Q := RT.call h hc hr (by show 3 ≤ (List.length (_ : List Value)); simp) he hcat k
theorem R_call4 {i : Instr} {j2 c0 : Nat} {a0 a1 a2 a3 : Value} (h : sm_ic j pc = some (i, j2, 4, c0)) (hc : sm_call (i, j2, 4, c0) = true) (hr : sm_recv j2 4 (a3 :: a2 :: a1 :: a0 :: st) wd = true) (he : (sm_exp [a0, a1, a2, a3]).length ≤ sm_ml j2) (hcat : (st.map fun v => v.category).sum ≤ 8) (k : Ct xs d j2 [a0, a1, a2, a3] wd (fun r w => RT xs (d + 1) j (pc + 3) L (sm_push r st) w Q)) : RT xs (d + 1) j pc L (a3 :: a2 :: a1 :: a0 :: st) wd Q := RT.call h hc hr (by show 4 ≤ (List.length (_ : List Value)); simp) he hcat k
theorem R_call5 {i : Instr} {j2 c0 : Nat} {a0 a1 a2 a3 a4 : Value} (h : sm_ic j pc = some (i, j2, 5, c0)) (hc : sm_call (i, j2, 5, c0) = true) (hr : sm_recv j2 5 (a4 :: a3 :: a2 :: a1 :: a0 :: st) wd = true) (he : (sm_exp [a0, a1, a2, a3, a4]).length ≤ sm_ml j2) (hcat : (st.map fun v => v.category).sum ≤ 8) (k : Ct xs d j2 [a0, a1, a2, a3, a4] wd (fun r w => RT xs (d + 1) j (pc + 3) L (sm_push r st) w Q)) : RT xs (d + 1) j pc L (a4 :: a3 :: a2 :: a1 :: a0 :: st) wd Q := RT.call h hc hr (by show 5 ≤ (List.length (_ : List Value)); simp) he hcat k
theorem R_call6 {i : Instr} {j2 c0 : Nat} {a0 a1 a2 a3 a4 a5 : Value} (h : sm_ic j pc = some (i, j2, 6, c0)) (hc : sm_call (i, j2, 6, c0) = true) (hr : sm_recv j2 6 (a5 :: a4 :: a3 :: a2 :: a1 :: a0 :: st) wd = true) (he : (sm_exp [a0, a1, a2, a3, a4, a5]).length ≤ sm_ml j2) (hcat : (st.map fun v => v.category).sum ≤ 8) (k : Ct xs d j2 [a0, a1, a2, a3, a4, a5] wd (fun r w => RT xs (d + 1) j (pc + 3) L (sm_push r st) w Q)) : RT xs (d + 1) j pc L (a5 :: a4 :: a3 :: a2 :: a1 :: a0 :: st) wd Q := RT.call h hc hr (by show 6 ≤ (List.length (_ : List Value)); simp) he hcat k
end RTS
theorem sm_gs {wd : sm_W} {k : Nat} {e0 e : sm_E} (h : wd[k]? = some e0) : (wd.set k e)[k]? = some e := List.getElem?_set_self (List.getElem?_eq_some_iff.mp h).1
theorem sm_gn {wd : sm_W} {k i : Nat} {e e1 : sm_E} (hne : i ≠ k) (h : wd[k]? = some e1) : (wd.set i e)[k]? = some e1 := by rw [List.getElem?_set_ne hne]; exact h
theorem sm_ixN {α : Type} {l : List α} {i : Nat} (h : i < 2 ^ 31) : sm_ix l (nI i) = l[i]? := by
  unfold sm_ix
  rw [if_neg (nI_pos h), nI_clamp h]
theorem sm_inN {l : List Int32} {i : Nat} (h : i < l.length) (hl : l.length < 2 ^ 31) : ¬ (nI i < 0 ∨ l.length ≤ (nI i).toNatClampNeg) := nI_in h hl
theorem sm_inNL {l : List Int64} {i : Nat} (h : i < l.length) (hl : l.length < 2 ^ 31) : ¬ (nI i < 0 ∨ l.length ≤ (nI i).toNatClampNeg) := nI_in h hl
