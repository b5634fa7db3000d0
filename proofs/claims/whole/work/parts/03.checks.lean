/-! the tables agree with the Statement's words and bytes: decided by the kernel -/
def sm_at (p : Nat) (w : Cond) : Bool := decide (lw_tbl[p]? = some w)
theorem sm_at_in {p : Nat} {w : Cond} (h : sm_at p w = true) : w ∈ lw_tbl := List.mem_of_getElem? (of_decide_eq_true h)
def sm_sw (i : Instr) : Bool := match i with
  | .tableswitch .. | .lookupswitch .. => true
  | _ => false
def sm_len (i : Instr) : Nat := match i with
  | .bipush _ | .iload _ | .lload _ | .aload _ | .istore _ | .lstore _ | .astore _ | .ldc _ | .newarray _ => 2
  | .sipush _ | .ldc_w _ | .ldc2_w _ | .iinc _ _ | .ifCond _ _ | .if_icmp _ _ | .goto _ | .getstatic _ | .getfield _ | .putfield _ | .invokevirtual _ | .invokespecial _ | .invokestatic _ | .new _ => 3
  | _ => 1
def sm_lv64 (a b : Nat) : Int64 := if b = 1 then - Int64.ofNat a else Int64.ofNat a
def sm_okM (j : Nat) : Bool :=
  sm_at (sm_p j).1 (.code (sm_y j) (sm_b j) (sm_ml j) (sm_rt j)) && sm_at (sm_p j).2.2.2 (.initialized (sm_y j).cls) &&
  (match sm_kd j with
   | 0 => sm_at (sm_p j).2.1 (.static (sm_y j))
   | 1 => sm_at (sm_p j).2.1 (.instanceMethod (sm_y j)) && sm_at (sm_p j).2.2.1 (.selects (sm_y j).cls (sm_y j) (sm_y j)) && decide (sm_cn (sm_ci j) = (sm_y j).cls) && decide (sm_ci j < 8)
   | 2 => sm_at (sm_p j).2.1 (.instanceMethod (sm_y j)) && decide ((sm_y j).name = "<init>") && decide (sm_rt j = none)
   | _ => sm_at (sm_p j).2.1 (.instanceMethod (sm_y j)) && sm_at (sm_p j).2.2.1 (.selects (sm_y j).cls (sm_y j) (sm_y j)) && decide ((sm_y j).cls = "java/lang/String")) &&
  decide ((sm_y j).cls ≠ "java/lang/invoke/MethodHandle") && decide ((sm_y j).cls ≠ "java/lang/invoke/VarHandle") && plainName (sm_y j).cls && decide (sm_ml j ≤ 24) &&
  decide ((parseMethodDescriptor (sm_y j).desc).map (fun d => d.parameters.length) = some (sm_na j))
def sm_argc (j : Nat) : Nat := if sm_kd j = 0 then sm_na j else sm_na j + 1
def sm_okR (j : Nat) (e : sm_I) : Bool := match e.1 with
  | .getfield i => if e.2.1 = 100 then sm_at e.2.2.2 (.fieldLink (sm_y j).cls i "java/lang/String" (if e.2.2.1 = 0 then "coder" else "value") (if e.2.2.1 = 0 then "B" else "[B"))
      else decide (e.2.1 < 8) && decide (e.2.2.1 < sm_nf e.2.1) && sm_at e.2.2.2 (.fieldLink (sm_y j).cls i (sm_cn e.2.1) (sm_T e.2.1 e.2.2.1).2.1 (sm_T e.2.1 e.2.2.1).2.2.1)
  | .putfield i => decide (e.2.1 < 8) && decide (e.2.2.1 < sm_nf e.2.1) && sm_at e.2.2.2 (.fieldLink (sm_y j).cls i (sm_cn e.2.1) (sm_T e.2.1 e.2.2.1).2.1 (sm_T e.2.1 e.2.2.1).2.2.1) &&
      (!(sm_T e.2.1 e.2.2.1).2.2.2 || (decide ((sm_y j).name = "<init>") && decide (sm_cn e.2.1 = (sm_y j).cls)))
  | .getstatic i => if e.2.1 = 0 then sm_at e.2.2.2 (.fieldLink (sm_y j).cls i "java/lang/String" "COMPACT_STRINGS" "Z")
      else if e.2.1 = 1 then sm_at e.2.2.2 (.fieldLink (sm_y j).cls i "jdk/internal/util/Preconditions" "SIOOBE_FORMATTER" "Ljava/util/function/BiFunction;") else true
  | .invokevirtual i => decide (e.2.1 = 9998) || ((sm_kd e.2.1 == 1 || sm_kd e.2.1 == 3) && decide (e.2.1 < sm_N) && decide (e.2.2.1 = sm_argc e.2.1) && sm_at e.2.2.2 (.methodLink (sm_y j).cls i (sm_y e.2.1)))
  | .invokestatic i => decide (e.2.1 = 9998) || (decide (e.2.1 = 9997) && sm_at e.2.2.2 (.methodLink (sm_y j).cls i Lib.Math.max.name)) || (decide (e.2.1 = 9996) && sm_at e.2.2.2 (.methodLink (sm_y j).cls i Lib.Math.min.name)) || (sm_kd e.2.1 == 0 && decide (e.2.1 < sm_N) && decide (e.2.2.1 = sm_argc e.2.1) &&
      (if e.2.2.2 = 5000 then decide ((sm_y j).cls = "LeavingVote$Night") && decide (i = 71) && decide (sm_y e.2.1 = ⟨"LeavingVote", "lowest", "(II)I"⟩)
       else if e.2.2.2 = 5001 then decide ((sm_y j).cls = "LeavingVote$Standing") && decide (i = 19) && decide (sm_y e.2.1 = ⟨"LeavingVote", "oneIf", "(Z)I"⟩)
       else sm_at e.2.2.2 (.methodLink (sm_y j).cls i (sm_y e.2.1))))
  | .invokespecial i => decide (e.2.1 = 9998) || (if e.2.1 = 9999 then sm_at e.2.2.2 (.methodLink (sm_y j).cls i objectInit)
      else sm_kd e.2.1 == 2 && decide (e.2.1 < sm_N) && decide (e.2.2.1 = sm_argc e.2.1) && sm_at e.2.2.2 (.methodLink (sm_y j).cls i (sm_y e.2.1)))
  | .ldc_w i => if e.2.2.2 = 0 then decide ((sm_y j).cls = "LeavingVote") && decide (i = 258) else sm_at e.2.2.2 (.constant (sm_y j).cls i (Int32.ofNat e.2.1))
  | .ldc i => decide ((sm_y j).cls = "LeavingVote") && decide (i = 258)
  | .ldc2_w i => sm_at e.2.2.2 (.constantLong (sm_y j).cls i (sm_lv64 e.2.1 e.2.2.1))
  | .new i => decide (e.2.1 = 9998) || (decide (e.2.1 < 8) && sm_at e.2.2.2 (.classLink (sm_y j).cls i (sm_cn e.2.1)))
  | .newarray t => (match t with
      | .int => decide (e.2.1 = 0) && sm_at e.2.2.2 (.arrayClass .int)
      | .char => decide (e.2.1 = 1) && sm_at e.2.2.2 (.arrayClass .char)
      | .long => decide (e.2.1 = 2) && sm_at e.2.2.2 (.arrayClass .long)
      | _ => false)
  | _ => true
def sm_okE (j pc : Nat) (e : sm_I) : Bool := (match decode (sm_b j) pc with
  | .ok (i, n) => decide (i = e.1) && (sm_sw i || n == sm_len i)
  | _ => false) && sm_okR j e
theorem sm_ok_max : sm_at sm_pmax.1 (.static Lib.Math.max.name) = true ∧ sm_at sm_pmax.2 (.code Lib.Math.max.name Lib.Math.max.code 2 (some .int)) = true := by decide +kernel
theorem sm_ok_min : sm_at sm_pmin.1 (.static Lib.Math.min.name) = true ∧ sm_at sm_pmin.2 (.code Lib.Math.min.name Lib.Math.min.code 2 (some .int)) = true := by decide +kernel
theorem sm_ok_math : Cond.initialized "java/lang/Math" ∈ lw_tbl := List.mem_of_getElem? (i := 44) (by decide +kernel)
theorem sm_ok_obj : Cond.instanceMethod objectInit ∈ lw_tbl ∧ Cond.code objectInit ⟨#[0xb1]⟩ 1 none ∈ lw_tbl := ⟨List.mem_of_getElem? (i := 59) (by decide +kernel), List.mem_of_getElem? (i := 60) (by decide +kernel)⟩
theorem sm_okM_0 : (List.range 8).all (fun i => sm_okM (0 + i)) = true := by decide +kernel
theorem sm_okM_1 : (List.range 8).all (fun i => sm_okM (8 + i)) = true := by decide +kernel
theorem sm_okM_2 : (List.range 8).all (fun i => sm_okM (16 + i)) = true := by decide +kernel
theorem sm_okM_3 : (List.range 8).all (fun i => sm_okM (24 + i)) = true := by decide +kernel
theorem sm_okM_4 : (List.range 8).all (fun i => sm_okM (32 + i)) = true := by decide +kernel
theorem sm_okM_5 : (List.range 8).all (fun i => sm_okM (40 + i)) = true := by decide +kernel
theorem sm_okM_6 : (List.range 8).all (fun i => sm_okM (48 + i)) = true := by decide +kernel
theorem sm_okM_7 : (List.range 8).all (fun i => sm_okM (56 + i)) = true := by decide +kernel
theorem sm_okM_8 : (List.range 8).all (fun i => sm_okM (64 + i)) = true := by decide +kernel
theorem sm_okM_9 : (List.range 8).all (fun i => sm_okM (72 + i)) = true := by decide +kernel
theorem sm_okM_10 : (List.range 8).all (fun i => sm_okM (80 + i)) = true := by decide +kernel
theorem sm_okM_11 : (List.range 8).all (fun i => sm_okM (88 + i)) = true := by decide +kernel
theorem sm_okM_12 : (List.range 8).all (fun i => sm_okM (96 + i)) = true := by decide +kernel
theorem sm_okM_13 : (List.range 8).all (fun i => sm_okM (104 + i)) = true := by decide +kernel
theorem sm_okM_14 : (List.range 8).all (fun i => sm_okM (112 + i)) = true := by decide +kernel
theorem sm_okM_15 : (List.range 8).all (fun i => sm_okM (120 + i)) = true := by decide +kernel
theorem sm_okM_16 : (List.range 8).all (fun i => sm_okM (128 + i)) = true := by decide +kernel
theorem sm_okM_17 : (List.range 8).all (fun i => sm_okM (136 + i)) = true := by decide +kernel
theorem sm_okM_18 : (List.range 8).all (fun i => sm_okM (144 + i)) = true := by decide +kernel
theorem sm_okM_19 : (List.range 8).all (fun i => sm_okM (152 + i)) = true := by decide +kernel
theorem sm_okM_20 : (List.range 8).all (fun i => sm_okM (160 + i)) = true := by decide +kernel
theorem sm_okM_21 : (List.range 8).all (fun i => sm_okM (168 + i)) = true := by decide +kernel
theorem sm_okM_22 : (List.range 8).all (fun i => sm_okM (176 + i)) = true := by decide +kernel
theorem sm_okM_23 : (List.range 4).all (fun i => sm_okM (184 + i)) = true := by decide +kernel
theorem sm_okM_all {j : Nat} (h : j < sm_N) : sm_okM j = true := by
  unfold sm_N at h
  have key : ∀ (a n : Nat), (List.range n).all (fun i => sm_okM (a + i)) = true → a ≤ j → j < a + n → sm_okM j = true := fun a n h1 h2 h3 => by
    have := List.all_eq_true.mp h1 (j - a) (List.mem_range.mpr (by omega))
    rwa [show a + (j - a) = j by omega] at this
  by_cases h0 : j < 8
  · exact key _ _ sm_okM_0 (by omega) (by omega)
  by_cases h1 : j < 16
  · exact key _ _ sm_okM_1 (by omega) (by omega)
  by_cases h2 : j < 24
  · exact key _ _ sm_okM_2 (by omega) (by omega)
  by_cases h3 : j < 32
  · exact key _ _ sm_okM_3 (by omega) (by omega)
  by_cases h4 : j < 40
  · exact key _ _ sm_okM_4 (by omega) (by omega)
  by_cases h5 : j < 48
  · exact key _ _ sm_okM_5 (by omega) (by omega)
  by_cases h6 : j < 56
  · exact key _ _ sm_okM_6 (by omega) (by omega)
  by_cases h7 : j < 64
  · exact key _ _ sm_okM_7 (by omega) (by omega)
  by_cases h8 : j < 72
  · exact key _ _ sm_okM_8 (by omega) (by omega)
  by_cases h9 : j < 80
  · exact key _ _ sm_okM_9 (by omega) (by omega)
  by_cases h10 : j < 88
  · exact key _ _ sm_okM_10 (by omega) (by omega)
  by_cases h11 : j < 96
  · exact key _ _ sm_okM_11 (by omega) (by omega)
  by_cases h12 : j < 104
  · exact key _ _ sm_okM_12 (by omega) (by omega)
  by_cases h13 : j < 112
  · exact key _ _ sm_okM_13 (by omega) (by omega)
  by_cases h14 : j < 120
  · exact key _ _ sm_okM_14 (by omega) (by omega)
  by_cases h15 : j < 128
  · exact key _ _ sm_okM_15 (by omega) (by omega)
  by_cases h16 : j < 136
  · exact key _ _ sm_okM_16 (by omega) (by omega)
  by_cases h17 : j < 144
  · exact key _ _ sm_okM_17 (by omega) (by omega)
  by_cases h18 : j < 152
  · exact key _ _ sm_okM_18 (by omega) (by omega)
  by_cases h19 : j < 160
  · exact key _ _ sm_okM_19 (by omega) (by omega)
  by_cases h20 : j < 168
  · exact key _ _ sm_okM_20 (by omega) (by omega)
  by_cases h21 : j < 176
  · exact key _ _ sm_okM_21 (by omega) (by omega)
  by_cases h22 : j < 184
  · exact key _ _ sm_okM_22 (by omega) (by omega)
  by_cases h23 : j < 188
  · exact key _ _ sm_okM_23 (by omega) (by omega)
  omega
def sm_okL (ci k : Nat) : Bool := sm_at (sm_fd ci k).2.2.2.2 (u_lay (sm_cn ci) (sm_T ci) k) && decide (parseFieldDescriptor (sm_T ci k).2.2.1 = some (sm_ty ci k)) && (List.range (sm_nf ci)).all (fun b => decide (k = b) || decide ((sm_T ci k).2.1 ≠ (sm_T ci b).2.1))
def sm_okI (ci : Nat) : Bool := sm_at (sm_inst.getD ci (0, 0)).1 (.instantiable (sm_cn ci) (sm_nf ci)) && sm_at (sm_inst.getD ci (0, 0)).2 (.initialized (sm_cn ci)) && (List.range (sm_nf ci)).all (sm_okL ci)
theorem sm_okI_all : (List.range 8).all sm_okI = true := by decide +kernel
def sm_okP (j pc : Nat) : Bool := match sm_ic j pc with
  | some e => sm_okE j pc e
  | none => true
