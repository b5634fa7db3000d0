/-! class and model side by side: the same answers, the same state -/
def JX (wd : sm_W) (tx : List Nat) (I : sm_Is) (w : Nat) (pa sh : List Nat) (sn : List (Nat × Nat)) : Prop := cX wd tx I w pa sh sn ∧ mX wd tx I w pa sh sn ∧ iWF I ∧ wfW I w ∧ (∀ x, x ∈ pa → wfW I x) ∧ (∀ x, x ∈ sh → wfW I x) ∧ snB sn ∧ wd.length = 41
def JS (wd : sm_W) : Prop := ∃ tx I w pa sh sn, JX wd tx I w pa sh sn
theorem nI_ij {a b : Nat} (ha : a < 2147483648) (hb : b < 2147483648) (h : nI a = nI b) : a = b := (nI_eq ha hb).mp h
theorem inR_tt {q n : Nat} (hq : q < n) (hn : n < 2147483648) : inR (nI q) n = true := by rw [inR_N (by omega) hn, decide_eq_true hq]
section FAR
variable {wd w2 w3 : sm_W} {tx : List Nat} {I : sm_Is} {w : Nat} {pa sh : List Nat} {sn : List (Nat × Nat)}
theorem cX.far (h : cX wd tx I w pa sh sn) (hf : frm 22 40 wd w2) : cX w2 tx I w pa sh sn :=
  ⟨⟨(hf _ (by decide)).trans h.1.1, isI_of h.1.2.1 (fun k h1 h2 => hf _ (by omega)), isN0_of h.1.2.2 (hf _ (by decide)) (hf _ (by decide))⟩, isP_of h.2.1 (hf _ (by decide)) (hf _ (by decide)), isP_of h.2.2.1 (hf _ (by decide)) (hf _ (by decide)), isS_of h.2.2.2.1 (hf _ (by decide)) (hf _ (by decide)) (hf _ (by decide)), isT_of h.2.2.2.2.1 (hf _ (by decide)) (hf _ (by decide)), isD_of h.2.2.2.2.2 (fun k h1 h2 => hf _ (by omega))⟩
theorem mX.far (h : mX wd tx I w pa sh sn) (hf : frm 0 21 wd w2) : mX w2 tx I w pa sh sn := by
  obtain ⟨sp, f, hC, hL, hR, hT⟩ := h
  exact ⟨sp, f, hC.of (fun k h1 h2 => hf k (by omega)), hL, hR, hT⟩
theorem mX.e40 (h : mX wd tx I w pa sh sn) : ∃ e, wd[40]? = some e := by
  obtain ⟨sp, f, hC, -⟩ := h
  exact ⟨_, hC.2 40 (by decide) (by decide)⟩
theorem mX.rv (h : mX wd tx I w pa sh sn) : ∃ fs, wd[22]? = some (.inr (.inr (7, fs))) := by
  obtain ⟨sp, f, hC, -⟩ := h
  exact ⟨_, hC.1⟩
theorem l41 (hl : wd.length = 41) (hf : frm 0 21 wd w2) (hf2 : frm 22 40 w2 w3) (h : mX w3 tx I w pa sh sn) : w3.length = 41 := by
  obtain ⟨e, he⟩ := h.e40
  exact len_of (b := 40) hl rfl (frm.tr (frm.wide hf (by decide) (by decide)) (frm.wide hf2 (by decide) (by decide))) he
end FAR
theorem app_mem {α : Type} {P : α → Prop} {l : List α} {c : α} (h : ∀ x, x ∈ l → P x) (hc : P c) : ∀ x, x ∈ l ++ [c] → P x := by
  intro x hx
  rcases List.mem_append.mp hx with h1 | h1
  · exact h x h1
  · rw [List.mem_singleton.mp h1]; exact hc
theorem push_mem {P : Nat → Prop} {l : List Nat} {c k : Nat} (h : ∀ x, x ∈ l → P x) (hc : P c) : ∀ x, x ∈ pushW k l c → P x := by
  unfold pushW
  refine app_mem ?_ hc
  split
  · exact fun x hx => h x (List.mem_of_mem_drop hx)
  · exact h
theorem sn_app {sn : List (Nat × Nat)} {q n : Nat} (h : snB sn) (hq : q < 2) (hn : n < 9) : snB (sn ++ [(q, n)]) := by
  intro t ht
  rw [app_len] at ht
  rw [app_get ht]
  split
  · exact ⟨hq, hn⟩
  · exact h t (by omega)
theorem sn_nil : snB [] := fun t ht => absurd ht (Nat.not_lt_zero t)
theorem wr_ok {ch : Nat} (h1 : 32 ≤ ch) (h2 : ch ≤ 126) : (decide (nI 32 ≤ nI ch) && decide (nI ch ≤ nI 126)) = true := by
  rw [decide_eq_true ((nI_leI (by decide) (by omega)).mpr h1), decide_eq_true ((nI_leI (by omega) (by decide)).mpr h2)]; rfl
theorem hd_eq {h i : Nat} : (h ^^^ 1 <<< i).testBit i = !h.testBit i := hx_s h i
theorem jt_6 {xs : List Int32} {wd : sm_W} (hJ : JS wd) {x1 : Int32} : Ct xs 7 61 [.ref 0, .int x1] wd (fun r w2 => ∃ v, r = some (.int v) ∧ (∃ fs, w2[22]? = some (.inr (.inr (7, fs)))) ∧ Ct xs 7 147 [.ref 22, .int x1] w2 (fun r2 w3 => r2 = some (.int v) ∧ JS w3)) := by
  obtain ⟨tx, I, w, pa, sh, sn, hX, hM, hW, hw, hpa, hsh, hsn, hl⟩ := hJ
  have hn8 := hW.2.2.2.1
  have hb5 := hW.2.2.2.2.1
  have hal := all_lt hW
  have hlt := hX.2.2.2.2.1.lt
  refine c_wants (d := 2) hX.1 hW hw.1 (fun hb => ?_) (fun q hq e => ?_)
  · exact ⟨_, rfl, hM.rv, m_wants (d := 4) hM hW hw (fun _ => ⟨rfl, ⟨tx, I, w, pa, sh, sn, hX, hM, hW, hw, hpa, hsh, hsn, hl⟩⟩) (fun q hq e w3 _ _ => by exfalso; subst e; rw [inR_tt hq (by decide)] at hb; cases hb)⟩
  · subst e
    have hX2 := (cX.night hX hW I w hW).1
    have hf2 : frm 0 21 wd (nightSet wd I w) := frm.wide (cX.night hX hW I w hW).2 (by decide) (by decide)
    refine ⟨_, rfl, (hM.far hf2).rv, m_wants (d := 4) (hM.far hf2) hW hw (fun hb => by rw [inR_tt hq (by decide)] at hb; cases hb) (fun q2 hq2 e2 w3 hM3 hf3 => ?_)⟩
    obtain rfl := nI_ij (by omega) (by omega) e2
    exact ⟨rfl, ⟨_, _, _, _, _, _, hX2.far hf3, hM3, hW, hw, hpa, hsh, hsn, l41 hl hf2 hf3 hM3⟩⟩
theorem jt_7 {xs : List Int32} {wd : sm_W} (hJ : JS wd) {x1 : Int32} : Ct xs 7 72 [.ref 0, .int x1] wd (fun r w2 => ∃ v, r = some (.int v) ∧ (∃ fs, w2[22]? = some (.inr (.inr (7, fs)))) ∧ Ct xs 7 152 [.ref 22, .int x1] w2 (fun r2 w3 => r2 = some (.int v) ∧ JS w3)) := by
  obtain ⟨tx, I, w, pa, sh, sn, hX, hM, hW, hw, hpa, hsh, hsn, hl⟩ := hJ
  have hn8 := hW.2.2.2.1
  have hb5 := hW.2.2.2.2.1
  have hal := all_lt hW
  have hlt := hX.2.2.2.2.1.lt
  refine c_leave (d := 1) hX.1 hW hw.1 (fun hb => ?_) (fun q hq e => ?_)
  · exact ⟨_, rfl, hM.rv, m_leave (d := 3) hM hW hw (fun _ => ⟨rfl, ⟨tx, I, w, pa, sh, sn, hX, hM, hW, hw, hpa, hsh, hsn, hl⟩⟩) (fun q hq e w3 _ _ => by exfalso; subst e; rw [inR_tt hq (by decide)] at hb; cases hb)⟩
  · subst e
    have hX2 := (cX.night hX hW I w hW).1
    have hf2 : frm 0 21 wd (nightSet wd I w) := frm.wide (cX.night hX hW I w hW).2 (by decide) (by decide)
    refine ⟨_, rfl, (hM.far hf2).rv, m_leave (d := 3) (hM.far hf2) hW hw (fun hb => by rw [inR_tt hq (by decide)] at hb; cases hb) (fun q2 hq2 e2 w3 hM3 hf3 => ?_)⟩
    obtain rfl := nI_ij (by omega) (by omega) e2
    exact ⟨rfl, ⟨_, _, _, _, _, _, hX2.far hf3, hM3, hW, hw, hpa, hsh, hsn, l41 hl hf2 hf3 hM3⟩⟩
theorem jt_9 {xs : List Int32} {wd : sm_W} (hJ : JS wd) {x1 : Int32} : Ct xs 7 80 [.ref 0, .int x1] wd (fun r w2 => ∃ v, r = some (.int v) ∧ (∃ fs, w2[22]? = some (.inr (.inr (7, fs)))) ∧ Ct xs 7 157 [.ref 22, .int x1] w2 (fun r2 w3 => r2 = some (.int v) ∧ JS w3)) := by
  obtain ⟨tx, I, w, pa, sh, sn, hX, hM, hW, hw, hpa, hsh, hsn, hl⟩ := hJ
  have hn8 := hW.2.2.2.1
  have hb5 := hW.2.2.2.2.1
  have hal := all_lt hW
  have hlt := hX.2.2.2.2.1.lt
  refine c_falls (d := 1) hX.1 hW hw.1 (fun hb => ?_) (fun q hq e => ?_)
  · exact ⟨_, rfl, hM.rv, m_falls (d := 2) hM hW hw (fun _ => ⟨rfl, ⟨tx, I, w, pa, sh, sn, hX, hM, hW, hw, hpa, hsh, hsn, hl⟩⟩) (fun q hq e w3 _ _ => by exfalso; subst e; rw [inR_tt hq (by decide)] at hb; cases hb)⟩
  · subst e
    have hX2 := (cX.night hX hW I w hW).1
    have hf2 : frm 0 21 wd (nightSet wd I w) := frm.wide (cX.night hX hW I w hW).2 (by decide) (by decide)
    refine ⟨_, rfl, (hM.far hf2).rv, m_falls (d := 2) (hM.far hf2) hW hw (fun hb => by rw [inR_tt hq (by decide)] at hb; cases hb) (fun q2 hq2 e2 w3 hM3 hf3 => ?_)⟩
    obtain rfl := nI_ij (by omega) (by omega) e2
    exact ⟨rfl, ⟨_, _, _, _, _, _, hX2.far hf3, hM3, hW, hw, hpa, hsh, hsn, l41 hl hf2 hf3 hM3⟩⟩
theorem jt_16 {xs : List Int32} {wd : sm_W} (hJ : JS wd) {x1 : Int32} : Ct xs 7 100 [.ref 0, .int x1] wd (fun r w2 => ∃ v, r = some (.int v) ∧ (∃ fs, w2[22]? = some (.inr (.inr (7, fs)))) ∧ Ct xs 7 170 [.ref 22, .int x1] w2 (fun r2 w3 => r2 = some (.int v) ∧ JS w3)) := by
  obtain ⟨tx, I, w, pa, sh, sn, hX, hM, hW, hw, hpa, hsh, hsn, hl⟩ := hJ
  have hn8 := hW.2.2.2.1
  have hb5 := hW.2.2.2.2.1
  have hal := all_lt hW
  have hlt := hX.2.2.2.2.1.lt
  refine c_decides (d := 1) hX hW hw.1 (fun hb => ?_) (fun q hq e w2 hX2 hf2 => ?_)
  · exact ⟨_, rfl, hM.rv, m_decides (d := 0) hM hW hw (fun _ => ⟨rfl, ⟨tx, I, w, pa, sh, sn, hX, hM, hW, hw, hpa, hsh, hsn, hl⟩⟩) (fun q hq e w3 _ _ => by exfalso; subst e; rw [inR_tt hq (by decide)] at hb; cases hb)⟩
  · subst e
    refine ⟨_, rfl, (hM.far hf2).rv, m_decides (d := 0) (hM.far hf2) hW hw (fun hb => by rw [inR_tt hq (by decide)] at hb; cases hb) (fun q2 hq2 e2 w3 hM3 hf3 => ?_)⟩
    obtain rfl := nI_ij (by omega) (by omega) e2
    exact ⟨rfl, ⟨_, _, _, _, _, _, hX2.far hf3, hM3, hW, hw, hpa, hsh, hsn, l41 hl hf2 hf3 hM3⟩⟩
theorem jt_17 {xs : List Int32} {wd : sm_W} (hJ : JS wd) {x1 : Int32} : Ct xs 7 101 [.ref 0, .int x1] wd (fun r w2 => ∃ v, r = some (.int v) ∧ (∃ fs, w2[22]? = some (.inr (.inr (7, fs)))) ∧ Ct xs 7 172 [.ref 22, .int x1] w2 (fun r2 w3 => r2 = some (.int v) ∧ JS w3)) := by
  obtain ⟨tx, I, w, pa, sh, sn, hX, hM, hW, hw, hpa, hsh, hsn, hl⟩ := hJ
  have hn8 := hW.2.2.2.1
  have hb5 := hW.2.2.2.2.1
  have hal := all_lt hW
  have hlt := hX.2.2.2.2.1.lt
  refine c_win (d := 1) hX hW hw.1 (fun hb => ?_) (fun q hq e w2 hX2 hf2 => ?_)
  · exact ⟨_, rfl, hM.rv, m_win (d := 0) hM hW hw (fun _ => ⟨rfl, ⟨tx, I, w, pa, sh, sn, hX, hM, hW, hw, hpa, hsh, hsn, hl⟩⟩) (fun q hq e w3 _ _ => by exfalso; subst e; rw [inR_tt hq (by decide)] at hb; cases hb)⟩
  · subst e
    refine ⟨_, rfl, (hM.far hf2).rv, m_win (d := 0) (hM.far hf2) hW hw (fun hb => by rw [inR_tt hq (by decide)] at hb; cases hb) (fun q2 hq2 e2 w3 hM3 hf3 => ?_)⟩
    obtain rfl := nI_ij (by omega) (by omega) e2
    exact ⟨rfl, ⟨_, _, _, _, _, _, hX2.far hf3, hM3, hW, hw, hpa, hsh, hsn, l41 hl hf2 hf3 hM3⟩⟩
theorem jt_19 {xs : List Int32} {wd : sm_W} (hJ : JS wd) {x1 : Int32} : Ct xs 7 104 [.ref 0, .int x1] wd (fun r w2 => ∃ v, r = some (.int v) ∧ (∃ fs, w2[22]? = some (.inr (.inr (7, fs)))) ∧ Ct xs 7 174 [.ref 22, .int x1] w2 (fun r2 w3 => r2 = some (.int v) ∧ JS w3)) := by
  obtain ⟨tx, I, w, pa, sh, sn, hX, hM, hW, hw, hpa, hsh, hsn, hl⟩ := hJ
  have hn8 := hW.2.2.2.1
  have hb5 := hW.2.2.2.2.1
  have hal := all_lt hW
  have hlt := hX.2.2.2.2.1.lt
  refine c_beds (d := 2) hX hW hw.1 (fun hb => ?_) (fun q hq e w2 hX2 hf2 => ?_)
  · exact ⟨_, rfl, hM.rv, m_beds (d := 2) hM hW hw (fun _ => ⟨rfl, ⟨tx, I, w, pa, sh, sn, hX, hM, hW, hw, hpa, hsh, hsn, hl⟩⟩) (fun q hq e w3 _ _ => by exfalso; subst e; rw [inR_tt hq (by decide)] at hb; cases hb)⟩
  · subst e
    refine ⟨_, rfl, (hM.far hf2).rv, m_beds (d := 2) (hM.far hf2) hW hw (fun hb => by rw [inR_tt hq (by decide)] at hb; cases hb) (fun q2 hq2 e2 w3 hM3 hf3 => ?_)⟩
    obtain rfl := nI_ij (by omega) (by omega) e2
    exact ⟨rfl, ⟨_, _, _, _, _, _, hX2.far hf3, hM3, hW, hw, hpa, hsh, hsn, l41 hl hf2 hf3 hM3⟩⟩
theorem jt_0 {xs : List Int32} {wd : sm_W} (hJ : JS wd) {x1 : Int32} : Ct xs 7 44 [.ref 0, .int x1] wd (fun r w2 => ∃ v, r = some (.int v) ∧ (∃ fs, w2[22]? = some (.inr (.inr (7, fs)))) ∧ Ct xs 7 132 [.ref 22, .int x1] w2 (fun r2 w3 => r2 = some (.int v) ∧ JS w3)) := by
  obtain ⟨tx, I, w, pa, sh, sn, hX, hM, hW, hw, hpa, hsh, hsn, hl⟩ := hJ
  have hn8 := hW.2.2.2.1
  have hb5 := hW.2.2.2.2.1
  have hal := all_lt hW
  have hlt := hX.2.2.2.2.1.lt
  refine c_write (d := 6) hX hW hw.1 (fun h => ?_) (fun h => ?_) (fun ch h1 h2 e hf => ?_) (fun ch h1 h2 e hf w2 hX2 hf2 => ?_)
  · exact ⟨_, rfl, hM.rv, m_write (d := 6) hM hW hw (fun _ => ⟨rfl, ⟨tx, I, w, pa, sh, sn, hX, hM, hW, hw, hpa, hsh, hsn, hl⟩⟩) (fun ch h1 h2 e _ => by exfalso; subst e; exact Nat.not_le.mpr ((nI_ltI (by omega) (by decide)).mp h) h1) (fun ch h1 h2 e _ w3 _ _ => by exfalso; subst e; exact Nat.not_le.mpr ((nI_ltI (by omega) (by decide)).mp h) h1)⟩
  · exact ⟨_, rfl, hM.rv, m_write (d := 6) hM hW hw (fun _ => ⟨rfl, ⟨tx, I, w, pa, sh, sn, hX, hM, hW, hw, hpa, hsh, hsn, hl⟩⟩) (fun ch h1 h2 e _ => by exfalso; subst e; exact h ((nI_leI (by omega) (by decide)).mpr h2)) (fun ch h1 h2 e _ w3 _ _ => by exfalso; subst e; exact h ((nI_leI (by omega) (by decide)).mpr h2))⟩
  · subst e
    exact ⟨_, rfl, hM.rv, m_write (d := 6) hM hW hw (fun hb => by rw [wr_ok h1 h2] at hb; cases hb) (fun ch2 _ _ _ _ => ⟨rfl, ⟨tx, I, w, pa, sh, sn, hX, hM, hW, hw, hpa, hsh, hsn, hl⟩⟩) (fun ch2 _ _ _ hlt2 w3 _ _ => by exfalso; omega)⟩
  · subst e
    refine ⟨_, rfl, (hM.far hf2).rv, m_write (d := 6) (hM.far hf2) hW hw (fun hb => by rw [wr_ok h1 h2] at hb; cases hb) (fun ch2 _ _ _ hfu => by exfalso; omega) (fun ch2 h3 h4 e2 _ w3 hM3 hf3 => ?_)⟩
    obtain rfl := nI_ij (by omega) (by omega) e2
    exact ⟨rfl, ⟨_, _, _, _, _, _, hX2.far hf3, hM3, hW, hw, hpa, hsh, hsn, l41 hl hf2 hf3 hM3⟩⟩
theorem jt_1 {xs : List Int32} {wd : sm_W} (hJ : JS wd) : Ct xs 7 45 [.ref 0] wd (fun r w2 => ∃ v, r = some (.int v) ∧ (∃ fs, w2[22]? = some (.inr (.inr (7, fs)))) ∧ Ct xs 7 134 [.ref 22] w2 (fun r2 w3 => r2 = some (.int v) ∧ JS w3)) := by
  obtain ⟨tx, I, w, pa, sh, sn, hX, hM, hW, hw, hpa, hsh, hsn, hl⟩ := hJ
  have hn8 := hW.2.2.2.1
  have hb5 := hW.2.2.2.2.1
  have hal := all_lt hW
  have hlt := hX.2.2.2.2.1.lt
  refine c_wipe (d := 6) hX hW hw.1 (fun w2 hX2 hf2 => ?_)
  exact ⟨_, rfl, (hM.far hf2).rv, m_wipe (d := 7) (hM.far hf2) hW hw (fun w3 hM3 hf3 => ⟨rfl, ⟨_, _, _, _, _, _, hX2.far hf3, hM3, hW, hw, hpa, hsh, hsn, l41 hl hf2 hf3 hM3⟩⟩)⟩
theorem jt_2 {xs : List Int32} {wd : sm_W} (hJ : JS wd) : Ct xs 7 46 [.ref 0] wd (fun r w2 => ∃ v, r = some (.int v) ∧ (∃ fs, w2[22]? = some (.inr (.inr (7, fs)))) ∧ Ct xs 7 135 [.ref 22] w2 (fun r2 w3 => r2 = some (.int v) ∧ JS w3)) := by
  obtain ⟨tx, I, w, pa, sh, sn, hX, hM, hW, hw, hpa, hsh, hsn, hl⟩ := hJ
  have hn8 := hW.2.2.2.1
  have hb5 := hW.2.2.2.2.1
  have hal := all_lt hW
  have hlt := hX.2.2.2.2.1.lt
  refine c_fault (d := 2) hX hW hw.1 (fun w2 hX2 hf2 => ?_)
  exact ⟨_, rfl, (hM.far hf2).rv, m_fault (d := 1) (hM.far hf2) hW hw hlt (fun w3 hM3 hf3 => ⟨rfl, ⟨_, _, _, _, _, _, hX2.far hf3, hM3, hW, hw, hpa, hsh, hsn, l41 hl hf2 hf3 hM3⟩⟩)⟩
theorem jt_3 {xs : List Int32} {wd : sm_W} (hJ : JS wd) : Ct xs 7 47 [.ref 0] wd (fun r w2 => ∃ v, r = some (.int v) ∧ (∃ fs, w2[22]? = some (.inr (.inr (7, fs)))) ∧ Ct xs 7 142 [.ref 22] w2 (fun r2 w3 => r2 = some (.int v) ∧ JS w3)) := by
  obtain ⟨tx, I, w, pa, sh, sn, hX, hM, hW, hw, hpa, hsh, hsn, hl⟩ := hJ
  have hn8 := hW.2.2.2.1
  have hb5 := hW.2.2.2.2.1
  have hal := all_lt hW
  have hlt := hX.2.2.2.2.1.lt
  refine c_lay (d := 2) hX hW hw.1 (fun hno w2 hX2 hf2 => ?_) (fun hok w2 hX2 hf2 => ?_)
  · exact ⟨_, rfl, (hM.far hf2).rv, m_lay (d := 1) (hM.far hf2) hW hw hlt (fun _ w3 hM3 hf3 => ⟨rfl, ⟨_, _, _, _, _, _, hX2.far hf3, hM3, hW, hw, hpa, hsh, hsn, l41 hl hf2 hf3 hM3⟩⟩) (fun hok => absurd hok hno)⟩
  · exact ⟨_, rfl, (hM.far hf2).rv, m_lay (d := 1) (hM.far hf2) hW hw hlt (fun hno => absurd hok hno) (fun _ w3 hM3 hf3 => ⟨rfl, ⟨_, _, _, _, _, _, hX2.far hf3, hM3, (rdT_wf tx).1, cbl_wf (rdT_wf tx) hok.2, (fun x hx => absurd hx (by simp)), (fun x hx => absurd hx (by simp)), sn_nil, l41 hl hf2 hf3 hM3⟩⟩)⟩
theorem jt_4 {xs : List Int32} {wd : sm_W} (hJ : JS wd) {x1 : Int32} {x2 : Int32} : Ct xs 7 54 [.ref 0, .int x1, .int x2] wd (fun r w2 => ∃ v, r = some (.int v) ∧ (∃ fs, w2[22]? = some (.inr (.inr (7, fs)))) ∧ Ct xs 7 143 [.ref 22, .int x1, .int x2] w2 (fun r2 w3 => r2 = some (.int v) ∧ JS w3)) := by
  obtain ⟨tx, I, w, pa, sh, sn, hX, hM, hW, hw, hpa, hsh, hsn, hl⟩ := hJ
  have hn8 := hW.2.2.2.1
  have hb5 := hW.2.2.2.2.1
  have hal := all_lt hW
  have hlt := hX.2.2.2.2.1.lt
  refine c_islander (d := 3) hX hW hw.1 (fun hb => ?_) (fun i hi e1 v hv e2 => ?_)
  · exact ⟨_, rfl, hM.rv, m_islander (d := 5) hM hW hw (fun _ => ⟨rfl, ⟨tx, I, w, pa, sh, sn, hX, hM, hW, hw, hpa, hsh, hsn, hl⟩⟩) (fun i hi e1 v hv e2 => by exfalso; subst e1; subst e2; rw [inR_tt hi (by first | decide | omega), inR_tt hv (by first | decide | omega)] at hb; cases hb)⟩
  · subst e1; subst e2
    refine ⟨_, rfl, hM.rv, m_islander (d := 5) hM hW hw (fun hb => by rw [inR_tt hi (by omega), inR_tt hv (by decide)] at hb; cases hb) (fun i2 hi2 e1 v2 hv2 e2 => ?_)⟩
    obtain rfl := nI_ij (by omega) (by omega) e1
    obtain rfl := nI_ij (by omega) (by omega) e2
    exact ⟨rfl, ⟨tx, I, w, pa, sh, sn, hX, hM, hW, hw, hpa, hsh, hsn, hl⟩⟩
theorem jt_5 {xs : List Int32} {wd : sm_W} (hJ : JS wd) {x1 : Int32} {x2 : Int32} : Ct xs 7 57 [.ref 0, .int x1, .int x2] wd (fun r w2 => ∃ v, r = some (.int v) ∧ (∃ fs, w2[22]? = some (.inr (.inr (7, fs)))) ∧ Ct xs 7 145 [.ref 22, .int x1, .int x2] w2 (fun r2 w3 => r2 = some (.int v) ∧ JS w3)) := by
  obtain ⟨tx, I, w, pa, sh, sn, hX, hM, hW, hw, hpa, hsh, hsn, hl⟩ := hJ
  have hn8 := hW.2.2.2.1
  have hb5 := hW.2.2.2.2.1
  have hal := all_lt hW
  have hlt := hX.2.2.2.2.1.lt
  refine c_boat (d := 4) hX hW hw.1 (fun hb => ?_) (fun i hi e1 e2 => ?_) (fun i hi e1 e2 => ?_)
  · exact ⟨_, rfl, hM.rv, m_boat (d := 5) hM hW hw (fun _ => ⟨rfl, ⟨tx, I, w, pa, sh, sn, hX, hM, hW, hw, hpa, hsh, hsn, hl⟩⟩) (fun i hi e1 e2 => by exfalso; subst e1; subst e2; rw [inR_tt hi (by omega)] at hb; exact absurd hb (by decide)) (fun i hi e1 e2 => by exfalso; subst e1; subst e2; rw [inR_tt hi (by omega)] at hb; exact absurd hb (by decide))⟩
  · subst e1; subst e2
    refine ⟨_, rfl, hM.rv, m_boat (d := 5) hM hW hw (fun hb => by rw [inR_tt hi (by omega)] at hb; exact absurd hb (by decide)) (fun i2 hi2 e1 _ => ?_) (fun i2 hi2 e1 e2 => absurd e2 (by decide))⟩
    obtain rfl := nI_ij (by omega) (by omega) e1
    exact ⟨rfl, ⟨tx, I, w, pa, sh, sn, hX, hM, hW, hw, hpa, hsh, hsn, hl⟩⟩
  · subst e1; subst e2
    refine ⟨_, rfl, hM.rv, m_boat (d := 5) hM hW hw (fun hb => by rw [inR_tt hi (by omega)] at hb; exact absurd hb (by decide)) (fun i2 hi2 e1 e2 => absurd e2 (by decide)) (fun i2 hi2 e1 _ => ?_)⟩
    obtain rfl := nI_ij (by omega) (by omega) e1
    exact ⟨rfl, ⟨tx, I, w, pa, sh, sn, hX, hM, hW, hw, hpa, hsh, hsn, hl⟩⟩
theorem jt_8 {xs : List Int32} {wd : sm_W} (hJ : JS wd) {x1 : Int32} {x2 : Int32} : Ct xs 7 77 [.ref 0, .int x1, .int x2] wd (fun r w2 => ∃ v, r = some (.int v) ∧ (∃ fs, w2[22]? = some (.inr (.inr (7, fs)))) ∧ Ct xs 7 156 [.ref 22, .int x1, .int x2] w2 (fun r2 w3 => r2 = some (.int v) ∧ JS w3)) := by
  obtain ⟨tx, I, w, pa, sh, sn, hX, hM, hW, hw, hpa, hsh, hsn, hl⟩ := hJ
  have hn8 := hW.2.2.2.1
  have hb5 := hW.2.2.2.2.1
  have hal := all_lt hW
  have hlt := hX.2.2.2.2.1.lt
  refine c_by (d := 1) hX hW hw.1 (fun hb => ?_) (fun q i hq hi e1 e2 v hv w2 hX2 hf2 => ?_)
  · exact ⟨_, rfl, hM.rv, m_by (d := 3) hM hW hw (fun _ => ⟨rfl, ⟨tx, I, w, pa, sh, sn, hX, hM, hW, hw, hpa, hsh, hsn, hl⟩⟩) (fun q i hq hi e1 e2 v hv w3 _ _ => by exfalso; subst e1; subst e2; rw [inR_tt hq (by first | decide | omega), inR_tt hi (by first | decide | omega)] at hb; cases hb)⟩
  · subst e1; subst e2; subst hv
    refine ⟨_, rfl, (hM.far hf2).rv, m_by (d := 3) (hM.far hf2) hW hw (fun hb => by rw [inR_tt hq (by decide), inR_tt hi (by omega)] at hb; cases hb) (fun q2 i2 hq2 hi2 e1 e2 v2 hv2 w3 hM3 hf3 => ?_)⟩
    obtain rfl := nI_ij (by omega) (by omega) e1
    obtain rfl := nI_ij (by omega) (by omega) e2
    subst hv2
    exact ⟨rfl, ⟨_, _, _, _, _, _, hX2.far hf3, hM3, hW, hw, hpa, hsh, hsn, l41 hl hf2 hf3 hM3⟩⟩
theorem jt_10 {xs : List Int32} {wd : sm_W} (hJ : JS wd) {x1 : Int32} {x2 : Int32} : Ct xs 7 83 [.ref 0, .int x1, .int x2] wd (fun r w2 => ∃ v, r = some (.int v) ∧ (∃ fs, w2[22]? = some (.inr (.inr (7, fs)))) ∧ Ct xs 7 161 [.ref 22, .int x1, .int x2] w2 (fun r2 w3 => r2 = some (.int v) ∧ JS w3)) := by
  obtain ⟨tx, I, w, pa, sh, sn, hX, hM, hW, hw, hpa, hsh, hsn, hl⟩ := hJ
  have hn8 := hW.2.2.2.1
  have hb5 := hW.2.2.2.2.1
  have hal := all_lt hW
  have hlt := hX.2.2.2.2.1.lt
  refine c_milked (d := 1) hX.1 hW hw.1 (fun hb => ?_) (fun q hq e1 e2 => ?_) (fun q hq e1 h2 h3 => ?_)
  · exact ⟨_, rfl, hM.rv, m_milked (d := 3) hM hW hw (fun _ => ⟨rfl, ⟨tx, I, w, pa, sh, sn, hX, hM, hW, hw, hpa, hsh, hsn, hl⟩⟩) (fun q hq e1 e2 w3 _ _ => by exfalso; subst e1; subst e2; rw [inR_tt hq (by decide)] at hb; exact absurd hb (by decide)) (fun q hq e1 h2 h3 w3 _ _ => by exfalso; subst e1; rw [inR_tt hq (by decide), h3] at hb; cases hb)⟩
  · subst e1; subst e2
    have hX2 := (cX.night hX hW I w hW).1
    have hf2 : frm 0 21 wd (nightSet wd I w) := frm.wide (cX.night hX hW I w hW).2 (by decide) (by decide)
    refine ⟨_, rfl, (hM.far hf2).rv, m_milked (d := 3) (hM.far hf2) hW hw (fun hb => by rw [inR_tt hq (by decide)] at hb; exact absurd hb (by decide)) (fun q2 hq2 e1 _ w3 hM3 hf3 => ?_) (fun q2 hq2 e1 h2 h3 w3 _ _ => absurd rfl h2)⟩
    obtain rfl := nI_ij (by omega) (by omega) e1
    exact ⟨rfl, ⟨_, _, _, _, _, _, hX2.far hf3, hM3, hW, hw, hpa, hsh, hsn, l41 hl hf2 hf3 hM3⟩⟩
  · subst e1
    have hX2 := (cX.night hX hW I w hW).1
    have hf2 : frm 0 21 wd (nightSet wd I w) := frm.wide (cX.night hX hW I w hW).2 (by decide) (by decide)
    refine ⟨_, rfl, (hM.far hf2).rv, m_milked (d := 3) (hM.far hf2) hW hw (fun hb => by rw [inR_tt hq (by decide), h3] at hb; cases hb) (fun q2 hq2 e1 e2 w3 _ _ => absurd e2 h2) (fun q2 hq2 e1 _ _ w3 hM3 hf3 => ?_)⟩
    obtain rfl := nI_ij (by omega) (by omega) e1
    exact ⟨rfl, ⟨_, _, _, _, _, _, hX2.far hf3, hM3, hW, hw, hpa, hsh, hsn, l41 hl hf2 hf3 hM3⟩⟩
theorem jt_11 {xs : List Int32} {wd : sm_W} (hJ : JS wd) {x1 : Int32} {x2 : Int32} : Ct xs 7 88 [.ref 0, .int x1, .int x2] wd (fun r w2 => ∃ v, r = some (.int v) ∧ (∃ fs, w2[22]? = some (.inr (.inr (7, fs)))) ∧ Ct xs 7 163 [.ref 22, .int x1, .int x2] w2 (fun r2 w3 => r2 = some (.int v) ∧ JS w3)) := by
  obtain ⟨tx, I, w, pa, sh, sn, hX, hM, hW, hw, hpa, hsh, hsn, hl⟩ := hJ
  have hn8 := hW.2.2.2.1
  have hb5 := hW.2.2.2.2.1
  have hal := all_lt hW
  have hlt := hX.2.2.2.2.1.lt
  refine c_lean (d := 3) hX hW hw.1 (fun hb => ?_) (fun i l hi hl2 e1 e2 w2 hX2 hf2 => ?_)
  · exact ⟨_, rfl, hM.rv, m_lean (d := 5) hM hW hw (fun _ => ⟨rfl, ⟨tx, I, w, pa, sh, sn, hX, hM, hW, hw, hpa, hsh, hsn, hl⟩⟩) (fun i l hi hl2 e1 e2 w3 _ _ => by exfalso; subst e1; subst e2; rw [inR_tt hi (by first | decide | omega), inR_tt hl2 (by first | decide | omega)] at hb; cases hb)⟩
  · subst e1; subst e2
    refine ⟨_, rfl, (hM.far hf2).rv, m_lean (d := 5) (hM.far hf2) hW hw (fun hb => by rw [inR_tt hi (by omega), inR_tt hl2 (by first | decide | omega)] at hb; cases hb) (fun i2 l2 hi2 hl3 e1 e2 w3 hM3 hf3 => ?_)⟩
    obtain rfl := nI_ij (by omega) (by omega) e1
    obtain rfl := nI_ij (by omega) (by omega) e2
    exact ⟨rfl, ⟨_, _, _, _, _, _, hX2.far hf3, hM3, hW, wf_lean hn8 hw hi hl2, push_mem hpa hw, hsh, hsn, l41 hl hf2 hf3 hM3⟩⟩
theorem jt_12 {xs : List Int32} {wd : sm_W} (hJ : JS wd) {x1 : Int32} {x2 : Int32} : Ct xs 7 92 [.ref 0, .int x1, .int x2] wd (fun r w2 => ∃ v, r = some (.int v) ∧ (∃ fs, w2[22]? = some (.inr (.inr (7, fs)))) ∧ Ct xs 7 166 [.ref 22, .int x1, .int x2] w2 (fun r2 w3 => r2 = some (.int v) ∧ JS w3)) := by
  obtain ⟨tx, I, w, pa, sh, sn, hX, hM, hW, hw, hpa, hsh, hsn, hl⟩ := hJ
  have hn8 := hW.2.2.2.1
  have hb5 := hW.2.2.2.2.1
  have hal := all_lt hW
  have hlt := hX.2.2.2.2.1.lt
  refine c_mind (d := 3) hX hW hw.1 (fun hb => ?_) (fun i l hi hl2 e1 e2 w2 hX2 hf2 => ?_)
  · exact ⟨_, rfl, hM.rv, m_mind (d := 5) hM hW hw (fun _ => ⟨rfl, ⟨tx, I, w, pa, sh, sn, hX, hM, hW, hw, hpa, hsh, hsn, hl⟩⟩) (fun i l hi hl2 e1 e2 w3 _ _ => by exfalso; subst e1; subst e2; rw [inR_tt hi (by first | decide | omega), inR_tt hl2 (by first | decide | omega)] at hb; cases hb)⟩
  · subst e1; subst e2
    refine ⟨_, rfl, (hM.far hf2).rv, m_mind (d := 5) (hM.far hf2) hW hw (fun hb => by rw [inR_tt hi (by omega), inR_tt hl2 (by first | decide | omega)] at hb; cases hb) (fun i2 l2 hi2 hl3 e1 e2 w3 hM3 hf3 => ?_)⟩
    obtain rfl := nI_ij (by omega) (by omega) e1
    obtain rfl := nI_ij (by omega) (by omega) e2
    exact ⟨rfl, ⟨_, _, _, _, _, _, hX2.far hf3, hM3, hW, wf_mind hn8 hw hi hl2, push_mem hpa hw, hsh, hsn, l41 hl hf2 hf3 hM3⟩⟩
theorem jt_13 {xs : List Int32} {wd : sm_W} (hJ : JS wd) {x1 : Int32} : Ct xs 7 93 [.ref 0, .int x1] wd (fun r w2 => ∃ v, r = some (.int v) ∧ (∃ fs, w2[22]? = some (.inr (.inr (7, fs)))) ∧ Ct xs 7 167 [.ref 22, .int x1] w2 (fun r2 w3 => r2 = some (.int v) ∧ JS w3)) := by
  obtain ⟨tx, I, w, pa, sh, sn, hX, hM, hW, hw, hpa, hsh, hsn, hl⟩ := hJ
  have hn8 := hW.2.2.2.1
  have hb5 := hW.2.2.2.2.1
  have hal := all_lt hW
  have hlt := hX.2.2.2.2.1.lt
  refine c_hold (d := 3) hX hW hw.1 (fun hb => ?_) (fun i hi e w2 hX2 hf2 => ?_)
  · exact ⟨_, rfl, hM.rv, m_hold (d := 5) hM hW hw (fun _ => ⟨rfl, ⟨tx, I, w, pa, sh, sn, hX, hM, hW, hw, hpa, hsh, hsn, hl⟩⟩) (fun i hi e w3 _ _ => by exfalso; subst e; rw [inR_tt hi (by omega)] at hb; cases hb)⟩
  · subst e
    refine ⟨_, rfl, (hM.far hf2).rv, m_hold (d := 5) (hM.far hf2) hW hw (fun hb => by rw [inR_tt hi (by omega)] at hb; cases hb) (fun i2 hi2 e w3 hM3 hf3 => ?_)⟩
    obtain rfl := nI_ij (by omega) (by omega) e
    exact ⟨rfl, ⟨_, _, _, _, _, _, hX2.far hf3, hM3, hW, wf_held hn8 hb5 hw (xb_lt hw hi), push_mem hpa hw, hsh, hsn, l41 hl hf2 hf3 hM3⟩⟩
theorem jt_14 {xs : List Int32} {wd : sm_W} (hJ : JS wd) {x1 : Int32} : Ct xs 7 95 [.ref 0, .int x1] wd (fun r w2 => ∃ v, r = some (.int v) ∧ (∃ fs, w2[22]? = some (.inr (.inr (7, fs)))) ∧ Ct xs 7 168 [.ref 22, .int x1] w2 (fun r2 w3 => r2 = some (.int v) ∧ JS w3)) := by
  obtain ⟨tx, I, w, pa, sh, sn, hX, hM, hW, hw, hpa, hsh, hsn, hl⟩ := hJ
  have hn8 := hW.2.2.2.1
  have hb5 := hW.2.2.2.2.1
  have hal := all_lt hW
  have hlt := hX.2.2.2.2.1.lt
  cases hq : inR x1 2 with
  | false => exact c_weatherB (d := 3) hX hW hw.1 hq ⟨_, rfl, hM.rv, m_weatherB (d := 5) hM hW hw hq ⟨rfl, ⟨tx, I, w, pa, sh, sn, hX, hM, hW, hw, hpa, hsh, hsn, hl⟩⟩⟩
  | true =>
    obtain ⟨q, hq2, rfl⟩ := inR_of hq (by decide)
    rcases (by omega : q = 0 ∨ q = 1) with rfl | rfl
    · exact c_weather0 (d := 3) hX hW hw.1 (fun w2 hX2 hf2 => ⟨_, rfl, (hM.far hf2).rv, m_weather0 (d := 5) (hM.far hf2) hW hw (fun w3 hM3 hf3 => ⟨rfl, ⟨_, _, _, _, _, _, hX2.far hf3, hM3, hW, wf_W hn8 hw, push_mem hpa hw, hsh, hsn, l41 hl hf2 hf3 hM3⟩⟩)⟩)
    · exact c_weather1 (d := 3) hX hW hw.1 (fun w2 hX2 hf2 => ⟨_, rfl, (hM.far hf2).rv, m_weather1 (d := 5) (hM.far hf2) hW hw (fun w3 hM3 hf3 => ⟨rfl, ⟨_, _, _, _, _, _, hX2.far hf3, hM3, hW, wf_W hn8 hw, push_mem hpa hw, hsh, hsn, l41 hl hf2 hf3 hM3⟩⟩)⟩)
theorem jt_15 {xs : List Int32} {wd : sm_W} (hJ : JS wd) : Ct xs 7 97 [.ref 0] wd (fun r w2 => ∃ v, r = some (.int v) ∧ (∃ fs, w2[22]? = some (.inr (.inr (7, fs)))) ∧ Ct xs 7 169 [.ref 22] w2 (fun r2 w3 => r2 = some (.int v) ∧ JS w3)) := by
  obtain ⟨tx, I, w, pa, sh, sn, hX, hM, hW, hw, hpa, hsh, hsn, hl⟩ := hJ
  have hn8 := hW.2.2.2.1
  have hb5 := hW.2.2.2.2.1
  have hal := all_lt hW
  have hlt := hX.2.2.2.2.1.lt
  refine c_undo (d := 5) hX hW hw.1 (fun h0 => ?_) (fun pa0 s e w2 hX2 hf2 => ?_)
  · subst h0
    exact ⟨_, rfl, hM.rv, m_undo (d := 7) hM hW hw (fun _ => ⟨rfl, tx, I, w, [], sh, sn, hX, hM, hW, hw, hpa, hsh, hsn, hl⟩) (fun pa0 s e w3 _ _ => by simp at e)⟩
  · subst e
    refine ⟨_, rfl, (hM.far hf2).rv, m_undo (d := 7) (hM.far hf2) hW hw (fun h0 => by simp at h0) (fun pa1 s1 e w3 hM3 hf3 => ?_)⟩
    obtain ⟨rfl, e3⟩ := List.append_inj' e rfl
    obtain rfl : s = s1 := by simpa using e3
    exact ⟨rfl, ⟨_, _, _, _, _, _, hX2.far hf3, hM3, hW, hpa s (List.mem_append_right _ (List.mem_singleton.mpr rfl)), (fun x hx => hpa x (List.mem_append_left _ hx)), hsh, hsn, l41 hl hf2 hf3 hM3⟩⟩
theorem jt_29 {xs : List Int32} {wd : sm_W} (hJ : JS wd) : Ct xs 7 124 [.ref 0] wd (fun r w2 => ∃ v, r = some (.int v) ∧ (∃ fs, w2[22]? = some (.inr (.inr (7, fs)))) ∧ Ct xs 7 185 [.ref 22] w2 (fun r2 w3 => r2 = some (.int v) ∧ JS w3)) := by
  obtain ⟨tx, I, w, pa, sh, sn, hX, hM, hW, hw, hpa, hsh, hsn, hl⟩ := hJ
  have hn8 := hW.2.2.2.1
  have hb5 := hW.2.2.2.2.1
  have hal := all_lt hW
  have hlt := hX.2.2.2.2.1.lt
  refine c_back (d := 5) hX hW hw.1 (fun h0 => ?_) (fun sh0 s e w2 hX2 hf2 => ?_)
  · subst h0
    exact ⟨_, rfl, hM.rv, m_back (d := 7) hM hW hw (fun _ => ⟨rfl, tx, I, w, pa, [], sn, hX, hM, hW, hw, hpa, hsh, hsn, hl⟩) (fun pa0 s e w3 _ _ => by simp at e)⟩
  · subst e
    refine ⟨_, rfl, (hM.far hf2).rv, m_back (d := 7) (hM.far hf2) hW hw (fun h0 => by simp at h0) (fun pa1 s1 e w3 hM3 hf3 => ?_)⟩
    obtain ⟨rfl, e3⟩ := List.append_inj' e rfl
    obtain rfl : s = s1 := by simpa using e3
    exact ⟨rfl, ⟨_, _, _, _, _, _, hX2.far hf3, hM3, hW, hsh s (List.mem_append_right _ (List.mem_singleton.mpr rfl)), (fun x hx => absurd hx (by simp)), (fun x hx => hsh x (List.mem_append_left _ hx)), hsn, l41 hl hf2 hf3 hM3⟩⟩
theorem jt_28 {xs : List Int32} {wd : sm_W} (hJ : JS wd) : Ct xs 7 123 [.ref 0] wd (fun r w2 => ∃ v, r = some (.int v) ∧ (∃ fs, w2[22]? = some (.inr (.inr (7, fs)))) ∧ Ct xs 7 184 [.ref 22] w2 (fun r2 w3 => r2 = some (.int v) ∧ JS w3)) := by
  obtain ⟨tx, I, w, pa, sh, sn, hX, hM, hW, hw, hpa, hsh, hsn, hl⟩ := hJ
  have hn8 := hW.2.2.2.1
  have hb5 := hW.2.2.2.2.1
  have hal := all_lt hW
  have hlt := hX.2.2.2.2.1.lt
  refine c_keep (d := 4) hX hW hw.1 (fun h0 => ?_) (fun h0 w2 hX2 hf2 => ?_)
  · exact ⟨_, rfl, hM.rv, m_keep (d := 7) hM hW hw (fun _ => ⟨rfl, ⟨tx, I, w, pa, sh, sn, hX, hM, hW, hw, hpa, hsh, hsn, hl⟩⟩) (fun h1 w3 _ _ => by exfalso; omega)⟩
  · exact ⟨_, rfl, (hM.far hf2).rv, m_keep (d := 7) (hM.far hf2) hW hw (fun h1 => by exfalso; omega) (fun _ w3 hM3 hf3 => ⟨rfl, ⟨_, _, _, _, _, _, hX2.far hf3, hM3, hW, hw, hpa, app_mem hsh hw, hsn, l41 hl hf2 hf3 hM3⟩⟩)⟩
theorem jt_18 {xs : List Int32} {wd : sm_W} (hJ : JS wd) : Ct xs 7 102 [.ref 0] wd (fun r w2 => ∃ v, r = some (.int v) ∧ (∃ fs, w2[22]? = some (.inr (.inr (7, fs)))) ∧ Ct xs 7 173 [.ref 22] w2 (fun r2 w3 => r2 = some (.int v) ∧ JS w3)) := by
  obtain ⟨tx, I, w, pa, sh, sn, hX, hM, hW, hw, hpa, hsh, hsn, hl⟩ := hJ
  have hn8 := hW.2.2.2.1
  have hb5 := hW.2.2.2.2.1
  have hal := all_lt hW
  have hlt := hX.2.2.2.2.1.lt
  refine c_fill (d := 1) hX hW hw.1 (fun w2 hX2 hf2 => ?_)
  exact ⟨_, rfl, (hM.far hf2).rv, m_fill (d := 5) (hM.far hf2) hW hw (fun w3 hM3 hf3 => ⟨rfl, ⟨_, _, _, _, _, _, hX2.far hf3, hM3, hW, hw, hpa, hsh, hsn, l41 hl hf2 hf3 hM3⟩⟩)⟩
theorem jt_20 {xs : List Int32} {wd : sm_W} (hJ : JS wd) {x1 : Int32} {x2 : Int32} : Ct xs 7 105 [.ref 0, .int x1, .int x2] wd (fun r w2 => ∃ v, r = some (.int v) ∧ (∃ fs, w2[22]? = some (.inr (.inr (7, fs)))) ∧ Ct xs 7 175 [.ref 22, .int x1, .int x2] w2 (fun r2 w3 => r2 = some (.int v) ∧ JS w3)) := by
  obtain ⟨tx, I, w, pa, sh, sn, hX, hM, hW, hw, hpa, hsh, hsn, hl⟩ := hJ
  have hn8 := hW.2.2.2.1
  have hb5 := hW.2.2.2.2.1
  have hal := all_lt hW
  have hlt := hX.2.2.2.2.1.lt
  refine c_help (d := 1) hX hW hw.1 (fun hb => ?_) (fun q hq e h2 w2 hX2 hf2 => ?_)
  · exact ⟨_, rfl, hM.rv, m_help (d := 3) hM hW hw (fun _ => ⟨rfl, ⟨tx, I, w, pa, sh, sn, hX, hM, hW, hw, hpa, hsh, hsn, hl⟩⟩) (fun q hq e h2 w3 _ _ => by exfalso; subst e; rw [inR_tt hq (by decide), h2] at hb; cases hb)⟩
  · subst e
    by_cases hx2 : x2 = 0
    · refine ⟨_, congrArg _ (congrArg _ (if_pos hx2)), (hM.far hf2).rv, m_help (d := 3) (hM.far hf2) hW hw (fun hb => by rw [inR_tt hq (by decide), h2] at hb; cases hb) (fun q2 hq2 e _ w3 hM3 hf3 => ?_)⟩
      obtain rfl := nI_ij (by omega) (by omega) e
      exact ⟨congrArg _ (congrArg _ (if_pos hx2)), ⟨_, _, _, _, _, _, hX2.far hf3, hM3, hW, hw, hpa, hsh, hsn, l41 hl hf2 hf3 hM3⟩⟩
    · refine ⟨_, congrArg _ (congrArg _ (if_neg hx2)), (hM.far hf2).rv, m_help (d := 3) (hM.far hf2) hW hw (fun hb => by rw [inR_tt hq (by decide), h2] at hb; cases hb) (fun q2 hq2 e _ w3 hM3 hf3 => ?_)⟩
      obtain rfl := nI_ij (by omega) (by omega) e
      exact ⟨congrArg _ (congrArg _ (if_neg hx2)), ⟨_, _, _, _, _, _, hX2.far hf3, hM3, hW, hw, hpa, hsh, hsn, l41 hl hf2 hf3 hM3⟩⟩
theorem jt_25 {xs : List Int32} {wd : sm_W} (hJ : JS wd) {x1 : Int32} {x2 : Int32} : Ct xs 7 115 [.ref 0, .int x1, .int x2] wd (fun r w2 => ∃ v, r = some (.int v) ∧ (∃ fs, w2[22]? = some (.inr (.inr (7, fs)))) ∧ Ct xs 7 180 [.ref 22, .int x1, .int x2] w2 (fun r2 w3 => r2 = some (.int v) ∧ JS w3)) := by
  obtain ⟨tx, I, w, pa, sh, sn, hX, hM, hW, hw, hpa, hsh, hsn, hl⟩ := hJ
  have hn8 := hW.2.2.2.1
  have hb5 := hW.2.2.2.2.1
  have hal := all_lt hW
  have hlt := hX.2.2.2.2.1.lt
  refine c_odds (d := 1) hX hW hw.1 (fun hb => ?_) (fun q hq e h2 w2 hX2 hf2 => ?_)
  · exact ⟨_, rfl, hM.rv, m_odds (d := 4) hM hW hw (fun _ => ⟨rfl, ⟨tx, I, w, pa, sh, sn, hX, hM, hW, hw, hpa, hsh, hsn, hl⟩⟩) (fun q hq e h2 w3 _ _ => by exfalso; subst e; rw [inR_tt hq (by decide), h2] at hb; cases hb)⟩
  · subst e
    by_cases hx2 : x2 = 0
    · refine ⟨_, congrArg _ (congrArg _ (if_pos hx2)), (hM.far hf2).rv, m_odds (d := 4) (hM.far hf2) hW hw (fun hb => by rw [inR_tt hq (by decide), h2] at hb; cases hb) (fun q2 hq2 e _ w3 hM3 hf3 => ?_)⟩
      obtain rfl := nI_ij (by omega) (by omega) e
      exact ⟨congrArg _ (congrArg _ (if_pos hx2)), ⟨_, _, _, _, _, _, hX2.far hf3, hM3, hW, hw, hpa, hsh, hsn, l41 hl hf2 hf3 hM3⟩⟩
    · refine ⟨_, congrArg _ (congrArg _ (if_neg hx2)), (hM.far hf2).rv, m_odds (d := 4) (hM.far hf2) hW hw (fun hb => by rw [inR_tt hq (by decide), h2] at hb; cases hb) (fun q2 hq2 e _ w3 hM3 hf3 => ?_)⟩
      obtain rfl := nI_ij (by omega) (by omega) e
      exact ⟨congrArg _ (congrArg _ (if_neg hx2)), ⟨_, _, _, _, _, _, hX2.far hf3, hM3, hW, hw, hpa, hsh, hsn, l41 hl hf2 hf3 hM3⟩⟩
theorem jt_21 {xs : List Int32} {wd : sm_W} (hJ : JS wd) {x1 : Int32} : Ct xs 7 106 [.ref 0, .int x1] wd (fun r w2 => ∃ v, r = some (.int v) ∧ (∃ fs, w2[22]? = some (.inr (.inr (7, fs)))) ∧ Ct xs 7 176 [.ref 22, .int x1] w2 (fun r2 w3 => r2 = some (.int v) ∧ JS w3)) := by
  obtain ⟨tx, I, w, pa, sh, sn, hX, hM, hW, hw, hpa, hsh, hsn, hl⟩ := hJ
  have hn8 := hW.2.2.2.1
  have hb5 := hW.2.2.2.2.1
  have hal := all_lt hW
  have hlt := hX.2.2.2.2.1.lt
  refine c_both (d := 1) hX hW hw.1 (fun hb => ?_) (fun e w2 hX2 hf2 => ?_) (fun e w2 hX2 hf2 => ?_)
  · exact ⟨_, rfl, hM.rv, m_both (d := 3) hM hW hw (fun _ => ⟨rfl, ⟨tx, I, w, pa, sh, sn, hX, hM, hW, hw, hpa, hsh, hsn, hl⟩⟩) (fun e w3 _ _ => by exfalso; subst e; exact absurd hb (by decide)) (fun e w3 _ _ => by exfalso; subst e; exact absurd hb (by decide))⟩
  · subst e
    exact ⟨_, rfl, (hM.far hf2).rv, m_both (d := 3) (hM.far hf2) hW hw (fun hb => absurd hb (by decide)) (fun _ w3 hM3 hf3 => ⟨rfl, ⟨_, _, _, _, _, _, hX2.far hf3, hM3, hW, hw, hpa, hsh, hsn, l41 hl hf2 hf3 hM3⟩⟩) (fun e w3 _ _ => absurd e (by decide))⟩
  · subst e
    exact ⟨_, rfl, (hM.far hf2).rv, m_both (d := 3) (hM.far hf2) hW hw (fun hb => absurd hb (by decide)) (fun e w3 _ _ => absurd e (by decide)) (fun _ w3 hM3 hf3 => ⟨rfl, ⟨_, _, _, _, _, _, hX2.far hf3, hM3, hW, hw, hpa, hsh, hsn, l41 hl hf2 hf3 hM3⟩⟩)⟩
theorem jt_22 {xs : List Int32} {wd : sm_W} (hJ : JS wd) {x1 : Int32} {x2 : Int32} : Ct xs 7 107 [.ref 0, .int x1, .int x2] wd (fun r w2 => ∃ v, r = some (.int v) ∧ (∃ fs, w2[22]? = some (.inr (.inr (7, fs)))) ∧ Ct xs 7 177 [.ref 22, .int x1, .int x2] w2 (fun r2 w3 => r2 = some (.int v) ∧ JS w3)) := by
  obtain ⟨tx, I, w, pa, sh, sn, hX, hM, hW, hw, hpa, hsh, hsn, hl⟩ := hJ
  have hn8 := hW.2.2.2.1
  have hb5 := hW.2.2.2.2.1
  have hal := all_lt hW
  have hlt := hX.2.2.2.2.1.lt
  refine c_seen (d := 6) hX hW hw.1 (fun hb => ?_) (fun q n hq hn e1 e2 h8 => ?_) (fun q n hq hn e1 e2 h8 w2 hX2 hf2 => ?_)
  · exact ⟨_, rfl, hM.rv, m_seen (d := 5) hM hW hw (fun _ => ⟨rfl, ⟨tx, I, w, pa, sh, sn, hX, hM, hW, hw, hpa, hsh, hsn, hl⟩⟩) (fun q n hq hn e1 e2 _ => by exfalso; subst e1; subst e2; rw [inR_tt hq (by first | decide | omega), inR_tt hn (by first | decide | omega)] at hb; cases hb) (fun q n hq hn e1 e2 _ w3 _ _ => by exfalso; subst e1; subst e2; rw [inR_tt hq (by first | decide | omega), inR_tt hn (by first | decide | omega)] at hb; cases hb)⟩
  · subst e1; subst e2
    exact ⟨_, rfl, hM.rv, m_seen (d := 5) hM hW hw (fun hb => by rw [inR_tt hq (by decide), inR_tt hn (by decide)] at hb; cases hb) (fun q n hq hn e1 e2 _ => ⟨rfl, ⟨tx, I, w, pa, sh, sn, hX, hM, hW, hw, hpa, hsh, hsn, hl⟩⟩) (fun q n hq hn e1 e2 h9 w3 _ _ => by exfalso; omega)⟩
  · subst e1; subst e2
    refine ⟨_, rfl, (hM.far hf2).rv, m_seen (d := 5) (hM.far hf2) hW hw (fun hb => by rw [inR_tt hq (by decide), inR_tt hn (by decide)] at hb; cases hb) (fun q n hq hn e1 e2 h9 => by exfalso; omega) (fun q2 n2 hq2 hn2 e1 e2 _ w3 hM3 hf3 => ?_)⟩
    obtain rfl := nI_ij (by omega) (by omega) e1
    obtain rfl := nI_ij (by omega) (by omega) e2
    exact ⟨rfl, ⟨_, _, _, _, _, _, hX2.far hf3, hM3, hW, hw, hpa, hsh, sn_app hsn hq hn, l41 hl hf2 hf3 hM3⟩⟩
theorem jt_23 {xs : List Int32} {wd : sm_W} (hJ : JS wd) : Ct xs 7 110 [.ref 0] wd (fun r w2 => ∃ v, r = some (.int v) ∧ (∃ fs, w2[22]? = some (.inr (.inr (7, fs)))) ∧ Ct xs 7 178 [.ref 22] w2 (fun r2 w3 => r2 = some (.int v) ∧ JS w3)) := by
  obtain ⟨tx, I, w, pa, sh, sn, hX, hM, hW, hw, hpa, hsh, hsn, hl⟩ := hJ
  have hn8 := hW.2.2.2.1
  have hb5 := hW.2.2.2.2.1
  have hal := all_lt hW
  have hlt := hX.2.2.2.2.1.lt
  refine c_forget (d := 6) hX hW hw.1 (fun w2 hX2 hf2 => ?_)
  exact ⟨_, rfl, (hM.far hf2).rv, m_forget (d := 7) (hM.far hf2) hW hw (fun w3 hM3 hf3 => ⟨rfl, ⟨_, _, _, _, _, _, hX2.far hf3, hM3, hW, hw, hpa, hsh, sn_nil, l41 hl hf2 hf3 hM3⟩⟩)⟩
theorem jt_24 {xs : List Int32} {wd : sm_W} (hJ : JS wd) {x1 : Int32} : Ct xs 7 111 [.ref 0, .int x1] wd (fun r w2 => ∃ v, r = some (.int v) ∧ (∃ fs, w2[22]? = some (.inr (.inr (7, fs)))) ∧ Ct xs 7 179 [.ref 22, .int x1] w2 (fun r2 w3 => r2 = some (.int v) ∧ JS w3)) := by
  obtain ⟨tx, I, w, pa, sh, sn, hX, hM, hW, hw, hpa, hsh, hsn, hl⟩ := hJ
  have hn8 := hW.2.2.2.1
  have hb5 := hW.2.2.2.2.1
  have hal := all_lt hW
  have hlt := hX.2.2.2.2.1.lt
  refine c_oars (d := 1) hX hW hw.1 hsn (fun hb => ?_) (fun h2 w2 hX2 hf2 => ?_)
  · exact ⟨_, rfl, hM.rv, m_oars (d := 3) hM hW hw hsn (fun _ => ⟨rfl, ⟨tx, I, w, pa, sh, sn, hX, hM, hW, hw, hpa, hsh, hsn, hl⟩⟩) (fun h2 w3 _ _ => by exfalso; exact Bool.noConfusion (hb.symm.trans h2))⟩
  · by_cases hx2 : x1 = 0
    · exact ⟨_, congrArg _ (congrArg _ (if_pos hx2)), (hM.far hf2).rv, m_oars (d := 3) (hM.far hf2) hW hw hsn (fun hb => Bool.noConfusion (hb.symm.trans h2)) (fun _ w3 hM3 hf3 => ⟨congrArg _ (congrArg _ (if_pos hx2)), ⟨_, _, _, _, _, _, hX2.far hf3, hM3, hW, hw, hpa, hsh, hsn, l41 hl hf2 hf3 hM3⟩⟩)⟩
    · exact ⟨_, congrArg _ (congrArg _ (if_neg hx2)), (hM.far hf2).rv, m_oars (d := 3) (hM.far hf2) hW hw hsn (fun hb => Bool.noConfusion (hb.symm.trans h2)) (fun _ w3 hM3 hf3 => ⟨congrArg _ (congrArg _ (if_neg hx2)), ⟨_, _, _, _, _, _, hX2.far hf3, hM3, hW, hw, hpa, hsh, hsn, l41 hl hf2 hf3 hM3⟩⟩)⟩
theorem jt_26 {xs : List Int32} {wd : sm_W} (hJ : JS wd) {x1 : Int32} : Ct xs 7 120 [.ref 0, .int x1] wd (fun r w2 => ∃ v, r = some (.int v) ∧ (∃ fs, w2[22]? = some (.inr (.inr (7, fs)))) ∧ Ct xs 7 182 [.ref 22, .int x1] w2 (fun r2 w3 => r2 = some (.int v) ∧ JS w3)) := by
  obtain ⟨tx, I, w, pa, sh, sn, hX, hM, hW, hw, hpa, hsh, hsn, hl⟩ := hJ
  have hn8 := hW.2.2.2.1
  have hb5 := hW.2.2.2.2.1
  have hal := all_lt hW
  have hlt := hX.2.2.2.2.1.lt
  refine c_asked (d := 1) hX hW hw.1 (fun hb => ?_) (fun s hs e v hv w2 hX2 hf2 => ?_)
  · exact ⟨_, rfl, hM.rv, m_asked (d := 3) hM hW hw (fun _ => ⟨rfl, ⟨tx, I, w, pa, sh, sn, hX, hM, hW, hw, hpa, hsh, hsn, hl⟩⟩) (fun s hs e v hv w3 _ _ => by exfalso; subst e; rw [inR_tt hs (by omega)] at hb; cases hb)⟩
  · subst e; subst hv
    refine ⟨_, rfl, (hM.far hf2).rv, m_asked (d := 3) (hM.far hf2) hW hw (fun hb => by rw [inR_tt hs (by omega)] at hb; cases hb) (fun s2 hs2 e v2 hv2 w3 hM3 hf3 => ?_)⟩
    obtain rfl := nI_ij (by omega) (by omega) e
    subst hv2
    exact ⟨rfl, ⟨_, _, _, _, _, _, hX2.far hf3, hM3, hW, hw, hpa, hsh, hsn, l41 hl hf2 hf3 hM3⟩⟩
theorem moOK_t {z n : Nat} {x : Int32} (hz : z < 10000) (hn : n < 61) (h1 : 1 ≤ n) (h : inR x 2 = true) : moOK (nI z) (nI n) x = true := by
  unfold moOK
  rw [inR_tt hz (by decide), inR_tt hn (by decide), h, inR_N (by omega) (by decide), decide_eq_false (by omega : ¬ n < 1)]; rfl
theorem jt_27 {xs : List Int32} {wd : sm_W} (hJ : JS wd) {x1 : Int32} {x2 : Int32} {x3 : Int32} : Ct xs 7 121 [.ref 0, .int x1, .int x2, .int x3] wd (fun r w2 => ∃ v, r = some (.int v) ∧ (∃ fs, w2[22]? = some (.inr (.inr (7, fs)))) ∧ Ct xs 7 183 [.ref 22, .int x1, .int x2, .int x3] w2 (fun r2 w3 => r2 = some (.int v) ∧ JS w3)) := by
  obtain ⟨tx, I, w, pa, sh, sn, hX, hM, hW, hw, hpa, hsh, hsn, hl⟩ := hJ
  have hn8 := hW.2.2.2.1
  have hb5 := hW.2.2.2.2.1
  have hal := all_lt hW
  have hlt := hX.2.2.2.2.1.lt
  refine c_months (d := 1) hX hW hw.1 (fun hb => ?_) (fun z n hz hn h1 e1 e2 h3 w2 hX2 hf2 => ?_)
  · exact ⟨_, rfl, hM.rv, m_months (d := 3) hM hW hw (fun _ => ⟨rfl, ⟨tx, I, w, pa, sh, sn, hX, hM, hW, hw, hpa, hsh, hsn, hl⟩⟩) (fun z n hz hn h1 e1 e2 h3 w3 _ _ => by exfalso; subst e1; subst e2; rw [moOK_t hz hn h1 h3] at hb; cases hb)⟩
  · subst e1; subst e2
    refine ⟨_, rfl, (hM.far hf2).rv, m_months (d := 3) (hM.far hf2) hW hw (fun hb => by rw [moOK_t hz hn h1 h3] at hb; cases hb) (fun z2 n2 hz2 hn2 _ e1 e2 _ w3 hM3 hf3 => ?_)⟩
    obtain rfl := nI_ij (by omega) (by omega) e1
    obtain rfl := nI_ij (by omega) (by omega) e2
    exact ⟨rfl, ⟨_, _, _, _, _, _, hX2.far hf3, hM3, hW, hw, hpa, hsh, hsn, l41 hl hf2 hf3 hM3⟩⟩
theorem jt_30 {xs : List Int32} {wd : sm_W} (hJ : JS wd) {x1 : Int32} : Ct xs 7 125 [.ref 0, .int x1] wd (fun r w2 => ∃ v, r = some (.int v) ∧ (∃ fs, w2[22]? = some (.inr (.inr (7, fs)))) ∧ Ct xs 7 186 [.ref 22, .int x1] w2 (fun r2 w3 => r2 = some (.int v) ∧ JS w3)) := by
  obtain ⟨tx, I, w, pa, sh, sn, hX, hM, hW, hw, hpa, hsh, hsn, hl⟩ := hJ
  have hn8 := hW.2.2.2.1
  have hb5 := hW.2.2.2.2.1
  have hal := all_lt hW
  have hlt := hX.2.2.2.2.1.lt
  refine c_count (d := 5) hX hW hw.1 (fun hb => ?_) (fun v ee he hv e => ?_)
  · exact ⟨_, rfl, hM.rv, m_count (d := 5) hM hW hw (fun _ => ⟨rfl, ⟨tx, I, w, pa, sh, sn, hX, hM, hW, hw, hpa, hsh, hsn, hl⟩⟩) (fun v ee he hv e => by exfalso; subst e; rw [inR_tt hv (by decide)] at hb; cases hb)⟩
  · subst e
    refine ⟨_, rfl, hM.rv, m_count (d := 5) hM hW hw (fun hb => by rw [inR_tt hv (by decide)] at hb; cases hb) (fun v2 e2 he2 hv2 e => ?_)⟩
    obtain rfl := nI_ij (by omega) (by omega) e
    obtain rfl := Option.some.inj (he.symm.trans he2)
    exact ⟨rfl, ⟨tx, I, w, pa, sh, sn, hX, hM, hW, hw, hpa, hsh, hsn, hl⟩⟩
