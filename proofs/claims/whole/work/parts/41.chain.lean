/-! the model's walk along the chain of those gone by ends where the class's does -/
def itF (mn : Nat → Nat) : Nat → Nat → Nat
  | 0, x => x
  | m + 1, x => mn (itF mn m x)
theorem itF_add (mn : Nat → Nat) (a x : Nat) : ∀ b, itF mn (b + a) x = itF mn b (itF mn a x)
  | 0 => by rw [Nat.zero_add]; rfl
  | b + 1 => by rw [show b + 1 + a = (b + a) + 1 by omega]; show mn _ = mn _; rw [itF_add mn a x b]
theorem itF_s (mn : Nat → Nat) (m x : Nat) : itF mn (m + 1) x = itF mn m (mn x) := itF_add mn 1 x m
/-- i is come to from t in at most k steps, cousins between -/
def cmF (kd mn : Nat → Nat) (i k t : Nat) : Prop := ∃ m, 1 ≤ m ∧ m ≤ k ∧ itF mn m t = i ∧ ∀ s, 0 < s → s < m → kd (itF mn s t) = 2
theorem crF_iff (kd mn : Nat → Nat) (i : Nat) : ∀ k t, crF kd mn i k t = true ↔ cmF kd mn i k t
  | 0, t => ⟨fun h => by simp [crF] at h, fun ⟨m, h1, h2, _⟩ => by omega⟩
  | k + 1, t => by
    by_cases h : mn t = i
    · rw [crF_t h]
      exact ⟨fun _ => ⟨1, by omega, by omega, h, fun s h1 h2 => by omega⟩, fun _ => rfl⟩
    · by_cases h2 : kd (mn t) = 2
      · rw [crF_s h h2, crF_iff kd mn i k (mn t)]
        constructor
        · rintro ⟨m, a1, a2, a3, a4⟩
          refine ⟨m + 1, by omega, by omega, by rw [itF_s]; exact a3, fun s b1 b2 => ?_⟩
          match s, b1 with
          | 1, _ => exact h2
          | s + 2, _ => rw [itF_s]; exact a4 (s + 1) (by omega) (by omega)
        · rintro ⟨m, a1, a2, a3, a4⟩
          match m, a1 with
          | 1, _ => exact absurd a3 h
          | m + 2, _ =>
            refine ⟨m + 1, by omega, by omega, by rw [← itF_s]; exact a3, fun s b1 b2 => ?_⟩
            rw [← itF_s]; exact a4 (s + 1) (by omega) (by omega)
      · rw [crF_f h h2]
        refine ⟨fun z => (by cases z), fun ⟨m, a1, a2, a3, a4⟩ => ?_⟩
        match m, a1 with
        | 1, _ => exact absurd a3 h
        | m + 2, _ => exact absurd (a4 1 (by omega) (by omega)) h2
/-- the model's walk, with those it has been at -/
def mwF (kd mn : Nat → Nat) : Nat → Nat → Nat → Nat
  | 0, _, t => t
  | k + 1, b, t => if kd t = 2 ∧ b.testBit t = false then mwF kd mn k (b ||| 1 <<< t) (mn t) else t
theorem or_bit (b t y : Nat) : (b ||| 1 <<< t).testBit y = (b.testBit y || decide (t = y)) := by rw [Nat.testBit_or, bit1]
theorem pc_or : ∀ b, b < 256 → ∀ t, t < 8 → b.testBit t = false → pc8 (b ||| 1 <<< t) = pc8 b + 1 := by decide +kernel
theorem or_lt {b t : Nat} (hb : b < 256) (ht : t < 8) : b ||| 1 <<< t < 256 := Nat.or_lt_two_pow (n := 8) hb (by rw [Nat.one_shiftLeft]; exact Nat.pow_lt_pow_right (by decide) ht)
section CHN
variable {kd mn : Nat → Nat}
/-- those been at: cousins that don't come round, and lead here -/
def hsF (kd mn : Nat → Nat) (b t : Nat) : Prop := ∀ y, b.testBit y = true → kd y = 2 ∧ ¬ cmF kd mn y 8 y ∧ ∃ m, 1 ≤ m ∧ m ≤ pc8 b ∧ itF mn m y = t ∧ ∀ s, 0 < s → s < m → kd (itF mn s y) = 2
theorem mw_round {t0 m0 : Nat} (hm1 : 1 ≤ m0) (hm : itF mn m0 t0 = t0) (hk : ∀ s, s < m0 → kd (itF mn s t0) = 2) (hmin : ∀ s, 0 < s → s < m0 → itF mn s t0 ≠ t0) : ∀ (k : Nat) (b j : Nat), j ≤ m0 → m0 - j < k → b.testBit t0 = true → 1 ≤ j → (∀ s, j ≤ s → s < m0 → b.testBit (itF mn s t0) = false) → mwF kd mn k b (itF mn j t0) = t0
  | 0, b, j, h1, h2, _, _, _ => by omega
  | k + 1, b, j, h1, h2, h3, h4, h5 => by
    by_cases e : j = m0
    · subst e
      rw [hm, mwF, if_neg (by rw [h3]; simp)]
    · rw [mwF, if_pos ⟨hk j (by omega), h5 j (by omega) (by omega)⟩]
      show mwF kd mn k _ (itF mn (j + 1) t0) = t0
      refine mw_round hm1 hm hk hmin k _ (j + 1) (by omega) (by omega) (by rw [or_bit, h3]; rfl) (by omega) (fun s h6 h7 => ?_)
      rw [or_bit, h5 s (by omega) h7, Bool.false_or, decide_eq_false_iff_not]
      intro z
      refine hmin (m0 - s + j) (by omega) (by omega) ?_
      rw [itF_add, z, ← itF_add, show m0 - s + s = m0 by omega]
      exact hm
theorem cm_min {t0 : Nat} (h : cmF kd mn t0 8 t0) (hk0 : kd t0 = 2) : ∃ m0, 1 ≤ m0 ∧ m0 ≤ 8 ∧ itF mn m0 t0 = t0 ∧ (∀ s, s < m0 → kd (itF mn s t0) = 2) ∧ ∀ s, 0 < s → s < m0 → itF mn s t0 ≠ t0 := by
  obtain ⟨m, a1, a2, a3, a4⟩ := h
  have key : ∀ n, ∀ m, m ≤ n → 1 ≤ m → m ≤ 8 → itF mn m t0 = t0 → (∀ s, 0 < s → s < m → kd (itF mn s t0) = 2) → ∃ m0, 1 ≤ m0 ∧ m0 ≤ 8 ∧ itF mn m0 t0 = t0 ∧ (∀ s, s < m0 → kd (itF mn s t0) = 2) ∧ ∀ s, 0 < s → s < m0 → itF mn s t0 ≠ t0 := by
    intro n
    induction n with
    | zero => intro m h1 h2; omega
    | succ n ih =>
      intro m h1 h2 h3 h4 h5
      by_cases e : ∃ s, 0 < s ∧ s < m ∧ itF mn s t0 = t0
      · obtain ⟨s, b1, b2, b3⟩ := e
        exact ih s (by omega) b1 (by omega) b3 (fun q c1 c2 => h5 q c1 (by omega))
      · refine ⟨m, h2, h3, h4, fun s hs => ?_, fun s b1 b2 b3 => e ⟨s, b1, b2, b3⟩⟩
        match s with
        | 0 => exact hk0
        | s + 1 => exact h5 (s + 1) (by omega) hs
  exact key m m (Nat.le_refl _) a1 a2 a3 a4
theorem mw_main (hmn : ∀ i, i < 8 → mn i < 8) : ∀ (k : Nat) (b t : Nat), pc8 b + k = 8 → b < 256 → t < 8 → hsF kd mn b t → mwF kd mn (k + 9) b t = gdF kd mn k t := by
  intro k
  induction k with
  | zero =>
    intro b t h1 h2 h3 h4
    have hall : ∀ b, b < 256 → pc8 b = 8 → ∀ t, t < 8 → b.testBit t = true := by decide +kernel
    have hb := hall b h2 (by omega) t h3
    have h5 := h4 t hb
    obtain ⟨m, a1, a2, a3, a4⟩ := h5.2.2
    exact absurd ⟨m, a1, by omega, a3, a4⟩ h5.2.1
  | succ k ih =>
    intro b t h1 h2 h3 h4
    by_cases hk : kd t = 2
    · by_cases hc : cmF kd mn t 8 t
      · rw [gdF_2 hk ((crF_iff kd mn t 8 t).mpr hc)]
        obtain ⟨m0, a1, a2, a3, a4, a5⟩ := cm_min hc hk
        have hcyc : ∀ s, s < m0 → b.testBit (itF mn s t) = false := by
          intro s hs
          cases hbt : b.testBit (itF mn s t) with
          | false => rfl
          | true =>
            exfalso
            refine (h4 _ hbt).2.1 ⟨m0, a1, a2, ?_, fun q c1 c2 => ?_⟩
            · rw [← itF_add, Nat.add_comm, itF_add, a3]
            · rw [← itF_add]
              by_cases e : q + s < m0
              · exact a4 _ e
              · rw [show q + s = (q + s - m0) + m0 by omega, itF_add, a3]
                exact a4 _ (by omega)
        have hbt := hcyc 0 (by omega)
        rw [show k + 1 + 9 = (k + 9) + 1 by omega, mwF, if_pos ⟨hk, hbt⟩]
        have hp := pc_or b h2 t h3 hbt
        refine mw_round a1 a3 a4 a5 (k + 9) _ 1 a1 (by omega) (by rw [or_bit]; simp) (by omega) (fun s c1 c2 => ?_)
        rw [or_bit, hcyc s c2, Bool.false_or, decide_eq_false_iff_not]
        exact fun z => a5 s (by omega) c2 z.symm
      · rw [gdF_3 hk (by cases hz : crF kd mn t 8 t with
          | false => rfl
          | true => exact absurd ((crF_iff kd mn t 8 t).mp hz) hc)]
        have hbt : b.testBit t = false := by
          cases hbt : b.testBit t with
          | false => rfl
          | true =>
            obtain ⟨m, a1, a2, a3, a4⟩ := (h4 t hbt).2.2
            exact absurd ⟨m, a1, by omega, a3, a4⟩ hc
        have hp := pc_or b h2 t h3 hbt
        rw [show k + 1 + 9 = (k + 9) + 1 by omega, mwF, if_pos ⟨hk, hbt⟩]
        refine (ih _ (mn t) (by omega) (or_lt h2 h3) (hmn t h3) (fun y hy => ?_))
        rw [or_bit, Bool.or_eq_true, decide_eq_true_iff] at hy
        by_cases hy2 : b.testBit y = true
        · obtain ⟨b1, b2, m, a1, a2, a3, a4⟩ := h4 y hy2
          refine ⟨b1, b2, m + 1, by omega, by omega, by show mn _ = _; rw [a3], fun s c1 c2 => ?_⟩
          by_cases e : s = m
          · subst e; rw [a3]; exact hk
          · exact a4 s c1 (by omega)
        · have e : t = y := hy.resolve_left hy2
          subst e
          exact ⟨hk, hc, 1, by omega, by omega, rfl, fun s c1 c2 => by omega⟩
    · rw [gdF_1 hk, show k + 1 + 9 = (k + 9) + 1 by omega, mwF, if_neg (fun z => hk z.1)]
theorem mw_eq (hmn : ∀ i, i < 8 → mn i < 8) {t : Nat} (ht : t < 8) : mwF kd mn 17 0 t = gdF kd mn 8 t := mw_main hmn 8 0 t rfl (by decide) ht (fun y hy => by rw [Nat.zero_testBit] at hy; cases hy)
end CHN
