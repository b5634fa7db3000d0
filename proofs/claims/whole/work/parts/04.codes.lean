/-! every decoded row is what the bytes say, and what it links is a word of the tables -/
def sm_okC (j : Nat) : Bool := (List.range (sm_cs.getD j []).length).all (sm_okP j)
theorem sm_okC_0 : (List.range 16).all (fun i => sm_okC (0 + i)) = true := by decide +kernel
theorem sm_okC_1 : (List.range 5).all (fun i => sm_okC (16 + i)) = true := by decide +kernel
theorem sm_okP_21_0 : (List.range 75).all (fun i => sm_okP 21 (0 + i)) = true := by decide +kernel
theorem sm_okP_21_1 : (List.range 75).all (fun i => sm_okP 21 (75 + i)) = true := by decide +kernel
theorem sm_okP_21_2 : (List.range 9).all (fun i => sm_okP 21 (150 + i)) = true := by decide +kernel
theorem sm_okC_2 : sm_okC 21 = true := by
  have hlen : (sm_cs.getD 21 []).length = 159 := by decide +kernel
  unfold sm_okC
  rw [hlen]
  refine List.all_eq_true.mpr fun pc hpc => ?_
  have hpc := List.mem_range.mp hpc
  have key : ∀ (a n : Nat), (List.range n).all (fun i => sm_okP 21 (a + i)) = true → a ≤ pc → pc < a + n → sm_okP 21 pc = true := fun a n h1 h2 h3 => by
    have := List.all_eq_true.mp h1 (pc - a) (List.mem_range.mpr (by omega))
    rwa [show a + (pc - a) = pc by omega] at this
  by_cases h0 : pc < 75
  · exact key _ _ sm_okP_21_0 (by omega) (by omega)
  by_cases h1 : pc < 150
  · exact key _ _ sm_okP_21_1 (by omega) (by omega)
  by_cases h2 : pc < 159
  · exact key _ _ sm_okP_21_2 (by omega) (by omega)
  omega
theorem sm_okC_3 : (List.range 10).all (fun i => sm_okC (22 + i)) = true := by decide +kernel
theorem sm_okC_4 : (List.range 6).all (fun i => sm_okC (32 + i)) = true := by decide +kernel
theorem sm_okC_5 : (List.range 9).all (fun i => sm_okC (38 + i)) = true := by decide +kernel
theorem sm_okC_6 : (List.range 16).all (fun i => sm_okC (47 + i)) = true := by decide +kernel
theorem sm_okC_7 : (List.range 8).all (fun i => sm_okC (63 + i)) = true := by decide +kernel
theorem sm_okC_8 : (List.range 8).all (fun i => sm_okC (71 + i)) = true := by decide +kernel
theorem sm_okC_9 : (List.range 16).all (fun i => sm_okC (79 + i)) = true := by decide +kernel
theorem sm_okC_10 : (List.range 6).all (fun i => sm_okC (95 + i)) = true := by decide +kernel
theorem sm_okC_11 : (List.range 1).all (fun i => sm_okC (101 + i)) = true := by decide +kernel
theorem sm_okC_12 : (List.range 2).all (fun i => sm_okC (102 + i)) = true := by decide +kernel
theorem sm_okC_13 : (List.range 2).all (fun i => sm_okC (104 + i)) = true := by decide +kernel
theorem sm_okC_14 : (List.range 5).all (fun i => sm_okC (106 + i)) = true := by decide +kernel
theorem sm_okC_15 : (List.range 4).all (fun i => sm_okC (111 + i)) = true := by decide +kernel
theorem sm_okP_115_0 : (List.range 62).all (fun i => sm_okP 115 (0 + i)) = true := by decide +kernel
theorem sm_okP_115_1 : (List.range 62).all (fun i => sm_okP 115 (62 + i)) = true := by decide +kernel
theorem sm_okP_115_2 : (List.range 62).all (fun i => sm_okP 115 (124 + i)) = true := by decide +kernel
theorem sm_okP_115_3 : (List.range 6).all (fun i => sm_okP 115 (186 + i)) = true := by decide +kernel
theorem sm_okC_16 : sm_okC 115 = true := by
  have hlen : (sm_cs.getD 115 []).length = 192 := by decide +kernel
  unfold sm_okC
  rw [hlen]
  refine List.all_eq_true.mpr fun pc hpc => ?_
  have hpc := List.mem_range.mp hpc
  have key : ∀ (a n : Nat), (List.range n).all (fun i => sm_okP 115 (a + i)) = true → a ≤ pc → pc < a + n → sm_okP 115 pc = true := fun a n h1 h2 h3 => by
    have := List.all_eq_true.mp h1 (pc - a) (List.mem_range.mpr (by omega))
    rwa [show a + (pc - a) = pc by omega] at this
  by_cases h0 : pc < 62
  · exact key _ _ sm_okP_115_0 (by omega) (by omega)
  by_cases h1 : pc < 124
  · exact key _ _ sm_okP_115_1 (by omega) (by omega)
  by_cases h2 : pc < 186
  · exact key _ _ sm_okP_115_2 (by omega) (by omega)
  by_cases h3 : pc < 192
  · exact key _ _ sm_okP_115_3 (by omega) (by omega)
  omega
theorem sm_okC_17 : (List.range 5).all (fun i => sm_okC (116 + i)) = true := by decide +kernel
theorem sm_okC_18 : (List.range 3).all (fun i => sm_okC (121 + i)) = true := by decide +kernel
theorem sm_okC_19 : (List.range 1).all (fun i => sm_okC (124 + i)) = true := by decide +kernel
theorem sm_okP_125_0 : (List.range 70).all (fun i => sm_okP 125 (0 + i)) = true := by decide +kernel
theorem sm_okP_125_1 : (List.range 70).all (fun i => sm_okP 125 (70 + i)) = true := by decide +kernel
theorem sm_okP_125_2 : (List.range 31).all (fun i => sm_okP 125 (140 + i)) = true := by decide +kernel
theorem sm_okC_20 : sm_okC 125 = true := by
  have hlen : (sm_cs.getD 125 []).length = 171 := by decide +kernel
  unfold sm_okC
  rw [hlen]
  refine List.all_eq_true.mpr fun pc hpc => ?_
  have hpc := List.mem_range.mp hpc
  have key : ∀ (a n : Nat), (List.range n).all (fun i => sm_okP 125 (a + i)) = true → a ≤ pc → pc < a + n → sm_okP 125 pc = true := fun a n h1 h2 h3 => by
    have := List.all_eq_true.mp h1 (pc - a) (List.mem_range.mpr (by omega))
    rwa [show a + (pc - a) = pc by omega] at this
  by_cases h0 : pc < 70
  · exact key _ _ sm_okP_125_0 (by omega) (by omega)
  by_cases h1 : pc < 140
  · exact key _ _ sm_okP_125_1 (by omega) (by omega)
  by_cases h2 : pc < 171
  · exact key _ _ sm_okP_125_2 (by omega) (by omega)
  omega
theorem sm_okC_21 : (List.range 2).all (fun i => sm_okC (126 + i)) = true := by decide +kernel
theorem sm_okP_128_0 : (List.range 46).all (fun i => sm_okP 128 (0 + i)) = true := by decide +kernel
theorem sm_okP_128_1 : (List.range 46).all (fun i => sm_okP 128 (46 + i)) = true := by decide +kernel
theorem sm_okP_128_2 : (List.range 46).all (fun i => sm_okP 128 (92 + i)) = true := by decide +kernel
theorem sm_okP_128_3 : (List.range 46).all (fun i => sm_okP 128 (138 + i)) = true := by decide +kernel
theorem sm_okP_128_4 : (List.range 46).all (fun i => sm_okP 128 (184 + i)) = true := by decide +kernel
theorem sm_okP_128_5 : (List.range 26).all (fun i => sm_okP 128 (230 + i)) = true := by decide +kernel
theorem sm_okC_22 : sm_okC 128 = true := by
  have hlen : (sm_cs.getD 128 []).length = 256 := by decide +kernel
  unfold sm_okC
  rw [hlen]
  refine List.all_eq_true.mpr fun pc hpc => ?_
  have hpc := List.mem_range.mp hpc
  have key : ∀ (a n : Nat), (List.range n).all (fun i => sm_okP 128 (a + i)) = true → a ≤ pc → pc < a + n → sm_okP 128 pc = true := fun a n h1 h2 h3 => by
    have := List.all_eq_true.mp h1 (pc - a) (List.mem_range.mpr (by omega))
    rwa [show a + (pc - a) = pc by omega] at this
  by_cases h0 : pc < 46
  · exact key _ _ sm_okP_128_0 (by omega) (by omega)
  by_cases h1 : pc < 92
  · exact key _ _ sm_okP_128_1 (by omega) (by omega)
  by_cases h2 : pc < 138
  · exact key _ _ sm_okP_128_2 (by omega) (by omega)
  by_cases h3 : pc < 184
  · exact key _ _ sm_okP_128_3 (by omega) (by omega)
  by_cases h4 : pc < 230
  · exact key _ _ sm_okP_128_4 (by omega) (by omega)
  by_cases h5 : pc < 256
  · exact key _ _ sm_okP_128_5 (by omega) (by omega)
  omega
theorem sm_okC_23 : (List.range 8).all (fun i => sm_okC (129 + i)) = true := by decide +kernel
theorem sm_okP_137_0 : (List.range 54).all (fun i => sm_okP 137 (0 + i)) = true := by decide +kernel
theorem sm_okP_137_1 : (List.range 54).all (fun i => sm_okP 137 (54 + i)) = true := by decide +kernel
theorem sm_okP_137_2 : (List.range 54).all (fun i => sm_okP 137 (108 + i)) = true := by decide +kernel
theorem sm_okP_137_3 : (List.range 54).all (fun i => sm_okP 137 (162 + i)) = true := by decide +kernel
theorem sm_okP_137_4 : (List.range 3).all (fun i => sm_okP 137 (216 + i)) = true := by decide +kernel
theorem sm_okC_24 : sm_okC 137 = true := by
  have hlen : (sm_cs.getD 137 []).length = 219 := by decide +kernel
  unfold sm_okC
  rw [hlen]
  refine List.all_eq_true.mpr fun pc hpc => ?_
  have hpc := List.mem_range.mp hpc
  have key : ∀ (a n : Nat), (List.range n).all (fun i => sm_okP 137 (a + i)) = true → a ≤ pc → pc < a + n → sm_okP 137 pc = true := fun a n h1 h2 h3 => by
    have := List.all_eq_true.mp h1 (pc - a) (List.mem_range.mpr (by omega))
    rwa [show a + (pc - a) = pc by omega] at this
  by_cases h0 : pc < 54
  · exact key _ _ sm_okP_137_0 (by omega) (by omega)
  by_cases h1 : pc < 108
  · exact key _ _ sm_okP_137_1 (by omega) (by omega)
  by_cases h2 : pc < 162
  · exact key _ _ sm_okP_137_2 (by omega) (by omega)
  by_cases h3 : pc < 216
  · exact key _ _ sm_okP_137_3 (by omega) (by omega)
  by_cases h4 : pc < 219
  · exact key _ _ sm_okP_137_4 (by omega) (by omega)
  omega
theorem sm_okC_25 : (List.range 2).all (fun i => sm_okC (138 + i)) = true := by decide +kernel
theorem sm_okC_26 : (List.range 1).all (fun i => sm_okC (140 + i)) = true := by decide +kernel
theorem sm_okC_27 : (List.range 1).all (fun i => sm_okC (141 + i)) = true := by decide +kernel
theorem sm_okP_142_0 : (List.range 50).all (fun i => sm_okP 142 (0 + i)) = true := by decide +kernel
theorem sm_okP_142_1 : (List.range 50).all (fun i => sm_okP 142 (50 + i)) = true := by decide +kernel
theorem sm_okP_142_2 : (List.range 50).all (fun i => sm_okP 142 (100 + i)) = true := by decide +kernel
theorem sm_okP_142_3 : (List.range 50).all (fun i => sm_okP 142 (150 + i)) = true := by decide +kernel
theorem sm_okP_142_4 : (List.range 40).all (fun i => sm_okP 142 (200 + i)) = true := by decide +kernel
theorem sm_okC_28 : sm_okC 142 = true := by
  have hlen : (sm_cs.getD 142 []).length = 240 := by decide +kernel
  unfold sm_okC
  rw [hlen]
  refine List.all_eq_true.mpr fun pc hpc => ?_
  have hpc := List.mem_range.mp hpc
  have key : ∀ (a n : Nat), (List.range n).all (fun i => sm_okP 142 (a + i)) = true → a ≤ pc → pc < a + n → sm_okP 142 pc = true := fun a n h1 h2 h3 => by
    have := List.all_eq_true.mp h1 (pc - a) (List.mem_range.mpr (by omega))
    rwa [show a + (pc - a) = pc by omega] at this
  by_cases h0 : pc < 50
  · exact key _ _ sm_okP_142_0 (by omega) (by omega)
  by_cases h1 : pc < 100
  · exact key _ _ sm_okP_142_1 (by omega) (by omega)
  by_cases h2 : pc < 150
  · exact key _ _ sm_okP_142_2 (by omega) (by omega)
  by_cases h3 : pc < 200
  · exact key _ _ sm_okP_142_3 (by omega) (by omega)
  by_cases h4 : pc < 240
  · exact key _ _ sm_okP_142_4 (by omega) (by omega)
  omega
theorem sm_okC_29 : (List.range 7).all (fun i => sm_okC (143 + i)) = true := by decide +kernel
theorem sm_okC_30 : (List.range 2).all (fun i => sm_okC (150 + i)) = true := by decide +kernel
theorem sm_okC_31 : (List.range 2).all (fun i => sm_okC (152 + i)) = true := by decide +kernel
theorem sm_okP_154_0 : (List.range 53).all (fun i => sm_okP 154 (0 + i)) = true := by decide +kernel
theorem sm_okP_154_1 : (List.range 53).all (fun i => sm_okP 154 (53 + i)) = true := by decide +kernel
theorem sm_okP_154_2 : (List.range 53).all (fun i => sm_okP 154 (106 + i)) = true := by decide +kernel
theorem sm_okP_154_3 : (List.range 53).all (fun i => sm_okP 154 (159 + i)) = true := by decide +kernel
theorem sm_okP_154_4 : (List.range 13).all (fun i => sm_okP 154 (212 + i)) = true := by decide +kernel
theorem sm_okC_32 : sm_okC 154 = true := by
  have hlen : (sm_cs.getD 154 []).length = 225 := by decide +kernel
  unfold sm_okC
  rw [hlen]
  refine List.all_eq_true.mpr fun pc hpc => ?_
  have hpc := List.mem_range.mp hpc
  have key : ∀ (a n : Nat), (List.range n).all (fun i => sm_okP 154 (a + i)) = true → a ≤ pc → pc < a + n → sm_okP 154 pc = true := fun a n h1 h2 h3 => by
    have := List.all_eq_true.mp h1 (pc - a) (List.mem_range.mpr (by omega))
    rwa [show a + (pc - a) = pc by omega] at this
  by_cases h0 : pc < 53
  · exact key _ _ sm_okP_154_0 (by omega) (by omega)
  by_cases h1 : pc < 106
  · exact key _ _ sm_okP_154_1 (by omega) (by omega)
  by_cases h2 : pc < 159
  · exact key _ _ sm_okP_154_2 (by omega) (by omega)
  by_cases h3 : pc < 212
  · exact key _ _ sm_okP_154_3 (by omega) (by omega)
  by_cases h4 : pc < 225
  · exact key _ _ sm_okP_154_4 (by omega) (by omega)
  omega
theorem sm_okC_33 : (List.range 10).all (fun i => sm_okC (155 + i)) = true := by decide +kernel
theorem sm_okC_34 : (List.range 6).all (fun i => sm_okC (165 + i)) = true := by decide +kernel
theorem sm_okC_35 : (List.range 2).all (fun i => sm_okC (171 + i)) = true := by decide +kernel
theorem sm_okP_173_0 : (List.range 50).all (fun i => sm_okP 173 (0 + i)) = true := by decide +kernel
theorem sm_okP_173_1 : (List.range 50).all (fun i => sm_okP 173 (50 + i)) = true := by decide +kernel
theorem sm_okP_173_2 : (List.range 50).all (fun i => sm_okP 173 (100 + i)) = true := by decide +kernel
theorem sm_okP_173_3 : (List.range 50).all (fun i => sm_okP 173 (150 + i)) = true := by decide +kernel
theorem sm_okP_173_4 : (List.range 38).all (fun i => sm_okP 173 (200 + i)) = true := by decide +kernel
theorem sm_okC_36 : sm_okC 173 = true := by
  have hlen : (sm_cs.getD 173 []).length = 238 := by decide +kernel
  unfold sm_okC
  rw [hlen]
  refine List.all_eq_true.mpr fun pc hpc => ?_
  have hpc := List.mem_range.mp hpc
  have key : ∀ (a n : Nat), (List.range n).all (fun i => sm_okP 173 (a + i)) = true → a ≤ pc → pc < a + n → sm_okP 173 pc = true := fun a n h1 h2 h3 => by
    have := List.all_eq_true.mp h1 (pc - a) (List.mem_range.mpr (by omega))
    rwa [show a + (pc - a) = pc by omega] at this
  by_cases h0 : pc < 50
  · exact key _ _ sm_okP_173_0 (by omega) (by omega)
  by_cases h1 : pc < 100
  · exact key _ _ sm_okP_173_1 (by omega) (by omega)
  by_cases h2 : pc < 150
  · exact key _ _ sm_okP_173_2 (by omega) (by omega)
  by_cases h3 : pc < 200
  · exact key _ _ sm_okP_173_3 (by omega) (by omega)
  by_cases h4 : pc < 238
  · exact key _ _ sm_okP_173_4 (by omega) (by omega)
  omega
theorem sm_okC_37 : (List.range 1).all (fun i => sm_okC (174 + i)) = true := by decide +kernel
theorem sm_okC_38 : (List.range 1).all (fun i => sm_okC (175 + i)) = true := by decide +kernel
theorem sm_okC_39 : (List.range 3).all (fun i => sm_okC (176 + i)) = true := by decide +kernel
theorem sm_okP_179_0 : (List.range 51).all (fun i => sm_okP 179 (0 + i)) = true := by decide +kernel
theorem sm_okP_179_1 : (List.range 51).all (fun i => sm_okP 179 (51 + i)) = true := by decide +kernel
theorem sm_okP_179_2 : (List.range 51).all (fun i => sm_okP 179 (102 + i)) = true := by decide +kernel
theorem sm_okP_179_3 : (List.range 51).all (fun i => sm_okP 179 (153 + i)) = true := by decide +kernel
theorem sm_okP_179_4 : (List.range 28).all (fun i => sm_okP 179 (204 + i)) = true := by decide +kernel
theorem sm_okC_40 : sm_okC 179 = true := by
  have hlen : (sm_cs.getD 179 []).length = 232 := by decide +kernel
  unfold sm_okC
  rw [hlen]
  refine List.all_eq_true.mpr fun pc hpc => ?_
  have hpc := List.mem_range.mp hpc
  have key : ∀ (a n : Nat), (List.range n).all (fun i => sm_okP 179 (a + i)) = true → a ≤ pc → pc < a + n → sm_okP 179 pc = true := fun a n h1 h2 h3 => by
    have := List.all_eq_true.mp h1 (pc - a) (List.mem_range.mpr (by omega))
    rwa [show a + (pc - a) = pc by omega] at this
  by_cases h0 : pc < 51
  · exact key _ _ sm_okP_179_0 (by omega) (by omega)
  by_cases h1 : pc < 102
  · exact key _ _ sm_okP_179_1 (by omega) (by omega)
  by_cases h2 : pc < 153
  · exact key _ _ sm_okP_179_2 (by omega) (by omega)
  by_cases h3 : pc < 204
  · exact key _ _ sm_okP_179_3 (by omega) (by omega)
  by_cases h4 : pc < 232
  · exact key _ _ sm_okP_179_4 (by omega) (by omega)
  omega
theorem sm_okP_180_0 : (List.range 48).all (fun i => sm_okP 180 (0 + i)) = true := by decide +kernel
theorem sm_okP_180_1 : (List.range 48).all (fun i => sm_okP 180 (48 + i)) = true := by decide +kernel
theorem sm_okP_180_2 : (List.range 48).all (fun i => sm_okP 180 (96 + i)) = true := by decide +kernel
theorem sm_okP_180_3 : (List.range 48).all (fun i => sm_okP 180 (144 + i)) = true := by decide +kernel
theorem sm_okP_180_4 : (List.range 48).all (fun i => sm_okP 180 (192 + i)) = true := by decide +kernel
theorem sm_okP_180_5 : (List.range 7).all (fun i => sm_okP 180 (240 + i)) = true := by decide +kernel
theorem sm_okC_41 : sm_okC 180 = true := by
  have hlen : (sm_cs.getD 180 []).length = 247 := by decide +kernel
  unfold sm_okC
  rw [hlen]
  refine List.all_eq_true.mpr fun pc hpc => ?_
  have hpc := List.mem_range.mp hpc
  have key : ∀ (a n : Nat), (List.range n).all (fun i => sm_okP 180 (a + i)) = true → a ≤ pc → pc < a + n → sm_okP 180 pc = true := fun a n h1 h2 h3 => by
    have := List.all_eq_true.mp h1 (pc - a) (List.mem_range.mpr (by omega))
    rwa [show a + (pc - a) = pc by omega] at this
  by_cases h0 : pc < 48
  · exact key _ _ sm_okP_180_0 (by omega) (by omega)
  by_cases h1 : pc < 96
  · exact key _ _ sm_okP_180_1 (by omega) (by omega)
  by_cases h2 : pc < 144
  · exact key _ _ sm_okP_180_2 (by omega) (by omega)
  by_cases h3 : pc < 192
  · exact key _ _ sm_okP_180_3 (by omega) (by omega)
  by_cases h4 : pc < 240
  · exact key _ _ sm_okP_180_4 (by omega) (by omega)
  by_cases h5 : pc < 247
  · exact key _ _ sm_okP_180_5 (by omega) (by omega)
  omega
theorem sm_okC_42 : (List.range 2).all (fun i => sm_okC (181 + i)) = true := by decide +kernel
theorem sm_okP_183_0 : (List.range 52).all (fun i => sm_okP 183 (0 + i)) = true := by decide +kernel
theorem sm_okP_183_1 : (List.range 52).all (fun i => sm_okP 183 (52 + i)) = true := by decide +kernel
theorem sm_okP_183_2 : (List.range 52).all (fun i => sm_okP 183 (104 + i)) = true := by decide +kernel
theorem sm_okP_183_3 : (List.range 52).all (fun i => sm_okP 183 (156 + i)) = true := by decide +kernel
theorem sm_okP_183_4 : (List.range 22).all (fun i => sm_okP 183 (208 + i)) = true := by decide +kernel
theorem sm_okC_43 : sm_okC 183 = true := by
  have hlen : (sm_cs.getD 183 []).length = 230 := by decide +kernel
  unfold sm_okC
  rw [hlen]
  refine List.all_eq_true.mpr fun pc hpc => ?_
  have hpc := List.mem_range.mp hpc
  have key : ∀ (a n : Nat), (List.range n).all (fun i => sm_okP 183 (a + i)) = true → a ≤ pc → pc < a + n → sm_okP 183 pc = true := fun a n h1 h2 h3 => by
    have := List.all_eq_true.mp h1 (pc - a) (List.mem_range.mpr (by omega))
    rwa [show a + (pc - a) = pc by omega] at this
  by_cases h0 : pc < 52
  · exact key _ _ sm_okP_183_0 (by omega) (by omega)
  by_cases h1 : pc < 104
  · exact key _ _ sm_okP_183_1 (by omega) (by omega)
  by_cases h2 : pc < 156
  · exact key _ _ sm_okP_183_2 (by omega) (by omega)
  by_cases h3 : pc < 208
  · exact key _ _ sm_okP_183_3 (by omega) (by omega)
  by_cases h4 : pc < 230
  · exact key _ _ sm_okP_183_4 (by omega) (by omega)
  omega
theorem sm_okC_44 : (List.range 2).all (fun i => sm_okC (184 + i)) = true := by decide +kernel
theorem sm_okC_45 : (List.range 2).all (fun i => sm_okC (186 + i)) = true := by decide +kernel
theorem sm_okP_188_0 : (List.range 20).all (fun i => sm_okP 188 (0 + i)) = true := by decide +kernel
theorem sm_okP_188_1 : (List.range 20).all (fun i => sm_okP 188 (20 + i)) = true := by decide +kernel
theorem sm_okP_188_2 : (List.range 20).all (fun i => sm_okP 188 (40 + i)) = true := by decide +kernel
theorem sm_okP_188_3 : (List.range 20).all (fun i => sm_okP 188 (60 + i)) = true := by decide +kernel
theorem sm_okP_188_4 : (List.range 20).all (fun i => sm_okP 188 (80 + i)) = true := by decide +kernel
theorem sm_okP_188_5 : (List.range 20).all (fun i => sm_okP 188 (100 + i)) = true := by decide +kernel
theorem sm_okP_188_6 : (List.range 20).all (fun i => sm_okP 188 (120 + i)) = true := by decide +kernel
theorem sm_okP_188_7 : (List.range 20).all (fun i => sm_okP 188 (140 + i)) = true := by decide +kernel
theorem sm_okP_188_8 : (List.range 20).all (fun i => sm_okP 188 (160 + i)) = true := by decide +kernel
theorem sm_okP_188_9 : (List.range 20).all (fun i => sm_okP 188 (180 + i)) = true := by decide +kernel
theorem sm_okP_188_10 : (List.range 20).all (fun i => sm_okP 188 (200 + i)) = true := by decide +kernel
theorem sm_okP_188_11 : (List.range 20).all (fun i => sm_okP 188 (220 + i)) = true := by decide +kernel
theorem sm_okP_188_12 : (List.range 20).all (fun i => sm_okP 188 (240 + i)) = true := by decide +kernel
theorem sm_okP_188_13 : (List.range 20).all (fun i => sm_okP 188 (260 + i)) = true := by decide +kernel
theorem sm_okP_188_14 : (List.range 20).all (fun i => sm_okP 188 (280 + i)) = true := by decide +kernel
theorem sm_okP_188_15 : (List.range 20).all (fun i => sm_okP 188 (300 + i)) = true := by decide +kernel
theorem sm_okP_188_16 : (List.range 20).all (fun i => sm_okP 188 (320 + i)) = true := by decide +kernel
theorem sm_okP_188_17 : (List.range 20).all (fun i => sm_okP 188 (340 + i)) = true := by decide +kernel
theorem sm_okP_188_18 : (List.range 20).all (fun i => sm_okP 188 (360 + i)) = true := by decide +kernel
theorem sm_okP_188_19 : (List.range 20).all (fun i => sm_okP 188 (380 + i)) = true := by decide +kernel
theorem sm_okP_188_20 : (List.range 20).all (fun i => sm_okP 188 (400 + i)) = true := by decide +kernel
theorem sm_okP_188_21 : (List.range 20).all (fun i => sm_okP 188 (420 + i)) = true := by decide +kernel
theorem sm_okP_188_22 : (List.range 20).all (fun i => sm_okP 188 (440 + i)) = true := by decide +kernel
theorem sm_okP_188_23 : (List.range 20).all (fun i => sm_okP 188 (460 + i)) = true := by decide +kernel
theorem sm_okP_188_24 : (List.range 20).all (fun i => sm_okP 188 (480 + i)) = true := by decide +kernel
theorem sm_okP_188_25 : (List.range 20).all (fun i => sm_okP 188 (500 + i)) = true := by decide +kernel
theorem sm_okP_188_26 : (List.range 20).all (fun i => sm_okP 188 (520 + i)) = true := by decide +kernel
theorem sm_okP_188_27 : (List.range 20).all (fun i => sm_okP 188 (540 + i)) = true := by decide +kernel
theorem sm_okP_188_28 : (List.range 20).all (fun i => sm_okP 188 (560 + i)) = true := by decide +kernel
theorem sm_okP_188_29 : (List.range 20).all (fun i => sm_okP 188 (580 + i)) = true := by decide +kernel
theorem sm_okP_188_30 : (List.range 20).all (fun i => sm_okP 188 (600 + i)) = true := by decide +kernel
theorem sm_okP_188_31 : (List.range 20).all (fun i => sm_okP 188 (620 + i)) = true := by decide +kernel
theorem sm_okP_188_32 : (List.range 20).all (fun i => sm_okP 188 (640 + i)) = true := by decide +kernel
theorem sm_okP_188_33 : (List.range 20).all (fun i => sm_okP 188 (660 + i)) = true := by decide +kernel
theorem sm_okP_188_34 : (List.range 20).all (fun i => sm_okP 188 (680 + i)) = true := by decide +kernel
theorem sm_okP_188_35 : (List.range 20).all (fun i => sm_okP 188 (700 + i)) = true := by decide +kernel
theorem sm_okP_188_36 : (List.range 20).all (fun i => sm_okP 188 (720 + i)) = true := by decide +kernel
theorem sm_okP_188_37 : (List.range 20).all (fun i => sm_okP 188 (740 + i)) = true := by decide +kernel
theorem sm_okP_188_38 : (List.range 20).all (fun i => sm_okP 188 (760 + i)) = true := by decide +kernel
theorem sm_okP_188_39 : (List.range 20).all (fun i => sm_okP 188 (780 + i)) = true := by decide +kernel
theorem sm_okP_188_40 : (List.range 20).all (fun i => sm_okP 188 (800 + i)) = true := by decide +kernel
theorem sm_okP_188_41 : (List.range 20).all (fun i => sm_okP 188 (820 + i)) = true := by decide +kernel
theorem sm_okP_188_42 : (List.range 20).all (fun i => sm_okP 188 (840 + i)) = true := by decide +kernel
theorem sm_okP_188_43 : (List.range 20).all (fun i => sm_okP 188 (860 + i)) = true := by decide +kernel
theorem sm_okP_188_44 : (List.range 20).all (fun i => sm_okP 188 (880 + i)) = true := by decide +kernel
theorem sm_okP_188_45 : (List.range 20).all (fun i => sm_okP 188 (900 + i)) = true := by decide +kernel
theorem sm_okP_188_46 : (List.range 3).all (fun i => sm_okP 188 (920 + i)) = true := by decide +kernel
theorem sm_okC_46 : sm_okC 188 = true := by
  have hlen : (sm_cs.getD 188 []).length = 923 := by decide +kernel
  unfold sm_okC
  rw [hlen]
  refine List.all_eq_true.mpr fun pc hpc => ?_
  have hpc := List.mem_range.mp hpc
  have key : ∀ (a n : Nat), (List.range n).all (fun i => sm_okP 188 (a + i)) = true → a ≤ pc → pc < a + n → sm_okP 188 pc = true := fun a n h1 h2 h3 => by
    have := List.all_eq_true.mp h1 (pc - a) (List.mem_range.mpr (by omega))
    rwa [show a + (pc - a) = pc by omega] at this
  by_cases h0 : pc < 20
  · exact key _ _ sm_okP_188_0 (by omega) (by omega)
  by_cases h1 : pc < 40
  · exact key _ _ sm_okP_188_1 (by omega) (by omega)
  by_cases h2 : pc < 60
  · exact key _ _ sm_okP_188_2 (by omega) (by omega)
  by_cases h3 : pc < 80
  · exact key _ _ sm_okP_188_3 (by omega) (by omega)
  by_cases h4 : pc < 100
  · exact key _ _ sm_okP_188_4 (by omega) (by omega)
  by_cases h5 : pc < 120
  · exact key _ _ sm_okP_188_5 (by omega) (by omega)
  by_cases h6 : pc < 140
  · exact key _ _ sm_okP_188_6 (by omega) (by omega)
  by_cases h7 : pc < 160
  · exact key _ _ sm_okP_188_7 (by omega) (by omega)
  by_cases h8 : pc < 180
  · exact key _ _ sm_okP_188_8 (by omega) (by omega)
  by_cases h9 : pc < 200
  · exact key _ _ sm_okP_188_9 (by omega) (by omega)
  by_cases h10 : pc < 220
  · exact key _ _ sm_okP_188_10 (by omega) (by omega)
  by_cases h11 : pc < 240
  · exact key _ _ sm_okP_188_11 (by omega) (by omega)
  by_cases h12 : pc < 260
  · exact key _ _ sm_okP_188_12 (by omega) (by omega)
  by_cases h13 : pc < 280
  · exact key _ _ sm_okP_188_13 (by omega) (by omega)
  by_cases h14 : pc < 300
  · exact key _ _ sm_okP_188_14 (by omega) (by omega)
  by_cases h15 : pc < 320
  · exact key _ _ sm_okP_188_15 (by omega) (by omega)
  by_cases h16 : pc < 340
  · exact key _ _ sm_okP_188_16 (by omega) (by omega)
  by_cases h17 : pc < 360
  · exact key _ _ sm_okP_188_17 (by omega) (by omega)
  by_cases h18 : pc < 380
  · exact key _ _ sm_okP_188_18 (by omega) (by omega)
  by_cases h19 : pc < 400
  · exact key _ _ sm_okP_188_19 (by omega) (by omega)
  by_cases h20 : pc < 420
  · exact key _ _ sm_okP_188_20 (by omega) (by omega)
  by_cases h21 : pc < 440
  · exact key _ _ sm_okP_188_21 (by omega) (by omega)
  by_cases h22 : pc < 460
  · exact key _ _ sm_okP_188_22 (by omega) (by omega)
  by_cases h23 : pc < 480
  · exact key _ _ sm_okP_188_23 (by omega) (by omega)
  by_cases h24 : pc < 500
  · exact key _ _ sm_okP_188_24 (by omega) (by omega)
  by_cases h25 : pc < 520
  · exact key _ _ sm_okP_188_25 (by omega) (by omega)
  by_cases h26 : pc < 540
  · exact key _ _ sm_okP_188_26 (by omega) (by omega)
  by_cases h27 : pc < 560
  · exact key _ _ sm_okP_188_27 (by omega) (by omega)
  by_cases h28 : pc < 580
  · exact key _ _ sm_okP_188_28 (by omega) (by omega)
  by_cases h29 : pc < 600
  · exact key _ _ sm_okP_188_29 (by omega) (by omega)
  by_cases h30 : pc < 620
  · exact key _ _ sm_okP_188_30 (by omega) (by omega)
  by_cases h31 : pc < 640
  · exact key _ _ sm_okP_188_31 (by omega) (by omega)
  by_cases h32 : pc < 660
  · exact key _ _ sm_okP_188_32 (by omega) (by omega)
  by_cases h33 : pc < 680
  · exact key _ _ sm_okP_188_33 (by omega) (by omega)
  by_cases h34 : pc < 700
  · exact key _ _ sm_okP_188_34 (by omega) (by omega)
  by_cases h35 : pc < 720
  · exact key _ _ sm_okP_188_35 (by omega) (by omega)
  by_cases h36 : pc < 740
  · exact key _ _ sm_okP_188_36 (by omega) (by omega)
  by_cases h37 : pc < 760
  · exact key _ _ sm_okP_188_37 (by omega) (by omega)
  by_cases h38 : pc < 780
  · exact key _ _ sm_okP_188_38 (by omega) (by omega)
  by_cases h39 : pc < 800
  · exact key _ _ sm_okP_188_39 (by omega) (by omega)
  by_cases h40 : pc < 820
  · exact key _ _ sm_okP_188_40 (by omega) (by omega)
  by_cases h41 : pc < 840
  · exact key _ _ sm_okP_188_41 (by omega) (by omega)
  by_cases h42 : pc < 860
  · exact key _ _ sm_okP_188_42 (by omega) (by omega)
  by_cases h43 : pc < 880
  · exact key _ _ sm_okP_188_43 (by omega) (by omega)
  by_cases h44 : pc < 900
  · exact key _ _ sm_okP_188_44 (by omega) (by omega)
  by_cases h45 : pc < 920
  · exact key _ _ sm_okP_188_45 (by omega) (by omega)
  by_cases h46 : pc < 923
  · exact key _ _ sm_okP_188_46 (by omega) (by omega)
  omega
theorem sm_okC_all {j : Nat} (h : j < 189) : sm_okC j = true := by
  have key : ∀ (a n : Nat), (List.range n).all (fun i => sm_okC (a + i)) = true → a ≤ j → j < a + n → sm_okC j = true := fun a n h1 h2 h3 => by
    have := List.all_eq_true.mp h1 (j - a) (List.mem_range.mpr (by omega))
    rwa [show a + (j - a) = j by omega] at this
  by_cases h0 : j < 16
  · exact key _ _ sm_okC_0 (by omega) (by omega)
  by_cases h1 : j < 21
  · exact key _ _ sm_okC_1 (by omega) (by omega)
  by_cases h2 : j < 22
  · have : j = 21 := by omega
    rw [this]; exact sm_okC_2
  by_cases h3 : j < 32
  · exact key _ _ sm_okC_3 (by omega) (by omega)
  by_cases h4 : j < 38
  · exact key _ _ sm_okC_4 (by omega) (by omega)
  by_cases h5 : j < 47
  · exact key _ _ sm_okC_5 (by omega) (by omega)
  by_cases h6 : j < 63
  · exact key _ _ sm_okC_6 (by omega) (by omega)
  by_cases h7 : j < 71
  · exact key _ _ sm_okC_7 (by omega) (by omega)
  by_cases h8 : j < 79
  · exact key _ _ sm_okC_8 (by omega) (by omega)
  by_cases h9 : j < 95
  · exact key _ _ sm_okC_9 (by omega) (by omega)
  by_cases h10 : j < 101
  · exact key _ _ sm_okC_10 (by omega) (by omega)
  by_cases h11 : j < 102
  · exact key _ _ sm_okC_11 (by omega) (by omega)
  by_cases h12 : j < 104
  · exact key _ _ sm_okC_12 (by omega) (by omega)
  by_cases h13 : j < 106
  · exact key _ _ sm_okC_13 (by omega) (by omega)
  by_cases h14 : j < 111
  · exact key _ _ sm_okC_14 (by omega) (by omega)
  by_cases h15 : j < 115
  · exact key _ _ sm_okC_15 (by omega) (by omega)
  by_cases h16 : j < 116
  · have : j = 115 := by omega
    rw [this]; exact sm_okC_16
  by_cases h17 : j < 121
  · exact key _ _ sm_okC_17 (by omega) (by omega)
  by_cases h18 : j < 124
  · exact key _ _ sm_okC_18 (by omega) (by omega)
  by_cases h19 : j < 125
  · exact key _ _ sm_okC_19 (by omega) (by omega)
  by_cases h20 : j < 126
  · have : j = 125 := by omega
    rw [this]; exact sm_okC_20
  by_cases h21 : j < 128
  · exact key _ _ sm_okC_21 (by omega) (by omega)
  by_cases h22 : j < 129
  · have : j = 128 := by omega
    rw [this]; exact sm_okC_22
  by_cases h23 : j < 137
  · exact key _ _ sm_okC_23 (by omega) (by omega)
  by_cases h24 : j < 138
  · have : j = 137 := by omega
    rw [this]; exact sm_okC_24
  by_cases h25 : j < 140
  · exact key _ _ sm_okC_25 (by omega) (by omega)
  by_cases h26 : j < 141
  · exact key _ _ sm_okC_26 (by omega) (by omega)
  by_cases h27 : j < 142
  · exact key _ _ sm_okC_27 (by omega) (by omega)
  by_cases h28 : j < 143
  · have : j = 142 := by omega
    rw [this]; exact sm_okC_28
  by_cases h29 : j < 150
  · exact key _ _ sm_okC_29 (by omega) (by omega)
  by_cases h30 : j < 152
  · exact key _ _ sm_okC_30 (by omega) (by omega)
  by_cases h31 : j < 154
  · exact key _ _ sm_okC_31 (by omega) (by omega)
  by_cases h32 : j < 155
  · have : j = 154 := by omega
    rw [this]; exact sm_okC_32
  by_cases h33 : j < 165
  · exact key _ _ sm_okC_33 (by omega) (by omega)
  by_cases h34 : j < 171
  · exact key _ _ sm_okC_34 (by omega) (by omega)
  by_cases h35 : j < 173
  · exact key _ _ sm_okC_35 (by omega) (by omega)
  by_cases h36 : j < 174
  · have : j = 173 := by omega
    rw [this]; exact sm_okC_36
  by_cases h37 : j < 175
  · exact key _ _ sm_okC_37 (by omega) (by omega)
  by_cases h38 : j < 176
  · exact key _ _ sm_okC_38 (by omega) (by omega)
  by_cases h39 : j < 179
  · exact key _ _ sm_okC_39 (by omega) (by omega)
  by_cases h40 : j < 180
  · have : j = 179 := by omega
    rw [this]; exact sm_okC_40
  by_cases h41 : j < 181
  · have : j = 180 := by omega
    rw [this]; exact sm_okC_41
  by_cases h42 : j < 183
  · exact key _ _ sm_okC_42 (by omega) (by omega)
  by_cases h43 : j < 184
  · have : j = 183 := by omega
    rw [this]; exact sm_okC_43
  by_cases h44 : j < 186
  · exact key _ _ sm_okC_44 (by omega) (by omega)
  by_cases h45 : j < 188
  · exact key _ _ sm_okC_45 (by omega) (by omega)
  by_cases h46 : j < 189
  · have : j = 188 := by omega
    rw [this]; exact sm_okC_46
  omega
