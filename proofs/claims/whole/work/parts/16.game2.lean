/-! GAMES: paired changes keep the relation -/
section ZG2
variable {c : Nat → Nat} {S Sm S0 Sm0 : zS} {L Lm : zL} {rd : Value}
theorem gj_x_168 {p : Nat} {v : Int32} (h : zGJ 168 c S0 Sm0 S Sm) (hp : p < c 0) (hv : zin v 19) : zGJ 168 c S0 Sm0 (zup S 170 p v) (zup Sm 2 (9 + p) v) := by
  obtain ⟨hM, ⟨g0, g1, g2, ⟨g3, g3'⟩, ⟨g4, g4'⟩, ⟨g5, g5'⟩, ⟨i, hh, i1, i2, i3, i4, i5, i6⟩⟩, h3, h4⟩ := h
  have b0 : c 0 ≤ 8 := hM.1.2.1
  have b1 : c 1 ≤ 8 := hM.1.2.2.1
  refine ⟨zMD_fr hM (fun j k hj => by rw [zup_ne]; omega) (fun j k hj => by rw [zup_ne]; omega), ⟨fun q hq => ?_, fun q hq => ?_, fun q hq => ?_, ?_, ?_, ?_, ⟨i, hh, i1, i2, ?_, ?_, ?_, ?_⟩⟩, fun j k hj => ?_, fun j k h2 => ?_⟩
  · obtain ⟨a1, a2, a3, a4, a5, a6, a7⟩ := g0 q hq
    by_cases hqp : q = p
    · simp (disch := omega) only [zup_ne, zup_eq]
      refine ⟨?_, ?_, ?_, ?_, ?_, ?_, ?_⟩ <;> first | assumption | trivial
    · simp (disch := omega) only [zup_ne, zup_eq]
      refine ⟨?_, ?_, ?_, ?_, ?_, ?_, ?_⟩ <;> assumption
  · obtain ⟨a1, a2⟩ := g1 q hq
    by_cases hqp : q = p
    · simp (disch := omega) only [zup_ne, zup_eq]
      refine ⟨?_, ?_⟩ <;> first | assumption | trivial
    · simp (disch := omega) only [zup_ne, zup_eq]
      refine ⟨?_, ?_⟩ <;> assumption
  · have a1 := g2 q hq
    by_cases hqp : q = p
    · simp (disch := omega) only [zup_ne, zup_eq] <;> assumption
    · simp (disch := omega) only [zup_ne, zup_eq]
      assumption
  · simp (disch := omega) only [zup_ne]
    exact ⟨g3, g3'⟩
  · simp (disch := omega) only [zup_ne]
    exact ⟨g4, g4'⟩
  · simp (disch := omega) only [zup_ne]
    exact ⟨g5, g5'⟩
  · simp (disch := omega) only [zup_ne]
    exact i3
  · simp (disch := omega) only [zup_ne]
    exact i4
  · simp (disch := omega) only [zup_ne]
    exact i5
  · intro j hj hj'
    simp (disch := omega) only [zup_ne]
    exact i6 j hj hj'
  · rw [zup_ne (by omega)]
    exact h3 j k hj
  · rw [zup_ne (by omega)]
    exact h4 j k h2
theorem gj_balls_168 {p : Nat} {v : Int32} (h : zGJ 168 c S0 Sm0 S Sm) (hp : p < c 0) (hv : zin v 9) : zGJ 168 c S0 Sm0 (zup S 172 p v) (zup Sm 2 (17 + p) v) := by
  obtain ⟨hM, ⟨g0, g1, g2, ⟨g3, g3'⟩, ⟨g4, g4'⟩, ⟨g5, g5'⟩, ⟨i, hh, i1, i2, i3, i4, i5, i6⟩⟩, h3, h4⟩ := h
  have b0 : c 0 ≤ 8 := hM.1.2.1
  have b1 : c 1 ≤ 8 := hM.1.2.2.1
  refine ⟨zMD_fr hM (fun j k hj => by rw [zup_ne]; omega) (fun j k hj => by rw [zup_ne]; omega), ⟨fun q hq => ?_, fun q hq => ?_, fun q hq => ?_, ?_, ?_, ?_, ⟨i, hh, i1, i2, ?_, ?_, ?_, ?_⟩⟩, fun j k hj => ?_, fun j k h2 => ?_⟩
  · obtain ⟨a1, a2, a3, a4, a5, a6, a7⟩ := g0 q hq
    by_cases hqp : q = p
    · simp (disch := omega) only [zup_ne, zup_eq]
      refine ⟨?_, ?_, ?_, ?_, ?_, ?_, ?_⟩ <;> first | assumption | trivial
    · simp (disch := omega) only [zup_ne, zup_eq]
      refine ⟨?_, ?_, ?_, ?_, ?_, ?_, ?_⟩ <;> assumption
  · obtain ⟨a1, a2⟩ := g1 q hq
    by_cases hqp : q = p
    · simp (disch := omega) only [zup_ne, zup_eq]
      refine ⟨?_, ?_⟩ <;> first | assumption | trivial
    · simp (disch := omega) only [zup_ne, zup_eq]
      refine ⟨?_, ?_⟩ <;> assumption
  · have a1 := g2 q hq
    by_cases hqp : q = p
    · simp (disch := omega) only [zup_ne, zup_eq] <;> assumption
    · simp (disch := omega) only [zup_ne, zup_eq]
      assumption
  · simp (disch := omega) only [zup_ne]
    exact ⟨g3, g3'⟩
  · simp (disch := omega) only [zup_ne]
    exact ⟨g4, g4'⟩
  · simp (disch := omega) only [zup_ne]
    exact ⟨g5, g5'⟩
  · simp (disch := omega) only [zup_ne]
    exact i3
  · simp (disch := omega) only [zup_ne]
    exact i4
  · simp (disch := omega) only [zup_ne]
    exact i5
  · intro j hj hj'
    simp (disch := omega) only [zup_ne]
    exact i6 j hj hj'
  · rw [zup_ne (by omega)]
    exact h3 j k hj
  · rw [zup_ne (by omega)]
    exact h4 j k h2
theorem gj_thrown_168 {p : Nat} {v : Int32} (h : zGJ 168 c S0 Sm0 S Sm) (hp : p < c 0) (hv : True) : zGJ 168 c S0 Sm0 (zup S 174 p v) (zup Sm 2 (25 + p) v) := by
  obtain ⟨hM, ⟨g0, g1, g2, ⟨g3, g3'⟩, ⟨g4, g4'⟩, ⟨g5, g5'⟩, ⟨i, hh, i1, i2, i3, i4, i5, i6⟩⟩, h3, h4⟩ := h
  have b0 : c 0 ≤ 8 := hM.1.2.1
  have b1 : c 1 ≤ 8 := hM.1.2.2.1
  refine ⟨zMD_fr hM (fun j k hj => by rw [zup_ne]; omega) (fun j k hj => by rw [zup_ne]; omega), ⟨fun q hq => ?_, fun q hq => ?_, fun q hq => ?_, ?_, ?_, ?_, ⟨i, hh, i1, i2, ?_, ?_, ?_, ?_⟩⟩, fun j k hj => ?_, fun j k h2 => ?_⟩
  · obtain ⟨a1, a2, a3, a4, a5, a6, a7⟩ := g0 q hq
    by_cases hqp : q = p
    · simp (disch := omega) only [zup_ne, zup_eq]
      refine ⟨?_, ?_, ?_, ?_, ?_, ?_, ?_⟩ <;> first | assumption | trivial
    · simp (disch := omega) only [zup_ne, zup_eq]
      refine ⟨?_, ?_, ?_, ?_, ?_, ?_, ?_⟩ <;> assumption
  · obtain ⟨a1, a2⟩ := g1 q hq
    by_cases hqp : q = p
    · simp (disch := omega) only [zup_ne, zup_eq]
      refine ⟨?_, ?_⟩ <;> first | assumption | trivial
    · simp (disch := omega) only [zup_ne, zup_eq]
      refine ⟨?_, ?_⟩ <;> assumption
  · have a1 := g2 q hq
    by_cases hqp : q = p
    · simp (disch := omega) only [zup_ne, zup_eq] <;> assumption
    · simp (disch := omega) only [zup_ne, zup_eq]
      assumption
  · simp (disch := omega) only [zup_ne]
    exact ⟨g3, g3'⟩
  · simp (disch := omega) only [zup_ne]
    exact ⟨g4, g4'⟩
  · simp (disch := omega) only [zup_ne]
    exact ⟨g5, g5'⟩
  · simp (disch := omega) only [zup_ne]
    exact i3
  · simp (disch := omega) only [zup_ne]
    exact i4
  · simp (disch := omega) only [zup_ne]
    exact i5
  · intro j hj hj'
    simp (disch := omega) only [zup_ne]
    exact i6 j hj hj'
  · rw [zup_ne (by omega)]
    exact h3 j k hj
  · rw [zup_ne (by omega)]
    exact h4 j k h2
theorem gj_out_168 {p : Nat} {v : Int32} (h : zGJ 168 c S0 Sm0 S Sm) (hp : p < c 0) (hv : zin v 1) : zGJ 168 c S0 Sm0 (zup S 176 p v) (zup Sm 2 (33 + p) v) := by
  obtain ⟨hM, ⟨g0, g1, g2, ⟨g3, g3'⟩, ⟨g4, g4'⟩, ⟨g5, g5'⟩, ⟨i, hh, i1, i2, i3, i4, i5, i6⟩⟩, h3, h4⟩ := h
  have b0 : c 0 ≤ 8 := hM.1.2.1
  have b1 : c 1 ≤ 8 := hM.1.2.2.1
  refine ⟨zMD_fr hM (fun j k hj => by rw [zup_ne]; omega) (fun j k hj => by rw [zup_ne]; omega), ⟨fun q hq => ?_, fun q hq => ?_, fun q hq => ?_, ?_, ?_, ?_, ⟨i, hh, i1, i2, ?_, ?_, ?_, ?_⟩⟩, fun j k hj => ?_, fun j k h2 => ?_⟩
  · obtain ⟨a1, a2, a3, a4, a5, a6, a7⟩ := g0 q hq
    by_cases hqp : q = p
    · simp (disch := omega) only [zup_ne, zup_eq]
      refine ⟨?_, ?_, ?_, ?_, ?_, ?_, ?_⟩ <;> first | assumption | trivial
    · simp (disch := omega) only [zup_ne, zup_eq]
      refine ⟨?_, ?_, ?_, ?_, ?_, ?_, ?_⟩ <;> assumption
  · obtain ⟨a1, a2⟩ := g1 q hq
    by_cases hqp : q = p
    · simp (disch := omega) only [zup_ne, zup_eq]
      refine ⟨?_, ?_⟩ <;> first | assumption | trivial
    · simp (disch := omega) only [zup_ne, zup_eq]
      refine ⟨?_, ?_⟩ <;> assumption
  · have a1 := g2 q hq
    by_cases hqp : q = p
    · simp (disch := omega) only [zup_ne, zup_eq] <;> assumption
    · simp (disch := omega) only [zup_ne, zup_eq]
      assumption
  · simp (disch := omega) only [zup_ne]
    exact ⟨g3, g3'⟩
  · simp (disch := omega) only [zup_ne]
    exact ⟨g4, g4'⟩
  · simp (disch := omega) only [zup_ne]
    exact ⟨g5, g5'⟩
  · simp (disch := omega) only [zup_ne]
    exact i3
  · simp (disch := omega) only [zup_ne]
    exact i4
  · simp (disch := omega) only [zup_ne]
    exact i5
  · intro j hj hj'
    simp (disch := omega) only [zup_ne]
    exact i6 j hj hj'
  · rw [zup_ne (by omega)]
    exact h3 j k hj
  · rw [zup_ne (by omega)]
    exact h4 j k h2
theorem gj_strong_168 {p : Nat} {v : Int32} (h : zGJ 168 c S0 Sm0 S Sm) (hp : p < c 1) (hv : zin v 9) : zGJ 168 c S0 Sm0 (zup S 178 p v) (zup Sm 2 (41 + p) v) := by
  obtain ⟨hM, ⟨g0, g1, g2, ⟨g3, g3'⟩, ⟨g4, g4'⟩, ⟨g5, g5'⟩, ⟨i, hh, i1, i2, i3, i4, i5, i6⟩⟩, h3, h4⟩ := h
  have b0 : c 0 ≤ 8 := hM.1.2.1
  have b1 : c 1 ≤ 8 := hM.1.2.2.1
  refine ⟨zMD_fr hM (fun j k hj => by rw [zup_ne]; omega) (fun j k hj => by rw [zup_ne]; omega), ⟨fun q hq => ?_, fun q hq => ?_, fun q hq => ?_, ?_, ?_, ?_, ⟨i, hh, i1, i2, ?_, ?_, ?_, ?_⟩⟩, fun j k hj => ?_, fun j k h2 => ?_⟩
  · obtain ⟨a1, a2, a3, a4, a5, a6, a7⟩ := g0 q hq
    by_cases hqp : q = p
    · simp (disch := omega) only [zup_ne, zup_eq]
      refine ⟨?_, ?_, ?_, ?_, ?_, ?_, ?_⟩ <;> first | assumption | trivial
    · simp (disch := omega) only [zup_ne, zup_eq]
      refine ⟨?_, ?_, ?_, ?_, ?_, ?_, ?_⟩ <;> assumption
  · obtain ⟨a1, a2⟩ := g1 q hq
    by_cases hqp : q = p
    · simp (disch := omega) only [zup_ne, zup_eq]
      refine ⟨?_, ?_⟩ <;> first | assumption | trivial
    · simp (disch := omega) only [zup_ne, zup_eq]
      refine ⟨?_, ?_⟩ <;> assumption
  · have a1 := g2 q hq
    by_cases hqp : q = p
    · simp (disch := omega) only [zup_ne, zup_eq] <;> assumption
    · simp (disch := omega) only [zup_ne, zup_eq]
      assumption
  · simp (disch := omega) only [zup_ne]
    exact ⟨g3, g3'⟩
  · simp (disch := omega) only [zup_ne]
    exact ⟨g4, g4'⟩
  · simp (disch := omega) only [zup_ne]
    exact ⟨g5, g5'⟩
  · simp (disch := omega) only [zup_ne]
    exact i3
  · simp (disch := omega) only [zup_ne]
    exact i4
  · simp (disch := omega) only [zup_ne]
    exact i5
  · intro j hj hj'
    simp (disch := omega) only [zup_ne]
    exact i6 j hj hj'
  · rw [zup_ne (by omega)]
    exact h3 j k hj
  · rw [zup_ne (by omega)]
    exact h4 j k h2
theorem gj_sums_168 {p : Nat} {v : Int32} (h : zGJ 168 c S0 Sm0 S Sm) (hp : p < 5) (hv : True) : zGJ 168 c S0 Sm0 (zup S 180 p v) (zup Sm 2 (4 + p) v) := by
  obtain ⟨hM, ⟨g0, g1, g2, ⟨g3, g3'⟩, ⟨g4, g4'⟩, ⟨g5, g5'⟩, ⟨i, hh, i1, i2, i3, i4, i5, i6⟩⟩, h3, h4⟩ := h
  have b0 : c 0 ≤ 8 := hM.1.2.1
  have b1 : c 1 ≤ 8 := hM.1.2.2.1
  refine ⟨zMD_fr hM (fun j k hj => by rw [zup_ne]; omega) (fun j k hj => by rw [zup_ne]; omega), ⟨fun q hq => ?_, fun q hq => ?_, fun q hq => ?_, ?_, ?_, ?_, ⟨i, hh, i1, i2, ?_, ?_, ?_, ?_⟩⟩, fun j k hj => ?_, fun j k h2 => ?_⟩
  · obtain ⟨a1, a2, a3, a4, a5, a6, a7⟩ := g0 q hq
    by_cases hqp : q = p
    · simp (disch := omega) only [zup_ne, zup_eq]
      refine ⟨?_, ?_, ?_, ?_, ?_, ?_, ?_⟩ <;> first | assumption | trivial
    · simp (disch := omega) only [zup_ne, zup_eq]
      refine ⟨?_, ?_, ?_, ?_, ?_, ?_, ?_⟩ <;> assumption
  · obtain ⟨a1, a2⟩ := g1 q hq
    by_cases hqp : q = p
    · simp (disch := omega) only [zup_ne, zup_eq]
      refine ⟨?_, ?_⟩ <;> first | assumption | trivial
    · simp (disch := omega) only [zup_ne, zup_eq]
      refine ⟨?_, ?_⟩ <;> assumption
  · have a1 := g2 q hq
    by_cases hqp : q = p
    · simp (disch := omega) only [zup_ne, zup_eq] <;> assumption
    · simp (disch := omega) only [zup_ne, zup_eq]
      assumption
  · simp (disch := omega) only [zup_ne]
    exact ⟨g3, g3'⟩
  · simp (disch := omega) only [zup_ne]
    exact ⟨g4, g4'⟩
  · simp (disch := omega) only [zup_ne]
    exact ⟨g5, g5'⟩
  · simp (disch := omega) only [zup_ne]
    exact i3
  · simp (disch := omega) only [zup_ne]
    exact i4
  · simp (disch := omega) only [zup_ne]
    exact i5
  · intro j hj hj'
    simp (disch := omega) only [zup_ne]
    exact i6 j hj hj'
  · rw [zup_ne (by omega)]
    exact h3 j k hj
  · rw [zup_ne (by omega)]
    exact h4 j k h2
theorem gj_seed_168 {v : Int32} (h : zGJ 168 c S0 Sm0 S Sm) (hv : zin v 65536) : zGJ 168 c S0 Sm0 (zup S 168 8 v) (zup Sm 2 1 v) := by
  obtain ⟨hM, ⟨g0, g1, g2, ⟨g3, g3'⟩, ⟨g4, g4'⟩, ⟨g5, g5'⟩, ⟨i, hh, i1, i2, i3, i4, i5, i6⟩⟩, h3, h4⟩ := h
  have b0 : c 0 ≤ 8 := hM.1.2.1
  have b1 : c 1 ≤ 8 := hM.1.2.2.1
  refine ⟨zMD_fr hM (fun j k hj => by rw [zup_ne]; omega) (fun j k hj => by rw [zup_ne]; omega), ⟨fun q hq => ?_, fun q hq => ?_, fun q hq => ?_, ?_, ?_, ?_, ⟨i, hh, i1, i2, ?_, ?_, ?_, ?_⟩⟩, fun j k hj => ?_, fun j k h2 => ?_⟩
  · simp (disch := omega) only [zup_ne]
    exact g0 q hq
  · simp (disch := omega) only [zup_ne]
    exact g1 q hq
  · simp (disch := omega) only [zup_ne]
    exact g2 q hq
  · simp (disch := omega) only [zup_ne, zup_eq]
    refine ⟨?_, ?_⟩ <;> first | assumption | trivial
  · simp (disch := omega) only [zup_ne, zup_eq]
    refine ⟨?_, ?_⟩ <;> first | assumption | trivial
  · simp (disch := omega) only [zup_ne, zup_eq]
    refine ⟨?_, ?_⟩ <;> first | assumption | trivial
  · simp (disch := omega) only [zup_ne]
    exact i3
  · simp (disch := omega) only [zup_ne]
    exact i4
  · simp (disch := omega) only [zup_ne]
    exact i5
  · intro j hj hj'
    simp (disch := omega) only [zup_ne]
    exact i6 j hj hj'
  · rw [zup_ne (by omega)]
    exact h3 j k hj
  · rw [zup_ne (by omega)]
    exact h4 j k h2
theorem gj_won_168 {v : Int32} (h : zGJ 168 c S0 Sm0 S Sm) (hv : v = -1 ∨ v = 0 ∨ v = 1) : zGJ 168 c S0 Sm0 (zup S 168 10 v) (zup Sm 2 3 v) := by
  obtain ⟨hM, ⟨g0, g1, g2, ⟨g3, g3'⟩, ⟨g4, g4'⟩, ⟨g5, g5'⟩, ⟨i, hh, i1, i2, i3, i4, i5, i6⟩⟩, h3, h4⟩ := h
  have b0 : c 0 ≤ 8 := hM.1.2.1
  have b1 : c 1 ≤ 8 := hM.1.2.2.1
  refine ⟨zMD_fr hM (fun j k hj => by rw [zup_ne]; omega) (fun j k hj => by rw [zup_ne]; omega), ⟨fun q hq => ?_, fun q hq => ?_, fun q hq => ?_, ?_, ?_, ?_, ⟨i, hh, i1, i2, ?_, ?_, ?_, ?_⟩⟩, fun j k hj => ?_, fun j k h2 => ?_⟩
  · simp (disch := omega) only [zup_ne]
    exact g0 q hq
  · simp (disch := omega) only [zup_ne]
    exact g1 q hq
  · simp (disch := omega) only [zup_ne]
    exact g2 q hq
  · simp (disch := omega) only [zup_ne, zup_eq]
    refine ⟨?_, ?_⟩ <;> first | assumption | trivial
  · simp (disch := omega) only [zup_ne, zup_eq]
    refine ⟨?_, ?_⟩ <;> first | assumption | trivial
  · simp (disch := omega) only [zup_ne, zup_eq]
    refine ⟨?_, ?_⟩ <;> first | assumption | trivial
  · simp (disch := omega) only [zup_ne]
    exact i3
  · simp (disch := omega) only [zup_ne]
    exact i4
  · simp (disch := omega) only [zup_ne]
    exact i5
  · intro j hj hj'
    simp (disch := omega) only [zup_ne]
    exact i6 j hj hj'
  · rw [zup_ne (by omega)]
    exact h3 j k hj
  · rw [zup_ne (by omega)]
    exact h4 j k h2
theorem gj_x_187 {p : Nat} {v : Int32} (h : zGJ 187 c S0 Sm0 S Sm) (hp : p < c 0) (hv : zin v 19) : zGJ 187 c S0 Sm0 (zup S 189 p v) (zup Sm 2 (9 + p) v) := by
  obtain ⟨hM, ⟨g0, g1, g2, ⟨g3, g3'⟩, ⟨g4, g4'⟩, ⟨g5, g5'⟩, ⟨i, hh, i1, i2, i3, i4, i5, i6⟩⟩, h3, h4⟩ := h
  have b0 : c 0 ≤ 8 := hM.1.2.1
  have b1 : c 1 ≤ 8 := hM.1.2.2.1
  refine ⟨zMD_fr hM (fun j k hj => by rw [zup_ne]; omega) (fun j k hj => by rw [zup_ne]; omega), ⟨fun q hq => ?_, fun q hq => ?_, fun q hq => ?_, ?_, ?_, ?_, ⟨i, hh, i1, i2, ?_, ?_, ?_, ?_⟩⟩, fun j k hj => ?_, fun j k h2 => ?_⟩
  · obtain ⟨a1, a2, a3, a4, a5, a6, a7⟩ := g0 q hq
    by_cases hqp : q = p
    · simp (disch := omega) only [zup_ne, zup_eq]
      refine ⟨?_, ?_, ?_, ?_, ?_, ?_, ?_⟩ <;> first | assumption | trivial
    · simp (disch := omega) only [zup_ne, zup_eq]
      refine ⟨?_, ?_, ?_, ?_, ?_, ?_, ?_⟩ <;> assumption
  · obtain ⟨a1, a2⟩ := g1 q hq
    by_cases hqp : q = p
    · simp (disch := omega) only [zup_ne, zup_eq]
      refine ⟨?_, ?_⟩ <;> first | assumption | trivial
    · simp (disch := omega) only [zup_ne, zup_eq]
      refine ⟨?_, ?_⟩ <;> assumption
  · have a1 := g2 q hq
    by_cases hqp : q = p
    · simp (disch := omega) only [zup_ne, zup_eq] <;> assumption
    · simp (disch := omega) only [zup_ne, zup_eq]
      assumption
  · simp (disch := omega) only [zup_ne]
    exact ⟨g3, g3'⟩
  · simp (disch := omega) only [zup_ne]
    exact ⟨g4, g4'⟩
  · simp (disch := omega) only [zup_ne]
    exact ⟨g5, g5'⟩
  · simp (disch := omega) only [zup_ne]
    exact i3
  · simp (disch := omega) only [zup_ne]
    exact i4
  · simp (disch := omega) only [zup_ne]
    exact i5
  · intro j hj hj'
    simp (disch := omega) only [zup_ne]
    exact i6 j hj hj'
  · rw [zup_ne (by omega)]
    exact h3 j k hj
  · rw [zup_ne (by omega)]
    exact h4 j k h2
theorem gj_balls_187 {p : Nat} {v : Int32} (h : zGJ 187 c S0 Sm0 S Sm) (hp : p < c 0) (hv : zin v 9) : zGJ 187 c S0 Sm0 (zup S 191 p v) (zup Sm 2 (17 + p) v) := by
  obtain ⟨hM, ⟨g0, g1, g2, ⟨g3, g3'⟩, ⟨g4, g4'⟩, ⟨g5, g5'⟩, ⟨i, hh, i1, i2, i3, i4, i5, i6⟩⟩, h3, h4⟩ := h
  have b0 : c 0 ≤ 8 := hM.1.2.1
  have b1 : c 1 ≤ 8 := hM.1.2.2.1
  refine ⟨zMD_fr hM (fun j k hj => by rw [zup_ne]; omega) (fun j k hj => by rw [zup_ne]; omega), ⟨fun q hq => ?_, fun q hq => ?_, fun q hq => ?_, ?_, ?_, ?_, ⟨i, hh, i1, i2, ?_, ?_, ?_, ?_⟩⟩, fun j k hj => ?_, fun j k h2 => ?_⟩
  · obtain ⟨a1, a2, a3, a4, a5, a6, a7⟩ := g0 q hq
    by_cases hqp : q = p
    · simp (disch := omega) only [zup_ne, zup_eq]
      refine ⟨?_, ?_, ?_, ?_, ?_, ?_, ?_⟩ <;> first | assumption | trivial
    · simp (disch := omega) only [zup_ne, zup_eq]
      refine ⟨?_, ?_, ?_, ?_, ?_, ?_, ?_⟩ <;> assumption
  · obtain ⟨a1, a2⟩ := g1 q hq
    by_cases hqp : q = p
    · simp (disch := omega) only [zup_ne, zup_eq]
      refine ⟨?_, ?_⟩ <;> first | assumption | trivial
    · simp (disch := omega) only [zup_ne, zup_eq]
      refine ⟨?_, ?_⟩ <;> assumption
  · have a1 := g2 q hq
    by_cases hqp : q = p
    · simp (disch := omega) only [zup_ne, zup_eq] <;> assumption
    · simp (disch := omega) only [zup_ne, zup_eq]
      assumption
  · simp (disch := omega) only [zup_ne]
    exact ⟨g3, g3'⟩
  · simp (disch := omega) only [zup_ne]
    exact ⟨g4, g4'⟩
  · simp (disch := omega) only [zup_ne]
    exact ⟨g5, g5'⟩
  · simp (disch := omega) only [zup_ne]
    exact i3
  · simp (disch := omega) only [zup_ne]
    exact i4
  · simp (disch := omega) only [zup_ne]
    exact i5
  · intro j hj hj'
    simp (disch := omega) only [zup_ne]
    exact i6 j hj hj'
  · rw [zup_ne (by omega)]
    exact h3 j k hj
  · rw [zup_ne (by omega)]
    exact h4 j k h2
theorem gj_thrown_187 {p : Nat} {v : Int32} (h : zGJ 187 c S0 Sm0 S Sm) (hp : p < c 0) (hv : True) : zGJ 187 c S0 Sm0 (zup S 193 p v) (zup Sm 2 (25 + p) v) := by
  obtain ⟨hM, ⟨g0, g1, g2, ⟨g3, g3'⟩, ⟨g4, g4'⟩, ⟨g5, g5'⟩, ⟨i, hh, i1, i2, i3, i4, i5, i6⟩⟩, h3, h4⟩ := h
  have b0 : c 0 ≤ 8 := hM.1.2.1
  have b1 : c 1 ≤ 8 := hM.1.2.2.1
  refine ⟨zMD_fr hM (fun j k hj => by rw [zup_ne]; omega) (fun j k hj => by rw [zup_ne]; omega), ⟨fun q hq => ?_, fun q hq => ?_, fun q hq => ?_, ?_, ?_, ?_, ⟨i, hh, i1, i2, ?_, ?_, ?_, ?_⟩⟩, fun j k hj => ?_, fun j k h2 => ?_⟩
  · obtain ⟨a1, a2, a3, a4, a5, a6, a7⟩ := g0 q hq
    by_cases hqp : q = p
    · simp (disch := omega) only [zup_ne, zup_eq]
      refine ⟨?_, ?_, ?_, ?_, ?_, ?_, ?_⟩ <;> first | assumption | trivial
    · simp (disch := omega) only [zup_ne, zup_eq]
      refine ⟨?_, ?_, ?_, ?_, ?_, ?_, ?_⟩ <;> assumption
  · obtain ⟨a1, a2⟩ := g1 q hq
    by_cases hqp : q = p
    · simp (disch := omega) only [zup_ne, zup_eq]
      refine ⟨?_, ?_⟩ <;> first | assumption | trivial
    · simp (disch := omega) only [zup_ne, zup_eq]
      refine ⟨?_, ?_⟩ <;> assumption
  · have a1 := g2 q hq
    by_cases hqp : q = p
    · simp (disch := omega) only [zup_ne, zup_eq] <;> assumption
    · simp (disch := omega) only [zup_ne, zup_eq]
      assumption
  · simp (disch := omega) only [zup_ne]
    exact ⟨g3, g3'⟩
  · simp (disch := omega) only [zup_ne]
    exact ⟨g4, g4'⟩
  · simp (disch := omega) only [zup_ne]
    exact ⟨g5, g5'⟩
  · simp (disch := omega) only [zup_ne]
    exact i3
  · simp (disch := omega) only [zup_ne]
    exact i4
  · simp (disch := omega) only [zup_ne]
    exact i5
  · intro j hj hj'
    simp (disch := omega) only [zup_ne]
    exact i6 j hj hj'
  · rw [zup_ne (by omega)]
    exact h3 j k hj
  · rw [zup_ne (by omega)]
    exact h4 j k h2
theorem gj_out_187 {p : Nat} {v : Int32} (h : zGJ 187 c S0 Sm0 S Sm) (hp : p < c 0) (hv : zin v 1) : zGJ 187 c S0 Sm0 (zup S 195 p v) (zup Sm 2 (33 + p) v) := by
  obtain ⟨hM, ⟨g0, g1, g2, ⟨g3, g3'⟩, ⟨g4, g4'⟩, ⟨g5, g5'⟩, ⟨i, hh, i1, i2, i3, i4, i5, i6⟩⟩, h3, h4⟩ := h
  have b0 : c 0 ≤ 8 := hM.1.2.1
  have b1 : c 1 ≤ 8 := hM.1.2.2.1
  refine ⟨zMD_fr hM (fun j k hj => by rw [zup_ne]; omega) (fun j k hj => by rw [zup_ne]; omega), ⟨fun q hq => ?_, fun q hq => ?_, fun q hq => ?_, ?_, ?_, ?_, ⟨i, hh, i1, i2, ?_, ?_, ?_, ?_⟩⟩, fun j k hj => ?_, fun j k h2 => ?_⟩
  · obtain ⟨a1, a2, a3, a4, a5, a6, a7⟩ := g0 q hq
    by_cases hqp : q = p
    · simp (disch := omega) only [zup_ne, zup_eq]
      refine ⟨?_, ?_, ?_, ?_, ?_, ?_, ?_⟩ <;> first | assumption | trivial
    · simp (disch := omega) only [zup_ne, zup_eq]
      refine ⟨?_, ?_, ?_, ?_, ?_, ?_, ?_⟩ <;> assumption
  · obtain ⟨a1, a2⟩ := g1 q hq
    by_cases hqp : q = p
    · simp (disch := omega) only [zup_ne, zup_eq]
      refine ⟨?_, ?_⟩ <;> first | assumption | trivial
    · simp (disch := omega) only [zup_ne, zup_eq]
      refine ⟨?_, ?_⟩ <;> assumption
  · have a1 := g2 q hq
    by_cases hqp : q = p
    · simp (disch := omega) only [zup_ne, zup_eq] <;> assumption
    · simp (disch := omega) only [zup_ne, zup_eq]
      assumption
  · simp (disch := omega) only [zup_ne]
    exact ⟨g3, g3'⟩
  · simp (disch := omega) only [zup_ne]
    exact ⟨g4, g4'⟩
  · simp (disch := omega) only [zup_ne]
    exact ⟨g5, g5'⟩
  · simp (disch := omega) only [zup_ne]
    exact i3
  · simp (disch := omega) only [zup_ne]
    exact i4
  · simp (disch := omega) only [zup_ne]
    exact i5
  · intro j hj hj'
    simp (disch := omega) only [zup_ne]
    exact i6 j hj hj'
  · rw [zup_ne (by omega)]
    exact h3 j k hj
  · rw [zup_ne (by omega)]
    exact h4 j k h2
theorem gj_strong_187 {p : Nat} {v : Int32} (h : zGJ 187 c S0 Sm0 S Sm) (hp : p < c 1) (hv : zin v 9) : zGJ 187 c S0 Sm0 (zup S 197 p v) (zup Sm 2 (41 + p) v) := by
  obtain ⟨hM, ⟨g0, g1, g2, ⟨g3, g3'⟩, ⟨g4, g4'⟩, ⟨g5, g5'⟩, ⟨i, hh, i1, i2, i3, i4, i5, i6⟩⟩, h3, h4⟩ := h
  have b0 : c 0 ≤ 8 := hM.1.2.1
  have b1 : c 1 ≤ 8 := hM.1.2.2.1
  refine ⟨zMD_fr hM (fun j k hj => by rw [zup_ne]; omega) (fun j k hj => by rw [zup_ne]; omega), ⟨fun q hq => ?_, fun q hq => ?_, fun q hq => ?_, ?_, ?_, ?_, ⟨i, hh, i1, i2, ?_, ?_, ?_, ?_⟩⟩, fun j k hj => ?_, fun j k h2 => ?_⟩
  · obtain ⟨a1, a2, a3, a4, a5, a6, a7⟩ := g0 q hq
    by_cases hqp : q = p
    · simp (disch := omega) only [zup_ne, zup_eq]
      refine ⟨?_, ?_, ?_, ?_, ?_, ?_, ?_⟩ <;> first | assumption | trivial
    · simp (disch := omega) only [zup_ne, zup_eq]
      refine ⟨?_, ?_, ?_, ?_, ?_, ?_, ?_⟩ <;> assumption
  · obtain ⟨a1, a2⟩ := g1 q hq
    by_cases hqp : q = p
    · simp (disch := omega) only [zup_ne, zup_eq]
      refine ⟨?_, ?_⟩ <;> first | assumption | trivial
    · simp (disch := omega) only [zup_ne, zup_eq]
      refine ⟨?_, ?_⟩ <;> assumption
  · have a1 := g2 q hq
    by_cases hqp : q = p
    · simp (disch := omega) only [zup_ne, zup_eq] <;> assumption
    · simp (disch := omega) only [zup_ne, zup_eq]
      assumption
  · simp (disch := omega) only [zup_ne]
    exact ⟨g3, g3'⟩
  · simp (disch := omega) only [zup_ne]
    exact ⟨g4, g4'⟩
  · simp (disch := omega) only [zup_ne]
    exact ⟨g5, g5'⟩
  · simp (disch := omega) only [zup_ne]
    exact i3
  · simp (disch := omega) only [zup_ne]
    exact i4
  · simp (disch := omega) only [zup_ne]
    exact i5
  · intro j hj hj'
    simp (disch := omega) only [zup_ne]
    exact i6 j hj hj'
  · rw [zup_ne (by omega)]
    exact h3 j k hj
  · rw [zup_ne (by omega)]
    exact h4 j k h2
theorem gj_sums_187 {p : Nat} {v : Int32} (h : zGJ 187 c S0 Sm0 S Sm) (hp : p < 5) (hv : True) : zGJ 187 c S0 Sm0 (zup S 199 p v) (zup Sm 2 (4 + p) v) := by
  obtain ⟨hM, ⟨g0, g1, g2, ⟨g3, g3'⟩, ⟨g4, g4'⟩, ⟨g5, g5'⟩, ⟨i, hh, i1, i2, i3, i4, i5, i6⟩⟩, h3, h4⟩ := h
  have b0 : c 0 ≤ 8 := hM.1.2.1
  have b1 : c 1 ≤ 8 := hM.1.2.2.1
  refine ⟨zMD_fr hM (fun j k hj => by rw [zup_ne]; omega) (fun j k hj => by rw [zup_ne]; omega), ⟨fun q hq => ?_, fun q hq => ?_, fun q hq => ?_, ?_, ?_, ?_, ⟨i, hh, i1, i2, ?_, ?_, ?_, ?_⟩⟩, fun j k hj => ?_, fun j k h2 => ?_⟩
  · obtain ⟨a1, a2, a3, a4, a5, a6, a7⟩ := g0 q hq
    by_cases hqp : q = p
    · simp (disch := omega) only [zup_ne, zup_eq]
      refine ⟨?_, ?_, ?_, ?_, ?_, ?_, ?_⟩ <;> first | assumption | trivial
    · simp (disch := omega) only [zup_ne, zup_eq]
      refine ⟨?_, ?_, ?_, ?_, ?_, ?_, ?_⟩ <;> assumption
  · obtain ⟨a1, a2⟩ := g1 q hq
    by_cases hqp : q = p
    · simp (disch := omega) only [zup_ne, zup_eq]
      refine ⟨?_, ?_⟩ <;> first | assumption | trivial
    · simp (disch := omega) only [zup_ne, zup_eq]
      refine ⟨?_, ?_⟩ <;> assumption
  · have a1 := g2 q hq
    by_cases hqp : q = p
    · simp (disch := omega) only [zup_ne, zup_eq] <;> assumption
    · simp (disch := omega) only [zup_ne, zup_eq]
      assumption
  · simp (disch := omega) only [zup_ne]
    exact ⟨g3, g3'⟩
  · simp (disch := omega) only [zup_ne]
    exact ⟨g4, g4'⟩
  · simp (disch := omega) only [zup_ne]
    exact ⟨g5, g5'⟩
  · simp (disch := omega) only [zup_ne]
    exact i3
  · simp (disch := omega) only [zup_ne]
    exact i4
  · simp (disch := omega) only [zup_ne]
    exact i5
  · intro j hj hj'
    simp (disch := omega) only [zup_ne]
    exact i6 j hj hj'
  · rw [zup_ne (by omega)]
    exact h3 j k hj
  · rw [zup_ne (by omega)]
    exact h4 j k h2
theorem gj_seed_187 {v : Int32} (h : zGJ 187 c S0 Sm0 S Sm) (hv : zin v 65536) : zGJ 187 c S0 Sm0 (zup S 187 8 v) (zup Sm 2 1 v) := by
  obtain ⟨hM, ⟨g0, g1, g2, ⟨g3, g3'⟩, ⟨g4, g4'⟩, ⟨g5, g5'⟩, ⟨i, hh, i1, i2, i3, i4, i5, i6⟩⟩, h3, h4⟩ := h
  have b0 : c 0 ≤ 8 := hM.1.2.1
  have b1 : c 1 ≤ 8 := hM.1.2.2.1
  refine ⟨zMD_fr hM (fun j k hj => by rw [zup_ne]; omega) (fun j k hj => by rw [zup_ne]; omega), ⟨fun q hq => ?_, fun q hq => ?_, fun q hq => ?_, ?_, ?_, ?_, ⟨i, hh, i1, i2, ?_, ?_, ?_, ?_⟩⟩, fun j k hj => ?_, fun j k h2 => ?_⟩
  · simp (disch := omega) only [zup_ne]
    exact g0 q hq
  · simp (disch := omega) only [zup_ne]
    exact g1 q hq
  · simp (disch := omega) only [zup_ne]
    exact g2 q hq
  · simp (disch := omega) only [zup_ne, zup_eq]
    refine ⟨?_, ?_⟩ <;> first | assumption | trivial
  · simp (disch := omega) only [zup_ne, zup_eq]
    refine ⟨?_, ?_⟩ <;> first | assumption | trivial
  · simp (disch := omega) only [zup_ne, zup_eq]
    refine ⟨?_, ?_⟩ <;> first | assumption | trivial
  · simp (disch := omega) only [zup_ne]
    exact i3
  · simp (disch := omega) only [zup_ne]
    exact i4
  · simp (disch := omega) only [zup_ne]
    exact i5
  · intro j hj hj'
    simp (disch := omega) only [zup_ne]
    exact i6 j hj hj'
  · rw [zup_ne (by omega)]
    exact h3 j k hj
  · rw [zup_ne (by omega)]
    exact h4 j k h2
theorem gj_won_187 {v : Int32} (h : zGJ 187 c S0 Sm0 S Sm) (hv : v = -1 ∨ v = 0 ∨ v = 1) : zGJ 187 c S0 Sm0 (zup S 187 10 v) (zup Sm 2 3 v) := by
  obtain ⟨hM, ⟨g0, g1, g2, ⟨g3, g3'⟩, ⟨g4, g4'⟩, ⟨g5, g5'⟩, ⟨i, hh, i1, i2, i3, i4, i5, i6⟩⟩, h3, h4⟩ := h
  have b0 : c 0 ≤ 8 := hM.1.2.1
  have b1 : c 1 ≤ 8 := hM.1.2.2.1
  refine ⟨zMD_fr hM (fun j k hj => by rw [zup_ne]; omega) (fun j k hj => by rw [zup_ne]; omega), ⟨fun q hq => ?_, fun q hq => ?_, fun q hq => ?_, ?_, ?_, ?_, ⟨i, hh, i1, i2, ?_, ?_, ?_, ?_⟩⟩, fun j k hj => ?_, fun j k h2 => ?_⟩
  · simp (disch := omega) only [zup_ne]
    exact g0 q hq
  · simp (disch := omega) only [zup_ne]
    exact g1 q hq
  · simp (disch := omega) only [zup_ne]
    exact g2 q hq
  · simp (disch := omega) only [zup_ne, zup_eq]
    refine ⟨?_, ?_⟩ <;> first | assumption | trivial
  · simp (disch := omega) only [zup_ne, zup_eq]
    refine ⟨?_, ?_⟩ <;> first | assumption | trivial
  · simp (disch := omega) only [zup_ne, zup_eq]
    refine ⟨?_, ?_⟩ <;> first | assumption | trivial
  · simp (disch := omega) only [zup_ne]
    exact i3
  · simp (disch := omega) only [zup_ne]
    exact i4
  · simp (disch := omega) only [zup_ne]
    exact i5
  · intro j hj hj'
    simp (disch := omega) only [zup_ne]
    exact i6 j hj hj'
  · rw [zup_ne (by omega)]
    exact h3 j k hj
  · rw [zup_ne (by omega)]
    exact h4 j k h2
end ZG2
