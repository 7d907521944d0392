/-! GAMES: reading methods, side by side -/
section ZG1
variable {c : Nat → Nat} {S Sm : zS} {L Lm : zL} {rd : Value}
theorem t214 {p : Nat} (hp : p < 8) : zcall 214 [.ref 0, .int (nI p)] (zRm1 rd) Sm Lm = some (some (.int (if Sm 2 (33 + p) = 1 then 1 else 0)), zRm1 rd, Sm, Lm) := by
  unfold zcall
  simp (disch := omega) only [S214, layM1, zT0, zT1, zT2, if_true, if_false]
  split <;> rfl
theorem t15_168 (side : Int32) (hM : zMD c S Sm) (hG : zGD 168 c S (Sm 2)) : ∃ n : Nat, n ≤ 8 ∧ zcall 15 [.ref 168, .int side] zRc S L = some (some (.int (nI n)), zRc, S, L) ∧ zcall 215 [.ref 0, .int side] (zRm1 rd) Sm Lm = some (some (.int (nI n)), zRm1 rd, Sm, Lm) := by
  obtain ⟨⟨b0, b1, -⟩, ⟨a0, -⟩, ⟨m0, -⟩, -, -, hp, -⟩ := hM
  obtain ⟨g0, -⟩ := hG
  have key : ∀ d p, p + d = c 0 → ∀ many, many ≤ p → ∃ n : Nat, n ≤ 8 ∧ zgo 15 4 [.ref 168, .int side, .int (nI many), .int (nI p)] [] zRc S L = some (some (.int (nI n)), zRc, S, L) ∧ zgo 215 4 [.ref 0, .int side, .int (nI many), .int (nI p)] [] (zRm1 rd) Sm Lm = some (some (.int (nI n)), zRm1 rd, Sm, Lm) := by
    intro d
    induction d with
    | zero =>
      intro p hd many hm
      rw [s15_4, s215_4]
      simp (disch := omega) only [S15, S215, layC, layM1, rowsC, t214, zT0, zT1, zT2, a0, m0, if_true, if_false]
      exact ⟨many, by omega, rfl, rfl⟩
    | succ d ih =>
      intro p hd many hm
      have hpc : p < c 0 := by omega
      obtain ⟨e1, -⟩ := hp p hpc
      obtain ⟨-, -, -, e2, -, -, ⟨o, ho, e3⟩⟩ := g0 p hpc
      have e2 : S 176 p = Sm 2 (33 + p) := e2
      rw [s15_4, s215_4]
      simp (disch := omega) only [S15, S215, layC, layM1, rowsC, t214, zT0, zT1, zT2, a0, m0, e1, e2, e3, if_true, if_false]
      by_cases hs : Sm 18 p = side
      · rcases (show o = 0 ∨ o = 1 by omega) with rfl | rfl
        · simp only [hs, if_true, show (nI 0 = 0) = True from eq_true rfl, show (nI 0 = 1) = False from eq_false (by decide), if_false, zad1]
          exact ih (p + 1) (by omega) (many + 1) (by omega)
        · simp only [hs, if_true, show (nI 1 = 0) = False from eq_false (by decide), show (nI 1 = 1) = True from eq_true rfl, if_false, show ((1 : Int32) = 0) = False from eq_false (by decide), Int32.add_zero]
          exact ih (p + 1) (by omega) many (by omega)
      · simp only [hs, if_false, Int32.add_zero]
        exact ih (p + 1) (by omega) many (by omega)
  have := key (c 0) 0 (by omega) 0 (by omega)
  unfold zcall
  simp only [S15, S215]
  exact this
theorem t14_168 (hM : zMD c S Sm) (hG : zGD 168 c S (Sm 2)) : ∃ v : Int32, (v = 0 ∨ v = 1) ∧ zcall 14 [.ref 168] zRc S L = some (some (.int v), zRc, S, L) ∧ zcall 216 [.ref 0] (zRm1 rd) Sm Lm = some (some (.int v), zRm1 rd, Sm, Lm) ∧ (v = 0 → ∀ n, n ≤ 99 → Sm 2 2 = nI n → n < 99) := by
  obtain ⟨n0, hn0, k1, k2⟩ := t15_168 (L := L) (Lm := Lm) (rd := rd) 0 hM hG
  obtain ⟨n1, hn1, k3, k4⟩ := t15_168 (L := L) (Lm := Lm) (rd := rd) 1 hM hG
  obtain ⟨-, -, -, ⟨-, -, a3, -, -, -, ⟨tt, ht1, ht2, ht⟩, -⟩, -⟩ := hM
  obtain ⟨-, -, -, ⟨g7, ⟨pp, hpp, hp⟩⟩, -, ⟨g10, hw⟩, -⟩ := hG
  have fin : ∀ n, n ≤ 99 → Sm 2 2 = nI n → n = pp := fun n hn e => by
    rw [hp] at e
    exact ((znI_inj (by omega) (by omega)).mp e).symm
  unfold zcall
  simp (disch := omega) only [Int32.reduceLT, Int32.reduceLE, Int32.reduceToNatClampNeg, Int32.reduceAdd, Int32.reduceSub, Int32.reduceMul, Nat.reduceLeDiff, zEL, zup_ne, zup_eq, layC, layM1, rowsC, zT0, zT1, zT2, if_true, if_false, S14, S216, k1, k2, k3, k4, g7, hp, a3, ht, g10]
  repeat' split
  all_goals first | exact ⟨1, .inr rfl, rfl, rfl, fun h => absurd h (by decide)⟩ | skip
  · rename_i h
    rw [znI_0, znI_le (by omega) (by omega)] at h
    exact ⟨0, .inl rfl, rfl, rfl, fun _ n h1 h2 => by have := fin n h1 (hp.trans h2); omega⟩
  · exact ⟨0, .inl rfl, rfl, rfl, fun _ n h1 h2 => by have := fin n h1 (hp.trans h2); omega⟩
theorem t16_168 (hM : zMD c S Sm) (hG : zGD 168 c S (Sm 2)) : ∃ v : Int32, (v = 0 ∨ v = 1 ∨ v = 2) ∧ zcall 16 [.ref 168] zRc S L = some (some (.int v), zRc, S, L) ∧ zcall 234 [.ref 0] (zRm1 rd) Sm Lm = some (some (.int v), zRm1 rd, Sm, Lm) := by
  obtain ⟨n0, hn0, k1, k2⟩ := t15_168 (L := L) (Lm := Lm) (rd := rd) 0 hM hG
  obtain ⟨n1, hn1, k3, k4⟩ := t15_168 (L := L) (Lm := Lm) (rd := rd) 1 hM hG
  obtain ⟨-, -, -, -, -, ⟨g10, hw⟩, -⟩ := hG
  unfold zcall
  rcases hw with hw | hw | hw
  · rw [hw] at g10
    simp (disch := omega) only [Int32.reduceLT, Int32.reduceLE, Int32.reduceToNatClampNeg, Int32.reduceAdd, Int32.reduceSub, Int32.reduceMul, Nat.reduceLeDiff, zEL, zup_ne, zup_eq, layC, layM1, rowsC, zT0, zT1, zT2, if_true, if_false, S16, S234, k1, k2, k3, k4, g10, hw]
    repeat' split
    all_goals first | exact ⟨0, .inl rfl, rfl, rfl⟩ | exact ⟨1, .inr (.inl rfl), rfl, rfl⟩ | exact ⟨2, .inr (.inr rfl), rfl, rfl⟩ | (exfalso; omega)
  · rw [hw] at g10
    simp (disch := omega) only [Int32.reduceLT, Int32.reduceLE, Int32.reduceToNatClampNeg, Int32.reduceAdd, Int32.reduceSub, Int32.reduceMul, Nat.reduceLeDiff, zEL, zup_ne, zup_eq, layC, layM1, rowsC, zT0, zT1, zT2, if_true, if_false, S16, S234, k1, k2, k3, k4, g10, hw]
    exact ⟨0, .inl rfl, rfl, rfl⟩
  · rw [hw] at g10
    simp (disch := omega) only [Int32.reduceLT, Int32.reduceLE, Int32.reduceToNatClampNeg, Int32.reduceAdd, Int32.reduceSub, Int32.reduceMul, Nat.reduceLeDiff, zEL, zup_ne, zup_eq, layC, layM1, rowsC, zT0, zT1, zT2, if_true, if_false, S16, S234, k1, k2, k3, k4, g10, hw]
    exact ⟨1, .inr (.inl rfl), rfl, rfl⟩
theorem t15_187 (side : Int32) (hM : zMD c S Sm) (hG : zGD 187 c S (Sm 2)) : ∃ n : Nat, n ≤ 8 ∧ zcall 15 [.ref 187, .int side] zRc S L = some (some (.int (nI n)), zRc, S, L) ∧ zcall 215 [.ref 0, .int side] (zRm1 rd) Sm Lm = some (some (.int (nI n)), zRm1 rd, Sm, Lm) := by
  obtain ⟨⟨b0, b1, -⟩, ⟨a0, -⟩, ⟨m0, -⟩, -, -, hp, -⟩ := hM
  obtain ⟨g0, -⟩ := hG
  have key : ∀ d p, p + d = c 0 → ∀ many, many ≤ p → ∃ n : Nat, n ≤ 8 ∧ zgo 15 4 [.ref 187, .int side, .int (nI many), .int (nI p)] [] zRc S L = some (some (.int (nI n)), zRc, S, L) ∧ zgo 215 4 [.ref 0, .int side, .int (nI many), .int (nI p)] [] (zRm1 rd) Sm Lm = some (some (.int (nI n)), zRm1 rd, Sm, Lm) := by
    intro d
    induction d with
    | zero =>
      intro p hd many hm
      rw [s15_4, s215_4]
      simp (disch := omega) only [S15, S215, layC, layM1, rowsC, t214, zT0, zT1, zT2, a0, m0, if_true, if_false]
      exact ⟨many, by omega, rfl, rfl⟩
    | succ d ih =>
      intro p hd many hm
      have hpc : p < c 0 := by omega
      obtain ⟨e1, -⟩ := hp p hpc
      obtain ⟨-, -, -, e2, -, -, ⟨o, ho, e3⟩⟩ := g0 p hpc
      have e2 : S 195 p = Sm 2 (33 + p) := e2
      rw [s15_4, s215_4]
      simp (disch := omega) only [S15, S215, layC, layM1, rowsC, t214, zT0, zT1, zT2, a0, m0, e1, e2, e3, if_true, if_false]
      by_cases hs : Sm 18 p = side
      · rcases (show o = 0 ∨ o = 1 by omega) with rfl | rfl
        · simp only [hs, if_true, show (nI 0 = 0) = True from eq_true rfl, show (nI 0 = 1) = False from eq_false (by decide), if_false, zad1]
          exact ih (p + 1) (by omega) (many + 1) (by omega)
        · simp only [hs, if_true, show (nI 1 = 0) = False from eq_false (by decide), show (nI 1 = 1) = True from eq_true rfl, if_false, show ((1 : Int32) = 0) = False from eq_false (by decide), Int32.add_zero]
          exact ih (p + 1) (by omega) many (by omega)
      · simp only [hs, if_false, Int32.add_zero]
        exact ih (p + 1) (by omega) many (by omega)
  have := key (c 0) 0 (by omega) 0 (by omega)
  unfold zcall
  simp only [S15, S215]
  exact this
theorem t14_187 (hM : zMD c S Sm) (hG : zGD 187 c S (Sm 2)) : ∃ v : Int32, (v = 0 ∨ v = 1) ∧ zcall 14 [.ref 187] zRc S L = some (some (.int v), zRc, S, L) ∧ zcall 216 [.ref 0] (zRm1 rd) Sm Lm = some (some (.int v), zRm1 rd, Sm, Lm) ∧ (v = 0 → ∀ n, n ≤ 99 → Sm 2 2 = nI n → n < 99) := by
  obtain ⟨n0, hn0, k1, k2⟩ := t15_187 (L := L) (Lm := Lm) (rd := rd) 0 hM hG
  obtain ⟨n1, hn1, k3, k4⟩ := t15_187 (L := L) (Lm := Lm) (rd := rd) 1 hM hG
  obtain ⟨-, -, -, ⟨-, -, a3, -, -, -, ⟨tt, ht1, ht2, ht⟩, -⟩, -⟩ := hM
  obtain ⟨-, -, -, ⟨g7, ⟨pp, hpp, hp⟩⟩, -, ⟨g10, hw⟩, -⟩ := hG
  have fin : ∀ n, n ≤ 99 → Sm 2 2 = nI n → n = pp := fun n hn e => by
    rw [hp] at e
    exact ((znI_inj (by omega) (by omega)).mp e).symm
  unfold zcall
  simp (disch := omega) only [Int32.reduceLT, Int32.reduceLE, Int32.reduceToNatClampNeg, Int32.reduceAdd, Int32.reduceSub, Int32.reduceMul, Nat.reduceLeDiff, zEL, zup_ne, zup_eq, layC, layM1, rowsC, zT0, zT1, zT2, if_true, if_false, S14, S216, k1, k2, k3, k4, g7, hp, a3, ht, g10]
  repeat' split
  all_goals first | exact ⟨1, .inr rfl, rfl, rfl, fun h => absurd h (by decide)⟩ | skip
  · rename_i h
    rw [znI_0, znI_le (by omega) (by omega)] at h
    exact ⟨0, .inl rfl, rfl, rfl, fun _ n h1 h2 => by have := fin n h1 (hp.trans h2); omega⟩
  · exact ⟨0, .inl rfl, rfl, rfl, fun _ n h1 h2 => by have := fin n h1 (hp.trans h2); omega⟩
theorem t16_187 (hM : zMD c S Sm) (hG : zGD 187 c S (Sm 2)) : ∃ v : Int32, (v = 0 ∨ v = 1 ∨ v = 2) ∧ zcall 16 [.ref 187] zRc S L = some (some (.int v), zRc, S, L) ∧ zcall 234 [.ref 0] (zRm1 rd) Sm Lm = some (some (.int v), zRm1 rd, Sm, Lm) := by
  obtain ⟨n0, hn0, k1, k2⟩ := t15_187 (L := L) (Lm := Lm) (rd := rd) 0 hM hG
  obtain ⟨n1, hn1, k3, k4⟩ := t15_187 (L := L) (Lm := Lm) (rd := rd) 1 hM hG
  obtain ⟨-, -, -, -, -, ⟨g10, hw⟩, -⟩ := hG
  unfold zcall
  rcases hw with hw | hw | hw
  · rw [hw] at g10
    simp (disch := omega) only [Int32.reduceLT, Int32.reduceLE, Int32.reduceToNatClampNeg, Int32.reduceAdd, Int32.reduceSub, Int32.reduceMul, Nat.reduceLeDiff, zEL, zup_ne, zup_eq, layC, layM1, rowsC, zT0, zT1, zT2, if_true, if_false, S16, S234, k1, k2, k3, k4, g10, hw]
    repeat' split
    all_goals first | exact ⟨0, .inl rfl, rfl, rfl⟩ | exact ⟨1, .inr (.inl rfl), rfl, rfl⟩ | exact ⟨2, .inr (.inr rfl), rfl, rfl⟩ | (exfalso; omega)
  · rw [hw] at g10
    simp (disch := omega) only [Int32.reduceLT, Int32.reduceLE, Int32.reduceToNatClampNeg, Int32.reduceAdd, Int32.reduceSub, Int32.reduceMul, Nat.reduceLeDiff, zEL, zup_ne, zup_eq, layC, layM1, rowsC, zT0, zT1, zT2, if_true, if_false, S16, S234, k1, k2, k3, k4, g10, hw]
    exact ⟨0, .inl rfl, rfl, rfl⟩
  · rw [hw] at g10
    simp (disch := omega) only [Int32.reduceLT, Int32.reduceLE, Int32.reduceToNatClampNeg, Int32.reduceAdd, Int32.reduceSub, Int32.reduceMul, Nat.reduceLeDiff, zEL, zup_ne, zup_eq, layC, layM1, rowsC, zT0, zT1, zT2, if_true, if_false, S16, S234, k1, k2, k3, k4, g10, hw]
    exact ⟨1, .inr (.inl rfl), rfl, rfl⟩
end ZG1
