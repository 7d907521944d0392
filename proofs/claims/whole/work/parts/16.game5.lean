/-! GAMES: the snow now, the thaw -/
section ZG5
variable {c : Nat → Nat} {S Sm S0 Sm0 : zS} {L Lm : zL} {rd : Value}
def ztw (th t w : Nat) : Bool := decide (0 < th) && decide ((t + 1) % th = 0) && decide (7 ≤ w)
theorem ztw_iff {th t w : Nat} : ztw th t w = true ↔ 0 < th ∧ (t + 1) % th = 0 ∧ 7 ≤ w := by
  simp [ztw, and_assoc]
theorem zsb1 {a : Nat} : nI (a + 1) - 1 = nI a := by
  rw [show (1 : Int32) = nI 1 from rfl, znI_sub (by omega)]
  rfl
theorem zsb0 : nI 0 - 1 = -1 := by decide
theorem zsbm : ((0 : Int32) ≤ -1) = False := eq_false (by decide)
/-- the snow that counts now: its row, its hour, wet and deep -/
theorem zsnow_168 (hM : zMD c S Sm) (hG : zGD 168 c S (Sm 2)) : ∃ i h w d : Nat, i < 5 ∧ h < 24 ∧ w ≤ 9 ∧ d ≤ 9 ∧ S 168 9 = nI i ∧ S 9 i = nI w ∧ S 11 i = nI d ∧ Sm 2 0 = nI h ∧ Sm 12 h = nI (w + 1) ∧ Sm 13 h = nI d := by
  obtain ⟨-, -, -, -, -, -, i, h, h1, h2, h3, h4, h5, h6⟩ := hG
  obtain ⟨⟨-, -, -, -, -, -, -, c5, -⟩, -, -, -, -, -, -, -, -, -, -, a, b, -⟩ := hM
  obtain ⟨-, ⟨w, hw, ew⟩, ⟨d, hd, ed⟩⟩ := a i h1
  refine ⟨i, h, w, d, by omega, h2, hw, hd, h3, ew, ed, h5, ?_⟩
  rcases b h h2 with ⟨-, b2⟩ | ⟨j, j1, j2, j3, j4, j5⟩
  · exact absurd h4 (b2 i h1)
  · have hij : i = j := by
      rcases Nat.lt_trichotomy i j with h7 | h7 | h7
      · exact absurd j2 (h6 j h7 j1)
      · exact h7
      · exact absurd h4 (j3 i h7 h1)
    subst hij
    rw [j4, j5, ew, ed]
    exact ⟨zad1, rfl⟩
theorem t78_168 (hM : zMD c S Sm) (hG : zGD 168 c S (Sm 2)) : ∃ n : Nat, n < 100 ∧ zcall 78 [.ref 5, .int (S 168 9)] zRc S L = some (some (.int (nI n)), zRc, S, L) ∧ zcall 213 [.ref 0] (zRm1 rd) Sm Lm = some (some (.int (nI n)), zRm1 rd, Sm, Lm) := by
  obtain ⟨i, h, w, d, hi, hh, hw, hd, e1, e2, e3, e4, e5, e6⟩ := zsnow_168 hM hG
  have t211 : zcall 211 [.ref 0, .int (nI h)] (zRm1 rd) Sm Lm = some (some (.int (nI w)), zRm1 rd, Sm, Lm) := by
    unfold zcall
    simp (config := {maxSteps := 1000000}) (disch := omega) only [Int32.reduceLT, Int32.reduceLE, Int32.reduceToNatClampNeg, Int32.reduceAdd, Int32.reduceSub, Int32.reduceMul, Nat.reduceLeDiff, zEL, zup_ne, zup_eq, layC, layM1, rowsC, zT0, zT1, zT2, if_true, if_false, S211, e5]
    rw [show nI (w + 1) - 1 = nI w from by rw [show (1 : Int32) = nI 1 from rfl, znI_sub (by omega)]; rfl]
  have t212 : ∃ n : Nat, n < 100 ∧ zcall 78 [.ref 5, .int (S 168 9)] zRc S L = some (some (.int (nI n)), zRc, S, L) ∧ zcall 212 [.ref 0, .int (nI h)] (zRm1 rd) Sm Lm = some (some (.int (nI n)), zRm1 rd, Sm, Lm) := by
    unfold zcall
    simp (config := {maxSteps := 1000000}) (disch := omega) only [Int32.reduceLT, Int32.reduceLE, Int32.reduceToNatClampNeg, Int32.reduceAdd, Int32.reduceSub, Int32.reduceMul, Nat.reduceLeDiff, zEL, zup_ne, zup_eq, layC, layM1, rowsC, zT0, zT1, zT2, if_true, if_false, S78, S212, e1, e2, t211, zKL]
    repeat' split
    all_goals first | (exfalso; omega) | exact ⟨0, by omega, rfl, rfl⟩ | exact ⟨40, by omega, rfl, rfl⟩ | exact ⟨90, by omega, rfl, rfl⟩ | exact ⟨70, by omega, rfl, rfl⟩ | exact ⟨20, by omega, rfl, rfl⟩
  obtain ⟨n, hn, k1, k2⟩ := t212
  refine ⟨n, hn, k1, ?_⟩
  unfold zcall
  simp (config := {maxSteps := 1000000}) (disch := omega) only [Int32.reduceLT, Int32.reduceLE, Int32.reduceToNatClampNeg, Int32.reduceAdd, Int32.reduceSub, Int32.reduceMul, Nat.reduceLeDiff, zEL, zup_ne, zup_eq, layC, layM1, rowsC, zT0, zT1, zT2, if_true, if_false, S213, e4, k2]
/-- the thaw of a wall: 1, or 2 if a player leans -/
theorem t31_168 {b : Nat} (hM : zMD c S Sm) (hG : zGD 168 c S (Sm 2)) (hb : b < c 1) : ∃ v : Nat, v ≤ 1 ∧ zcall 31 [.ref 168, .int (nI b)] zRc S L = some (some (.int (nI (v + 1))), zRc, S, L) ∧ zcall 227 [.ref 0, .int (nI b)] (zRm1 rd) Sm Lm = some (some (.int (nI v)), zRm1 rd, Sm, Lm) := by
  obtain ⟨⟨b0, b0', b1, -⟩, ⟨a0, -⟩, ⟨m0, -⟩, -, -, hP, hB, -⟩ := hM
  obtain ⟨g0, -⟩ := hG
  obtain ⟨q1, q2, q3, q4, -⟩ := hB b hb
  have key : ∀ d p, p + d = c 0 → ∀ x j, ∃ v : Nat, v ≤ 1 ∧ zgo 31 52 [.ref 168, .int (nI b), .ref 12, .int (Sm 14 b), .int x, .int (nI p), j] [] zRc S L = some (some (.int (nI (v + 1))), zRc, S, L) ∧ zgo 227 30 [.ref 0, .int (nI b), .int x, .int (nI p)] [] (zRm1 rd) Sm Lm = some (some (.int (nI v)), zRm1 rd, Sm, Lm) := by
    intro d
    induction d with
    | zero =>
      intro p hd x j
      rw [s31_52, s227_30]
      simp (config := {maxSteps := 1000000}) (disch := omega) only [Int32.reduceLT, Int32.reduceLE, Int32.reduceToNatClampNeg, Int32.reduceAdd, Int32.reduceSub, Int32.reduceMul, Nat.reduceLeDiff, zEL, zup_ne, zup_eq, layC, layM1, rowsC, zT0, zT1, zT2, if_true, if_false, S31, S227, a0, m0]
      exact ⟨0, by omega, rfl, rfl⟩
    | succ d ih =>
      intro p hd x j
      have hpc : p < c 0 := by omega
      obtain ⟨e1, e2, -⟩ := hP p hpc
      obtain ⟨e3, -, -, e4, -, -, ⟨o, ho, e5⟩⟩ := g0 p hpc
      rw [s31_52, s227_30]
      simp (config := {maxSteps := 1000000}) (disch := omega) only [Int32.reduceLT, Int32.reduceLE, Int32.reduceToNatClampNeg, Int32.reduceAdd, Int32.reduceSub, Int32.reduceMul, Nat.reduceLeDiff, zEL, zup_ne, zup_eq, layC, layM1, rowsC, zT0, zT1, zT2, if_true, if_false, S31, S227, a0, m0, t214, e1, e2, e3, e4, e5, q1, q2, zKL]
      rcases (show o = 0 ∨ o = 1 by omega) with rfl | rfl
      all_goals simp only [eq_self, if_true, if_false, Nat.zero_ne_one, Nat.one_ne_zero, zEL]
      all_goals repeat' split
      all_goals first | exact ih (p + 1) (by omega) x _ | exact ⟨1, by omega, rfl, rfl⟩
  unfold zcall
  simp (config := {maxSteps := 1000000}) (disch := omega) only [Int32.reduceLT, Int32.reduceLE, Int32.reduceToNatClampNeg, Int32.reduceAdd, Int32.reduceSub, Int32.reduceMul, Nat.reduceLeDiff, zEL, zup_ne, zup_eq, layC, layM1, rowsC, zT0, zT1, zT2, if_true, if_false, S31, S227, q1, q3]
  split <;> exact key (c 0) 0 (by omega) _ _
theorem t29_168 {t : Nat} (hM : zMD c S Sm) (hG : zGD 168 c S (Sm 2)) (ht : t ≤ 1000) : ∃ th w : Nat, th ≤ 20 ∧ w ≤ 9 ∧ Sm 11 3 = nI th ∧ (∀ h, Sm 2 0 = nI h → h < 24 → Sm 12 h = nI (w + 1)) ∧ zcall 29 [.ref 168, .int (nI t)] zRc S L = some (some (.int (if ztw th t w = true then 1 else 0)), zRc, S, L) := by
  obtain ⟨i, h, w, d, hi, hh, hw, hd, e1, e2, e3, e4, e5, e6⟩ := zsnow_168 hM hG
  obtain ⟨-, -, -, ⟨-, -, -, a4, -, -, -, ⟨th, hth, eth⟩⟩, -⟩ := hM
  refine ⟨th, w, hth, hw, eth, fun h' k1 k2 => ?_, ?_⟩
  · rw [e4] at k1
    have := (znI_inj (by omega) (by omega)).mp k1
    subst this
    exact e5
  · have hr : (t + 1) % th ≤ t + 1 := Nat.mod_le _ _
    unfold zcall
    simp (config := {maxSteps := 1000000}) (disch := omega) only [Int32.reduceLT, Int32.reduceLE, Int32.reduceToNatClampNeg, Int32.reduceAdd, Int32.reduceSub, Int32.reduceMul, Nat.reduceLeDiff, zEL, zup_ne, zup_eq, layC, layM1, rowsC, zT0, zT1, zT2, if_true, if_false, S29, e1, e2, a4, eth, znI_rem, zKL]
    repeat' split
    all_goals first | rfl | (exfalso; simp only [ztw_iff] at *; omega)
theorem t228_168 {b t s : Nat} (hM : zMD c S Sm) (hG : zGD 168 c S (Sm 2)) (hb : b < c 1) (hs : s ≤ 9) (ht : t ≤ 1000) {v th w : Nat} (hv : v ≤ 1) (k1 : zcall 227 [.ref 0, .int (nI b)] (zRm1 rd) Sm Lm = some (some (.int (nI v)), zRm1 rd, Sm, Lm)) (hth : th ≤ 20) (hw : w ≤ 9) (eth : Sm 11 3 = nI th) (ew : ∀ h, Sm 2 0 = nI h → h < 24 → Sm 12 h = nI (w + 1)) : zcall 228 [.ref 0, .int (nI b), .int (nI s), .int (nI t)] (zRm1 rd) Sm Lm = some (some (.int (nI (if ztw th t w = true then s - (v + 1) else s))), zRm1 rd, Sm, Lm) := by
  obtain ⟨i, h, w', d, hi, hh, hw', hd, e1, e2, e3, e4, e5, e6⟩ := zsnow_168 hM hG
  have e7 := ew h e4 hh
  have t211 : zcall 211 [.ref 0, .int (nI h)] (zRm1 rd) Sm Lm = some (some (.int (nI w)), zRm1 rd, Sm, Lm) := by
    unfold zcall
    simp (config := {maxSteps := 1000000}) (disch := omega) only [Int32.reduceLT, Int32.reduceLE, Int32.reduceToNatClampNeg, Int32.reduceAdd, Int32.reduceSub, Int32.reduceMul, Nat.reduceLeDiff, zEL, zup_ne, zup_eq, layC, layM1, rowsC, zT0, zT1, zT2, if_true, if_false, S211, e7]
    rw [show nI (w + 1) - 1 = nI w from by rw [show (1 : Int32) = nI 1 from rfl, znI_sub (by omega)]; rfl]
  have hr : (t + 1) % th ≤ t + 1 := Nat.mod_le _ _
  unfold zcall
  rcases (show v = 0 ∨ v = 1 by omega) with rfl | rfl <;> rcases s with _ | _ | s
  all_goals simp (config := {maxSteps := 1000000}) (disch := omega) only [Int32.reduceLT, Int32.reduceLE, Int32.reduceToNatClampNeg, Int32.reduceAdd, Int32.reduceSub, Int32.reduceMul, Nat.reduceLeDiff, zEL, zup_ne, zup_eq, layC, layM1, rowsC, zT0, zT1, zT2, if_true, if_false, S228, e4, t211, eth, znI_rem, zKL, k1, zsb1, zsb0, zsbm, Int32.sub_zero]
  all_goals repeat' split
  all_goals first | rfl | (exfalso; simp only [ztw_iff] at *; omega)
/-- the snow that counts now: its row, its hour, wet and deep -/
theorem zsnow_187 (hM : zMD c S Sm) (hG : zGD 187 c S (Sm 2)) : ∃ i h w d : Nat, i < 5 ∧ h < 24 ∧ w ≤ 9 ∧ d ≤ 9 ∧ S 187 9 = nI i ∧ S 9 i = nI w ∧ S 11 i = nI d ∧ Sm 2 0 = nI h ∧ Sm 12 h = nI (w + 1) ∧ Sm 13 h = nI d := by
  obtain ⟨-, -, -, -, -, -, i, h, h1, h2, h3, h4, h5, h6⟩ := hG
  obtain ⟨⟨-, -, -, -, -, -, -, c5, -⟩, -, -, -, -, -, -, -, -, -, -, a, b, -⟩ := hM
  obtain ⟨-, ⟨w, hw, ew⟩, ⟨d, hd, ed⟩⟩ := a i h1
  refine ⟨i, h, w, d, by omega, h2, hw, hd, h3, ew, ed, h5, ?_⟩
  rcases b h h2 with ⟨-, b2⟩ | ⟨j, j1, j2, j3, j4, j5⟩
  · exact absurd h4 (b2 i h1)
  · have hij : i = j := by
      rcases Nat.lt_trichotomy i j with h7 | h7 | h7
      · exact absurd j2 (h6 j h7 j1)
      · exact h7
      · exact absurd h4 (j3 i h7 h1)
    subst hij
    rw [j4, j5, ew, ed]
    exact ⟨zad1, rfl⟩
theorem t78_187 (hM : zMD c S Sm) (hG : zGD 187 c S (Sm 2)) : ∃ n : Nat, n < 100 ∧ zcall 78 [.ref 5, .int (S 187 9)] zRc S L = some (some (.int (nI n)), zRc, S, L) ∧ zcall 213 [.ref 0] (zRm1 rd) Sm Lm = some (some (.int (nI n)), zRm1 rd, Sm, Lm) := by
  obtain ⟨i, h, w, d, hi, hh, hw, hd, e1, e2, e3, e4, e5, e6⟩ := zsnow_187 hM hG
  have t211 : zcall 211 [.ref 0, .int (nI h)] (zRm1 rd) Sm Lm = some (some (.int (nI w)), zRm1 rd, Sm, Lm) := by
    unfold zcall
    simp (config := {maxSteps := 1000000}) (disch := omega) only [Int32.reduceLT, Int32.reduceLE, Int32.reduceToNatClampNeg, Int32.reduceAdd, Int32.reduceSub, Int32.reduceMul, Nat.reduceLeDiff, zEL, zup_ne, zup_eq, layC, layM1, rowsC, zT0, zT1, zT2, if_true, if_false, S211, e5]
    rw [show nI (w + 1) - 1 = nI w from by rw [show (1 : Int32) = nI 1 from rfl, znI_sub (by omega)]; rfl]
  have t212 : ∃ n : Nat, n < 100 ∧ zcall 78 [.ref 5, .int (S 187 9)] zRc S L = some (some (.int (nI n)), zRc, S, L) ∧ zcall 212 [.ref 0, .int (nI h)] (zRm1 rd) Sm Lm = some (some (.int (nI n)), zRm1 rd, Sm, Lm) := by
    unfold zcall
    simp (config := {maxSteps := 1000000}) (disch := omega) only [Int32.reduceLT, Int32.reduceLE, Int32.reduceToNatClampNeg, Int32.reduceAdd, Int32.reduceSub, Int32.reduceMul, Nat.reduceLeDiff, zEL, zup_ne, zup_eq, layC, layM1, rowsC, zT0, zT1, zT2, if_true, if_false, S78, S212, e1, e2, t211, zKL]
    repeat' split
    all_goals first | (exfalso; omega) | exact ⟨0, by omega, rfl, rfl⟩ | exact ⟨40, by omega, rfl, rfl⟩ | exact ⟨90, by omega, rfl, rfl⟩ | exact ⟨70, by omega, rfl, rfl⟩ | exact ⟨20, by omega, rfl, rfl⟩
  obtain ⟨n, hn, k1, k2⟩ := t212
  refine ⟨n, hn, k1, ?_⟩
  unfold zcall
  simp (config := {maxSteps := 1000000}) (disch := omega) only [Int32.reduceLT, Int32.reduceLE, Int32.reduceToNatClampNeg, Int32.reduceAdd, Int32.reduceSub, Int32.reduceMul, Nat.reduceLeDiff, zEL, zup_ne, zup_eq, layC, layM1, rowsC, zT0, zT1, zT2, if_true, if_false, S213, e4, k2]
/-- the thaw of a wall: 1, or 2 if a player leans -/
theorem t31_187 {b : Nat} (hM : zMD c S Sm) (hG : zGD 187 c S (Sm 2)) (hb : b < c 1) : ∃ v : Nat, v ≤ 1 ∧ zcall 31 [.ref 187, .int (nI b)] zRc S L = some (some (.int (nI (v + 1))), zRc, S, L) ∧ zcall 227 [.ref 0, .int (nI b)] (zRm1 rd) Sm Lm = some (some (.int (nI v)), zRm1 rd, Sm, Lm) := by
  obtain ⟨⟨b0, b0', b1, -⟩, ⟨a0, -⟩, ⟨m0, -⟩, -, -, hP, hB, -⟩ := hM
  obtain ⟨g0, -⟩ := hG
  obtain ⟨q1, q2, q3, q4, -⟩ := hB b hb
  have key : ∀ d p, p + d = c 0 → ∀ x j, ∃ v : Nat, v ≤ 1 ∧ zgo 31 52 [.ref 187, .int (nI b), .ref 12, .int (Sm 14 b), .int x, .int (nI p), j] [] zRc S L = some (some (.int (nI (v + 1))), zRc, S, L) ∧ zgo 227 30 [.ref 0, .int (nI b), .int x, .int (nI p)] [] (zRm1 rd) Sm Lm = some (some (.int (nI v)), zRm1 rd, Sm, Lm) := by
    intro d
    induction d with
    | zero =>
      intro p hd x j
      rw [s31_52, s227_30]
      simp (config := {maxSteps := 1000000}) (disch := omega) only [Int32.reduceLT, Int32.reduceLE, Int32.reduceToNatClampNeg, Int32.reduceAdd, Int32.reduceSub, Int32.reduceMul, Nat.reduceLeDiff, zEL, zup_ne, zup_eq, layC, layM1, rowsC, zT0, zT1, zT2, if_true, if_false, S31, S227, a0, m0]
      exact ⟨0, by omega, rfl, rfl⟩
    | succ d ih =>
      intro p hd x j
      have hpc : p < c 0 := by omega
      obtain ⟨e1, e2, -⟩ := hP p hpc
      obtain ⟨e3, -, -, e4, -, -, ⟨o, ho, e5⟩⟩ := g0 p hpc
      rw [s31_52, s227_30]
      simp (config := {maxSteps := 1000000}) (disch := omega) only [Int32.reduceLT, Int32.reduceLE, Int32.reduceToNatClampNeg, Int32.reduceAdd, Int32.reduceSub, Int32.reduceMul, Nat.reduceLeDiff, zEL, zup_ne, zup_eq, layC, layM1, rowsC, zT0, zT1, zT2, if_true, if_false, S31, S227, a0, m0, t214, e1, e2, e3, e4, e5, q1, q2, zKL]
      rcases (show o = 0 ∨ o = 1 by omega) with rfl | rfl
      all_goals simp only [eq_self, if_true, if_false, Nat.zero_ne_one, Nat.one_ne_zero, zEL]
      all_goals repeat' split
      all_goals first | exact ih (p + 1) (by omega) x _ | exact ⟨1, by omega, rfl, rfl⟩
  unfold zcall
  simp (config := {maxSteps := 1000000}) (disch := omega) only [Int32.reduceLT, Int32.reduceLE, Int32.reduceToNatClampNeg, Int32.reduceAdd, Int32.reduceSub, Int32.reduceMul, Nat.reduceLeDiff, zEL, zup_ne, zup_eq, layC, layM1, rowsC, zT0, zT1, zT2, if_true, if_false, S31, S227, q1, q3]
  split <;> exact key (c 0) 0 (by omega) _ _
theorem t29_187 {t : Nat} (hM : zMD c S Sm) (hG : zGD 187 c S (Sm 2)) (ht : t ≤ 1000) : ∃ th w : Nat, th ≤ 20 ∧ w ≤ 9 ∧ Sm 11 3 = nI th ∧ (∀ h, Sm 2 0 = nI h → h < 24 → Sm 12 h = nI (w + 1)) ∧ zcall 29 [.ref 187, .int (nI t)] zRc S L = some (some (.int (if ztw th t w = true then 1 else 0)), zRc, S, L) := by
  obtain ⟨i, h, w, d, hi, hh, hw, hd, e1, e2, e3, e4, e5, e6⟩ := zsnow_187 hM hG
  obtain ⟨-, -, -, ⟨-, -, -, a4, -, -, -, ⟨th, hth, eth⟩⟩, -⟩ := hM
  refine ⟨th, w, hth, hw, eth, fun h' k1 k2 => ?_, ?_⟩
  · rw [e4] at k1
    have := (znI_inj (by omega) (by omega)).mp k1
    subst this
    exact e5
  · have hr : (t + 1) % th ≤ t + 1 := Nat.mod_le _ _
    unfold zcall
    simp (config := {maxSteps := 1000000}) (disch := omega) only [Int32.reduceLT, Int32.reduceLE, Int32.reduceToNatClampNeg, Int32.reduceAdd, Int32.reduceSub, Int32.reduceMul, Nat.reduceLeDiff, zEL, zup_ne, zup_eq, layC, layM1, rowsC, zT0, zT1, zT2, if_true, if_false, S29, e1, e2, a4, eth, znI_rem, zKL]
    repeat' split
    all_goals first | rfl | (exfalso; simp only [ztw_iff] at *; omega)
theorem t228_187 {b t s : Nat} (hM : zMD c S Sm) (hG : zGD 187 c S (Sm 2)) (hb : b < c 1) (hs : s ≤ 9) (ht : t ≤ 1000) {v th w : Nat} (hv : v ≤ 1) (k1 : zcall 227 [.ref 0, .int (nI b)] (zRm1 rd) Sm Lm = some (some (.int (nI v)), zRm1 rd, Sm, Lm)) (hth : th ≤ 20) (hw : w ≤ 9) (eth : Sm 11 3 = nI th) (ew : ∀ h, Sm 2 0 = nI h → h < 24 → Sm 12 h = nI (w + 1)) : zcall 228 [.ref 0, .int (nI b), .int (nI s), .int (nI t)] (zRm1 rd) Sm Lm = some (some (.int (nI (if ztw th t w = true then s - (v + 1) else s))), zRm1 rd, Sm, Lm) := by
  obtain ⟨i, h, w', d, hi, hh, hw', hd, e1, e2, e3, e4, e5, e6⟩ := zsnow_187 hM hG
  have e7 := ew h e4 hh
  have t211 : zcall 211 [.ref 0, .int (nI h)] (zRm1 rd) Sm Lm = some (some (.int (nI w)), zRm1 rd, Sm, Lm) := by
    unfold zcall
    simp (config := {maxSteps := 1000000}) (disch := omega) only [Int32.reduceLT, Int32.reduceLE, Int32.reduceToNatClampNeg, Int32.reduceAdd, Int32.reduceSub, Int32.reduceMul, Nat.reduceLeDiff, zEL, zup_ne, zup_eq, layC, layM1, rowsC, zT0, zT1, zT2, if_true, if_false, S211, e7]
    rw [show nI (w + 1) - 1 = nI w from by rw [show (1 : Int32) = nI 1 from rfl, znI_sub (by omega)]; rfl]
  have hr : (t + 1) % th ≤ t + 1 := Nat.mod_le _ _
  unfold zcall
  rcases (show v = 0 ∨ v = 1 by omega) with rfl | rfl <;> rcases s with _ | _ | s
  all_goals simp (config := {maxSteps := 1000000}) (disch := omega) only [Int32.reduceLT, Int32.reduceLE, Int32.reduceToNatClampNeg, Int32.reduceAdd, Int32.reduceSub, Int32.reduceMul, Nat.reduceLeDiff, zEL, zup_ne, zup_eq, layC, layM1, rowsC, zT0, zT1, zT2, if_true, if_false, S228, e4, t211, eth, znI_rem, zKL, k1, zsb1, zsb0, zsbm, Int32.sub_zero]
  all_goals repeat' split
  all_goals first | rfl | (exfalso; simp only [ztw_iff] at *; omega)
end ZG5
