/-! GAMES: rolls, makes, goes -/
section ZG6
variable {c : Nat → Nat} {S Sm S0 Sm0 : zS} {L Lm : zL} {rd : Value}
theorem zaddr {S : zS} {k n a : Nat} {v : Int32} (h : a < n) (hn : n < 2147483648) : zadd S k n (nI a) v = zup S k a (S k a + v) := by
  unfold zadd
  rw [zcl_nI (by omega), if_neg]
  intro h1
  rcases h1 with h1 | h1
  · exact znI_neg (by omega) h1
  · omega
theorem zputr {S : zS} {k n a : Nat} {v : Int32} (h : a < n) (hn : n < 2147483648) : zput S k n (nI a) v = zup S k a v := by
  unfold zput
  rw [zcl_nI (by omega), if_neg]
  intro h1
  rcases h1 with h1 | h1
  · exact znI_neg (by omega) h1
  · omega
theorem zaddl_0 {S : zS} {a : Nat} {v : Int32} : zadd S a 5 0 v = zup S a 0 (S a 0 + v) := by
  unfold zadd
  rw [if_neg (by decide)]
  rfl
theorem zaddl_1 {S : zS} {a : Nat} {v : Int32} : zadd S a 5 1 v = zup S a 1 (S a 1 + v) := by
  unfold zadd
  rw [if_neg (by decide)]
  rfl
theorem zaddl_2 {S : zS} {a : Nat} {v : Int32} : zadd S a 5 2 v = zup S a 2 (S a 2 + v) := by
  unfold zadd
  rw [if_neg (by decide)]
  rfl
theorem zaddl_3 {S : zS} {a : Nat} {v : Int32} : zadd S a 5 3 v = zup S a 3 (S a 3 + v) := by
  unfold zadd
  rw [if_neg (by decide)]
  rfl
theorem zaddl_4 {S : zS} {a : Nat} {v : Int32} : zadd S a 5 4 v = zup S a 4 (S a 4 + v) := by
  unfold zadd
  rw [if_neg (by decide)]
  rfl
def zaddl := And.intro @zaddl_0 (And.intro @zaddl_1 (And.intro @zaddl_2 (And.intro @zaddl_3 @zaddl_4)))
theorem zsb2 {a : Nat} : nI (a + 1) + -1 = nI a := by
  rw [← zsb1 (a := a), Int32.sub_eq_add_neg]
theorem zup_self {α : Type} {S : Nat → Nat → α} {a k : Nat} {v : α} (h : v = S a k) : zup S a k v = S := by
  funext a' k'
  unfold zup
  split
  · rename_i h'
    rw [h, h'.1, h'.2]
  · rfl
theorem zite0 {P : Prop} {_ : Decidable P} : ((if P then (1 : Int32) else 0) = 0) = ¬ P := by
  split
  · rename_i h
    simp only [h, not_true, eq_iff_iff, iff_false]
    decide
  · rename_i h
    simp only [h, not_false_eq_true, eq_iff_iff, iff_true]
theorem znwn {b : Nat} : (2 : Int32) * nI b = nI (2 * b) := by
  rw [show (2 : Int32) = nI 2 from rfl]
  show Int32.ofNat 2 * Int32.ofNat b = Int32.ofNat (2 * b)
  rw [Int32.ofNat_mul]
theorem t173 {v a b : Int32} {R : List zE} : zcall 173 [.int v, .int a, .int b] R S L = some (some (.int (if a ≤ v ∧ v ≤ b then 1 else 0)), R, S, L) := by
  unfold zcall
  simp only [S173, zT0]
  by_cases h1 : v < a
  · simp only [h1, Int32.not_le.mpr h1, if_true, if_false, false_and]
  · by_cases h2 : b < v
    · simp only [h1, h2, Int32.not_le.mpr h2, if_true, if_false, and_false]
    · simp only [h1, h2, Int32.not_lt.mp h1, Int32.not_lt.mp h2, if_true, if_false, true_and]
theorem z19 {x : Nat} (h : x ≤ 19) : (19 : Int32) - nI x = nI (19 - x) := by
  rw [show (19 : Int32) = nI 19 from rfl, znI_sub h]
theorem zm0 : nI 0 + -1 = -1 := by decide
theorem z19m : (19 : Int32) - -1 = nI 20 := by decide
theorem zm0l : ((0 : Int32) ≤ -1) = False := eq_false (by decide)
theorem zm0w {b : Int32} : (-1 ≤ b) = (-1 ≤ b) := rfl
theorem t20_168 {p q : Nat} (hM : zMD c S Sm) (hp : p < c 0) (hq : q < c 0) : zcall 20 [.ref 168, .int (nI p), .int (nI q)] zRc S L = some (some (.int (if Sm 18 p = Sm 18 q then 1 else 0)), zRc, S, L) := by
  obtain ⟨⟨b0, b0', b1, -⟩, ⟨a0, -⟩, ⟨m0, -⟩, -, -, hP, -⟩ := hM
  obtain ⟨p1, -⟩ := hP p hp
  obtain ⟨q1, -⟩ := hP q hq
  unfold zcall
  simp (config := {maxSteps := 1000000}) (disch := omega) only [Int32.reduceLT, Int32.reduceLE, Int32.reduceToNatClampNeg, Int32.reduceAdd, Int32.reduceSub, Int32.reduceMul, Nat.reduceLeDiff, zEL, zup_ne, zup_eq, layC, layM1, rowsC, zT0, zT1, zT2, if_true, if_false, zKL, eq_self, Nat.reduceEqDiff, zite0, ite_not, zaddr, zputr, zsb1, zsb2, zsb0, zsbm, znm1, S20, p1, q1]
  split <;> rfl
theorem t22_168 {p q : Nat} (h : zGJ 168 c S0 Sm0 S Sm) (hp : p < c 0) (hq : q < c 0) : ∃ S' Sm', zcall 22 [.ref 168, .int (nI p), .int (nI q)] zRc S L = some (none, zRc, S', L) ∧ zcall 222 [.ref 0, .int (nI p), .int (nI q)] (zRm1 rd) Sm Lm = some (none, zRm1 rd, Sm', Lm) ∧ zGJ 168 c S0 Sm0 S' Sm' := by
  have t20 := t20_168 (L := L) h.1 hp hq
  obtain ⟨⟨b0, b0', b1, -⟩, ⟨a0, -⟩, ⟨m0, -⟩, ⟨ca, -, -, -, ⟨cc, hc1, hc2, ec⟩, -⟩, -, hP, -⟩ := h.1
  obtain ⟨g0, -⟩ := h.2.1
  obtain ⟨p1, -⟩ := hP p hp
  obtain ⟨q1, -⟩ := hP q hq
  obtain ⟨-, e2, -, e4, -, ⟨bp, hbp, ebp⟩, ⟨op, hop, eop⟩⟩ := g0 p hp
  obtain ⟨-, f2, -, f4, -, ⟨bq, hbq, ebq⟩, ⟨oq, hoq, eoq⟩⟩ := g0 q hq
  have skip : ∃ S' Sm', some ((none : Option Value), zRc, S, L) = some (none, zRc, S', L) ∧ some ((none : Option Value), zRm1 rd, Sm, Lm) = some (none, zRm1 rd, Sm', Lm) ∧ zGJ 168 c S0 Sm0 S' Sm' := ⟨S, Sm, rfl, rfl, h⟩
  by_cases hpq : p = q
  · unfold zcall
    simp (config := {maxSteps := 1000000}) (disch := omega) only [Int32.reduceLT, Int32.reduceLE, Int32.reduceToNatClampNeg, Int32.reduceAdd, Int32.reduceSub, Int32.reduceMul, Nat.reduceLeDiff, zEL, zup_ne, zup_eq, layC, layM1, rowsC, zT0, zT1, zT2, if_true, if_false, zKL, eq_self, Nat.reduceEqDiff, zite0, ite_not, zaddr, zputr, zsb1, zsb2, zsb0, zsbm, znm1, S22, S222, hpq]
    exact skip
  · rcases bp with _ | bp
    · unfold zcall
      simp (config := {maxSteps := 1000000}) (disch := omega) only [Int32.reduceLT, Int32.reduceLE, Int32.reduceToNatClampNeg, Int32.reduceAdd, Int32.reduceSub, Int32.reduceMul, Nat.reduceLeDiff, zEL, zup_ne, zup_eq, layC, layM1, rowsC, zT0, zT1, zT2, if_true, if_false, zKL, eq_self, Nat.reduceEqDiff, zite0, ite_not, zaddr, zputr, zsb1, zsb2, zsb0, zsbm, znm1, S22, S222, t20, t214, e2, e4, f2, f4, ebp, ebq, eop, eoq, hpq, ca, ec, p1, q1]
      repeat' split
      all_goals first | exact skip | (exfalso; omega)
    · unfold zcall
      simp (config := {maxSteps := 1000000}) (disch := omega) only [Int32.reduceLT, Int32.reduceLE, Int32.reduceToNatClampNeg, Int32.reduceAdd, Int32.reduceSub, Int32.reduceMul, Nat.reduceLeDiff, zEL, zup_ne, zup_eq, layC, layM1, rowsC, zT0, zT1, zT2, if_true, if_false, zKL, eq_self, Nat.reduceEqDiff, zite0, ite_not, zaddr, zputr, zsb1, zsb2, zsb0, zsbm, znm1, S22, S222, t20, t214, e2, e4, f2, f4, ebp, ebq, eop, eoq, hpq, ca, ec, p1, q1]
      have fin : bq < cc → zGJ 168 c S0 Sm0 (zup (zup S 172 p (nI bp)) 172 q (nI (bq + 1))) (zup (zup Sm 2 (17 + p) (nI bp)) 2 (17 + q) (nI (bq + 1))) := fun h' => gj_balls_168 (gj_balls_168 h hp ⟨bp, by omega, rfl⟩) hq ⟨bq + 1, by omega, rfl⟩
      repeat' split
      all_goals first | exact skip | exact ⟨_, _, rfl, rfl, fin (by omega)⟩ | (exfalso; omega) | (exfalso; simp_all; done)
theorem t21_168 {k p : Nat} (h : zGJ 168 c S0 Sm0 S Sm) (hp : p < c 0) : ∃ S' Sm', zcall 21 [.ref 168, .int (nI p)] zRc S L = some (none, zRc, S', L) ∧ zGJ 168 c S0 Sm0 S' Sm' ∧ ((k < c 4 ∧ Sm 32 k = nI p ∧ Sm 33 k = 3 ∧ Sm 2 (33 + p) = 0) → zcall 224 [.ref 0, .int (nI k)] (zRm1 rd) Sm Lm = some (none, zRm1 rd, Sm', Lm)) := by
  obtain ⟨n, hn, k1, k2⟩ := t78_168 (L := L) (Lm := Lm) (rd := rd) h.1 h.2.1
  obtain ⟨i, hh, w, d, hi, hhh, hw, hd, e1, e2, e3, e4, e5, e6⟩ := zsnow_168 h.1 h.2.1
  obtain ⟨⟨b0, b0', b1, -, -, c4, -⟩, ⟨a0, -⟩, ⟨m0, -⟩, ⟨ca, -, -, -, ⟨cc, hc1, hc2, ec⟩, -⟩, -, hP, -⟩ := h.1
  obtain ⟨g0, -⟩ := h.2.1
  obtain ⟨-, f2, -, f4, -, ⟨bp, hbp, ebp⟩, ⟨op, hop, eop⟩⟩ := g0 p hp
  rw [e1] at k1
  by_cases hyp : 0 < n ∧ 0 < d ∧ bp < cc
  · refine ⟨_, _, ?_, gj_balls_168 (v := nI (bp + 1)) h hp ⟨bp + 1, by omega, rfl⟩, ?_⟩
    · unfold zcall
      simp (config := {maxSteps := 1000000}) (disch := omega) only [Int32.reduceLT, Int32.reduceLE, Int32.reduceToNatClampNeg, Int32.reduceAdd, Int32.reduceSub, Int32.reduceMul, Nat.reduceLeDiff, zEL, zup_ne, zup_eq, layC, layM1, rowsC, zT0, zT1, zT2, if_true, if_false, zKL, eq_self, Nat.reduceEqDiff, zite0, ite_not, zaddr, zputr, zsb1, zsb2, zsb0, zsbm, znm1, S21, k1, e1, e3, f2, ebp, ca, ec]
      repeat' split
      all_goals first | rfl | (exfalso; omega)
    · rintro ⟨h1, h2, h3, h4⟩
      unfold zcall
      simp (config := {maxSteps := 1000000}) (disch := omega) only [Int32.reduceLT, Int32.reduceLE, Int32.reduceToNatClampNeg, Int32.reduceAdd, Int32.reduceSub, Int32.reduceMul, Nat.reduceLeDiff, zEL, zup_ne, zup_eq, layC, layM1, rowsC, zT0, zT1, zT2, if_true, if_false, zKL, eq_self, Nat.reduceEqDiff, zite0, ite_not, zaddr, zputr, zsb1, zsb2, zsb0, zsbm, znm1, S224, k2, h2, h3, h4, e4, e6, ebp, ec, t214]
  · refine ⟨_, _, ?_, h, ?_⟩
    · unfold zcall
      simp (config := {maxSteps := 1000000}) (disch := omega) only [Int32.reduceLT, Int32.reduceLE, Int32.reduceToNatClampNeg, Int32.reduceAdd, Int32.reduceSub, Int32.reduceMul, Nat.reduceLeDiff, zEL, zup_ne, zup_eq, layC, layM1, rowsC, zT0, zT1, zT2, if_true, if_false, zKL, eq_self, Nat.reduceEqDiff, zite0, ite_not, zaddr, zputr, zsb1, zsb2, zsb0, zsbm, znm1, S21, k1, e1, e3, f2, ebp, ca, ec]
      repeat' split
      all_goals first | rfl | (exfalso; omega)
    · rintro ⟨h1, h2, h3, h4⟩
      unfold zcall
      simp (config := {maxSteps := 1000000}) (disch := omega) only [Int32.reduceLT, Int32.reduceLE, Int32.reduceToNatClampNeg, Int32.reduceAdd, Int32.reduceSub, Int32.reduceMul, Nat.reduceLeDiff, zEL, zup_ne, zup_eq, layC, layM1, rowsC, zT0, zT1, zT2, if_true, if_false, zKL, eq_self, Nat.reduceEqDiff, zite0, ite_not, zaddr, zputr, zsb1, zsb2, zsb0, zsbm, znm1, S224, k2, h2, h3, h4, e4, e6, ebp, ec, t214]
      repeat' split
      all_goals first | rfl | (exfalso; omega)
theorem t20_187 {p q : Nat} (hM : zMD c S Sm) (hp : p < c 0) (hq : q < c 0) : zcall 20 [.ref 187, .int (nI p), .int (nI q)] zRc S L = some (some (.int (if Sm 18 p = Sm 18 q then 1 else 0)), zRc, S, L) := by
  obtain ⟨⟨b0, b0', b1, -⟩, ⟨a0, -⟩, ⟨m0, -⟩, -, -, hP, -⟩ := hM
  obtain ⟨p1, -⟩ := hP p hp
  obtain ⟨q1, -⟩ := hP q hq
  unfold zcall
  simp (config := {maxSteps := 1000000}) (disch := omega) only [Int32.reduceLT, Int32.reduceLE, Int32.reduceToNatClampNeg, Int32.reduceAdd, Int32.reduceSub, Int32.reduceMul, Nat.reduceLeDiff, zEL, zup_ne, zup_eq, layC, layM1, rowsC, zT0, zT1, zT2, if_true, if_false, zKL, eq_self, Nat.reduceEqDiff, zite0, ite_not, zaddr, zputr, zsb1, zsb2, zsb0, zsbm, znm1, S20, p1, q1]
  split <;> rfl
theorem t22_187 {p q : Nat} (h : zGJ 187 c S0 Sm0 S Sm) (hp : p < c 0) (hq : q < c 0) : ∃ S' Sm', zcall 22 [.ref 187, .int (nI p), .int (nI q)] zRc S L = some (none, zRc, S', L) ∧ zcall 222 [.ref 0, .int (nI p), .int (nI q)] (zRm1 rd) Sm Lm = some (none, zRm1 rd, Sm', Lm) ∧ zGJ 187 c S0 Sm0 S' Sm' := by
  have t20 := t20_187 (L := L) h.1 hp hq
  obtain ⟨⟨b0, b0', b1, -⟩, ⟨a0, -⟩, ⟨m0, -⟩, ⟨ca, -, -, -, ⟨cc, hc1, hc2, ec⟩, -⟩, -, hP, -⟩ := h.1
  obtain ⟨g0, -⟩ := h.2.1
  obtain ⟨p1, -⟩ := hP p hp
  obtain ⟨q1, -⟩ := hP q hq
  obtain ⟨-, e2, -, e4, -, ⟨bp, hbp, ebp⟩, ⟨op, hop, eop⟩⟩ := g0 p hp
  obtain ⟨-, f2, -, f4, -, ⟨bq, hbq, ebq⟩, ⟨oq, hoq, eoq⟩⟩ := g0 q hq
  have skip : ∃ S' Sm', some ((none : Option Value), zRc, S, L) = some (none, zRc, S', L) ∧ some ((none : Option Value), zRm1 rd, Sm, Lm) = some (none, zRm1 rd, Sm', Lm) ∧ zGJ 187 c S0 Sm0 S' Sm' := ⟨S, Sm, rfl, rfl, h⟩
  by_cases hpq : p = q
  · unfold zcall
    simp (config := {maxSteps := 1000000}) (disch := omega) only [Int32.reduceLT, Int32.reduceLE, Int32.reduceToNatClampNeg, Int32.reduceAdd, Int32.reduceSub, Int32.reduceMul, Nat.reduceLeDiff, zEL, zup_ne, zup_eq, layC, layM1, rowsC, zT0, zT1, zT2, if_true, if_false, zKL, eq_self, Nat.reduceEqDiff, zite0, ite_not, zaddr, zputr, zsb1, zsb2, zsb0, zsbm, znm1, S22, S222, hpq]
    exact skip
  · rcases bp with _ | bp
    · unfold zcall
      simp (config := {maxSteps := 1000000}) (disch := omega) only [Int32.reduceLT, Int32.reduceLE, Int32.reduceToNatClampNeg, Int32.reduceAdd, Int32.reduceSub, Int32.reduceMul, Nat.reduceLeDiff, zEL, zup_ne, zup_eq, layC, layM1, rowsC, zT0, zT1, zT2, if_true, if_false, zKL, eq_self, Nat.reduceEqDiff, zite0, ite_not, zaddr, zputr, zsb1, zsb2, zsb0, zsbm, znm1, S22, S222, t20, t214, e2, e4, f2, f4, ebp, ebq, eop, eoq, hpq, ca, ec, p1, q1]
      repeat' split
      all_goals first | exact skip | (exfalso; omega)
    · unfold zcall
      simp (config := {maxSteps := 1000000}) (disch := omega) only [Int32.reduceLT, Int32.reduceLE, Int32.reduceToNatClampNeg, Int32.reduceAdd, Int32.reduceSub, Int32.reduceMul, Nat.reduceLeDiff, zEL, zup_ne, zup_eq, layC, layM1, rowsC, zT0, zT1, zT2, if_true, if_false, zKL, eq_self, Nat.reduceEqDiff, zite0, ite_not, zaddr, zputr, zsb1, zsb2, zsb0, zsbm, znm1, S22, S222, t20, t214, e2, e4, f2, f4, ebp, ebq, eop, eoq, hpq, ca, ec, p1, q1]
      have fin : bq < cc → zGJ 187 c S0 Sm0 (zup (zup S 191 p (nI bp)) 191 q (nI (bq + 1))) (zup (zup Sm 2 (17 + p) (nI bp)) 2 (17 + q) (nI (bq + 1))) := fun h' => gj_balls_187 (gj_balls_187 h hp ⟨bp, by omega, rfl⟩) hq ⟨bq + 1, by omega, rfl⟩
      repeat' split
      all_goals first | exact skip | exact ⟨_, _, rfl, rfl, fin (by omega)⟩ | (exfalso; omega) | (exfalso; simp_all; done)
theorem t21_187 {k p : Nat} (h : zGJ 187 c S0 Sm0 S Sm) (hp : p < c 0) : ∃ S' Sm', zcall 21 [.ref 187, .int (nI p)] zRc S L = some (none, zRc, S', L) ∧ zGJ 187 c S0 Sm0 S' Sm' ∧ ((k < c 4 ∧ Sm 32 k = nI p ∧ Sm 33 k = 3 ∧ Sm 2 (33 + p) = 0) → zcall 224 [.ref 0, .int (nI k)] (zRm1 rd) Sm Lm = some (none, zRm1 rd, Sm', Lm)) := by
  obtain ⟨n, hn, k1, k2⟩ := t78_187 (L := L) (Lm := Lm) (rd := rd) h.1 h.2.1
  obtain ⟨i, hh, w, d, hi, hhh, hw, hd, e1, e2, e3, e4, e5, e6⟩ := zsnow_187 h.1 h.2.1
  obtain ⟨⟨b0, b0', b1, -, -, c4, -⟩, ⟨a0, -⟩, ⟨m0, -⟩, ⟨ca, -, -, -, ⟨cc, hc1, hc2, ec⟩, -⟩, -, hP, -⟩ := h.1
  obtain ⟨g0, -⟩ := h.2.1
  obtain ⟨-, f2, -, f4, -, ⟨bp, hbp, ebp⟩, ⟨op, hop, eop⟩⟩ := g0 p hp
  rw [e1] at k1
  by_cases hyp : 0 < n ∧ 0 < d ∧ bp < cc
  · refine ⟨_, _, ?_, gj_balls_187 (v := nI (bp + 1)) h hp ⟨bp + 1, by omega, rfl⟩, ?_⟩
    · unfold zcall
      simp (config := {maxSteps := 1000000}) (disch := omega) only [Int32.reduceLT, Int32.reduceLE, Int32.reduceToNatClampNeg, Int32.reduceAdd, Int32.reduceSub, Int32.reduceMul, Nat.reduceLeDiff, zEL, zup_ne, zup_eq, layC, layM1, rowsC, zT0, zT1, zT2, if_true, if_false, zKL, eq_self, Nat.reduceEqDiff, zite0, ite_not, zaddr, zputr, zsb1, zsb2, zsb0, zsbm, znm1, S21, k1, e1, e3, f2, ebp, ca, ec]
      repeat' split
      all_goals first | rfl | (exfalso; omega)
    · rintro ⟨h1, h2, h3, h4⟩
      unfold zcall
      simp (config := {maxSteps := 1000000}) (disch := omega) only [Int32.reduceLT, Int32.reduceLE, Int32.reduceToNatClampNeg, Int32.reduceAdd, Int32.reduceSub, Int32.reduceMul, Nat.reduceLeDiff, zEL, zup_ne, zup_eq, layC, layM1, rowsC, zT0, zT1, zT2, if_true, if_false, zKL, eq_self, Nat.reduceEqDiff, zite0, ite_not, zaddr, zputr, zsb1, zsb2, zsb0, zsbm, znm1, S224, k2, h2, h3, h4, e4, e6, ebp, ec, t214]
  · refine ⟨_, _, ?_, h, ?_⟩
    · unfold zcall
      simp (config := {maxSteps := 1000000}) (disch := omega) only [Int32.reduceLT, Int32.reduceLE, Int32.reduceToNatClampNeg, Int32.reduceAdd, Int32.reduceSub, Int32.reduceMul, Nat.reduceLeDiff, zEL, zup_ne, zup_eq, layC, layM1, rowsC, zT0, zT1, zT2, if_true, if_false, zKL, eq_self, Nat.reduceEqDiff, zite0, ite_not, zaddr, zputr, zsb1, zsb2, zsb0, zsbm, znm1, S21, k1, e1, e3, f2, ebp, ca, ec]
      repeat' split
      all_goals first | rfl | (exfalso; omega)
    · rintro ⟨h1, h2, h3, h4⟩
      unfold zcall
      simp (config := {maxSteps := 1000000}) (disch := omega) only [Int32.reduceLT, Int32.reduceLE, Int32.reduceToNatClampNeg, Int32.reduceAdd, Int32.reduceSub, Int32.reduceMul, Nat.reduceLeDiff, zEL, zup_ne, zup_eq, layC, layM1, rowsC, zT0, zT1, zT2, if_true, if_false, zKL, eq_self, Nat.reduceEqDiff, zite0, ite_not, zaddr, zputr, zsb1, zsb2, zsb0, zsbm, znm1, S224, k2, h2, h3, h4, e4, e6, ebp, ec, t214]
      repeat' split
      all_goals first | rfl | (exfalso; omega)
end ZG6
