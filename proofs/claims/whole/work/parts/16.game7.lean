/-! GAMES: goes; throws -/
section ZG7
variable {c : Nat → Nat} {S Sm S0 Sm0 : zS} {L Lm : zL} {rd : Value}
theorem zneq_f {a b : Nat} (h : ¬ a = b) : (a = b) = False := eq_false h
theorem t23_168 {p : Nat} (h : zGJ 168 c S0 Sm0 S Sm) (hp : p < c 0) : ∃ S' Sm', zcall 23 [.ref 168, .int (nI p)] zRc S L = some (none, zRc, S', L) ∧ zcall 223 [.ref 0, .int (nI p)] (zRm1 rd) Sm Lm = some (none, zRm1 rd, Sm', Lm) ∧ zGJ 168 c S0 Sm0 S' Sm' := by
  obtain ⟨⟨b0, b0', b1, -⟩, -, -, ⟨-, ca, cb, -, -, ⟨ln, hln, eln⟩, ⟨tt, htt, htt', ett⟩, -⟩, -, hP, -⟩ := h.1
  obtain ⟨g0, -, -, ⟨g7, ⟨pp, hpp, epp⟩⟩, -, ⟨g10, hwon⟩, -⟩ := h.2.1
  obtain ⟨p1, -, -, -, -, -, ⟨sd, hsd, esd⟩, -⟩ := hP p hp
  obtain ⟨e1, -, -, -, ⟨x, hx, ex⟩, -⟩ := g0 p hp
  have fin1 : ∀ y, y ≤ 19 → zGJ 168 c S0 Sm0 (zup S 170 p (nI y)) (zup Sm 2 (9 + p) (nI y)) := fun y hy => gj_x_168 h hp ⟨y, hy, rfl⟩
  have fin2 : ∀ y v, y ≤ 19 → v = -1 ∨ v = 0 ∨ v = 1 → zGJ 168 c S0 Sm0 (zup (zup S 170 p (nI y)) 168 10 v) (zup (zup Sm 2 (9 + p) (nI y)) 2 3 v) := fun y v hy hv => gj_won_168 (fin1 y hy) hv
  clear hP g0
  rcases (show sd = 0 ∨ sd = 1 by omega) with rfl | rfl
  · have esd : Sm 18 p = 0 := esd
    by_cases hE : 2 * pp < tt
    · by_cases hG : x + 1 ≤ ln
      · refine ⟨_, _, ?_, ?_, fin1 (x + 1) (by omega)⟩ <;> unfold zcall
        all_goals simp (config := {maxSteps := 1000000}) (disch := omega) only [↓reduceIte, Int32.reduceLT, Int32.reduceLE, Int32.reduceToNatClampNeg, Int32.reduceAdd, Int32.reduceSub, Int32.reduceMul, Nat.reduceLeDiff, zEL, zup_ne, zup_eq, zT0, zT1, zT2, if_true, if_false, zneq_f, true_and, and_true, false_and, and_false, zKL, eq_self, Nat.reduceEqDiff, zite0, ite_not, zaddr, zaddl, zputr, zsb1, zsb2, zsb0, zsbm, znm1, gM, g168, layM1, S23, S223, p1, esd, e1, ex, ca, cb, eln, ett, g7, epp, znwn, t173]
      · refine ⟨_, _, ?_, ?_, h⟩ <;> unfold zcall
        · simp (config := {maxSteps := 1000000}) (disch := omega) only [↓reduceIte, Int32.reduceLT, Int32.reduceLE, Int32.reduceToNatClampNeg, Int32.reduceAdd, Int32.reduceSub, Int32.reduceMul, Nat.reduceLeDiff, zEL, zup_ne, zup_eq, zT0, zT1, zT2, if_true, if_false, zneq_f, true_and, and_true, false_and, and_false, zKL, eq_self, Nat.reduceEqDiff, zite0, ite_not, zaddr, zaddl, zputr, zsb1, zsb2, zsb0, zsbm, znm1, gM, g168, S23, p1, esd, e1, ex, ca, cb, eln, ett, g7, epp, znwn]
        · simp (config := {maxSteps := 1000000}) (disch := omega) only [↓reduceIte, Int32.reduceLT, Int32.reduceLE, Int32.reduceToNatClampNeg, Int32.reduceAdd, Int32.reduceSub, Int32.reduceMul, Nat.reduceLeDiff, zEL, zup_ne, zup_eq, zT0, zT1, zT2, if_true, if_false, zneq_f, true_and, and_true, false_and, and_false, zKL, eq_self, Nat.reduceEqDiff, zite0, ite_not, zaddr, zaddl, zputr, zsb1, zsb2, zsb0, zsbm, znm1, layM1, S223, esd, ex, eln, ett, epp, znwn, t173]
          repeat' split
          all_goals first | rfl | (exfalso; omega)
    · rcases (show x + 1 ≤ 18 ∨ x + 1 = 19 ∨ x = 19 by omega) with hG | hG | hG
      · refine ⟨_, _, ?_, ?_, fin1 (x + 1) (by omega)⟩ <;> unfold zcall
        all_goals simp (config := {maxSteps := 1000000}) (disch := omega) only [↓reduceIte, Int32.reduceLT, Int32.reduceLE, Int32.reduceToNatClampNeg, Int32.reduceAdd, Int32.reduceSub, Int32.reduceMul, Nat.reduceLeDiff, zEL, zup_ne, zup_eq, zT0, zT1, zT2, if_true, if_false, zneq_f, true_and, and_true, false_and, and_false, zKL, eq_self, Nat.reduceEqDiff, zite0, ite_not, zaddr, zaddl, zputr, zsb1, zsb2, zsb0, zsbm, znm1, gM, g168, layM1, S23, S223, p1, esd, e1, ex, ca, cb, eln, ett, g7, epp, znwn, t173]
      · rcases hwon with hw | hw | hw
        · rw [hw] at g10
          refine ⟨_, _, ?_, ?_, fin2 (x + 1) 0 (by omega) (.inr (.inl rfl))⟩ <;> unfold zcall
          all_goals simp (config := {maxSteps := 1000000}) (disch := omega) only [↓reduceIte, Int32.reduceLT, Int32.reduceLE, Int32.reduceToNatClampNeg, Int32.reduceAdd, Int32.reduceSub, Int32.reduceMul, Nat.reduceLeDiff, zEL, zup_ne, zup_eq, zT0, zT1, zT2, if_true, if_false, zneq_f, true_and, and_true, false_and, and_false, zKL, eq_self, Nat.reduceEqDiff, zite0, ite_not, zaddr, zaddl, zputr, zsb1, zsb2, zsb0, zsbm, znm1, gM, g168, layM1, S23, S223, p1, esd, e1, ex, ca, cb, eln, ett, g7, epp, znwn, t173, hw, g10, hG]
        all_goals rw [hw] at g10
        all_goals refine ⟨_, _, ?_, ?_, fin1 (x + 1) (by omega)⟩ <;> unfold zcall
        all_goals simp (config := {maxSteps := 1000000}) (disch := omega) only [↓reduceIte, Int32.reduceLT, Int32.reduceLE, Int32.reduceToNatClampNeg, Int32.reduceAdd, Int32.reduceSub, Int32.reduceMul, Nat.reduceLeDiff, zEL, zup_ne, zup_eq, zT0, zT1, zT2, if_true, if_false, zneq_f, true_and, and_true, false_and, and_false, zKL, eq_self, Nat.reduceEqDiff, zite0, ite_not, zaddr, zaddl, zputr, zsb1, zsb2, zsb0, zsbm, znm1, gM, g168, layM1, S23, S223, p1, esd, e1, ex, ca, cb, eln, ett, g7, epp, znwn, t173, hw, g10, hG]
      · subst hG
        refine ⟨_, _, ?_, ?_, h⟩ <;> unfold zcall
        all_goals simp (config := {maxSteps := 1000000}) (disch := omega) only [↓reduceIte, Int32.reduceLT, Int32.reduceLE, Int32.reduceToNatClampNeg, Int32.reduceAdd, Int32.reduceSub, Int32.reduceMul, Nat.reduceLeDiff, zEL, zup_ne, zup_eq, zT0, zT1, zT2, if_true, if_false, zneq_f, true_and, and_true, false_and, and_false, zKL, eq_self, Nat.reduceEqDiff, zite0, ite_not, zaddr, zaddl, zputr, zsb1, zsb2, zsb0, zsbm, znm1, gM, g168, layM1, S23, S223, p1, esd, e1, ex, ca, cb, eln, ett, g7, epp, znwn, t173]
  · have esd : Sm 18 p = 1 := esd
    rcases x with _ | y
    · refine ⟨_, _, ?_, ?_, h⟩ <;> unfold zcall
      · by_cases hE : 2 * pp < tt
        all_goals simp (config := {maxSteps := 1000000}) (disch := omega) only [↓reduceIte, Int32.reduceLT, Int32.reduceLE, Int32.reduceToNatClampNeg, Int32.reduceAdd, Int32.reduceSub, Int32.reduceMul, Nat.reduceLeDiff, zEL, zup_ne, zup_eq, zT0, zT1, zT2, if_true, if_false, zneq_f, true_and, and_true, false_and, and_false, zKL, eq_self, Nat.reduceEqDiff, zite0, ite_not, zaddr, zaddl, zputr, zsb1, zsb2, zsb0, zsbm, znm1, gM, g168, S23, p1, esd, e1, ex, ca, cb, eln, ett, g7, epp, znwn, zm0, z19m]
      · simp (config := {maxSteps := 1000000}) (disch := omega) only [↓reduceIte, Int32.reduceLT, Int32.reduceLE, Int32.reduceToNatClampNeg, Int32.reduceAdd, Int32.reduceSub, Int32.reduceMul, Nat.reduceLeDiff, zEL, zup_ne, zup_eq, zT0, zT1, zT2, if_true, if_false, zneq_f, true_and, and_true, false_and, and_false, zKL, eq_self, Nat.reduceEqDiff, zite0, ite_not, zaddr, zaddl, zputr, zsb1, zsb2, zsb0, zsbm, znm1, layM1, S223, esd, ex, eln, ett, epp, znwn, t173, zm0, zm0l]
        all_goals (split <;> rfl)
    · by_cases hE : 2 * pp < tt
      · by_cases hG : 19 - y ≤ ln
        · refine ⟨_, _, ?_, ?_, fin1 y (by omega)⟩ <;> unfold zcall
          all_goals simp (config := {maxSteps := 1000000}) (disch := omega) only [↓reduceIte, Int32.reduceLT, Int32.reduceLE, Int32.reduceToNatClampNeg, Int32.reduceAdd, Int32.reduceSub, Int32.reduceMul, Nat.reduceLeDiff, zEL, zup_ne, zup_eq, zT0, zT1, zT2, if_true, if_false, zneq_f, true_and, and_true, false_and, and_false, zKL, eq_self, Nat.reduceEqDiff, zite0, ite_not, zaddr, zaddl, zputr, zsb1, zsb2, zsb0, zsbm, znm1, gM, g168, layM1, S23, S223, p1, esd, e1, ex, ca, cb, eln, ett, g7, epp, znwn, t173, zsb2, z19]
        · refine ⟨_, _, ?_, ?_, h⟩ <;> unfold zcall
          all_goals simp (config := {maxSteps := 1000000}) (disch := omega) only [↓reduceIte, Int32.reduceLT, Int32.reduceLE, Int32.reduceToNatClampNeg, Int32.reduceAdd, Int32.reduceSub, Int32.reduceMul, Nat.reduceLeDiff, zEL, zup_ne, zup_eq, zT0, zT1, zT2, if_true, if_false, zneq_f, true_and, and_true, false_and, and_false, zKL, eq_self, Nat.reduceEqDiff, zite0, ite_not, zaddr, zaddl, zputr, zsb1, zsb2, zsb0, zsbm, znm1, gM, g168, layM1, S23, S223, p1, esd, e1, ex, ca, cb, eln, ett, g7, epp, znwn, t173, zsb2, z19]
      · rcases (show 1 ≤ y ∨ y = 0 by omega) with hG | hG
        · refine ⟨_, _, ?_, ?_, fin1 y (by omega)⟩ <;> unfold zcall
          all_goals simp (config := {maxSteps := 1000000}) (disch := omega) only [↓reduceIte, Int32.reduceLT, Int32.reduceLE, Int32.reduceToNatClampNeg, Int32.reduceAdd, Int32.reduceSub, Int32.reduceMul, Nat.reduceLeDiff, zEL, zup_ne, zup_eq, zT0, zT1, zT2, if_true, if_false, zneq_f, true_and, and_true, false_and, and_false, zKL, eq_self, Nat.reduceEqDiff, zite0, ite_not, zaddr, zaddl, zputr, zsb1, zsb2, zsb0, zsbm, znm1, gM, g168, layM1, S23, S223, p1, esd, e1, ex, ca, cb, eln, ett, g7, epp, znwn, t173, zsb2, z19]
        · subst hG
          have ez : nI (0 + 1) + -1 = nI 0 := by decide
          rcases hwon with hw | hw | hw
          · rw [hw] at g10
            refine ⟨_, _, ?_, ?_, fin2 0 1 (by omega) (.inr (.inr rfl))⟩ <;> unfold zcall
            all_goals simp (config := {maxSteps := 1000000}) (disch := omega) only [↓reduceIte, Int32.reduceLT, Int32.reduceLE, Int32.reduceToNatClampNeg, Int32.reduceAdd, Int32.reduceSub, Int32.reduceMul, Nat.reduceLeDiff, zEL, zup_ne, zup_eq, zT0, zT1, zT2, if_true, if_false, zneq_f, true_and, and_true, false_and, and_false, zKL, eq_self, Nat.reduceEqDiff, zite0, ite_not, zaddr, zaddl, zputr, zsb1, zsb2, zsb0, zsbm, znm1, gM, g168, layM1, S23, S223, p1, esd, e1, ex, ca, cb, eln, ett, g7, epp, znwn, t173, ez, z19, hw, g10]
          all_goals rw [hw] at g10
          all_goals refine ⟨_, _, ?_, ?_, fin1 0 (by omega)⟩ <;> unfold zcall
          all_goals simp (config := {maxSteps := 1000000}) (disch := omega) only [↓reduceIte, Int32.reduceLT, Int32.reduceLE, Int32.reduceToNatClampNeg, Int32.reduceAdd, Int32.reduceSub, Int32.reduceMul, Nat.reduceLeDiff, zEL, zup_ne, zup_eq, zT0, zT1, zT2, if_true, if_false, zneq_f, true_and, and_true, false_and, and_false, zKL, eq_self, Nat.reduceEqDiff, zite0, ite_not, zaddr, zaddl, zputr, zsb1, zsb2, zsb0, zsbm, znm1, gM, g168, layM1, S23, S223, p1, esd, e1, ex, ca, cb, eln, ett, g7, epp, znwn, t173, ez, z19, hw, g10]
theorem t23_187 {p : Nat} (h : zGJ 187 c S0 Sm0 S Sm) (hp : p < c 0) : ∃ S' Sm', zcall 23 [.ref 187, .int (nI p)] zRc S L = some (none, zRc, S', L) ∧ zcall 223 [.ref 0, .int (nI p)] (zRm1 rd) Sm Lm = some (none, zRm1 rd, Sm', Lm) ∧ zGJ 187 c S0 Sm0 S' Sm' := by
  obtain ⟨⟨b0, b0', b1, -⟩, -, -, ⟨-, ca, cb, -, -, ⟨ln, hln, eln⟩, ⟨tt, htt, htt', ett⟩, -⟩, -, hP, -⟩ := h.1
  obtain ⟨g0, -, -, ⟨g7, ⟨pp, hpp, epp⟩⟩, -, ⟨g10, hwon⟩, -⟩ := h.2.1
  obtain ⟨p1, -, -, -, -, -, ⟨sd, hsd, esd⟩, -⟩ := hP p hp
  obtain ⟨e1, -, -, -, ⟨x, hx, ex⟩, -⟩ := g0 p hp
  have fin1 : ∀ y, y ≤ 19 → zGJ 187 c S0 Sm0 (zup S 189 p (nI y)) (zup Sm 2 (9 + p) (nI y)) := fun y hy => gj_x_187 h hp ⟨y, hy, rfl⟩
  have fin2 : ∀ y v, y ≤ 19 → v = -1 ∨ v = 0 ∨ v = 1 → zGJ 187 c S0 Sm0 (zup (zup S 189 p (nI y)) 187 10 v) (zup (zup Sm 2 (9 + p) (nI y)) 2 3 v) := fun y v hy hv => gj_won_187 (fin1 y hy) hv
  clear hP g0
  rcases (show sd = 0 ∨ sd = 1 by omega) with rfl | rfl
  · have esd : Sm 18 p = 0 := esd
    by_cases hE : 2 * pp < tt
    · by_cases hG : x + 1 ≤ ln
      · refine ⟨_, _, ?_, ?_, fin1 (x + 1) (by omega)⟩ <;> unfold zcall
        all_goals simp (config := {maxSteps := 1000000}) (disch := omega) only [↓reduceIte, Int32.reduceLT, Int32.reduceLE, Int32.reduceToNatClampNeg, Int32.reduceAdd, Int32.reduceSub, Int32.reduceMul, Nat.reduceLeDiff, zEL, zup_ne, zup_eq, zT0, zT1, zT2, if_true, if_false, zneq_f, true_and, and_true, false_and, and_false, zKL, eq_self, Nat.reduceEqDiff, zite0, ite_not, zaddr, zaddl, zputr, zsb1, zsb2, zsb0, zsbm, znm1, gM, g187, layM1, S23, S223, p1, esd, e1, ex, ca, cb, eln, ett, g7, epp, znwn, t173]
      · refine ⟨_, _, ?_, ?_, h⟩ <;> unfold zcall
        · simp (config := {maxSteps := 1000000}) (disch := omega) only [↓reduceIte, Int32.reduceLT, Int32.reduceLE, Int32.reduceToNatClampNeg, Int32.reduceAdd, Int32.reduceSub, Int32.reduceMul, Nat.reduceLeDiff, zEL, zup_ne, zup_eq, zT0, zT1, zT2, if_true, if_false, zneq_f, true_and, and_true, false_and, and_false, zKL, eq_self, Nat.reduceEqDiff, zite0, ite_not, zaddr, zaddl, zputr, zsb1, zsb2, zsb0, zsbm, znm1, gM, g187, S23, p1, esd, e1, ex, ca, cb, eln, ett, g7, epp, znwn]
        · simp (config := {maxSteps := 1000000}) (disch := omega) only [↓reduceIte, Int32.reduceLT, Int32.reduceLE, Int32.reduceToNatClampNeg, Int32.reduceAdd, Int32.reduceSub, Int32.reduceMul, Nat.reduceLeDiff, zEL, zup_ne, zup_eq, zT0, zT1, zT2, if_true, if_false, zneq_f, true_and, and_true, false_and, and_false, zKL, eq_self, Nat.reduceEqDiff, zite0, ite_not, zaddr, zaddl, zputr, zsb1, zsb2, zsb0, zsbm, znm1, layM1, S223, esd, ex, eln, ett, epp, znwn, t173]
          repeat' split
          all_goals first | rfl | (exfalso; omega)
    · rcases (show x + 1 ≤ 18 ∨ x + 1 = 19 ∨ x = 19 by omega) with hG | hG | hG
      · refine ⟨_, _, ?_, ?_, fin1 (x + 1) (by omega)⟩ <;> unfold zcall
        all_goals simp (config := {maxSteps := 1000000}) (disch := omega) only [↓reduceIte, Int32.reduceLT, Int32.reduceLE, Int32.reduceToNatClampNeg, Int32.reduceAdd, Int32.reduceSub, Int32.reduceMul, Nat.reduceLeDiff, zEL, zup_ne, zup_eq, zT0, zT1, zT2, if_true, if_false, zneq_f, true_and, and_true, false_and, and_false, zKL, eq_self, Nat.reduceEqDiff, zite0, ite_not, zaddr, zaddl, zputr, zsb1, zsb2, zsb0, zsbm, znm1, gM, g187, layM1, S23, S223, p1, esd, e1, ex, ca, cb, eln, ett, g7, epp, znwn, t173]
      · rcases hwon with hw | hw | hw
        · rw [hw] at g10
          refine ⟨_, _, ?_, ?_, fin2 (x + 1) 0 (by omega) (.inr (.inl rfl))⟩ <;> unfold zcall
          all_goals simp (config := {maxSteps := 1000000}) (disch := omega) only [↓reduceIte, Int32.reduceLT, Int32.reduceLE, Int32.reduceToNatClampNeg, Int32.reduceAdd, Int32.reduceSub, Int32.reduceMul, Nat.reduceLeDiff, zEL, zup_ne, zup_eq, zT0, zT1, zT2, if_true, if_false, zneq_f, true_and, and_true, false_and, and_false, zKL, eq_self, Nat.reduceEqDiff, zite0, ite_not, zaddr, zaddl, zputr, zsb1, zsb2, zsb0, zsbm, znm1, gM, g187, layM1, S23, S223, p1, esd, e1, ex, ca, cb, eln, ett, g7, epp, znwn, t173, hw, g10, hG]
        all_goals rw [hw] at g10
        all_goals refine ⟨_, _, ?_, ?_, fin1 (x + 1) (by omega)⟩ <;> unfold zcall
        all_goals simp (config := {maxSteps := 1000000}) (disch := omega) only [↓reduceIte, Int32.reduceLT, Int32.reduceLE, Int32.reduceToNatClampNeg, Int32.reduceAdd, Int32.reduceSub, Int32.reduceMul, Nat.reduceLeDiff, zEL, zup_ne, zup_eq, zT0, zT1, zT2, if_true, if_false, zneq_f, true_and, and_true, false_and, and_false, zKL, eq_self, Nat.reduceEqDiff, zite0, ite_not, zaddr, zaddl, zputr, zsb1, zsb2, zsb0, zsbm, znm1, gM, g187, layM1, S23, S223, p1, esd, e1, ex, ca, cb, eln, ett, g7, epp, znwn, t173, hw, g10, hG]
      · subst hG
        refine ⟨_, _, ?_, ?_, h⟩ <;> unfold zcall
        all_goals simp (config := {maxSteps := 1000000}) (disch := omega) only [↓reduceIte, Int32.reduceLT, Int32.reduceLE, Int32.reduceToNatClampNeg, Int32.reduceAdd, Int32.reduceSub, Int32.reduceMul, Nat.reduceLeDiff, zEL, zup_ne, zup_eq, zT0, zT1, zT2, if_true, if_false, zneq_f, true_and, and_true, false_and, and_false, zKL, eq_self, Nat.reduceEqDiff, zite0, ite_not, zaddr, zaddl, zputr, zsb1, zsb2, zsb0, zsbm, znm1, gM, g187, layM1, S23, S223, p1, esd, e1, ex, ca, cb, eln, ett, g7, epp, znwn, t173]
  · have esd : Sm 18 p = 1 := esd
    rcases x with _ | y
    · refine ⟨_, _, ?_, ?_, h⟩ <;> unfold zcall
      · by_cases hE : 2 * pp < tt
        all_goals simp (config := {maxSteps := 1000000}) (disch := omega) only [↓reduceIte, Int32.reduceLT, Int32.reduceLE, Int32.reduceToNatClampNeg, Int32.reduceAdd, Int32.reduceSub, Int32.reduceMul, Nat.reduceLeDiff, zEL, zup_ne, zup_eq, zT0, zT1, zT2, if_true, if_false, zneq_f, true_and, and_true, false_and, and_false, zKL, eq_self, Nat.reduceEqDiff, zite0, ite_not, zaddr, zaddl, zputr, zsb1, zsb2, zsb0, zsbm, znm1, gM, g187, S23, p1, esd, e1, ex, ca, cb, eln, ett, g7, epp, znwn, zm0, z19m]
      · simp (config := {maxSteps := 1000000}) (disch := omega) only [↓reduceIte, Int32.reduceLT, Int32.reduceLE, Int32.reduceToNatClampNeg, Int32.reduceAdd, Int32.reduceSub, Int32.reduceMul, Nat.reduceLeDiff, zEL, zup_ne, zup_eq, zT0, zT1, zT2, if_true, if_false, zneq_f, true_and, and_true, false_and, and_false, zKL, eq_self, Nat.reduceEqDiff, zite0, ite_not, zaddr, zaddl, zputr, zsb1, zsb2, zsb0, zsbm, znm1, layM1, S223, esd, ex, eln, ett, epp, znwn, t173, zm0, zm0l]
        all_goals (split <;> rfl)
    · by_cases hE : 2 * pp < tt
      · by_cases hG : 19 - y ≤ ln
        · refine ⟨_, _, ?_, ?_, fin1 y (by omega)⟩ <;> unfold zcall
          all_goals simp (config := {maxSteps := 1000000}) (disch := omega) only [↓reduceIte, Int32.reduceLT, Int32.reduceLE, Int32.reduceToNatClampNeg, Int32.reduceAdd, Int32.reduceSub, Int32.reduceMul, Nat.reduceLeDiff, zEL, zup_ne, zup_eq, zT0, zT1, zT2, if_true, if_false, zneq_f, true_and, and_true, false_and, and_false, zKL, eq_self, Nat.reduceEqDiff, zite0, ite_not, zaddr, zaddl, zputr, zsb1, zsb2, zsb0, zsbm, znm1, gM, g187, layM1, S23, S223, p1, esd, e1, ex, ca, cb, eln, ett, g7, epp, znwn, t173, zsb2, z19]
        · refine ⟨_, _, ?_, ?_, h⟩ <;> unfold zcall
          all_goals simp (config := {maxSteps := 1000000}) (disch := omega) only [↓reduceIte, Int32.reduceLT, Int32.reduceLE, Int32.reduceToNatClampNeg, Int32.reduceAdd, Int32.reduceSub, Int32.reduceMul, Nat.reduceLeDiff, zEL, zup_ne, zup_eq, zT0, zT1, zT2, if_true, if_false, zneq_f, true_and, and_true, false_and, and_false, zKL, eq_self, Nat.reduceEqDiff, zite0, ite_not, zaddr, zaddl, zputr, zsb1, zsb2, zsb0, zsbm, znm1, gM, g187, layM1, S23, S223, p1, esd, e1, ex, ca, cb, eln, ett, g7, epp, znwn, t173, zsb2, z19]
      · rcases (show 1 ≤ y ∨ y = 0 by omega) with hG | hG
        · refine ⟨_, _, ?_, ?_, fin1 y (by omega)⟩ <;> unfold zcall
          all_goals simp (config := {maxSteps := 1000000}) (disch := omega) only [↓reduceIte, Int32.reduceLT, Int32.reduceLE, Int32.reduceToNatClampNeg, Int32.reduceAdd, Int32.reduceSub, Int32.reduceMul, Nat.reduceLeDiff, zEL, zup_ne, zup_eq, zT0, zT1, zT2, if_true, if_false, zneq_f, true_and, and_true, false_and, and_false, zKL, eq_self, Nat.reduceEqDiff, zite0, ite_not, zaddr, zaddl, zputr, zsb1, zsb2, zsb0, zsbm, znm1, gM, g187, layM1, S23, S223, p1, esd, e1, ex, ca, cb, eln, ett, g7, epp, znwn, t173, zsb2, z19]
        · subst hG
          have ez : nI (0 + 1) + -1 = nI 0 := by decide
          rcases hwon with hw | hw | hw
          · rw [hw] at g10
            refine ⟨_, _, ?_, ?_, fin2 0 1 (by omega) (.inr (.inr rfl))⟩ <;> unfold zcall
            all_goals simp (config := {maxSteps := 1000000}) (disch := omega) only [↓reduceIte, Int32.reduceLT, Int32.reduceLE, Int32.reduceToNatClampNeg, Int32.reduceAdd, Int32.reduceSub, Int32.reduceMul, Nat.reduceLeDiff, zEL, zup_ne, zup_eq, zT0, zT1, zT2, if_true, if_false, zneq_f, true_and, and_true, false_and, and_false, zKL, eq_self, Nat.reduceEqDiff, zite0, ite_not, zaddr, zaddl, zputr, zsb1, zsb2, zsb0, zsbm, znm1, gM, g187, layM1, S23, S223, p1, esd, e1, ex, ca, cb, eln, ett, g7, epp, znwn, t173, ez, z19, hw, g10]
          all_goals rw [hw] at g10
          all_goals refine ⟨_, _, ?_, ?_, fin1 0 (by omega)⟩ <;> unfold zcall
          all_goals simp (config := {maxSteps := 1000000}) (disch := omega) only [↓reduceIte, Int32.reduceLT, Int32.reduceLE, Int32.reduceToNatClampNeg, Int32.reduceAdd, Int32.reduceSub, Int32.reduceMul, Nat.reduceLeDiff, zEL, zup_ne, zup_eq, zT0, zT1, zT2, if_true, if_false, zneq_f, true_and, and_true, false_and, and_false, zKL, eq_self, Nat.reduceEqDiff, zite0, ite_not, zaddr, zaddl, zputr, zsb1, zsb2, zsb0, zsbm, znm1, gM, g187, layM1, S23, S223, p1, esd, e1, ex, ca, cb, eln, ett, g7, epp, znwn, t173, ez, z19, hw, g10]
end ZG7
