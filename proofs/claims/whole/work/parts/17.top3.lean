/-! A MATCH is told: games -/
section ZT3
variable {c : Nat → Nat} {S Sm : zS} {L Lm : zL} {rd : Value}
theorem t83a_12 {a n : Nat} (h : S 12 7 = nI n) (hn : n < 1000) (ha : a < n) : zcall 83 [.ref 12, .int (nI a)] zRc S L = some (some (.int 1), zRc, S, L) := by
  unfold zcall
  simp (config := {maxSteps := 1000000}) (disch := omega) only [↓reduceIte, Int32.reduceLT, Int32.reduceLE, Int32.reduceToNatClampNeg, Int32.reduceAdd, Int32.reduceSub, Int32.reduceMul, Nat.reduceLeDiff, zEL, zup_ne, zup_eq, zT0, zT1, zT2, if_true, if_false, zneq_f, true_and, and_true, false_and, and_false, zKL, eq_self, Nat.reduceEqDiff, zite0, ite_not, zaddr, zaddl, zputr, zsb1, zsb2, zsb0, zsbm, znm1, gM, ze_83, s83_0, s83_1, s83_4, s83_5, s83_6, s83_9, s83_12, s83_13, s83_16, s83_17, h]
theorem t83b_12 {v : Int32} {n : Nat} (h : S 12 7 = nI n) (hv : ((v < 0) = True ∧ (0 ≤ v) = False) ∨ ((v < 0) = False ∧ (nI n ≤ v) = True)) : zcall 83 [.ref 12, .int v] zRc S L = some (some (.int 0), zRc, S, L) := by
  unfold zcall
  rcases hv with ⟨h1, -⟩ | ⟨h1, h2⟩
  · simp (config := {maxSteps := 1000000}) (disch := omega) only [↓reduceIte, Int32.reduceLT, Int32.reduceLE, Int32.reduceToNatClampNeg, Int32.reduceAdd, Int32.reduceSub, Int32.reduceMul, Nat.reduceLeDiff, zEL, zup_ne, zup_eq, zT0, zT1, zT2, if_true, if_false, zneq_f, true_and, and_true, false_and, and_false, zKL, eq_self, Nat.reduceEqDiff, zite0, ite_not, zaddr, zaddl, zputr, zsb1, zsb2, zsb0, zsbm, znm1, gM, ze_83, s83_0, s83_1, s83_4, s83_5, s83_6, s83_9, s83_12, s83_13, s83_16, s83_17, h, h1]
  · simp (config := {maxSteps := 1000000}) (disch := omega) only [↓reduceIte, Int32.reduceLT, Int32.reduceLE, Int32.reduceToNatClampNeg, Int32.reduceAdd, Int32.reduceSub, Int32.reduceMul, Nat.reduceLeDiff, zEL, zup_ne, zup_eq, zT0, zT1, zT2, if_true, if_false, zneq_f, true_and, and_true, false_and, and_false, zKL, eq_self, Nat.reduceEqDiff, zite0, ite_not, zaddr, zaddl, zputr, zsb1, zsb2, zsb0, zsbm, znm1, gM, ze_83, s83_0, s83_1, s83_4, s83_5, s83_6, s83_9, s83_12, s83_13, s83_16, s83_17, h, h1, h2]
theorem t83a_25 {a n : Nat} (h : S 25 7 = nI n) (hn : n < 1000) (ha : a < n) : zcall 83 [.ref 25, .int (nI a)] zRc S L = some (some (.int 1), zRc, S, L) := by
  unfold zcall
  simp (config := {maxSteps := 1000000}) (disch := omega) only [↓reduceIte, Int32.reduceLT, Int32.reduceLE, Int32.reduceToNatClampNeg, Int32.reduceAdd, Int32.reduceSub, Int32.reduceMul, Nat.reduceLeDiff, zEL, zup_ne, zup_eq, zT0, zT1, zT2, if_true, if_false, zneq_f, true_and, and_true, false_and, and_false, zKL, eq_self, Nat.reduceEqDiff, zite0, ite_not, zaddr, zaddl, zputr, zsb1, zsb2, zsb0, zsbm, znm1, gM, ze_83, s83_0, s83_1, s83_4, s83_5, s83_6, s83_9, s83_12, s83_13, s83_16, s83_17, h]
theorem t83b_25 {v : Int32} {n : Nat} (h : S 25 7 = nI n) (hv : ((v < 0) = True ∧ (0 ≤ v) = False) ∨ ((v < 0) = False ∧ (nI n ≤ v) = True)) : zcall 83 [.ref 25, .int v] zRc S L = some (some (.int 0), zRc, S, L) := by
  unfold zcall
  rcases hv with ⟨h1, -⟩ | ⟨h1, h2⟩
  · simp (config := {maxSteps := 1000000}) (disch := omega) only [↓reduceIte, Int32.reduceLT, Int32.reduceLE, Int32.reduceToNatClampNeg, Int32.reduceAdd, Int32.reduceSub, Int32.reduceMul, Nat.reduceLeDiff, zEL, zup_ne, zup_eq, zT0, zT1, zT2, if_true, if_false, zneq_f, true_and, and_true, false_and, and_false, zKL, eq_self, Nat.reduceEqDiff, zite0, ite_not, zaddr, zaddl, zputr, zsb1, zsb2, zsb0, zsbm, znm1, gM, ze_83, s83_0, s83_1, s83_4, s83_5, s83_6, s83_9, s83_12, s83_13, s83_16, s83_17, h, h1]
  · simp (config := {maxSteps := 1000000}) (disch := omega) only [↓reduceIte, Int32.reduceLT, Int32.reduceLE, Int32.reduceToNatClampNeg, Int32.reduceAdd, Int32.reduceSub, Int32.reduceMul, Nat.reduceLeDiff, zEL, zup_ne, zup_eq, zT0, zT1, zT2, if_true, if_false, zneq_f, true_and, and_true, false_and, and_false, zKL, eq_self, Nat.reduceEqDiff, zite0, ite_not, zaddr, zaddl, zputr, zsb1, zsb2, zsb0, zsbm, znm1, gM, ze_83, s83_0, s83_1, s83_4, s83_5, s83_6, s83_9, s83_12, s83_13, s83_16, s83_17, h, h1, h2]
theorem t83a_38 {a n : Nat} (h : S 38 7 = nI n) (hn : n < 1000) (ha : a < n) : zcall 83 [.ref 38, .int (nI a)] zRc S L = some (some (.int 1), zRc, S, L) := by
  unfold zcall
  simp (config := {maxSteps := 1000000}) (disch := omega) only [↓reduceIte, Int32.reduceLT, Int32.reduceLE, Int32.reduceToNatClampNeg, Int32.reduceAdd, Int32.reduceSub, Int32.reduceMul, Nat.reduceLeDiff, zEL, zup_ne, zup_eq, zT0, zT1, zT2, if_true, if_false, zneq_f, true_and, and_true, false_and, and_false, zKL, eq_self, Nat.reduceEqDiff, zite0, ite_not, zaddr, zaddl, zputr, zsb1, zsb2, zsb0, zsbm, znm1, gM, ze_83, s83_0, s83_1, s83_4, s83_5, s83_6, s83_9, s83_12, s83_13, s83_16, s83_17, h]
theorem t83b_38 {v : Int32} {n : Nat} (h : S 38 7 = nI n) (hv : ((v < 0) = True ∧ (0 ≤ v) = False) ∨ ((v < 0) = False ∧ (nI n ≤ v) = True)) : zcall 83 [.ref 38, .int v] zRc S L = some (some (.int 0), zRc, S, L) := by
  unfold zcall
  rcases hv with ⟨h1, -⟩ | ⟨h1, h2⟩
  · simp (config := {maxSteps := 1000000}) (disch := omega) only [↓reduceIte, Int32.reduceLT, Int32.reduceLE, Int32.reduceToNatClampNeg, Int32.reduceAdd, Int32.reduceSub, Int32.reduceMul, Nat.reduceLeDiff, zEL, zup_ne, zup_eq, zT0, zT1, zT2, if_true, if_false, zneq_f, true_and, and_true, false_and, and_false, zKL, eq_self, Nat.reduceEqDiff, zite0, ite_not, zaddr, zaddl, zputr, zsb1, zsb2, zsb0, zsbm, znm1, gM, ze_83, s83_0, s83_1, s83_4, s83_5, s83_6, s83_9, s83_12, s83_13, s83_16, s83_17, h, h1]
  · simp (config := {maxSteps := 1000000}) (disch := omega) only [↓reduceIte, Int32.reduceLT, Int32.reduceLE, Int32.reduceToNatClampNeg, Int32.reduceAdd, Int32.reduceSub, Int32.reduceMul, Nat.reduceLeDiff, zEL, zup_ne, zup_eq, zT0, zT1, zT2, if_true, if_false, zneq_f, true_and, and_true, false_and, and_false, zKL, eq_self, Nat.reduceEqDiff, zite0, ite_not, zaddr, zaddl, zputr, zsb1, zsb2, zsb0, zsbm, znm1, gM, ze_83, s83_0, s83_1, s83_4, s83_5, s83_6, s83_9, s83_12, s83_13, s83_16, s83_17, h, h1, h2]
theorem t83a_51 {a n : Nat} (h : S 51 7 = nI n) (hn : n < 1000) (ha : a < n) : zcall 83 [.ref 51, .int (nI a)] zRc S L = some (some (.int 1), zRc, S, L) := by
  unfold zcall
  simp (config := {maxSteps := 1000000}) (disch := omega) only [↓reduceIte, Int32.reduceLT, Int32.reduceLE, Int32.reduceToNatClampNeg, Int32.reduceAdd, Int32.reduceSub, Int32.reduceMul, Nat.reduceLeDiff, zEL, zup_ne, zup_eq, zT0, zT1, zT2, if_true, if_false, zneq_f, true_and, and_true, false_and, and_false, zKL, eq_self, Nat.reduceEqDiff, zite0, ite_not, zaddr, zaddl, zputr, zsb1, zsb2, zsb0, zsbm, znm1, gM, ze_83, s83_0, s83_1, s83_4, s83_5, s83_6, s83_9, s83_12, s83_13, s83_16, s83_17, h]
theorem t83b_51 {v : Int32} {n : Nat} (h : S 51 7 = nI n) (hv : ((v < 0) = True ∧ (0 ≤ v) = False) ∨ ((v < 0) = False ∧ (nI n ≤ v) = True)) : zcall 83 [.ref 51, .int v] zRc S L = some (some (.int 0), zRc, S, L) := by
  unfold zcall
  rcases hv with ⟨h1, -⟩ | ⟨h1, h2⟩
  · simp (config := {maxSteps := 1000000}) (disch := omega) only [↓reduceIte, Int32.reduceLT, Int32.reduceLE, Int32.reduceToNatClampNeg, Int32.reduceAdd, Int32.reduceSub, Int32.reduceMul, Nat.reduceLeDiff, zEL, zup_ne, zup_eq, zT0, zT1, zT2, if_true, if_false, zneq_f, true_and, and_true, false_and, and_false, zKL, eq_self, Nat.reduceEqDiff, zite0, ite_not, zaddr, zaddl, zputr, zsb1, zsb2, zsb0, zsbm, znm1, gM, ze_83, s83_0, s83_1, s83_4, s83_5, s83_6, s83_9, s83_12, s83_13, s83_16, s83_17, h, h1]
  · simp (config := {maxSteps := 1000000}) (disch := omega) only [↓reduceIte, Int32.reduceLT, Int32.reduceLE, Int32.reduceToNatClampNeg, Int32.reduceAdd, Int32.reduceSub, Int32.reduceMul, Nat.reduceLeDiff, zEL, zup_ne, zup_eq, zT0, zT1, zT2, if_true, if_false, zneq_f, true_and, and_true, false_and, and_false, zKL, eq_self, Nat.reduceEqDiff, zite0, ite_not, zaddr, zaddl, zputr, zsb1, zsb2, zsb0, zsbm, znm1, gM, ze_83, s83_0, s83_1, s83_4, s83_5, s83_6, s83_9, s83_12, s83_13, s83_16, s83_17, h, h1, h2]
theorem t37a {a n : Nat} (h : S 73 3 = nI n) (hn : n < 1000) (ha : a < n) : zcall 37 [.ref 73, .int (nI a)] zRc S L = some (some (.int 1), zRc, S, L) := by
  unfold zcall
  simp (config := {maxSteps := 1000000}) (disch := omega) only [↓reduceIte, Int32.reduceLT, Int32.reduceLE, Int32.reduceToNatClampNeg, Int32.reduceAdd, Int32.reduceSub, Int32.reduceMul, Nat.reduceLeDiff, zEL, zup_ne, zup_eq, zT0, zT1, zT2, if_true, if_false, zneq_f, true_and, and_true, false_and, and_false, zKL, eq_self, Nat.reduceEqDiff, zite0, ite_not, zaddr, zaddl, zputr, zsb1, zsb2, zsb0, zsbm, znm1, gM, ze_37, s37_0, s37_1, s37_4, s37_5, s37_6, s37_9, s37_12, s37_13, s37_16, s37_17, h]
theorem t37b {v : Int32} {n : Nat} (h : S 73 3 = nI n) (hv : ((v < 0) = True ∧ (0 ≤ v) = False) ∨ ((v < 0) = False ∧ (nI n ≤ v) = True)) : zcall 37 [.ref 73, .int v] zRc S L = some (some (.int 0), zRc, S, L) := by
  unfold zcall
  rcases hv with ⟨h1, -⟩ | ⟨h1, h2⟩
  · simp (config := {maxSteps := 1000000}) (disch := omega) only [↓reduceIte, Int32.reduceLT, Int32.reduceLE, Int32.reduceToNatClampNeg, Int32.reduceAdd, Int32.reduceSub, Int32.reduceMul, Nat.reduceLeDiff, zEL, zup_ne, zup_eq, zT0, zT1, zT2, if_true, if_false, zneq_f, true_and, and_true, false_and, and_false, zKL, eq_self, Nat.reduceEqDiff, zite0, ite_not, zaddr, zaddl, zputr, zsb1, zsb2, zsb0, zsbm, znm1, gM, ze_37, s37_0, s37_1, s37_4, s37_5, s37_6, s37_9, s37_12, s37_13, s37_16, s37_17, h, h1]
  · simp (config := {maxSteps := 1000000}) (disch := omega) only [↓reduceIte, Int32.reduceLT, Int32.reduceLE, Int32.reduceToNatClampNeg, Int32.reduceAdd, Int32.reduceSub, Int32.reduceMul, Nat.reduceLeDiff, zEL, zup_ne, zup_eq, zT0, zT1, zT2, if_true, if_false, zneq_f, true_and, and_true, false_and, and_false, zKL, eq_self, Nat.reduceEqDiff, zite0, ite_not, zaddr, zaddl, zputr, zsb1, zsb2, zsb0, zsbm, znm1, gM, ze_37, s37_0, s37_1, s37_4, s37_5, s37_6, s37_9, s37_12, s37_13, s37_16, s37_17, h, h1, h2]
theorem t236a {a n : Nat} (h : Sm 11 8 = nI n) (hn : n < 1000) (ha : a < n) : zcall 236 [.ref 0, .int (nI a)] (zRm1 rd) Sm Lm = some (some (.int 1), zRm1 rd, Sm, Lm) := by
  unfold zcall
  simp (config := {maxSteps := 1000000}) (disch := omega) only [↓reduceIte, Int32.reduceLT, Int32.reduceLE, Int32.reduceToNatClampNeg, Int32.reduceAdd, Int32.reduceSub, Int32.reduceMul, Nat.reduceLeDiff, zEL, zup_ne, zup_eq, zT0, zT1, zT2, if_true, if_false, zneq_f, true_and, and_true, false_and, and_false, zKL, eq_self, Nat.reduceEqDiff, zite0, ite_not, zaddr, zaddl, zputr, zsb1, zsb2, zsb0, zsbm, znm1, layM1, ze_236, s236_0, s236_1, s236_4, s236_4N, s236_7, s236_8, s236_11, s236_12, s236_13, s236_16, s236_19, s236_22, s236_23, s236_26, s236_27, h]
theorem t236b {v : Int32} {n : Nat} (h : Sm 11 8 = nI n) (hv : ((v < 0) = True ∧ (0 ≤ v) = False) ∨ ((v < 0) = False ∧ (nI n ≤ v) = True)) : zcall 236 [.ref 0, .int v] (zRm1 rd) Sm Lm = some (some (.int 0), zRm1 rd, Sm, Lm) := by
  unfold zcall
  rcases hv with ⟨h1, -⟩ | ⟨h1, h2⟩
  · simp (config := {maxSteps := 1000000}) (disch := omega) only [↓reduceIte, Int32.reduceLT, Int32.reduceLE, Int32.reduceToNatClampNeg, Int32.reduceAdd, Int32.reduceSub, Int32.reduceMul, Nat.reduceLeDiff, zEL, zup_ne, zup_eq, zT0, zT1, zT2, if_true, if_false, zneq_f, true_and, and_true, false_and, and_false, zKL, eq_self, Nat.reduceEqDiff, zite0, ite_not, zaddr, zaddl, zputr, zsb1, zsb2, zsb0, zsbm, znm1, layM1, ze_236, s236_0, s236_1, s236_4, s236_4N, s236_7, s236_8, s236_11, s236_12, s236_13, s236_16, s236_19, s236_22, s236_23, s236_26, s236_27, h, h1]
  · simp (config := {maxSteps := 1000000}) (disch := omega) only [↓reduceIte, Int32.reduceLT, Int32.reduceLE, Int32.reduceToNatClampNeg, Int32.reduceAdd, Int32.reduceSub, Int32.reduceMul, Nat.reduceLeDiff, zEL, zup_ne, zup_eq, zT0, zT1, zT2, if_true, if_false, zneq_f, true_and, and_true, false_and, and_false, zKL, eq_self, Nat.reduceEqDiff, zite0, ite_not, zaddr, zaddl, zputr, zsb1, zsb2, zsb0, zsbm, znm1, layM1, ze_236, s236_0, s236_1, s236_4, s236_4N, s236_7, s236_8, s236_11, s236_12, s236_13, s236_16, s236_19, s236_22, s236_23, s236_26, s236_27, h, h1, h2]
theorem t237a {a n : Nat} (h : Sm 11 7 = nI n) (hn : n < 1000) (ha : a < n) : zcall 237 [.ref 0, .int (nI a)] (zRm1 rd) Sm Lm = some (some (.int 1), zRm1 rd, Sm, Lm) := by
  unfold zcall
  simp (config := {maxSteps := 1000000}) (disch := omega) only [↓reduceIte, Int32.reduceLT, Int32.reduceLE, Int32.reduceToNatClampNeg, Int32.reduceAdd, Int32.reduceSub, Int32.reduceMul, Nat.reduceLeDiff, zEL, zup_ne, zup_eq, zT0, zT1, zT2, if_true, if_false, zneq_f, true_and, and_true, false_and, and_false, zKL, eq_self, Nat.reduceEqDiff, zite0, ite_not, zaddr, zaddl, zputr, zsb1, zsb2, zsb0, zsbm, znm1, layM1, ze_237, s237_0, s237_1, s237_4, s237_4N, s237_7, s237_8, s237_11, s237_12, s237_13, s237_16, s237_19, s237_22, s237_23, s237_26, s237_27, h]
theorem t237b {v : Int32} {n : Nat} (h : Sm 11 7 = nI n) (hv : ((v < 0) = True ∧ (0 ≤ v) = False) ∨ ((v < 0) = False ∧ (nI n ≤ v) = True)) : zcall 237 [.ref 0, .int v] (zRm1 rd) Sm Lm = some (some (.int 0), zRm1 rd, Sm, Lm) := by
  unfold zcall
  rcases hv with ⟨h1, -⟩ | ⟨h1, h2⟩
  · simp (config := {maxSteps := 1000000}) (disch := omega) only [↓reduceIte, Int32.reduceLT, Int32.reduceLE, Int32.reduceToNatClampNeg, Int32.reduceAdd, Int32.reduceSub, Int32.reduceMul, Nat.reduceLeDiff, zEL, zup_ne, zup_eq, zT0, zT1, zT2, if_true, if_false, zneq_f, true_and, and_true, false_and, and_false, zKL, eq_self, Nat.reduceEqDiff, zite0, ite_not, zaddr, zaddl, zputr, zsb1, zsb2, zsb0, zsbm, znm1, layM1, ze_237, s237_0, s237_1, s237_4, s237_4N, s237_7, s237_8, s237_11, s237_12, s237_13, s237_16, s237_19, s237_22, s237_23, s237_26, s237_27, h, h1]
  · simp (config := {maxSteps := 1000000}) (disch := omega) only [↓reduceIte, Int32.reduceLT, Int32.reduceLE, Int32.reduceToNatClampNeg, Int32.reduceAdd, Int32.reduceSub, Int32.reduceMul, Nat.reduceLeDiff, zEL, zup_ne, zup_eq, zT0, zT1, zT2, if_true, if_false, zneq_f, true_and, and_true, false_and, and_false, zKL, eq_self, Nat.reduceEqDiff, zite0, ite_not, zaddr, zaddl, zputr, zsb1, zsb2, zsb0, zsbm, znm1, layM1, ze_237, s237_0, s237_1, s237_4, s237_4N, s237_7, s237_8, s237_11, s237_12, s237_13, s237_16, s237_19, s237_22, s237_23, s237_26, s237_27, h, h1, h2]
theorem t152 {v : Int32} {R : List zE} : zcall 152 [.int v] R S L = some (some (.int (if v = 0 ∨ v = 1 then 1 else 0)), R, S, L) := by
  unfold zcall
  simp (config := {maxSteps := 1000000}) (disch := omega) only [↓reduceIte, Int32.reduceLT, Int32.reduceLE, Int32.reduceToNatClampNeg, Int32.reduceAdd, Int32.reduceSub, Int32.reduceMul, Nat.reduceLeDiff, zEL, zup_ne, zup_eq, zT0, zT1, zT2, if_true, if_false, ze_152, s152_0, s152_1, s152_4, s152_5, s152_6, s152_9, s152_10, s152_13, s152_14]
  by_cases h0 : v = 0
  · simp only [h0, if_true, true_or]
  · by_cases h1 : v = 1
    · simp only [h0, h1, if_true, if_false, or_true]
      rfl
    · simp only [h0, h1, if_false, or_self]
theorem t240m {v : Int32} : zcall 240 [.ref 0, .int v] (zRm1 rd) Sm Lm = some (some (.int (if 0 ≤ v ∧ v ≤ 1 then 1 else 0)), zRm1 rd, Sm, Lm) := by
  unfold zcall
  simp (config := {maxSteps := 1000000}) (disch := omega) only [↓reduceIte, Int32.reduceLT, Int32.reduceLE, Int32.reduceToNatClampNeg, Int32.reduceAdd, Int32.reduceSub, Int32.reduceMul, Nat.reduceLeDiff, zEL, zup_ne, zup_eq, zT0, zT1, zT2, if_true, if_false, zneq_f, true_and, and_true, false_and, and_false, zKL, eq_self, Nat.reduceEqDiff, zite0, ite_not, zaddr, zaddl, zputr, zsb1, zsb2, zsb0, zsbm, znm1, layM1, ze_240, s240_0, s240_1, s240_4, s240_4N, s240_7, s240_8, s240_9, s240_10, s240_13, s240_16, s240_17, s240_20, s240_21, t173]
  split <;> simp_all
theorem zTM_g {S' Sm' : zS} (h : zTM c S Sm) (hM : zMD c S' Sm') (hG : zGD 168 c S' (Sm' 2)) (h1 : ∀ j k, (j < 168 ∨ 186 < j) → S' j k = S j k) (h2 : ∀ j k, j ≠ 2 → j ≠ 5 → j ≠ 6 → Sm' j k = Sm j k) : zTM c S' Sm' := by
  obtain ⟨⟨a1, a2, a3, n, hn, a4, a5, a6⟩, b1, hM0, hG0, ⟨mk, hmk, m1, m2, m3⟩, ⟨se, hse, s1, s2, s3, s4⟩, ro⟩ := h
  have b0 : c 0 ≤ 8 := hM.1.2.1
  have b2 : c 1 ≤ 8 := hM.1.2.2.1
  have e0 : ∀ k, S' 0 k = S 0 k := fun k => h1 0 k (by omega)
  have e1 : ∀ k, Sm' 0 k = Sm 0 k := fun k => h2 0 k (by decide) (by decide) (by decide)
  refine ⟨⟨?_, ?_, ?_, n, hn, ?_, ?_, fun i hi => ?_⟩, ?_, hM, hG, ⟨mk, hmk, ?_, ?_, fun m hm => ?_⟩, ⟨se, hse, ?_, ?_, fun k hk => ?_, fun a ha => ?_⟩, zRO_fr ro (fun j k hj => h1 j k (by omega))⟩
  · rw [e0, e1]
    exact a1
  · rw [e0, e0, e1]
    exact a2
  · rw [e0, e1]
    exact a3
  · rw [h1 _ _ (by omega)]
    exact a4
  · rw [e1]
    exact a5
  · rw [h1 _ _ (by omega), h2 _ _ (by omega) (by omega) (by omega)]
    exact a6 i hi
  · rw [e0]
    exact b1
  · rw [e0]
    exact m1
  · rw [e1]
    exact m2
  · exact zGD_fr (m3 m hm) b0 b2 (fun j k hj => h1 j k (by omega)) (fun k hk => h2 3 _ (by omega) (by omega) (by omega))
  · rw [e0]
    exact s1
  · rw [e1]
    exact s2
  · rw [h2 _ _ (by omega) (by omega) (by omega)]
    exact s3 k hk
  · rw [h1 _ _ (by omega)]
    have e : Sm' 10 = Sm 10 := funext fun k => h2 10 k (by omega) (by omega) (by omega)
    rw [e]
    exact s4 a ha
/-! fault, where, trouble -/
theorem m_105 (h : zTM c S Sm) : ∃ v : Int32, ∃ Sm' : zS, zcall 105 [.ref 0] zRc S L = some (some (.int v), zRc, S, L) ∧ zcall 205 [.ref 0] (zRm1 rd) Sm Lm = some (some (.int v), zRm1 rd, Sm', Lm) ∧ zTM c S Sm' := by
  have h' := zTM_t (v := 0) h
  have e := h.1.2.2.1
  refine ⟨Sm 0 13, _, ?_, ?_, h'⟩ <;> unfold zcall
  · simp (config := {maxSteps := 1000000}) (disch := omega) only [↓reduceIte, Int32.reduceLT, Int32.reduceLE, Int32.reduceToNatClampNeg, Int32.reduceAdd, Int32.reduceSub, Int32.reduceMul, Nat.reduceLeDiff, zEL, zup_ne, zup_eq, zT0, zT1, zT2, if_true, if_false, zneq_f, true_and, and_true, false_and, and_false, zKL, eq_self, Nat.reduceEqDiff, zite0, ite_not, zaddr, zaddl, zputr, zsb1, zsb2, zsb0, zsbm, znm1, gX, S105, e]
    all_goals rfl
  · simp (config := {maxSteps := 1000000}) (disch := omega) only [↓reduceIte, Int32.reduceLT, Int32.reduceLE, Int32.reduceToNatClampNeg, Int32.reduceAdd, Int32.reduceSub, Int32.reduceMul, Nat.reduceLeDiff, zEL, zup_ne, zup_eq, zT0, zT1, zT2, if_true, if_false, zneq_f, true_and, and_true, false_and, and_false, zKL, eq_self, Nat.reduceEqDiff, zite0, ite_not, zaddr, zaddl, zputr, zsb1, zsb2, zsb0, zsbm, znm1, layM1, S205]
theorem m_106 (h : zTM c S Sm) : ∃ v : Int32, ∃ Sm' : zS, zcall 106 [.ref 0] zRc S L = some (some (.int v), zRc, S, L) ∧ zcall 206 [.ref 0] (zRm1 rd) Sm Lm = some (some (.int v), zRm1 rd, Sm', Lm) ∧ zTM c S Sm' := by
  have h' := zTM_t (v := 0) h
  have e := h.1.2.1
  refine ⟨Sm 0 2, _, ?_, ?_, h'⟩ <;> unfold zcall
  · rw [← e]
    simp (config := {maxSteps := 1000000}) (disch := omega) only [↓reduceIte, Int32.reduceLT, Int32.reduceLE, Int32.reduceToNatClampNeg, Int32.reduceAdd, Int32.reduceSub, Int32.reduceMul, Nat.reduceLeDiff, zEL, zup_ne, zup_eq, zT0, zT1, zT2, if_true, if_false, zneq_f, true_and, and_true, false_and, and_false, zKL, eq_self, Nat.reduceEqDiff, zite0, ite_not, zaddr, zaddl, zputr, zsb1, zsb2, zsb0, zsbm, znm1, gX, S106]
    split <;> rfl
  · simp (config := {maxSteps := 1000000}) (disch := omega) only [↓reduceIte, Int32.reduceLT, Int32.reduceLE, Int32.reduceToNatClampNeg, Int32.reduceAdd, Int32.reduceSub, Int32.reduceMul, Nat.reduceLeDiff, zEL, zup_ne, zup_eq, zT0, zT1, zT2, if_true, if_false, zneq_f, true_and, and_true, false_and, and_false, zKL, eq_self, Nat.reduceEqDiff, zite0, ite_not, zaddr, zaddl, zputr, zsb1, zsb2, zsb0, zsbm, znm1, layM1, S206]
theorem m_147 (h : zTM c S Sm) : ∃ v : Int32, ∃ Sm' : zS, zcall 147 [.ref 0] zRc S L = some (some (.int v), zRc, S, L) ∧ zcall 291 [.ref 0] (zRm1 rd) Sm Lm = some (some (.int v), zRm1 rd, Sm', Lm) ∧ zTM c S Sm' := by
  have h' := zTM_t (v := 0) h
  have e := h.1.1
  refine ⟨Sm 0 1, _, ?_, ?_, h'⟩ <;> unfold zcall
  · simp (config := {maxSteps := 1000000}) (disch := omega) only [↓reduceIte, Int32.reduceLT, Int32.reduceLE, Int32.reduceToNatClampNeg, Int32.reduceAdd, Int32.reduceSub, Int32.reduceMul, Nat.reduceLeDiff, zEL, zup_ne, zup_eq, zT0, zT1, zT2, if_true, if_false, zneq_f, true_and, and_true, false_and, and_false, zKL, eq_self, Nat.reduceEqDiff, zite0, ite_not, zaddr, zaddl, zputr, zsb1, zsb2, zsb0, zsbm, znm1, gX, S147, e]
    all_goals rfl
  · simp (config := {maxSteps := 1000000}) (disch := omega) only [↓reduceIte, Int32.reduceLT, Int32.reduceLE, Int32.reduceToNatClampNeg, Int32.reduceAdd, Int32.reduceSub, Int32.reduceMul, Nat.reduceLeDiff, zEL, zup_ne, zup_eq, zT0, zT1, zT2, if_true, if_false, zneq_f, true_and, and_true, false_and, and_false, zKL, eq_self, Nat.reduceEqDiff, zite0, ite_not, zaddr, zaddl, zputr, zsb1, zsb2, zsb0, zsbm, znm1, layM1, S291]
/-! games -/
theorem m_111 (h : zTM c S Sm) : ∃ v : Int32, ∃ S' Sm' : zS, zcall 111 [.ref 0] zRc S L = some (some (.int v), zRc, S', L) ∧ zcall 233 [.ref 0] (zRm1 rd) Sm Lm = some (some (.int v), zRm1 rd, Sm', Lm) ∧ zTM c S' Sm' := by
  have h' := zTM_t (v := 0) h
  obtain ⟨v, hv, k1, k2, -⟩ := t14_168 (L := L) (Lm := Lm) (rd := rd) h'.2.2.1 h'.2.2.2.1
  have b1 := h.2.1
  refine ⟨v, _, _, ?_, ?_, zTM_d 0 (by decide) h'⟩ <;> unfold zcall
  · rcases hv with rfl | rfl
    all_goals simp (config := {maxSteps := 1000000}) (disch := omega) only [↓reduceIte, Int32.reduceLT, Int32.reduceLE, Int32.reduceToNatClampNeg, Int32.reduceAdd, Int32.reduceSub, Int32.reduceMul, Nat.reduceLeDiff, zEL, zup_ne, zup_eq, zT0, zT1, zT2, if_true, if_false, zneq_f, true_and, and_true, false_and, and_false, zKL, eq_self, Nat.reduceEqDiff, zite0, ite_not, zaddr, zaddl, zputr, zsb1, zsb2, zsb0, zsbm, znm1, gX, g168, tEC, S111, b1, k1]
  · rcases hv with rfl | rfl
    all_goals simp (config := {maxSteps := 1000000}) (disch := omega) only [↓reduceIte, Int32.reduceLT, Int32.reduceLE, Int32.reduceToNatClampNeg, Int32.reduceAdd, Int32.reduceSub, Int32.reduceMul, Nat.reduceLeDiff, zEL, zup_ne, zup_eq, zT0, zT1, zT2, if_true, if_false, zneq_f, true_and, and_true, false_and, and_false, zKL, eq_self, Nat.reduceEqDiff, zite0, ite_not, zaddr, zaddl, zputr, zsb1, zsb2, zsb0, zsbm, znm1, layM1, tEM1, S233, k2]
theorem m_112 (h : zTM c S Sm) : ∃ v : Int32, ∃ S' Sm' : zS, zcall 112 [.ref 0] zRc S L = some (some (.int v), zRc, S', L) ∧ zcall 235 [.ref 0] (zRm1 rd) Sm Lm = some (some (.int v), zRm1 rd, Sm', Lm) ∧ zTM c S' Sm' := by
  have h' := zTM_t (v := 0) h
  obtain ⟨v, hv, k1, k2, -⟩ := t14_168 (L := L) (Lm := Lm) (rd := rd) h'.2.2.1 h'.2.2.2.1
  obtain ⟨w, hw, k3, k4⟩ := t16_168 (L := L) (Lm := Lm) (rd := rd) h'.2.2.1 h'.2.2.2.1
  have b1 := h.2.1
  rcases hv with rfl | rfl
  · refine ⟨-1, _, _, ?_, ?_, zTM_d 5 (by decide) h'⟩ <;> unfold zcall
    · simp (config := {maxSteps := 1000000}) (disch := omega) only [↓reduceIte, Int32.reduceLT, Int32.reduceLE, Int32.reduceToNatClampNeg, Int32.reduceAdd, Int32.reduceSub, Int32.reduceMul, Nat.reduceLeDiff, zEL, zup_ne, zup_eq, zT0, zT1, zT2, if_true, if_false, zneq_f, true_and, and_true, false_and, and_false, zKL, eq_self, Nat.reduceEqDiff, zite0, ite_not, zaddr, zaddl, zputr, zsb1, zsb2, zsb0, zsbm, znm1, gX, g168, tEC, S112, b1, k1]
      all_goals rfl
    · simp (config := {maxSteps := 1000000}) (disch := omega) only [↓reduceIte, Int32.reduceLT, Int32.reduceLE, Int32.reduceToNatClampNeg, Int32.reduceAdd, Int32.reduceSub, Int32.reduceMul, Nat.reduceLeDiff, zEL, zup_ne, zup_eq, zT0, zT1, zT2, if_true, if_false, zneq_f, true_and, and_true, false_and, and_false, zKL, eq_self, Nat.reduceEqDiff, zite0, ite_not, zaddr, zaddl, zputr, zsb1, zsb2, zsb0, zsbm, znm1, layM1, tEM1, S235, k2]
  · refine ⟨w, _, _, ?_, ?_, zTM_d 0 (by decide) h'⟩ <;> unfold zcall
    · simp (config := {maxSteps := 1000000}) (disch := omega) only [↓reduceIte, Int32.reduceLT, Int32.reduceLE, Int32.reduceToNatClampNeg, Int32.reduceAdd, Int32.reduceSub, Int32.reduceMul, Nat.reduceLeDiff, zEL, zup_ne, zup_eq, zT0, zT1, zT2, if_true, if_false, zneq_f, true_and, and_true, false_and, and_false, zKL, eq_self, Nat.reduceEqDiff, zite0, ite_not, zaddr, zaddl, zputr, zsb1, zsb2, zsb0, zsbm, znm1, gX, g168, tEC, S112, b1, k1, k3]
    · simp (config := {maxSteps := 1000000}) (disch := omega) only [↓reduceIte, Int32.reduceLT, Int32.reduceLE, Int32.reduceToNatClampNeg, Int32.reduceAdd, Int32.reduceSub, Int32.reduceMul, Nat.reduceLeDiff, zEL, zup_ne, zup_eq, zT0, zT1, zT2, if_true, if_false, zneq_f, true_and, and_true, false_and, and_false, zKL, eq_self, Nat.reduceEqDiff, zite0, ite_not, zaddr, zaddl, zputr, zsb1, zsb2, zsb0, zsbm, znm1, layM1, tEM1, S235, k2, k4]
theorem m_109 (h : zTM c S Sm) : ∃ v : Int32, ∃ S' Sm' : zS, zcall 109 [.ref 0] zRc S L = some (some (.int v), zRc, S', L) ∧ zcall 230 [.ref 0] (zRm1 rd) Sm Lm = some (some (.int v), zRm1 rd, Sm', Lm) ∧ zTM c S' Sm' := by
  have h' := zTM_t (v := 0) h
  obtain ⟨v, hv, k1, k2, k3⟩ := t14_168 (L := L) (Lm := Lm) (rd := rd) h'.2.2.1 h'.2.2.2.1
  have b1 := h.2.1
  rcases hv with rfl | rfl
  · obtain ⟨g7, t, ht, et⟩ := h'.2.2.2.1.2.2.2.1
    have ht9 := k3 rfl t ht et
    obtain ⟨S1, Sm1, r1, r2, r3, r4⟩ := t18_168 (L := L) (Lm := Lm) (rd := rd) h'.2.2.1 h'.2.2.2.1 (g7.trans et) (by omega)
    have h1 : zTM c S1 Sm1 := zTM_g h' r3.1 r3.2.1 (fun j k hj => r3.2.2.1 j k (by omega)) r3.2.2.2
    have r5 : Sm1 2 2 = nI (t + 1) := r3.2.1.2.2.2.1.1.symm.trans r4
    refine ⟨nI (t + 1), _, _, ?_, ?_, zTM_d 0 (by decide) h1⟩ <;> unfold zcall
    · simp (config := {maxSteps := 1000000}) (disch := omega) only [↓reduceIte, Int32.reduceLT, Int32.reduceLE, Int32.reduceToNatClampNeg, Int32.reduceAdd, Int32.reduceSub, Int32.reduceMul, Nat.reduceLeDiff, zEL, zup_ne, zup_eq, zT0, zT1, zT2, if_true, if_false, zneq_f, true_and, and_true, false_and, and_false, zKL, eq_self, Nat.reduceEqDiff, zite0, ite_not, zaddr, zaddl, zputr, zsb1, zsb2, zsb0, zsbm, znm1, gX, g168, tEC, S109, b1, k1, r1, r4]
      all_goals rfl
    · simp (config := {maxSteps := 1000000}) (disch := omega) only [↓reduceIte, Int32.reduceLT, Int32.reduceLE, Int32.reduceToNatClampNeg, Int32.reduceAdd, Int32.reduceSub, Int32.reduceMul, Nat.reduceLeDiff, zEL, zup_ne, zup_eq, zT0, zT1, zT2, if_true, if_false, zneq_f, true_and, and_true, false_and, and_false, zKL, eq_self, Nat.reduceEqDiff, zite0, ite_not, zaddr, zaddl, zputr, zsb1, zsb2, zsb0, zsbm, znm1, layM1, tEM1, S230, k2, r2, r5]
  · refine ⟨-1, _, _, ?_, ?_, zTM_d 5 (by decide) h'⟩ <;> unfold zcall
    · simp (config := {maxSteps := 1000000}) (disch := omega) only [↓reduceIte, Int32.reduceLT, Int32.reduceLE, Int32.reduceToNatClampNeg, Int32.reduceAdd, Int32.reduceSub, Int32.reduceMul, Nat.reduceLeDiff, zEL, zup_ne, zup_eq, zT0, zT1, zT2, if_true, if_false, zneq_f, true_and, and_true, false_and, and_false, zKL, eq_self, Nat.reduceEqDiff, zite0, ite_not, zaddr, zaddl, zputr, zsb1, zsb2, zsb0, zsbm, znm1, gX, g168, tEC, S109, b1, k1]
      all_goals rfl
    · simp (config := {maxSteps := 1000000}) (disch := omega) only [↓reduceIte, Int32.reduceLT, Int32.reduceLE, Int32.reduceToNatClampNeg, Int32.reduceAdd, Int32.reduceSub, Int32.reduceMul, Nat.reduceLeDiff, zEL, zup_ne, zup_eq, zT0, zT1, zT2, if_true, if_false, zneq_f, true_and, and_true, false_and, and_false, zKL, eq_self, Nat.reduceEqDiff, zite0, ite_not, zaddr, zaddl, zputr, zsb1, zsb2, zsb0, zsbm, znm1, layM1, tEM1, S230, k2]
theorem m_110 (h : zTM c S Sm) : ∃ v : Int32, ∃ S' Sm' : zS, zcall 110 [.ref 0] zRc S L = some (some (.int v), zRc, S', L) ∧ zcall 232 [.ref 0] (zRm1 rd) Sm Lm = some (some (.int v), zRm1 rd, Sm', Lm) ∧ zTM c S' Sm' := by
  have h' := zTM_t (v := 0) h
  have b1 := h.2.1
  obtain ⟨n, hn, S1, Sm1, r1, r2, r3⟩ := t17_168 (L := L) (Lm := Lm) (rd := rd) h'.2.2.1 h'.2.2.2.1
  have h1 : zTM c S1 Sm1 := zTM_g h' r3.1 r3.2.1 (fun j k hj => r3.2.2.1 j k (by omega)) r3.2.2.2
  refine ⟨nI n, _, _, ?_, ?_, zTM_d 0 (by decide) h1⟩ <;> unfold zcall
  · simp (config := {maxSteps := 1000000}) (disch := omega) only [↓reduceIte, Int32.reduceLT, Int32.reduceLE, Int32.reduceToNatClampNeg, Int32.reduceAdd, Int32.reduceSub, Int32.reduceMul, Nat.reduceLeDiff, zEL, zup_ne, zup_eq, zT0, zT1, zT2, if_true, if_false, zneq_f, true_and, and_true, false_and, and_false, zKL, eq_self, Nat.reduceEqDiff, zite0, ite_not, zaddr, zaddl, zputr, zsb1, zsb2, zsb0, zsbm, znm1, gX, g168, tEC, S110, b1, r1]
    all_goals rfl
  · simp (config := {maxSteps := 1000000}) (disch := omega) only [↓reduceIte, Int32.reduceLT, Int32.reduceLE, Int32.reduceToNatClampNeg, Int32.reduceAdd, Int32.reduceSub, Int32.reduceMul, Nat.reduceLeDiff, zEL, zup_ne, zup_eq, zT0, zT1, zT2, if_true, if_false, zneq_f, true_and, and_true, false_and, and_false, zKL, eq_self, Nat.reduceEqDiff, zite0, ite_not, zaddr, zaddl, zputr, zsb1, zsb2, zsb0, zsbm, znm1, layM1, tEM1, S232, r2]
theorem m_107 {v : Int32} (h : zTM c S Sm) : ∃ w : Int32, ∃ S' Sm' : zS, zcall 107 [.ref 0, .int v] zRc S L = some (some (.int w), zRc, S', L) ∧ zcall 208 [.ref 0, .int v] (zRm1 rd) Sm Lm = some (some (.int w), zRm1 rd, Sm', Lm) ∧ zTM c S' Sm' := by
  have h' := zTM_t (v := 0) h
  have b1 := h.2.1
  rcases zrng v 65536 (by omega) 65536 65537 rfl rfl with ⟨n, hn, rfl, a1, a2, a3, a4, a5, a6⟩ | ⟨a1, a2, a3, a4, a5, a6⟩ | ⟨a1, a2, a3, a4, a5, a6⟩
  · obtain ⟨-, -, -, -, -, -, ⟨i, hh, i1, i2, i3, i4, i5, i6⟩⟩ := h'.2.2.2.1
    obtain ⟨S1, Sm1, r1, r2, r3, r4, r5, r6, -⟩ := t12_168 (L := L) (Lm := Lm) (rd := rd) h'.2.2.1 hn i1 i2 i4 i6 i5
    have h1 : zTM c S1 Sm1 := zTM_g h' r3 r4 (fun j k hj => r5 j k (by omega)) (fun j k h2 _ _ => r6 j k h2)
    refine ⟨1, _, _, ?_, ?_, zTM_d 0 (by decide) h1⟩ <;> unfold zcall
    · simp (config := {maxSteps := 1000000}) (disch := omega) only [↓reduceIte, Int32.reduceLT, Int32.reduceLE, Int32.reduceToNatClampNeg, Int32.reduceAdd, Int32.reduceSub, Int32.reduceMul, Nat.reduceLeDiff, zEL, zup_ne, zup_eq, zT0, zT1, zT2, if_true, if_false, zneq_f, true_and, and_true, false_and, and_false, zKL, eq_self, Nat.reduceEqDiff, zite0, ite_not, zaddr, zaddl, zputr, zsb1, zsb2, zsb0, zsbm, znm1, gX, g168, tEC, S107, b1, a1, a6, i3, r1]
      all_goals rfl
    · simp (config := {maxSteps := 1000000}) (disch := omega) only [↓reduceIte, Int32.reduceLT, Int32.reduceLE, Int32.reduceToNatClampNeg, Int32.reduceAdd, Int32.reduceSub, Int32.reduceMul, Nat.reduceLeDiff, zEL, zup_ne, zup_eq, zT0, zT1, zT2, if_true, if_false, zneq_f, true_and, and_true, false_and, and_false, zKL, eq_self, Nat.reduceEqDiff, zite0, ite_not, zaddr, zaddl, zputr, zsb1, zsb2, zsb0, zsbm, znm1, layM1, tEM1, S208, t173, a2, a3, r2]
  · refine ⟨0, _, _, ?_, ?_, zTM_d 2 (by decide) h'⟩ <;> unfold zcall
    · simp (config := {maxSteps := 1000000}) (disch := omega) only [↓reduceIte, Int32.reduceLT, Int32.reduceLE, Int32.reduceToNatClampNeg, Int32.reduceAdd, Int32.reduceSub, Int32.reduceMul, Nat.reduceLeDiff, zEL, zup_ne, zup_eq, zT0, zT1, zT2, if_true, if_false, zneq_f, true_and, and_true, false_and, and_false, zKL, eq_self, Nat.reduceEqDiff, zite0, ite_not, zaddr, zaddl, zputr, zsb1, zsb2, zsb0, zsbm, znm1, gX, g168, tEC, S107, b1, a1]
      all_goals rfl
    · simp (config := {maxSteps := 1000000}) (disch := omega) only [↓reduceIte, Int32.reduceLT, Int32.reduceLE, Int32.reduceToNatClampNeg, Int32.reduceAdd, Int32.reduceSub, Int32.reduceMul, Nat.reduceLeDiff, zEL, zup_ne, zup_eq, zT0, zT1, zT2, if_true, if_false, zneq_f, true_and, and_true, false_and, and_false, zKL, eq_self, Nat.reduceEqDiff, zite0, ite_not, zaddr, zaddl, zputr, zsb1, zsb2, zsb0, zsbm, znm1, layM1, tEM1, S208, t173, a2]
  · refine ⟨0, _, _, ?_, ?_, zTM_d 2 (by decide) h'⟩ <;> unfold zcall
    · simp (config := {maxSteps := 1000000}) (disch := omega) only [↓reduceIte, Int32.reduceLT, Int32.reduceLE, Int32.reduceToNatClampNeg, Int32.reduceAdd, Int32.reduceSub, Int32.reduceMul, Nat.reduceLeDiff, zEL, zup_ne, zup_eq, zT0, zT1, zT2, if_true, if_false, zneq_f, true_and, and_true, false_and, and_false, zKL, eq_self, Nat.reduceEqDiff, zite0, ite_not, zaddr, zaddl, zputr, zsb1, zsb2, zsb0, zsbm, znm1, gX, g168, tEC, S107, b1, a1, a6]
      all_goals rfl
    · simp (config := {maxSteps := 1000000}) (disch := omega) only [↓reduceIte, Int32.reduceLT, Int32.reduceLE, Int32.reduceToNatClampNeg, Int32.reduceAdd, Int32.reduceSub, Int32.reduceMul, Nat.reduceLeDiff, zEL, zup_ne, zup_eq, zT0, zT1, zT2, if_true, if_false, zneq_f, true_and, and_true, false_and, and_false, zKL, eq_self, Nat.reduceEqDiff, zite0, ite_not, zaddr, zaddl, zputr, zsb1, zsb2, zsb0, zsbm, znm1, layM1, tEM1, S208, t173, a3]
theorem m_113 {p v : Int32} (h : zTM c S Sm) : ∃ w : Int32, ∃ S' Sm' : zS, zcall 113 [.ref 0, .int p, .int v] zRc S L = some (some (.int w), zRc, S', L) ∧ zcall 238 [.ref 0, .int p, .int v] (zRm1 rd) Sm Lm = some (some (.int w), zRm1 rd, Sm', Lm) ∧ zTM c S' Sm' := by
  have h' := zTM_t (v := 0) h
  have b0 : c 0 ≤ 8 := h'.2.2.1.1.2.1
  have a0 : S 12 7 = nI (c 0) := h'.2.2.1.2.1.1
  have m0 : zup Sm 0 0 0 11 8 = nI (c 0) := h'.2.2.1.2.2.1.1
  rcases zidx p (n := c 0) (by omega) with ⟨a, ha, rfl⟩ | hp
  · have k1 := t83a_12 (L := L) a0 (by omega) ha
    have k2 := t236a (Lm := Lm) (rd := rd) m0 (by omega) ha
    obtain ⟨e1, e2, e3, e4, -⟩ := h'.2.2.2.1.1 a ha
    have e1 : zup Sm 0 0 0 2 (9 + a) = S 170 a := e1.symm
    have e2 : zup Sm 0 0 0 2 (17 + a) = S 172 a := e2.symm
    have e3 : zup Sm 0 0 0 2 (25 + a) = S 174 a := e3.symm
    have e4 : zup Sm 0 0 0 2 (33 + a) = S 176 a := e4.symm
    rw [zup_ne (by omega)] at e1 e2 e3 e4
    rcases zrng v 3 (by omega) 3 4 rfl rfl with ⟨n, hn, rfl, a1, a2, a3, a4, a5, a6⟩ | ⟨a1, a2, a3, a4, a5, a6⟩ | ⟨a1, a2, a3, a4, a5, a6⟩
    · rcases (show n = 0 ∨ n = 1 ∨ n = 2 ∨ n = 3 by omega) with rfl | rfl | rfl | rfl
      · refine ⟨S 170 a, _, _, ?_, ?_, zTM_d 0 (by decide) h'⟩ <;> unfold zcall
        all_goals simp (config := {maxSteps := 1000000}) (disch := omega) only [↓reduceIte, Int32.reduceLT, Int32.reduceLE, Int32.reduceToNatClampNeg, Int32.reduceAdd, Int32.reduceSub, Int32.reduceMul, Nat.reduceLeDiff, zEL, zup_ne, zup_eq, zT0, zT1, zT2, if_true, if_false, zneq_f, true_and, and_true, false_and, and_false, zKL, eq_self, Nat.reduceEqDiff, zite0, ite_not, zaddr, zaddl, zputr, zsb1, zsb2, zsb0, zsbm, znm1, gX, gM, g168, layM1, tEC, tEM1, S113, S238, k1, k2, t173, a2, a3, e1, e2, e3, e4]
      · refine ⟨S 172 a, _, _, ?_, ?_, zTM_d 0 (by decide) h'⟩ <;> unfold zcall
        all_goals simp (config := {maxSteps := 1000000}) (disch := omega) only [↓reduceIte, Int32.reduceLT, Int32.reduceLE, Int32.reduceToNatClampNeg, Int32.reduceAdd, Int32.reduceSub, Int32.reduceMul, Nat.reduceLeDiff, zEL, zup_ne, zup_eq, zT0, zT1, zT2, if_true, if_false, zneq_f, true_and, and_true, false_and, and_false, zKL, eq_self, Nat.reduceEqDiff, zite0, ite_not, zaddr, zaddl, zputr, zsb1, zsb2, zsb0, zsbm, znm1, gX, gM, g168, layM1, tEC, tEM1, S113, S238, k1, k2, t173, a2, a3, e1, e2, e3, e4]
      · refine ⟨S 174 a, _, _, ?_, ?_, zTM_d 0 (by decide) h'⟩ <;> unfold zcall
        all_goals simp (config := {maxSteps := 1000000}) (disch := omega) only [↓reduceIte, Int32.reduceLT, Int32.reduceLE, Int32.reduceToNatClampNeg, Int32.reduceAdd, Int32.reduceSub, Int32.reduceMul, Nat.reduceLeDiff, zEL, zup_ne, zup_eq, zT0, zT1, zT2, if_true, if_false, zneq_f, true_and, and_true, false_and, and_false, zKL, eq_self, Nat.reduceEqDiff, zite0, ite_not, zaddr, zaddl, zputr, zsb1, zsb2, zsb0, zsbm, znm1, gX, gM, g168, layM1, tEC, tEM1, S113, S238, k1, k2, t173, a2, a3, e1, e2, e3, e4]
      · refine ⟨S 176 a, _, _, ?_, ?_, zTM_d 0 (by decide) h'⟩ <;> unfold zcall
        all_goals simp (config := {maxSteps := 1000000}) (disch := omega) only [↓reduceIte, Int32.reduceLT, Int32.reduceLE, Int32.reduceToNatClampNeg, Int32.reduceAdd, Int32.reduceSub, Int32.reduceMul, Nat.reduceLeDiff, zEL, zup_ne, zup_eq, zT0, zT1, zT2, if_true, if_false, zneq_f, true_and, and_true, false_and, and_false, zKL, eq_self, Nat.reduceEqDiff, zite0, ite_not, zaddr, zaddl, zputr, zsb1, zsb2, zsb0, zsbm, znm1, gX, gM, g168, layM1, tEC, tEM1, S113, S238, k1, k2, t173, a2, a3, e1, e2, e3, e4]
      all_goals rfl
    · have v0 : (v = 0) = False := eq_false (by rintro rfl; exact absurd a1 (by decide))
      have v1 : (v = 1) = False := eq_false (by rintro rfl; exact absurd a1 (by decide))
      have v2 : (v = 2) = False := eq_false (by rintro rfl; exact absurd a1 (by decide))
      have v3 : (v = 3) = False := eq_false (by rintro rfl; exact absurd a1 (by decide))
      refine ⟨-1, _, _, ?_, ?_, zTM_d 1 (by decide) h'⟩ <;> unfold zcall
      · simp (config := {maxSteps := 1000000}) (disch := omega) only [↓reduceIte, Int32.reduceLT, Int32.reduceLE, Int32.reduceToNatClampNeg, Int32.reduceAdd, Int32.reduceSub, Int32.reduceMul, Nat.reduceLeDiff, zEL, zup_ne, zup_eq, zT0, zT1, zT2, if_true, if_false, zneq_f, true_and, and_true, false_and, and_false, zKL, eq_self, Nat.reduceEqDiff, zite0, ite_not, zaddr, zaddl, zputr, zsb1, zsb2, zsb0, zsbm, znm1, gX, gM, g168, tEC, S113, k1, v0, v1, v2, v3]
        all_goals rfl
      · simp (config := {maxSteps := 1000000}) (disch := omega) only [↓reduceIte, Int32.reduceLT, Int32.reduceLE, Int32.reduceToNatClampNeg, Int32.reduceAdd, Int32.reduceSub, Int32.reduceMul, Nat.reduceLeDiff, zEL, zup_ne, zup_eq, zT0, zT1, zT2, if_true, if_false, zneq_f, true_and, and_true, false_and, and_false, zKL, eq_self, Nat.reduceEqDiff, zite0, ite_not, zaddr, zaddl, zputr, zsb1, zsb2, zsb0, zsbm, znm1, layM1, tEM1, S238, k2, t173, a2]
    · have v0 : (v = 0) = False := eq_false (by rintro rfl; exact absurd a3 (by decide))
      have v1 : (v = 1) = False := eq_false (by rintro rfl; exact absurd a3 (by decide))
      have v2 : (v = 2) = False := eq_false (by rintro rfl; exact absurd a3 (by decide))
      have v3 : (v = 3) = False := eq_false (by rintro rfl; exact absurd a3 (by decide))
      refine ⟨-1, _, _, ?_, ?_, zTM_d 1 (by decide) h'⟩ <;> unfold zcall
      · simp (config := {maxSteps := 1000000}) (disch := omega) only [↓reduceIte, Int32.reduceLT, Int32.reduceLE, Int32.reduceToNatClampNeg, Int32.reduceAdd, Int32.reduceSub, Int32.reduceMul, Nat.reduceLeDiff, zEL, zup_ne, zup_eq, zT0, zT1, zT2, if_true, if_false, zneq_f, true_and, and_true, false_and, and_false, zKL, eq_self, Nat.reduceEqDiff, zite0, ite_not, zaddr, zaddl, zputr, zsb1, zsb2, zsb0, zsbm, znm1, gX, gM, g168, tEC, S113, k1, v0, v1, v2, v3]
        all_goals rfl
      · simp (config := {maxSteps := 1000000}) (disch := omega) only [↓reduceIte, Int32.reduceLT, Int32.reduceLE, Int32.reduceToNatClampNeg, Int32.reduceAdd, Int32.reduceSub, Int32.reduceMul, Nat.reduceLeDiff, zEL, zup_ne, zup_eq, zT0, zT1, zT2, if_true, if_false, zneq_f, true_and, and_true, false_and, and_false, zKL, eq_self, Nat.reduceEqDiff, zite0, ite_not, zaddr, zaddl, zputr, zsb1, zsb2, zsb0, zsbm, znm1, layM1, tEM1, S238, k2, t173, a3]
  · have k1 := t83b_12 (L := L) a0 hp
    have k2 := t236b (Lm := Lm) (rd := rd) m0 hp
    refine ⟨-1, _, _, ?_, ?_, zTM_d 1 (by decide) h'⟩ <;> unfold zcall
    · simp (config := {maxSteps := 1000000}) (disch := omega) only [↓reduceIte, Int32.reduceLT, Int32.reduceLE, Int32.reduceToNatClampNeg, Int32.reduceAdd, Int32.reduceSub, Int32.reduceMul, Nat.reduceLeDiff, zEL, zup_ne, zup_eq, zT0, zT1, zT2, if_true, if_false, zneq_f, true_and, and_true, false_and, and_false, zKL, eq_self, Nat.reduceEqDiff, zite0, ite_not, zaddr, zaddl, zputr, zsb1, zsb2, zsb0, zsbm, znm1, gX, gM, g168, tEC, S113, k1]
      all_goals rfl
    · simp (config := {maxSteps := 1000000}) (disch := omega) only [↓reduceIte, Int32.reduceLT, Int32.reduceLE, Int32.reduceToNatClampNeg, Int32.reduceAdd, Int32.reduceSub, Int32.reduceMul, Nat.reduceLeDiff, zEL, zup_ne, zup_eq, zT0, zT1, zT2, if_true, if_false, zneq_f, true_and, and_true, false_and, and_false, zKL, eq_self, Nat.reduceEqDiff, zite0, ite_not, zaddr, zaddl, zputr, zsb1, zsb2, zsb0, zsbm, znm1, layM1, tEM1, S238, k2]
theorem m_114 {p : Int32} (h : zTM c S Sm) : ∃ w : Int32, ∃ S' Sm' : zS, zcall 114 [.ref 0, .int p] zRc S L = some (some (.int w), zRc, S', L) ∧ zcall 239 [.ref 0, .int p] (zRm1 rd) Sm Lm = some (some (.int w), zRm1 rd, Sm', Lm) ∧ zTM c S' Sm' := by
  have h' := zTM_t (v := 0) h
  have b0 : c 1 ≤ 8 := h'.2.2.1.1.2.2.1
  have a0 : S 25 7 = nI (c 1) := h'.2.2.1.2.1.2.1
  have m0 : zup Sm 0 0 0 11 7 = nI (c 1) := h'.2.2.1.2.2.1.2.1
  rcases zidx p (n := c 1) (by omega) with ⟨a, ha, rfl⟩ | hp
  · have k1 := t83a_25 (L := L) a0 (by omega) ha
    have k2 := t237a (Lm := Lm) (rd := rd) m0 (by omega) ha
    obtain ⟨e1, -⟩ := h'.2.2.2.1.2.1 a ha
    have e1 : zup Sm 0 0 0 2 (41 + a) = S 178 a := e1.symm
    rw [zup_ne (by omega)] at e1
    refine ⟨S 178 a, _, _, ?_, ?_, zTM_d 0 (by decide) h'⟩ <;> unfold zcall
    · simp (config := {maxSteps := 1000000}) (disch := omega) only [↓reduceIte, Int32.reduceLT, Int32.reduceLE, Int32.reduceToNatClampNeg, Int32.reduceAdd, Int32.reduceSub, Int32.reduceMul, Nat.reduceLeDiff, zEL, zup_ne, zup_eq, zT0, zT1, zT2, if_true, if_false, zneq_f, true_and, and_true, false_and, and_false, zKL, eq_self, Nat.reduceEqDiff, zite0, ite_not, zaddr, zaddl, zputr, zsb1, zsb2, zsb0, zsbm, znm1, gX, gM, g168, tEC, S114, k1]
      all_goals rfl
    · simp (config := {maxSteps := 1000000}) (disch := omega) only [↓reduceIte, Int32.reduceLT, Int32.reduceLE, Int32.reduceToNatClampNeg, Int32.reduceAdd, Int32.reduceSub, Int32.reduceMul, Nat.reduceLeDiff, zEL, zup_ne, zup_eq, zT0, zT1, zT2, if_true, if_false, zneq_f, true_and, and_true, false_and, and_false, zKL, eq_self, Nat.reduceEqDiff, zite0, ite_not, zaddr, zaddl, zputr, zsb1, zsb2, zsb0, zsbm, znm1, layM1, tEM1, S239, k2, e1]
  · have k1 := t83b_25 (L := L) a0 hp
    have k2 := t237b (Lm := Lm) (rd := rd) m0 hp
    refine ⟨-1, _, _, ?_, ?_, zTM_d 1 (by decide) h'⟩ <;> unfold zcall
    · simp (config := {maxSteps := 1000000}) (disch := omega) only [↓reduceIte, Int32.reduceLT, Int32.reduceLE, Int32.reduceToNatClampNeg, Int32.reduceAdd, Int32.reduceSub, Int32.reduceMul, Nat.reduceLeDiff, zEL, zup_ne, zup_eq, zT0, zT1, zT2, if_true, if_false, zneq_f, true_and, and_true, false_and, and_false, zKL, eq_self, Nat.reduceEqDiff, zite0, ite_not, zaddr, zaddl, zputr, zsb1, zsb2, zsb0, zsbm, znm1, gX, gM, g168, tEC, S114, k1]
      all_goals rfl
    · simp (config := {maxSteps := 1000000}) (disch := omega) only [↓reduceIte, Int32.reduceLT, Int32.reduceLE, Int32.reduceToNatClampNeg, Int32.reduceAdd, Int32.reduceSub, Int32.reduceMul, Nat.reduceLeDiff, zEL, zup_ne, zup_eq, zT0, zT1, zT2, if_true, if_false, zneq_f, true_and, and_true, false_and, and_false, zKL, eq_self, Nat.reduceEqDiff, zite0, ite_not, zaddr, zaddl, zputr, zsb1, zsb2, zsb0, zsbm, znm1, layM1, tEM1, S239, k2]
theorem m_115 {v : Int32} (h : zTM c S Sm) : ∃ w : Int32, ∃ S' Sm' : zS, zcall 115 [.ref 0, .int v] zRc S L = some (some (.int w), zRc, S', L) ∧ zcall 241 [.ref 0, .int v] (zRm1 rd) Sm Lm = some (some (.int w), zRm1 rd, Sm', Lm) ∧ zTM c S' Sm' := by
  have h' := zTM_t (v := 0) h
  have b1 := h.2.1
  obtain ⟨n, hn, k1, k2⟩ := t15_168 (L := L) (Lm := Lm) (rd := rd) v h'.2.2.1 h'.2.2.2.1
  rcases zside v with rfl | rfl | ⟨a1, a2, a3⟩
  · refine ⟨nI n, _, _, ?_, ?_, zTM_d 0 (by decide) h'⟩ <;> unfold zcall
    · simp (config := {maxSteps := 1000000}) (disch := omega) only [↓reduceIte, Int32.reduceLT, Int32.reduceLE, Int32.reduceToNatClampNeg, Int32.reduceAdd, Int32.reduceSub, Int32.reduceMul, Nat.reduceLeDiff, zEL, zup_ne, zup_eq, zT0, zT1, zT2, if_true, if_false, zneq_f, true_and, and_true, false_and, and_false, zKL, eq_self, Nat.reduceEqDiff, zite0, ite_not, zaddr, zaddl, zputr, zsb1, zsb2, zsb0, zsbm, znm1, gX, g168, tEC, S115, b1, t152, k1, true_or]
      all_goals rfl
    · simp (config := {maxSteps := 1000000}) (disch := omega) only [↓reduceIte, Int32.reduceLT, Int32.reduceLE, Int32.reduceToNatClampNeg, Int32.reduceAdd, Int32.reduceSub, Int32.reduceMul, Nat.reduceLeDiff, zEL, zup_ne, zup_eq, zT0, zT1, zT2, if_true, if_false, zneq_f, true_and, and_true, false_and, and_false, zKL, eq_self, Nat.reduceEqDiff, zite0, ite_not, zaddr, zaddl, zputr, zsb1, zsb2, zsb0, zsbm, znm1, layM1, tEM1, S241, t240m, k2]
  · refine ⟨nI n, _, _, ?_, ?_, zTM_d 0 (by decide) h'⟩ <;> unfold zcall
    · simp (config := {maxSteps := 1000000}) (disch := omega) only [↓reduceIte, Int32.reduceLT, Int32.reduceLE, Int32.reduceToNatClampNeg, Int32.reduceAdd, Int32.reduceSub, Int32.reduceMul, Nat.reduceLeDiff, zEL, zup_ne, zup_eq, zT0, zT1, zT2, if_true, if_false, zneq_f, true_and, and_true, false_and, and_false, zKL, eq_self, Nat.reduceEqDiff, zite0, ite_not, zaddr, zaddl, zputr, zsb1, zsb2, zsb0, zsbm, znm1, gX, g168, tEC, S115, b1, t152, k1, or_true]
      all_goals rfl
    · simp (config := {maxSteps := 1000000}) (disch := omega) only [↓reduceIte, Int32.reduceLT, Int32.reduceLE, Int32.reduceToNatClampNeg, Int32.reduceAdd, Int32.reduceSub, Int32.reduceMul, Nat.reduceLeDiff, zEL, zup_ne, zup_eq, zT0, zT1, zT2, if_true, if_false, zneq_f, true_and, and_true, false_and, and_false, zKL, eq_self, Nat.reduceEqDiff, zite0, ite_not, zaddr, zaddl, zputr, zsb1, zsb2, zsb0, zsbm, znm1, layM1, tEM1, S241, t240m, k2]
  · refine ⟨-1, _, _, ?_, ?_, zTM_d 1 (by decide) h'⟩ <;> unfold zcall
    · simp (config := {maxSteps := 1000000}) (disch := omega) only [↓reduceIte, Int32.reduceLT, Int32.reduceLE, Int32.reduceToNatClampNeg, Int32.reduceAdd, Int32.reduceSub, Int32.reduceMul, Nat.reduceLeDiff, zEL, zup_ne, zup_eq, zT0, zT1, zT2, if_true, if_false, zneq_f, true_and, and_true, false_and, and_false, zKL, eq_self, Nat.reduceEqDiff, zite0, ite_not, zaddr, zaddl, zputr, zsb1, zsb2, zsb0, zsbm, znm1, gX, g168, tEC, S115, b1, t152, a1, a2, or_self]
      all_goals rfl
    · simp (config := {maxSteps := 1000000}) (disch := omega) only [↓reduceIte, Int32.reduceLT, Int32.reduceLE, Int32.reduceToNatClampNeg, Int32.reduceAdd, Int32.reduceSub, Int32.reduceMul, Nat.reduceLeDiff, zEL, zup_ne, zup_eq, zT0, zT1, zT2, if_true, if_false, zneq_f, true_and, and_true, false_and, and_false, zKL, eq_self, Nat.reduceEqDiff, zite0, ite_not, zaddr, zaddl, zputr, zsb1, zsb2, zsb0, zsbm, znm1, layM1, tEM1, S241, t240m, a3]
theorem m_116 {v : Int32} (h : zTM c S Sm) : ∃ w : Int32, ∃ S' Sm' : zS, zcall 116 [.ref 0, .int v] zRc S L = some (some (.int w), zRc, S', L) ∧ zcall 242 [.ref 0, .int v] (zRm1 rd) Sm Lm = some (some (.int w), zRm1 rd, Sm', Lm) ∧ zTM c S' Sm' := by
  have h' := zTM_t (v := 0) h
  have b1 := h.2.1
  rcases zrng v 4 (by omega) 4 5 rfl rfl with ⟨n, hn, rfl, a1, a2, a3, a4, a5, a6⟩ | ⟨a1, a2, a3, a4, a5, a6⟩ | ⟨a1, a2, a3, a4, a5, a6⟩
  · have e := h'.2.2.2.1.2.2.1 n (by omega)
    have e : zup Sm 0 0 0 2 (4 + n) = S 180 n := e.symm
    rw [zup_ne (by omega)] at e
    refine ⟨S 180 n, _, _, ?_, ?_, zTM_d 0 (by decide) h'⟩ <;> unfold zcall
    · simp (config := {maxSteps := 1000000}) (disch := omega) only [↓reduceIte, Int32.reduceLT, Int32.reduceLE, Int32.reduceToNatClampNeg, Int32.reduceAdd, Int32.reduceSub, Int32.reduceMul, Nat.reduceLeDiff, zEL, zup_ne, zup_eq, zT0, zT1, zT2, if_true, if_false, zneq_f, true_and, and_true, false_and, and_false, zKL, eq_self, Nat.reduceEqDiff, zite0, ite_not, zaddr, zaddl, zputr, zsb1, zsb2, zsb0, zsbm, znm1, gX, g168, tEC, S116, b1, a1, a6]
      all_goals rfl
    · simp (config := {maxSteps := 1000000}) (disch := omega) only [↓reduceIte, Int32.reduceLT, Int32.reduceLE, Int32.reduceToNatClampNeg, Int32.reduceAdd, Int32.reduceSub, Int32.reduceMul, Nat.reduceLeDiff, zEL, zup_ne, zup_eq, zT0, zT1, zT2, if_true, if_false, zneq_f, true_and, and_true, false_and, and_false, zKL, eq_self, Nat.reduceEqDiff, zite0, ite_not, zaddr, zaddl, zputr, zsb1, zsb2, zsb0, zsbm, znm1, layM1, tEM1, S242, t173, a2, a3, e]
  · refine ⟨-1, _, _, ?_, ?_, zTM_d 1 (by decide) h'⟩ <;> unfold zcall
    · simp (config := {maxSteps := 1000000}) (disch := omega) only [↓reduceIte, Int32.reduceLT, Int32.reduceLE, Int32.reduceToNatClampNeg, Int32.reduceAdd, Int32.reduceSub, Int32.reduceMul, Nat.reduceLeDiff, zEL, zup_ne, zup_eq, zT0, zT1, zT2, if_true, if_false, zneq_f, true_and, and_true, false_and, and_false, zKL, eq_self, Nat.reduceEqDiff, zite0, ite_not, zaddr, zaddl, zputr, zsb1, zsb2, zsb0, zsbm, znm1, gX, g168, tEC, S116, b1, a1]
      all_goals rfl
    · simp (config := {maxSteps := 1000000}) (disch := omega) only [↓reduceIte, Int32.reduceLT, Int32.reduceLE, Int32.reduceToNatClampNeg, Int32.reduceAdd, Int32.reduceSub, Int32.reduceMul, Nat.reduceLeDiff, zEL, zup_ne, zup_eq, zT0, zT1, zT2, if_true, if_false, zneq_f, true_and, and_true, false_and, and_false, zKL, eq_self, Nat.reduceEqDiff, zite0, ite_not, zaddr, zaddl, zputr, zsb1, zsb2, zsb0, zsbm, znm1, layM1, tEM1, S242, t173, a2]
  · refine ⟨-1, _, _, ?_, ?_, zTM_d 1 (by decide) h'⟩ <;> unfold zcall
    · simp (config := {maxSteps := 1000000}) (disch := omega) only [↓reduceIte, Int32.reduceLT, Int32.reduceLE, Int32.reduceToNatClampNeg, Int32.reduceAdd, Int32.reduceSub, Int32.reduceMul, Nat.reduceLeDiff, zEL, zup_ne, zup_eq, zT0, zT1, zT2, if_true, if_false, zneq_f, true_and, and_true, false_and, and_false, zKL, eq_self, Nat.reduceEqDiff, zite0, ite_not, zaddr, zaddl, zputr, zsb1, zsb2, zsb0, zsbm, znm1, gX, g168, tEC, S116, b1, a1, a6]
      all_goals rfl
    · simp (config := {maxSteps := 1000000}) (disch := omega) only [↓reduceIte, Int32.reduceLT, Int32.reduceLE, Int32.reduceToNatClampNeg, Int32.reduceAdd, Int32.reduceSub, Int32.reduceMul, Nat.reduceLeDiff, zEL, zup_ne, zup_eq, zT0, zT1, zT2, if_true, if_false, zneq_f, true_and, and_true, false_and, and_false, zKL, eq_self, Nat.reduceEqDiff, zite0, ite_not, zaddr, zaddl, zputr, zsb1, zsb2, zsb0, zsbm, znm1, layM1, tEM1, S242, t173, a3]
theorem m_146 {a : Int32} (h : zTM c S Sm) : ∃ v : Int32, ∃ Sm' : zS, zcall 146 [.ref 0, .int a] zRc S L = some (some (.int v), zRc, S, L) ∧ zcall 290 [.ref 0, .int a] (zRm1 rd) Sm Lm = some (some (.int v), zRm1 rd, Sm', Lm) ∧ zTM c S Sm' := by
  have h' := zTM_t (v := 0) h
  obtain ⟨⟨-, -, -, n, -, n1, n2, -⟩, b1, ⟨⟨-, -, -, -, -, -, -, hc5, -⟩, ⟨b2, b3, b4, b5, b6, b7, b8⟩, ⟨d1, d2, d3, d4, d5, d6, d7⟩, -⟩, ⟨-, -, -, ⟨f1, -⟩, ⟨f2, -⟩, -, ⟨i, hh, i1, i2, i3, i4, i5, i6⟩⟩, ⟨mk, -, m1, m2, -⟩, ⟨⟨se, -, s1, s2, -⟩, -⟩⟩ := h
  rcases zsw a with h0 | ⟨e0, e1, e2, e3, e4, e5, e6, e7, e8, e9, e10, e11, e12, e13⟩
  · rcases h0 with rfl | rfl | rfl | rfl | rfl | rfl | rfl | rfl | rfl | rfl | rfl | rfl | rfl
    · refine ⟨nI (c 0), _, ?_, ?_, h'⟩ <;> unfold zcall
      all_goals simp (config := {maxSteps := 1000000}) (disch := omega) only [↓reduceIte, Int32.reduceLT, Int32.reduceLE, Int32.reduceToNatClampNeg, Int32.reduceAdd, Int32.reduceSub, Int32.reduceMul, Nat.reduceLeDiff, zEL, zup_ne, zup_eq, zT0, zT1, zT2, if_true, if_false, zneq_f, true_and, and_true, false_and, and_false, zKL, eq_self, Nat.reduceEqDiff, zite0, ite_not, zaddr, zaddl, zputr, zsb1, zsb2, zsb0, zsbm, znm1, gX, gM, g168, layM1, S146, S290, b2, b3, b4, b5, b6, b7, b8, d1, d2, d3, d4, d5, d6, d7, f1, f2, i3, i4, i5, m1, m2, s1, s2, n1, n2, t173, zEM]
    · refine ⟨nI (c 1), _, ?_, ?_, h'⟩ <;> unfold zcall
      all_goals simp (config := {maxSteps := 1000000}) (disch := omega) only [↓reduceIte, Int32.reduceLT, Int32.reduceLE, Int32.reduceToNatClampNeg, Int32.reduceAdd, Int32.reduceSub, Int32.reduceMul, Nat.reduceLeDiff, zEL, zup_ne, zup_eq, zT0, zT1, zT2, if_true, if_false, zneq_f, true_and, and_true, false_and, and_false, zKL, eq_self, Nat.reduceEqDiff, zite0, ite_not, zaddr, zaddl, zputr, zsb1, zsb2, zsb0, zsbm, znm1, gX, gM, g168, layM1, S146, S290, b2, b3, b4, b5, b6, b7, b8, d1, d2, d3, d4, d5, d6, d7, f1, f2, i3, i4, i5, m1, m2, s1, s2, n1, n2, t173, zEM]
    · refine ⟨nI (c 2), _, ?_, ?_, h'⟩ <;> unfold zcall
      all_goals simp (config := {maxSteps := 1000000}) (disch := omega) only [↓reduceIte, Int32.reduceLT, Int32.reduceLE, Int32.reduceToNatClampNeg, Int32.reduceAdd, Int32.reduceSub, Int32.reduceMul, Nat.reduceLeDiff, zEL, zup_ne, zup_eq, zT0, zT1, zT2, if_true, if_false, zneq_f, true_and, and_true, false_and, and_false, zKL, eq_self, Nat.reduceEqDiff, zite0, ite_not, zaddr, zaddl, zputr, zsb1, zsb2, zsb0, zsbm, znm1, gX, gM, g168, layM1, S146, S290, b2, b3, b4, b5, b6, b7, b8, d1, d2, d3, d4, d5, d6, d7, f1, f2, i3, i4, i5, m1, m2, s1, s2, n1, n2, t173, zEM]
    · refine ⟨nI (c 3), _, ?_, ?_, h'⟩ <;> unfold zcall
      all_goals simp (config := {maxSteps := 1000000}) (disch := omega) only [↓reduceIte, Int32.reduceLT, Int32.reduceLE, Int32.reduceToNatClampNeg, Int32.reduceAdd, Int32.reduceSub, Int32.reduceMul, Nat.reduceLeDiff, zEL, zup_ne, zup_eq, zT0, zT1, zT2, if_true, if_false, zneq_f, true_and, and_true, false_and, and_false, zKL, eq_self, Nat.reduceEqDiff, zite0, ite_not, zaddr, zaddl, zputr, zsb1, zsb2, zsb0, zsbm, znm1, gX, gM, g168, layM1, S146, S290, b2, b3, b4, b5, b6, b7, b8, d1, d2, d3, d4, d5, d6, d7, f1, f2, i3, i4, i5, m1, m2, s1, s2, n1, n2, t173, zEM]
    · refine ⟨nI (c 6), _, ?_, ?_, h'⟩ <;> unfold zcall
      all_goals simp (config := {maxSteps := 1000000}) (disch := omega) only [↓reduceIte, Int32.reduceLT, Int32.reduceLE, Int32.reduceToNatClampNeg, Int32.reduceAdd, Int32.reduceSub, Int32.reduceMul, Nat.reduceLeDiff, zEL, zup_ne, zup_eq, zT0, zT1, zT2, if_true, if_false, zneq_f, true_and, and_true, false_and, and_false, zKL, eq_self, Nat.reduceEqDiff, zite0, ite_not, zaddr, zaddl, zputr, zsb1, zsb2, zsb0, zsbm, znm1, gX, gM, g168, layM1, S146, S290, b2, b3, b4, b5, b6, b7, b8, d1, d2, d3, d4, d5, d6, d7, f1, f2, i3, i4, i5, m1, m2, s1, s2, n1, n2, t173, zEM]
    · refine ⟨nI (c 4), _, ?_, ?_, h'⟩ <;> unfold zcall
      all_goals simp (config := {maxSteps := 1000000}) (disch := omega) only [↓reduceIte, Int32.reduceLT, Int32.reduceLE, Int32.reduceToNatClampNeg, Int32.reduceAdd, Int32.reduceSub, Int32.reduceMul, Nat.reduceLeDiff, zEL, zup_ne, zup_eq, zT0, zT1, zT2, if_true, if_false, zneq_f, true_and, and_true, false_and, and_false, zKL, eq_self, Nat.reduceEqDiff, zite0, ite_not, zaddr, zaddl, zputr, zsb1, zsb2, zsb0, zsbm, znm1, gX, gM, g168, layM1, S146, S290, b2, b3, b4, b5, b6, b7, b8, d1, d2, d3, d4, d5, d6, d7, f1, f2, i3, i4, i5, m1, m2, s1, s2, n1, n2, t173, zEM]
    · refine ⟨nI (c 5), _, ?_, ?_, h'⟩ <;> unfold zcall
      all_goals simp (config := {maxSteps := 1000000}) (disch := omega) only [↓reduceIte, Int32.reduceLT, Int32.reduceLE, Int32.reduceToNatClampNeg, Int32.reduceAdd, Int32.reduceSub, Int32.reduceMul, Nat.reduceLeDiff, zEL, zup_ne, zup_eq, zT0, zT1, zT2, if_true, if_false, zneq_f, true_and, and_true, false_and, and_false, zKL, eq_self, Nat.reduceEqDiff, zite0, ite_not, zaddr, zaddl, zputr, zsb1, zsb2, zsb0, zsbm, znm1, gX, gM, g168, layM1, S146, S290, b2, b3, b4, b5, b6, b7, b8, d1, d2, d3, d4, d5, d6, d7, f1, f2, i3, i4, i5, m1, m2, s1, s2, n1, n2, t173, zEM]
    · refine ⟨Sm 2 2, _, ?_, ?_, h'⟩ <;> unfold zcall
      all_goals simp (config := {maxSteps := 1000000}) (disch := omega) only [↓reduceIte, Int32.reduceLT, Int32.reduceLE, Int32.reduceToNatClampNeg, Int32.reduceAdd, Int32.reduceSub, Int32.reduceMul, Nat.reduceLeDiff, zEL, zup_ne, zup_eq, zT0, zT1, zT2, if_true, if_false, zneq_f, true_and, and_true, false_and, and_false, zKL, eq_self, Nat.reduceEqDiff, zite0, ite_not, zaddr, zaddl, zputr, zsb1, zsb2, zsb0, zsbm, znm1, gX, gM, g168, layM1, S146, S290, b2, b3, b4, b5, b6, b7, b8, d1, d2, d3, d4, d5, d6, d7, f1, f2, i3, i4, i5, m1, m2, s1, s2, n1, n2, t173, zEM]
    · refine ⟨Sm 2 1, _, ?_, ?_, h'⟩ <;> unfold zcall
      all_goals simp (config := {maxSteps := 1000000}) (disch := omega) only [↓reduceIte, Int32.reduceLT, Int32.reduceLE, Int32.reduceToNatClampNeg, Int32.reduceAdd, Int32.reduceSub, Int32.reduceMul, Nat.reduceLeDiff, zEL, zup_ne, zup_eq, zT0, zT1, zT2, if_true, if_false, zneq_f, true_and, and_true, false_and, and_false, zKL, eq_self, Nat.reduceEqDiff, zite0, ite_not, zaddr, zaddl, zputr, zsb1, zsb2, zsb0, zsbm, znm1, gX, gM, g168, layM1, S146, S290, b2, b3, b4, b5, b6, b7, b8, d1, d2, d3, d4, d5, d6, d7, f1, f2, i3, i4, i5, m1, m2, s1, s2, n1, n2, t173, zEM]
    · refine ⟨nI hh, _, ?_, ?_, h'⟩ <;> unfold zcall
      all_goals simp (config := {maxSteps := 1000000}) (disch := omega) only [↓reduceIte, Int32.reduceLT, Int32.reduceLE, Int32.reduceToNatClampNeg, Int32.reduceAdd, Int32.reduceSub, Int32.reduceMul, Nat.reduceLeDiff, zEL, zup_ne, zup_eq, zT0, zT1, zT2, if_true, if_false, zneq_f, true_and, and_true, false_and, and_false, zKL, eq_self, Nat.reduceEqDiff, zite0, ite_not, zaddr, zaddl, zputr, zsb1, zsb2, zsb0, zsbm, znm1, gX, gM, g168, layM1, S146, S290, b2, b3, b4, b5, b6, b7, b8, d1, d2, d3, d4, d5, d6, d7, f1, f2, i3, i4, i5, m1, m2, s1, s2, n1, n2, t173, zEM]
    · refine ⟨nI mk, _, ?_, ?_, h'⟩ <;> unfold zcall
      all_goals simp (config := {maxSteps := 1000000}) (disch := omega) only [↓reduceIte, Int32.reduceLT, Int32.reduceLE, Int32.reduceToNatClampNeg, Int32.reduceAdd, Int32.reduceSub, Int32.reduceMul, Nat.reduceLeDiff, zEL, zup_ne, zup_eq, zT0, zT1, zT2, if_true, if_false, zneq_f, true_and, and_true, false_and, and_false, zKL, eq_self, Nat.reduceEqDiff, zite0, ite_not, zaddr, zaddl, zputr, zsb1, zsb2, zsb0, zsbm, znm1, gX, gM, g168, layM1, S146, S290, b2, b3, b4, b5, b6, b7, b8, d1, d2, d3, d4, d5, d6, d7, f1, f2, i3, i4, i5, m1, m2, s1, s2, n1, n2, t173, zEM]
    · refine ⟨nI se, _, ?_, ?_, h'⟩ <;> unfold zcall
      all_goals simp (config := {maxSteps := 1000000}) (disch := omega) only [↓reduceIte, Int32.reduceLT, Int32.reduceLE, Int32.reduceToNatClampNeg, Int32.reduceAdd, Int32.reduceSub, Int32.reduceMul, Nat.reduceLeDiff, zEL, zup_ne, zup_eq, zT0, zT1, zT2, if_true, if_false, zneq_f, true_and, and_true, false_and, and_false, zKL, eq_self, Nat.reduceEqDiff, zite0, ite_not, zaddr, zaddl, zputr, zsb1, zsb2, zsb0, zsbm, znm1, gX, gM, g168, layM1, S146, S290, b2, b3, b4, b5, b6, b7, b8, d1, d2, d3, d4, d5, d6, d7, f1, f2, i3, i4, i5, m1, m2, s1, s2, n1, n2, t173, zEM]
    · refine ⟨nI n, _, ?_, ?_, h'⟩ <;> unfold zcall
      all_goals simp (config := {maxSteps := 1000000}) (disch := omega) only [↓reduceIte, Int32.reduceLT, Int32.reduceLE, Int32.reduceToNatClampNeg, Int32.reduceAdd, Int32.reduceSub, Int32.reduceMul, Nat.reduceLeDiff, zEL, zup_ne, zup_eq, zT0, zT1, zT2, if_true, if_false, zneq_f, true_and, and_true, false_and, and_false, zKL, eq_self, Nat.reduceEqDiff, zite0, ite_not, zaddr, zaddl, zputr, zsb1, zsb2, zsb0, zsbm, znm1, gX, gM, g168, layM1, S146, S290, b2, b3, b4, b5, b6, b7, b8, d1, d2, d3, d4, d5, d6, d7, f1, f2, i3, i4, i5, m1, m2, s1, s2, n1, n2, t173, zEM]
  · refine ⟨-1, _, ?_, ?_, h'⟩ <;> unfold zcall
    · simp (config := {maxSteps := 1000000}) (disch := omega) only [↓reduceIte, Int32.reduceLT, Int32.reduceLE, Int32.reduceToNatClampNeg, Int32.reduceAdd, Int32.reduceSub, Int32.reduceMul, Nat.reduceLeDiff, zEL, zup_ne, zup_eq, zT0, zT1, zT2, if_true, if_false, zneq_f, true_and, and_true, false_and, and_false, zKL, eq_self, Nat.reduceEqDiff, zite0, ite_not, zaddr, zaddl, zputr, zsb1, zsb2, zsb0, zsbm, znm1, S146, e0, e1, e2, e3, e4, e5, e6, e7, e8, e9, e10, e11, e12]
    · simp (config := {maxSteps := 1000000}) (disch := omega) only [↓reduceIte, Int32.reduceLT, Int32.reduceLE, Int32.reduceToNatClampNeg, Int32.reduceAdd, Int32.reduceSub, Int32.reduceMul, Nat.reduceLeDiff, zEL, zup_ne, zup_eq, zT0, zT1, zT2, if_true, if_false, zneq_f, true_and, and_true, false_and, and_false, zKL, eq_self, Nat.reduceEqDiff, zite0, ite_not, zaddr, zaddl, zputr, zsb1, zsb2, zsb0, zsbm, znm1, layM1, S290, e12, t173, e13]
end ZT3
