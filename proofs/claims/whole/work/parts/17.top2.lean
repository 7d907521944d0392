/-! No MATCH is told: refused by 1 -/
section ZT2
variable {S Sm : zS} {L Lm : zL} {rd : Value}
theorem t83u_12 {v : Int32} (h : S 12 7 = 0) : zcall 83 [.ref 12, .int v] zRc S L = some (some (.int 0), zRc, S, L) := by
  unfold zcall
  simp (config := {maxSteps := 1000000}) (disch := omega) only [↓reduceIte, Int32.reduceLT, Int32.reduceLE, Int32.reduceToNatClampNeg, Int32.reduceAdd, Int32.reduceSub, Int32.reduceMul, Nat.reduceLeDiff, zEL, zup_ne, zup_eq, zT0, zT1, zT2, if_true, if_false, zneq_f, true_and, and_true, false_and, and_false, zKL, eq_self, Nat.reduceEqDiff, zite0, ite_not, zaddr, zaddl, zputr, zsb1, zsb2, zsb0, zsbm, znm1, gM, ze_83, s83_0, s83_1, s83_4, s83_5, s83_6, s83_9, s83_12, s83_13, s83_16, s83_17, h]
  by_cases h0 : v < 0
  · simp only [h0, if_true]
  · simp only [h0, if_false, Int32.not_lt.mp h0, if_true]
theorem t83u_25 {v : Int32} (h : S 25 7 = 0) : zcall 83 [.ref 25, .int v] zRc S L = some (some (.int 0), zRc, S, L) := by
  unfold zcall
  simp (config := {maxSteps := 1000000}) (disch := omega) only [↓reduceIte, Int32.reduceLT, Int32.reduceLE, Int32.reduceToNatClampNeg, Int32.reduceAdd, Int32.reduceSub, Int32.reduceMul, Nat.reduceLeDiff, zEL, zup_ne, zup_eq, zT0, zT1, zT2, if_true, if_false, zneq_f, true_and, and_true, false_and, and_false, zKL, eq_self, Nat.reduceEqDiff, zite0, ite_not, zaddr, zaddl, zputr, zsb1, zsb2, zsb0, zsbm, znm1, gM, ze_83, s83_0, s83_1, s83_4, s83_5, s83_6, s83_9, s83_12, s83_13, s83_16, s83_17, h]
  by_cases h0 : v < 0
  · simp only [h0, if_true]
  · simp only [h0, if_false, Int32.not_lt.mp h0, if_true]
theorem t83u_38 {v : Int32} (h : S 38 7 = 0) : zcall 83 [.ref 38, .int v] zRc S L = some (some (.int 0), zRc, S, L) := by
  unfold zcall
  simp (config := {maxSteps := 1000000}) (disch := omega) only [↓reduceIte, Int32.reduceLT, Int32.reduceLE, Int32.reduceToNatClampNeg, Int32.reduceAdd, Int32.reduceSub, Int32.reduceMul, Nat.reduceLeDiff, zEL, zup_ne, zup_eq, zT0, zT1, zT2, if_true, if_false, zneq_f, true_and, and_true, false_and, and_false, zKL, eq_self, Nat.reduceEqDiff, zite0, ite_not, zaddr, zaddl, zputr, zsb1, zsb2, zsb0, zsbm, znm1, gM, ze_83, s83_0, s83_1, s83_4, s83_5, s83_6, s83_9, s83_12, s83_13, s83_16, s83_17, h]
  by_cases h0 : v < 0
  · simp only [h0, if_true]
  · simp only [h0, if_false, Int32.not_lt.mp h0, if_true]
theorem t83u_51 {v : Int32} (h : S 51 7 = 0) : zcall 83 [.ref 51, .int v] zRc S L = some (some (.int 0), zRc, S, L) := by
  unfold zcall
  simp (config := {maxSteps := 1000000}) (disch := omega) only [↓reduceIte, Int32.reduceLT, Int32.reduceLE, Int32.reduceToNatClampNeg, Int32.reduceAdd, Int32.reduceSub, Int32.reduceMul, Nat.reduceLeDiff, zEL, zup_ne, zup_eq, zT0, zT1, zT2, if_true, if_false, zneq_f, true_and, and_true, false_and, and_false, zKL, eq_self, Nat.reduceEqDiff, zite0, ite_not, zaddr, zaddl, zputr, zsb1, zsb2, zsb0, zsbm, znm1, gM, ze_83, s83_0, s83_1, s83_4, s83_5, s83_6, s83_9, s83_12, s83_13, s83_16, s83_17, h]
  by_cases h0 : v < 0
  · simp only [h0, if_true]
  · simp only [h0, if_false, Int32.not_lt.mp h0, if_true]
theorem t37u {v : Int32} (h : S 73 3 = 0) : zcall 37 [.ref 73, .int v] zRc S L = some (some (.int 0), zRc, S, L) := by
  unfold zcall
  simp (config := {maxSteps := 1000000}) (disch := omega) only [↓reduceIte, Int32.reduceLT, Int32.reduceLE, Int32.reduceToNatClampNeg, Int32.reduceAdd, Int32.reduceSub, Int32.reduceMul, Nat.reduceLeDiff, zEL, zup_ne, zup_eq, zT0, zT1, zT2, if_true, if_false, zneq_f, true_and, and_true, false_and, and_false, zKL, eq_self, Nat.reduceEqDiff, zite0, ite_not, zaddr, zaddl, zputr, zsb1, zsb2, zsb0, zsbm, znm1, gM, ze_37, s37_0, s37_1, s37_4, s37_5, s37_6, s37_9, s37_12, s37_13, s37_16, s37_17, h]
  by_cases h0 : v < 0
  · simp only [h0, if_true]
  · simp only [h0, if_false, Int32.not_lt.mp h0, if_true]
theorem t77u {v : Int32} (h : S 5 3 = 0) : zcall 77 [.ref 5, .int v] zRc S L = some (some (.int (-1)), zRc, S, L) := by
  unfold zcall
  simp (config := {maxSteps := 1000000}) (disch := omega) only [↓reduceIte, Int32.reduceLT, Int32.reduceLE, Int32.reduceToNatClampNeg, Int32.reduceAdd, Int32.reduceSub, Int32.reduceMul, Nat.reduceLeDiff, zEL, zup_ne, zup_eq, zT0, zT1, zT2, if_true, if_false, zneq_f, true_and, and_true, false_and, and_false, zKL, eq_self, Nat.reduceEqDiff, zite0, ite_not, zaddr, zaddl, zputr, zsb1, zsb2, zsb0, zsbm, znm1, gM, ze_77, s77_0, s77_1, s77_4, s77_5, s77_6, s77_7, s77_8, s77_11, s77_12, s77_15, s77_16, s77_19, s77_20, s77_23, s77_24, s77_25, s77_28, s77_31, s77_32, h]
theorem t155u {p q : Int32} (h : S 12 7 = 0) : zcall 155 [.ref 0, .int p, .int q] zRc S L = some (some (.int 0), zRc, S, L) := by
  unfold zcall
  simp (config := {maxSteps := 1000000}) (disch := omega) only [↓reduceIte, Int32.reduceLT, Int32.reduceLE, Int32.reduceToNatClampNeg, Int32.reduceAdd, Int32.reduceSub, Int32.reduceMul, Nat.reduceLeDiff, zEL, zup_ne, zup_eq, zT0, zT1, zT2, if_true, if_false, zneq_f, true_and, and_true, false_and, and_false, zKL, eq_self, Nat.reduceEqDiff, zite0, ite_not, zaddr, zaddl, zputr, zsb1, zsb2, zsb0, zsbm, znm1, gX, gM, ze_155, s155_0, s155_1, s155_4, s155_7, s155_8, s155_9, s155_10, s155_13, s155_16, s155_17, s155_18, s155_21, s155_24, s155_25, s155_28, s155_29, s155_32, s155_33, s155_36, s155_37, s155_40, s155_43, s155_44, s155_47, s155_48, t83u_12 (L := L) h]
theorem t156u {p r q : Int32} (h : S 12 7 = 0) : zcall 156 [.ref 0, .int p, .int r, .int q] zRc S L = some (some (.int 0), zRc, S, L) := by
  unfold zcall
  simp (config := {maxSteps := 1000000}) (disch := omega) only [↓reduceIte, Int32.reduceLT, Int32.reduceLE, Int32.reduceToNatClampNeg, Int32.reduceAdd, Int32.reduceSub, Int32.reduceMul, Nat.reduceLeDiff, zEL, zup_ne, zup_eq, zT0, zT1, zT2, if_true, if_false, zneq_f, true_and, and_true, false_and, and_false, zKL, eq_self, Nat.reduceEqDiff, zite0, ite_not, zaddr, zaddl, zputr, zsb1, zsb2, zsb0, zsbm, znm1, gX, gM, ze_156, s156_0, s156_1, s156_2, s156_5, s156_6, s156_7, s156_8, s156_11, s156_14, s156_15, s156_16, s156_17, s156_20, s156_23, s156_24, s156_27, s156_28, t155u (L := L) h]
  split <;> rfl
theorem t236u {v : Int32} : zcall 236 [.ref 0, .int v] (zRm0 rd) Sm Lm = some (some (.int 0), zRm0 rd, Sm, Lm) := by
  unfold zcall
  simp (config := {maxSteps := 1000000}) (disch := omega) only [↓reduceIte, Int32.reduceLT, Int32.reduceLE, Int32.reduceToNatClampNeg, Int32.reduceAdd, Int32.reduceSub, Int32.reduceMul, Nat.reduceLeDiff, zEL, zup_ne, zup_eq, zT0, zT1, zT2, if_true, if_false, zneq_f, true_and, and_true, false_and, and_false, zKL, eq_self, Nat.reduceEqDiff, zite0, ite_not, zaddr, zaddl, zputr, zsb1, zsb2, zsb0, zsbm, znm1, layM0, ze_236, s236_0, s236_1, s236_4, s236_4N, s236_7, s236_8, s236_11, s236_12, s236_13, s236_16, s236_19, s236_22, s236_23, s236_26, s236_27]
theorem t237u {v : Int32} : zcall 237 [.ref 0, .int v] (zRm0 rd) Sm Lm = some (some (.int 0), zRm0 rd, Sm, Lm) := by
  unfold zcall
  simp (config := {maxSteps := 1000000}) (disch := omega) only [↓reduceIte, Int32.reduceLT, Int32.reduceLE, Int32.reduceToNatClampNeg, Int32.reduceAdd, Int32.reduceSub, Int32.reduceMul, Nat.reduceLeDiff, zEL, zup_ne, zup_eq, zT0, zT1, zT2, if_true, if_false, zneq_f, true_and, and_true, false_and, and_false, zKL, eq_self, Nat.reduceEqDiff, zite0, ite_not, zaddr, zaddl, zputr, zsb1, zsb2, zsb0, zsbm, znm1, layM0, ze_237, s237_0, s237_1, s237_4, s237_4N, s237_7, s237_8, s237_11, s237_12, s237_13, s237_16, s237_19, s237_22, s237_23, s237_26, s237_27]
theorem t240u {v : Int32} : zcall 240 [.ref 0, .int v] (zRm0 rd) Sm Lm = some (some (.int 0), zRm0 rd, Sm, Lm) := by
  unfold zcall
  simp (config := {maxSteps := 1000000}) (disch := omega) only [↓reduceIte, Int32.reduceLT, Int32.reduceLE, Int32.reduceToNatClampNeg, Int32.reduceAdd, Int32.reduceSub, Int32.reduceMul, Nat.reduceLeDiff, zEL, zup_ne, zup_eq, zT0, zT1, zT2, if_true, if_false, zneq_f, true_and, and_true, false_and, and_false, zKL, eq_self, Nat.reduceEqDiff, zite0, ite_not, zaddr, zaddl, zputr, zsb1, zsb2, zsb0, zsbm, znm1, layM0, ze_240, s240_0, s240_1, s240_4, s240_4N, s240_7, s240_8, s240_9, s240_10, s240_13, s240_16, s240_17, s240_20, s240_21]
theorem t209u {v : Int32} : zcall 209 [.ref 0, .int v] (zRm0 rd) Sm Lm = some (some (.int 0), zRm0 rd, Sm, Lm) := by
  unfold zcall
  simp (config := {maxSteps := 1000000}) (disch := omega) only [↓reduceIte, Int32.reduceLT, Int32.reduceLE, Int32.reduceToNatClampNeg, Int32.reduceAdd, Int32.reduceSub, Int32.reduceMul, Nat.reduceLeDiff, zEL, zup_ne, zup_eq, zT0, zT1, zT2, if_true, if_false, zneq_f, true_and, and_true, false_and, and_false, zKL, eq_self, Nat.reduceEqDiff, zite0, ite_not, zaddr, zaddl, zputr, zsb1, zsb2, zsb0, zsbm, znm1, layM0, ze_209, s209_0, s209_1, s209_4, s209_4N, s209_7, s209_8, s209_9, s209_11, s209_14, s209_17, s209_18, s209_21, s209_24, s209_25, s209_26, s209_29, s209_30, s209_33, s209_34]
theorem t250u {p q : Int32} : zcall 250 [.ref 0, .int p, .int q] (zRm0 rd) Sm Lm = some (some (.int 0), zRm0 rd, Sm, Lm) := by
  unfold zcall
  simp (config := {maxSteps := 1000000}) (disch := omega) only [↓reduceIte, Int32.reduceLT, Int32.reduceLE, Int32.reduceToNatClampNeg, Int32.reduceAdd, Int32.reduceSub, Int32.reduceMul, Nat.reduceLeDiff, zEL, zup_ne, zup_eq, zT0, zT1, zT2, if_true, if_false, zneq_f, true_and, and_true, false_and, and_false, zKL, eq_self, Nat.reduceEqDiff, zite0, ite_not, zaddr, zaddl, zputr, zsb1, zsb2, zsb0, zsbm, znm1, layM0, ze_250, s250_0, s250_1, s250_2, s250_5, s250_8, s250_9, s250_10, s250_13, s250_16, s250_17, s250_20, s250_23, s250_24, s250_25, s250_26, s250_29, s250_32, s250_33, s250_34, s250_37, s250_38, s250_41, s250_42, t236u]
theorem t255u {p r q : Int32} : zcall 255 [.ref 0, .int p, .int r, .int q] (zRm0 rd) Sm Lm = some (some (.int 0), zRm0 rd, Sm, Lm) := by
  unfold zcall
  simp (config := {maxSteps := 1000000}) (disch := omega) only [↓reduceIte, Int32.reduceLT, Int32.reduceLE, Int32.reduceToNatClampNeg, Int32.reduceAdd, Int32.reduceSub, Int32.reduceMul, Nat.reduceLeDiff, zEL, zup_ne, zup_eq, zT0, zT1, zT2, if_true, if_false, zneq_f, true_and, and_true, false_and, and_false, zKL, eq_self, Nat.reduceEqDiff, zite0, ite_not, zaddr, zaddl, zputr, zsb1, zsb2, zsb0, zsbm, znm1, layM0, ze_255, s255_0, s255_1, s255_2, s255_3, s255_6, s255_9, s255_10, s255_11, s255_12, s255_15, s255_18, s255_19, s255_20, s255_23, s255_24, s255_27, s255_28, t250u]
def tUM := And.intro @t236u (And.intro @t237u (And.intro @t240u (And.intro @t209u (And.intro @t250u @t255u))))
theorem u_107 {a : Int32} (h : zTU S Sm) : ∃ S' Sm' : zS, zcall 107 [.ref 0, .int a] zRc S L = some (some (.int (0)), zRc, S', L) ∧ zcall 208 [.ref 0, .int a] (zRm0 rd) Sm Lm = some (some (.int (0)), zRm0 rd, Sm', Lm) ∧ zTU S' Sm' := by
  have h' := zTU_t (v := 0) h
  obtain ⟨-, b1, ⟨b2, b3, b4, b5, b6, b7, b8⟩, -, b9, -⟩ := h
  refine ⟨_, _, ?_, ?_, zTU_d 1 (by decide) h'⟩ <;> unfold zcall
  · simp (config := {maxSteps := 1000000}) (disch := omega) only [↓reduceIte, Int32.reduceLT, Int32.reduceLE, Int32.reduceToNatClampNeg, Int32.reduceAdd, Int32.reduceSub, Int32.reduceMul, Nat.reduceLeDiff, zEL, zup_ne, zup_eq, zT0, zT1, zT2, if_true, if_false, zneq_f, true_and, and_true, false_and, and_false, zKL, eq_self, Nat.reduceEqDiff, zite0, ite_not, zaddr, zaddl, zputr, zsb1, zsb2, zsb0, zsbm, znm1, gX, gM, tEC, S107, b1, t83u_12 (S := S) (L := L) b2, t83u_25 (S := S) (L := L) b3, t83u_51 (S := S) (L := L) b5, t37u (S := S) (L := L) b8, t77u (S := S) (L := L) b7, t155u (S := S) (L := L) b2, t156u (S := S) (L := L) b2]
  · simp (config := {maxSteps := 1000000}) (disch := omega) only [↓reduceIte, Int32.reduceLT, Int32.reduceLE, Int32.reduceToNatClampNeg, Int32.reduceAdd, Int32.reduceSub, Int32.reduceMul, Nat.reduceLeDiff, zEL, zup_ne, zup_eq, zT0, zT1, zT2, if_true, if_false, zneq_f, true_and, and_true, false_and, and_false, zKL, eq_self, Nat.reduceEqDiff, zite0, ite_not, zaddr, zaddl, zputr, zsb1, zsb2, zsb0, zsbm, znm1, layM0, tEM0, tUM, S208]
theorem u_108 {a : Int32} (h : zTU S Sm) : ∃ S' Sm' : zS, zcall 108 [.ref 0, .int a] zRc S L = some (some (.int (0)), zRc, S', L) ∧ zcall 210 [.ref 0, .int a] (zRm0 rd) Sm Lm = some (some (.int (0)), zRm0 rd, Sm', Lm) ∧ zTU S' Sm' := by
  have h' := zTU_t (v := 0) h
  obtain ⟨-, b1, ⟨b2, b3, b4, b5, b6, b7, b8⟩, -, b9, -⟩ := h
  refine ⟨_, _, ?_, ?_, zTU_d 1 (by decide) h'⟩ <;> unfold zcall
  · simp (config := {maxSteps := 1000000}) (disch := omega) only [↓reduceIte, Int32.reduceLT, Int32.reduceLE, Int32.reduceToNatClampNeg, Int32.reduceAdd, Int32.reduceSub, Int32.reduceMul, Nat.reduceLeDiff, zEL, zup_ne, zup_eq, zT0, zT1, zT2, if_true, if_false, zneq_f, true_and, and_true, false_and, and_false, zKL, eq_self, Nat.reduceEqDiff, zite0, ite_not, zaddr, zaddl, zputr, zsb1, zsb2, zsb0, zsbm, znm1, gX, gM, tEC, S108, b1, t83u_12 (S := S) (L := L) b2, t83u_25 (S := S) (L := L) b3, t83u_51 (S := S) (L := L) b5, t37u (S := S) (L := L) b8, t77u (S := S) (L := L) b7, t155u (S := S) (L := L) b2, t156u (S := S) (L := L) b2]
  · simp (config := {maxSteps := 1000000}) (disch := omega) only [↓reduceIte, Int32.reduceLT, Int32.reduceLE, Int32.reduceToNatClampNeg, Int32.reduceAdd, Int32.reduceSub, Int32.reduceMul, Nat.reduceLeDiff, zEL, zup_ne, zup_eq, zT0, zT1, zT2, if_true, if_false, zneq_f, true_and, and_true, false_and, and_false, zKL, eq_self, Nat.reduceEqDiff, zite0, ite_not, zaddr, zaddl, zputr, zsb1, zsb2, zsb0, zsbm, znm1, layM0, tEM0, tUM, S210]
theorem u_109 (h : zTU S Sm) : ∃ S' Sm' : zS, zcall 109 [.ref 0] zRc S L = some (some (.int (-1)), zRc, S', L) ∧ zcall 230 [.ref 0] (zRm0 rd) Sm Lm = some (some (.int (-1)), zRm0 rd, Sm', Lm) ∧ zTU S' Sm' := by
  have h' := zTU_t (v := 0) h
  obtain ⟨-, b1, ⟨b2, b3, b4, b5, b6, b7, b8⟩, -, b9, -⟩ := h
  refine ⟨_, _, ?_, ?_, zTU_d 1 (by decide) h'⟩ <;> unfold zcall
  · simp (config := {maxSteps := 1000000}) (disch := omega) only [↓reduceIte, Int32.reduceLT, Int32.reduceLE, Int32.reduceToNatClampNeg, Int32.reduceAdd, Int32.reduceSub, Int32.reduceMul, Nat.reduceLeDiff, zEL, zup_ne, zup_eq, zT0, zT1, zT2, if_true, if_false, zneq_f, true_and, and_true, false_and, and_false, zKL, eq_self, Nat.reduceEqDiff, zite0, ite_not, zaddr, zaddl, zputr, zsb1, zsb2, zsb0, zsbm, znm1, gX, gM, tEC, S109, b1, t83u_12 (S := S) (L := L) b2, t83u_25 (S := S) (L := L) b3, t83u_51 (S := S) (L := L) b5, t37u (S := S) (L := L) b8, t77u (S := S) (L := L) b7, t155u (S := S) (L := L) b2, t156u (S := S) (L := L) b2]
  · simp (config := {maxSteps := 1000000}) (disch := omega) only [↓reduceIte, Int32.reduceLT, Int32.reduceLE, Int32.reduceToNatClampNeg, Int32.reduceAdd, Int32.reduceSub, Int32.reduceMul, Nat.reduceLeDiff, zEL, zup_ne, zup_eq, zT0, zT1, zT2, if_true, if_false, zneq_f, true_and, and_true, false_and, and_false, zKL, eq_self, Nat.reduceEqDiff, zite0, ite_not, zaddr, zaddl, zputr, zsb1, zsb2, zsb0, zsbm, znm1, layM0, tEM0, tUM, S230]
theorem u_110 (h : zTU S Sm) : ∃ S' Sm' : zS, zcall 110 [.ref 0] zRc S L = some (some (.int (-1)), zRc, S', L) ∧ zcall 232 [.ref 0] (zRm0 rd) Sm Lm = some (some (.int (-1)), zRm0 rd, Sm', Lm) ∧ zTU S' Sm' := by
  have h' := zTU_t (v := 0) h
  obtain ⟨-, b1, ⟨b2, b3, b4, b5, b6, b7, b8⟩, -, b9, -⟩ := h
  refine ⟨_, _, ?_, ?_, zTU_d 1 (by decide) h'⟩ <;> unfold zcall
  · simp (config := {maxSteps := 1000000}) (disch := omega) only [↓reduceIte, Int32.reduceLT, Int32.reduceLE, Int32.reduceToNatClampNeg, Int32.reduceAdd, Int32.reduceSub, Int32.reduceMul, Nat.reduceLeDiff, zEL, zup_ne, zup_eq, zT0, zT1, zT2, if_true, if_false, zneq_f, true_and, and_true, false_and, and_false, zKL, eq_self, Nat.reduceEqDiff, zite0, ite_not, zaddr, zaddl, zputr, zsb1, zsb2, zsb0, zsbm, znm1, gX, gM, tEC, S110, b1, t83u_12 (S := S) (L := L) b2, t83u_25 (S := S) (L := L) b3, t83u_51 (S := S) (L := L) b5, t37u (S := S) (L := L) b8, t77u (S := S) (L := L) b7, t155u (S := S) (L := L) b2, t156u (S := S) (L := L) b2]
  · simp (config := {maxSteps := 1000000}) (disch := omega) only [↓reduceIte, Int32.reduceLT, Int32.reduceLE, Int32.reduceToNatClampNeg, Int32.reduceAdd, Int32.reduceSub, Int32.reduceMul, Nat.reduceLeDiff, zEL, zup_ne, zup_eq, zT0, zT1, zT2, if_true, if_false, zneq_f, true_and, and_true, false_and, and_false, zKL, eq_self, Nat.reduceEqDiff, zite0, ite_not, zaddr, zaddl, zputr, zsb1, zsb2, zsb0, zsbm, znm1, layM0, tEM0, tUM, S232]
theorem u_111 (h : zTU S Sm) : ∃ S' Sm' : zS, zcall 111 [.ref 0] zRc S L = some (some (.int (-1)), zRc, S', L) ∧ zcall 233 [.ref 0] (zRm0 rd) Sm Lm = some (some (.int (-1)), zRm0 rd, Sm', Lm) ∧ zTU S' Sm' := by
  have h' := zTU_t (v := 0) h
  obtain ⟨-, b1, ⟨b2, b3, b4, b5, b6, b7, b8⟩, -, b9, -⟩ := h
  refine ⟨_, _, ?_, ?_, zTU_d 1 (by decide) h'⟩ <;> unfold zcall
  · simp (config := {maxSteps := 1000000}) (disch := omega) only [↓reduceIte, Int32.reduceLT, Int32.reduceLE, Int32.reduceToNatClampNeg, Int32.reduceAdd, Int32.reduceSub, Int32.reduceMul, Nat.reduceLeDiff, zEL, zup_ne, zup_eq, zT0, zT1, zT2, if_true, if_false, zneq_f, true_and, and_true, false_and, and_false, zKL, eq_self, Nat.reduceEqDiff, zite0, ite_not, zaddr, zaddl, zputr, zsb1, zsb2, zsb0, zsbm, znm1, gX, gM, tEC, S111, b1, t83u_12 (S := S) (L := L) b2, t83u_25 (S := S) (L := L) b3, t83u_51 (S := S) (L := L) b5, t37u (S := S) (L := L) b8, t77u (S := S) (L := L) b7, t155u (S := S) (L := L) b2, t156u (S := S) (L := L) b2]
  · simp (config := {maxSteps := 1000000}) (disch := omega) only [↓reduceIte, Int32.reduceLT, Int32.reduceLE, Int32.reduceToNatClampNeg, Int32.reduceAdd, Int32.reduceSub, Int32.reduceMul, Nat.reduceLeDiff, zEL, zup_ne, zup_eq, zT0, zT1, zT2, if_true, if_false, zneq_f, true_and, and_true, false_and, and_false, zKL, eq_self, Nat.reduceEqDiff, zite0, ite_not, zaddr, zaddl, zputr, zsb1, zsb2, zsb0, zsbm, znm1, layM0, tEM0, tUM, S233]
theorem u_112 (h : zTU S Sm) : ∃ S' Sm' : zS, zcall 112 [.ref 0] zRc S L = some (some (.int (-1)), zRc, S', L) ∧ zcall 235 [.ref 0] (zRm0 rd) Sm Lm = some (some (.int (-1)), zRm0 rd, Sm', Lm) ∧ zTU S' Sm' := by
  have h' := zTU_t (v := 0) h
  obtain ⟨-, b1, ⟨b2, b3, b4, b5, b6, b7, b8⟩, -, b9, -⟩ := h
  refine ⟨_, _, ?_, ?_, zTU_d 1 (by decide) h'⟩ <;> unfold zcall
  · simp (config := {maxSteps := 1000000}) (disch := omega) only [↓reduceIte, Int32.reduceLT, Int32.reduceLE, Int32.reduceToNatClampNeg, Int32.reduceAdd, Int32.reduceSub, Int32.reduceMul, Nat.reduceLeDiff, zEL, zup_ne, zup_eq, zT0, zT1, zT2, if_true, if_false, zneq_f, true_and, and_true, false_and, and_false, zKL, eq_self, Nat.reduceEqDiff, zite0, ite_not, zaddr, zaddl, zputr, zsb1, zsb2, zsb0, zsbm, znm1, gX, gM, tEC, S112, b1, t83u_12 (S := S) (L := L) b2, t83u_25 (S := S) (L := L) b3, t83u_51 (S := S) (L := L) b5, t37u (S := S) (L := L) b8, t77u (S := S) (L := L) b7, t155u (S := S) (L := L) b2, t156u (S := S) (L := L) b2]
  · simp (config := {maxSteps := 1000000}) (disch := omega) only [↓reduceIte, Int32.reduceLT, Int32.reduceLE, Int32.reduceToNatClampNeg, Int32.reduceAdd, Int32.reduceSub, Int32.reduceMul, Nat.reduceLeDiff, zEL, zup_ne, zup_eq, zT0, zT1, zT2, if_true, if_false, zneq_f, true_and, and_true, false_and, and_false, zKL, eq_self, Nat.reduceEqDiff, zite0, ite_not, zaddr, zaddl, zputr, zsb1, zsb2, zsb0, zsbm, znm1, layM0, tEM0, tUM, S235]
theorem u_113 {a b : Int32} (h : zTU S Sm) : ∃ S' Sm' : zS, zcall 113 [.ref 0, .int a, .int b] zRc S L = some (some (.int (-1)), zRc, S', L) ∧ zcall 238 [.ref 0, .int a, .int b] (zRm0 rd) Sm Lm = some (some (.int (-1)), zRm0 rd, Sm', Lm) ∧ zTU S' Sm' := by
  have h' := zTU_t (v := 0) h
  obtain ⟨-, b1, ⟨b2, b3, b4, b5, b6, b7, b8⟩, -, b9, -⟩ := h
  refine ⟨_, _, ?_, ?_, zTU_d 1 (by decide) h'⟩ <;> unfold zcall
  · simp (config := {maxSteps := 1000000}) (disch := omega) only [↓reduceIte, Int32.reduceLT, Int32.reduceLE, Int32.reduceToNatClampNeg, Int32.reduceAdd, Int32.reduceSub, Int32.reduceMul, Nat.reduceLeDiff, zEL, zup_ne, zup_eq, zT0, zT1, zT2, if_true, if_false, zneq_f, true_and, and_true, false_and, and_false, zKL, eq_self, Nat.reduceEqDiff, zite0, ite_not, zaddr, zaddl, zputr, zsb1, zsb2, zsb0, zsbm, znm1, gX, gM, tEC, S113, b1, t83u_12 (S := S) (L := L) b2, t83u_25 (S := S) (L := L) b3, t83u_51 (S := S) (L := L) b5, t37u (S := S) (L := L) b8, t77u (S := S) (L := L) b7, t155u (S := S) (L := L) b2, t156u (S := S) (L := L) b2]
  · simp (config := {maxSteps := 1000000}) (disch := omega) only [↓reduceIte, Int32.reduceLT, Int32.reduceLE, Int32.reduceToNatClampNeg, Int32.reduceAdd, Int32.reduceSub, Int32.reduceMul, Nat.reduceLeDiff, zEL, zup_ne, zup_eq, zT0, zT1, zT2, if_true, if_false, zneq_f, true_and, and_true, false_and, and_false, zKL, eq_self, Nat.reduceEqDiff, zite0, ite_not, zaddr, zaddl, zputr, zsb1, zsb2, zsb0, zsbm, znm1, layM0, tEM0, tUM, S238]
theorem u_114 {a : Int32} (h : zTU S Sm) : ∃ S' Sm' : zS, zcall 114 [.ref 0, .int a] zRc S L = some (some (.int (-1)), zRc, S', L) ∧ zcall 239 [.ref 0, .int a] (zRm0 rd) Sm Lm = some (some (.int (-1)), zRm0 rd, Sm', Lm) ∧ zTU S' Sm' := by
  have h' := zTU_t (v := 0) h
  obtain ⟨-, b1, ⟨b2, b3, b4, b5, b6, b7, b8⟩, -, b9, -⟩ := h
  refine ⟨_, _, ?_, ?_, zTU_d 1 (by decide) h'⟩ <;> unfold zcall
  · simp (config := {maxSteps := 1000000}) (disch := omega) only [↓reduceIte, Int32.reduceLT, Int32.reduceLE, Int32.reduceToNatClampNeg, Int32.reduceAdd, Int32.reduceSub, Int32.reduceMul, Nat.reduceLeDiff, zEL, zup_ne, zup_eq, zT0, zT1, zT2, if_true, if_false, zneq_f, true_and, and_true, false_and, and_false, zKL, eq_self, Nat.reduceEqDiff, zite0, ite_not, zaddr, zaddl, zputr, zsb1, zsb2, zsb0, zsbm, znm1, gX, gM, tEC, S114, b1, t83u_12 (S := S) (L := L) b2, t83u_25 (S := S) (L := L) b3, t83u_51 (S := S) (L := L) b5, t37u (S := S) (L := L) b8, t77u (S := S) (L := L) b7, t155u (S := S) (L := L) b2, t156u (S := S) (L := L) b2]
  · simp (config := {maxSteps := 1000000}) (disch := omega) only [↓reduceIte, Int32.reduceLT, Int32.reduceLE, Int32.reduceToNatClampNeg, Int32.reduceAdd, Int32.reduceSub, Int32.reduceMul, Nat.reduceLeDiff, zEL, zup_ne, zup_eq, zT0, zT1, zT2, if_true, if_false, zneq_f, true_and, and_true, false_and, and_false, zKL, eq_self, Nat.reduceEqDiff, zite0, ite_not, zaddr, zaddl, zputr, zsb1, zsb2, zsb0, zsbm, znm1, layM0, tEM0, tUM, S239]
theorem u_115 {a : Int32} (h : zTU S Sm) : ∃ S' Sm' : zS, zcall 115 [.ref 0, .int a] zRc S L = some (some (.int (-1)), zRc, S', L) ∧ zcall 241 [.ref 0, .int a] (zRm0 rd) Sm Lm = some (some (.int (-1)), zRm0 rd, Sm', Lm) ∧ zTU S' Sm' := by
  have h' := zTU_t (v := 0) h
  obtain ⟨-, b1, ⟨b2, b3, b4, b5, b6, b7, b8⟩, -, b9, -⟩ := h
  refine ⟨_, _, ?_, ?_, zTU_d 1 (by decide) h'⟩ <;> unfold zcall
  · simp (config := {maxSteps := 1000000}) (disch := omega) only [↓reduceIte, Int32.reduceLT, Int32.reduceLE, Int32.reduceToNatClampNeg, Int32.reduceAdd, Int32.reduceSub, Int32.reduceMul, Nat.reduceLeDiff, zEL, zup_ne, zup_eq, zT0, zT1, zT2, if_true, if_false, zneq_f, true_and, and_true, false_and, and_false, zKL, eq_self, Nat.reduceEqDiff, zite0, ite_not, zaddr, zaddl, zputr, zsb1, zsb2, zsb0, zsbm, znm1, gX, gM, tEC, S115, b1, t83u_12 (S := S) (L := L) b2, t83u_25 (S := S) (L := L) b3, t83u_51 (S := S) (L := L) b5, t37u (S := S) (L := L) b8, t77u (S := S) (L := L) b7, t155u (S := S) (L := L) b2, t156u (S := S) (L := L) b2]
  · simp (config := {maxSteps := 1000000}) (disch := omega) only [↓reduceIte, Int32.reduceLT, Int32.reduceLE, Int32.reduceToNatClampNeg, Int32.reduceAdd, Int32.reduceSub, Int32.reduceMul, Nat.reduceLeDiff, zEL, zup_ne, zup_eq, zT0, zT1, zT2, if_true, if_false, zneq_f, true_and, and_true, false_and, and_false, zKL, eq_self, Nat.reduceEqDiff, zite0, ite_not, zaddr, zaddl, zputr, zsb1, zsb2, zsb0, zsbm, znm1, layM0, tEM0, tUM, S241]
theorem u_116 {a : Int32} (h : zTU S Sm) : ∃ S' Sm' : zS, zcall 116 [.ref 0, .int a] zRc S L = some (some (.int (-1)), zRc, S', L) ∧ zcall 242 [.ref 0, .int a] (zRm0 rd) Sm Lm = some (some (.int (-1)), zRm0 rd, Sm', Lm) ∧ zTU S' Sm' := by
  have h' := zTU_t (v := 0) h
  obtain ⟨-, b1, ⟨b2, b3, b4, b5, b6, b7, b8⟩, -, b9, -⟩ := h
  refine ⟨_, _, ?_, ?_, zTU_d 1 (by decide) h'⟩ <;> unfold zcall
  · simp (config := {maxSteps := 1000000}) (disch := omega) only [↓reduceIte, Int32.reduceLT, Int32.reduceLE, Int32.reduceToNatClampNeg, Int32.reduceAdd, Int32.reduceSub, Int32.reduceMul, Nat.reduceLeDiff, zEL, zup_ne, zup_eq, zT0, zT1, zT2, if_true, if_false, zneq_f, true_and, and_true, false_and, and_false, zKL, eq_self, Nat.reduceEqDiff, zite0, ite_not, zaddr, zaddl, zputr, zsb1, zsb2, zsb0, zsbm, znm1, gX, gM, tEC, S116, b1, t83u_12 (S := S) (L := L) b2, t83u_25 (S := S) (L := L) b3, t83u_51 (S := S) (L := L) b5, t37u (S := S) (L := L) b8, t77u (S := S) (L := L) b7, t155u (S := S) (L := L) b2, t156u (S := S) (L := L) b2]
  · simp (config := {maxSteps := 1000000}) (disch := omega) only [↓reduceIte, Int32.reduceLT, Int32.reduceLE, Int32.reduceToNatClampNeg, Int32.reduceAdd, Int32.reduceSub, Int32.reduceMul, Nat.reduceLeDiff, zEL, zup_ne, zup_eq, zT0, zT1, zT2, if_true, if_false, zneq_f, true_and, and_true, false_and, and_false, zKL, eq_self, Nat.reduceEqDiff, zite0, ite_not, zaddr, zaddl, zputr, zsb1, zsb2, zsb0, zsbm, znm1, layM0, tEM0, tUM, S242]
theorem u_117 {a : Int32} (h : zTU S Sm) : ∃ S' Sm' : zS, zcall 117 [.ref 0, .int a] zRc S L = some (some (.int (-1)), zRc, S', L) ∧ zcall 243 [.ref 0, .int a] (zRm0 rd) Sm Lm = some (some (.int (-1)), zRm0 rd, Sm', Lm) ∧ zTU S' Sm' := by
  have h' := zTU_t (v := 0) h
  obtain ⟨-, b1, ⟨b2, b3, b4, b5, b6, b7, b8⟩, -, b9, -⟩ := h
  refine ⟨_, _, ?_, ?_, zTU_d 1 (by decide) h'⟩ <;> unfold zcall
  · simp (config := {maxSteps := 1000000}) (disch := omega) only [↓reduceIte, Int32.reduceLT, Int32.reduceLE, Int32.reduceToNatClampNeg, Int32.reduceAdd, Int32.reduceSub, Int32.reduceMul, Nat.reduceLeDiff, zEL, zup_ne, zup_eq, zT0, zT1, zT2, if_true, if_false, zneq_f, true_and, and_true, false_and, and_false, zKL, eq_self, Nat.reduceEqDiff, zite0, ite_not, zaddr, zaddl, zputr, zsb1, zsb2, zsb0, zsbm, znm1, gX, gM, tEC, S117, b1, t83u_12 (S := S) (L := L) b2, t83u_25 (S := S) (L := L) b3, t83u_51 (S := S) (L := L) b5, t37u (S := S) (L := L) b8, t77u (S := S) (L := L) b7, t155u (S := S) (L := L) b2, t156u (S := S) (L := L) b2]
  · simp (config := {maxSteps := 1000000}) (disch := omega) only [↓reduceIte, Int32.reduceLT, Int32.reduceLE, Int32.reduceToNatClampNeg, Int32.reduceAdd, Int32.reduceSub, Int32.reduceMul, Nat.reduceLeDiff, zEL, zup_ne, zup_eq, zT0, zT1, zT2, if_true, if_false, zneq_f, true_and, and_true, false_and, and_false, zKL, eq_self, Nat.reduceEqDiff, zite0, ite_not, zaddr, zaddl, zputr, zsb1, zsb2, zsb0, zsbm, znm1, layM0, tEM0, tUM, S243]
theorem u_118 (h : zTU S Sm) : ∃ S' Sm' : zS, zcall 118 [.ref 0] zRc S L = some (some (.int (-1)), zRc, S', L) ∧ zcall 244 [.ref 0] (zRm0 rd) Sm Lm = some (some (.int (-1)), zRm0 rd, Sm', Lm) ∧ zTU S' Sm' := by
  have h' := zTU_t (v := 0) h
  obtain ⟨-, b1, ⟨b2, b3, b4, b5, b6, b7, b8⟩, -, b9, -⟩ := h
  refine ⟨_, _, ?_, ?_, zTU_d 1 (by decide) h'⟩ <;> unfold zcall
  · simp (config := {maxSteps := 1000000}) (disch := omega) only [↓reduceIte, Int32.reduceLT, Int32.reduceLE, Int32.reduceToNatClampNeg, Int32.reduceAdd, Int32.reduceSub, Int32.reduceMul, Nat.reduceLeDiff, zEL, zup_ne, zup_eq, zT0, zT1, zT2, if_true, if_false, zneq_f, true_and, and_true, false_and, and_false, zKL, eq_self, Nat.reduceEqDiff, zite0, ite_not, zaddr, zaddl, zputr, zsb1, zsb2, zsb0, zsbm, znm1, gX, gM, tEC, S118, b1, t83u_12 (S := S) (L := L) b2, t83u_25 (S := S) (L := L) b3, t83u_51 (S := S) (L := L) b5, t37u (S := S) (L := L) b8, t77u (S := S) (L := L) b7, t155u (S := S) (L := L) b2, t156u (S := S) (L := L) b2]
  · simp (config := {maxSteps := 1000000}) (disch := omega) only [↓reduceIte, Int32.reduceLT, Int32.reduceLE, Int32.reduceToNatClampNeg, Int32.reduceAdd, Int32.reduceSub, Int32.reduceMul, Nat.reduceLeDiff, zEL, zup_ne, zup_eq, zT0, zT1, zT2, if_true, if_false, zneq_f, true_and, and_true, false_and, and_false, zKL, eq_self, Nat.reduceEqDiff, zite0, ite_not, zaddr, zaddl, zputr, zsb1, zsb2, zsb0, zsbm, znm1, layM0, tEM0, tUM, S244]
theorem u_119 (h : zTU S Sm) : ∃ S' Sm' : zS, zcall 119 [.ref 0] zRc S L = some (some (.int (-1)), zRc, S', L) ∧ zcall 245 [.ref 0] (zRm0 rd) Sm Lm = some (some (.int (-1)), zRm0 rd, Sm', Lm) ∧ zTU S' Sm' := by
  have h' := zTU_t (v := 0) h
  obtain ⟨-, b1, ⟨b2, b3, b4, b5, b6, b7, b8⟩, -, b9, -⟩ := h
  refine ⟨_, _, ?_, ?_, zTU_d 1 (by decide) h'⟩ <;> unfold zcall
  · simp (config := {maxSteps := 1000000}) (disch := omega) only [↓reduceIte, Int32.reduceLT, Int32.reduceLE, Int32.reduceToNatClampNeg, Int32.reduceAdd, Int32.reduceSub, Int32.reduceMul, Nat.reduceLeDiff, zEL, zup_ne, zup_eq, zT0, zT1, zT2, if_true, if_false, zneq_f, true_and, and_true, false_and, and_false, zKL, eq_self, Nat.reduceEqDiff, zite0, ite_not, zaddr, zaddl, zputr, zsb1, zsb2, zsb0, zsbm, znm1, gX, gM, tEC, S119, b1, t83u_12 (S := S) (L := L) b2, t83u_25 (S := S) (L := L) b3, t83u_51 (S := S) (L := L) b5, t37u (S := S) (L := L) b8, t77u (S := S) (L := L) b7, t155u (S := S) (L := L) b2, t156u (S := S) (L := L) b2]
  · simp (config := {maxSteps := 1000000}) (disch := omega) only [↓reduceIte, Int32.reduceLT, Int32.reduceLE, Int32.reduceToNatClampNeg, Int32.reduceAdd, Int32.reduceSub, Int32.reduceMul, Nat.reduceLeDiff, zEL, zup_ne, zup_eq, zT0, zT1, zT2, if_true, if_false, zneq_f, true_and, and_true, false_and, and_false, zKL, eq_self, Nat.reduceEqDiff, zite0, ite_not, zaddr, zaddl, zputr, zsb1, zsb2, zsb0, zsbm, znm1, layM0, tEM0, tUM, S245]
theorem u_121 {a b : Int32} (h : zTU S Sm) : ∃ S' Sm' : zS, zcall 121 [.ref 0, .int a, .int b] zRc S L = some (some (.int (-1)), zRc, S', L) ∧ zcall 248 [.ref 0, .int a, .int b] (zRm0 rd) Sm Lm = some (some (.int (-1)), zRm0 rd, Sm', Lm) ∧ zTU S' Sm' := by
  have h' := zTU_t (v := 0) h
  obtain ⟨-, b1, ⟨b2, b3, b4, b5, b6, b7, b8⟩, -, b9, -⟩ := h
  refine ⟨_, _, ?_, ?_, zTU_d 1 (by decide) h'⟩ <;> unfold zcall
  · simp (config := {maxSteps := 1000000}) (disch := omega) only [↓reduceIte, Int32.reduceLT, Int32.reduceLE, Int32.reduceToNatClampNeg, Int32.reduceAdd, Int32.reduceSub, Int32.reduceMul, Nat.reduceLeDiff, zEL, zup_ne, zup_eq, zT0, zT1, zT2, if_true, if_false, zneq_f, true_and, and_true, false_and, and_false, zKL, eq_self, Nat.reduceEqDiff, zite0, ite_not, zaddr, zaddl, zputr, zsb1, zsb2, zsb0, zsbm, znm1, gX, gM, tEC, S121, b1, t83u_12 (S := S) (L := L) b2, t83u_25 (S := S) (L := L) b3, t83u_51 (S := S) (L := L) b5, t37u (S := S) (L := L) b8, t77u (S := S) (L := L) b7, t155u (S := S) (L := L) b2, t156u (S := S) (L := L) b2]
  · simp (config := {maxSteps := 1000000}) (disch := omega) only [↓reduceIte, Int32.reduceLT, Int32.reduceLE, Int32.reduceToNatClampNeg, Int32.reduceAdd, Int32.reduceSub, Int32.reduceMul, Nat.reduceLeDiff, zEL, zup_ne, zup_eq, zT0, zT1, zT2, if_true, if_false, zneq_f, true_and, and_true, false_and, and_false, zKL, eq_self, Nat.reduceEqDiff, zite0, ite_not, zaddr, zaddl, zputr, zsb1, zsb2, zsb0, zsbm, znm1, layM0, tEM0, tUM, S248]
theorem u_122 {a : Int32} (h : zTU S Sm) : ∃ S' Sm' : zS, zcall 122 [.ref 0, .int a] zRc S L = some (some (.int (-1000)), zRc, S', L) ∧ zcall 249 [.ref 0, .int a] (zRm0 rd) Sm Lm = some (some (.int (-1000)), zRm0 rd, Sm', Lm) ∧ zTU S' Sm' := by
  have h' := zTU_t (v := 0) h
  obtain ⟨-, b1, ⟨b2, b3, b4, b5, b6, b7, b8⟩, -, b9, -⟩ := h
  refine ⟨_, _, ?_, ?_, zTU_d 1 (by decide) h'⟩ <;> unfold zcall
  · simp (config := {maxSteps := 1000000}) (disch := omega) only [↓reduceIte, Int32.reduceLT, Int32.reduceLE, Int32.reduceToNatClampNeg, Int32.reduceAdd, Int32.reduceSub, Int32.reduceMul, Nat.reduceLeDiff, zEL, zup_ne, zup_eq, zT0, zT1, zT2, if_true, if_false, zneq_f, true_and, and_true, false_and, and_false, zKL, eq_self, Nat.reduceEqDiff, zite0, ite_not, zaddr, zaddl, zputr, zsb1, zsb2, zsb0, zsbm, znm1, gX, gM, tEC, S122, b1, t83u_12 (S := S) (L := L) b2, t83u_25 (S := S) (L := L) b3, t83u_51 (S := S) (L := L) b5, t37u (S := S) (L := L) b8, t77u (S := S) (L := L) b7, t155u (S := S) (L := L) b2, t156u (S := S) (L := L) b2]
  · simp (config := {maxSteps := 1000000}) (disch := omega) only [↓reduceIte, Int32.reduceLT, Int32.reduceLE, Int32.reduceToNatClampNeg, Int32.reduceAdd, Int32.reduceSub, Int32.reduceMul, Nat.reduceLeDiff, zEL, zup_ne, zup_eq, zT0, zT1, zT2, if_true, if_false, zneq_f, true_and, and_true, false_and, and_false, zKL, eq_self, Nat.reduceEqDiff, zite0, ite_not, zaddr, zaddl, zputr, zsb1, zsb2, zsb0, zsbm, znm1, layM0, tEM0, tUM, S249]
theorem u_123 {a b c : Int32} (h : zTU S Sm) : ∃ S' Sm' : zS, zcall 123 [.ref 0, .int a, .int b, .int c] zRc S L = some (some (.int (-1)), zRc, S', L) ∧ zcall 251 [.ref 0, .int a, .int b, .int c] (zRm0 rd) Sm Lm = some (some (.int (-1)), zRm0 rd, Sm', Lm) ∧ zTU S' Sm' := by
  have h' := zTU_t (v := 0) h
  obtain ⟨-, b1, ⟨b2, b3, b4, b5, b6, b7, b8⟩, -, b9, -⟩ := h
  refine ⟨_, _, ?_, ?_, zTU_d 1 (by decide) h'⟩ <;> unfold zcall
  · simp (config := {maxSteps := 1000000}) (disch := omega) only [↓reduceIte, Int32.reduceLT, Int32.reduceLE, Int32.reduceToNatClampNeg, Int32.reduceAdd, Int32.reduceSub, Int32.reduceMul, Nat.reduceLeDiff, zEL, zup_ne, zup_eq, zT0, zT1, zT2, if_true, if_false, zneq_f, true_and, and_true, false_and, and_false, zKL, eq_self, Nat.reduceEqDiff, zite0, ite_not, zaddr, zaddl, zputr, zsb1, zsb2, zsb0, zsbm, znm1, gX, gM, tEC, S123, b1, t83u_12 (S := S) (L := L) b2, t83u_25 (S := S) (L := L) b3, t83u_51 (S := S) (L := L) b5, t37u (S := S) (L := L) b8, t77u (S := S) (L := L) b7, t155u (S := S) (L := L) b2, t156u (S := S) (L := L) b2]
  · simp (config := {maxSteps := 1000000}) (disch := omega) only [↓reduceIte, Int32.reduceLT, Int32.reduceLE, Int32.reduceToNatClampNeg, Int32.reduceAdd, Int32.reduceSub, Int32.reduceMul, Nat.reduceLeDiff, zEL, zup_ne, zup_eq, zT0, zT1, zT2, if_true, if_false, zneq_f, true_and, and_true, false_and, and_false, zKL, eq_self, Nat.reduceEqDiff, zite0, ite_not, zaddr, zaddl, zputr, zsb1, zsb2, zsb0, zsbm, znm1, layM0, tEM0, tUM, S251]
theorem u_124 {a b : Int32} (h : zTU S Sm) : ∃ S' Sm' : zS, zcall 124 [.ref 0, .int a, .int b] zRc S L = some (some (.int (-1)), zRc, S', L) ∧ zcall 252 [.ref 0, .int a, .int b] (zRm0 rd) Sm Lm = some (some (.int (-1)), zRm0 rd, Sm', Lm) ∧ zTU S' Sm' := by
  have h' := zTU_t (v := 0) h
  obtain ⟨-, b1, ⟨b2, b3, b4, b5, b6, b7, b8⟩, -, b9, -⟩ := h
  refine ⟨_, _, ?_, ?_, zTU_d 1 (by decide) h'⟩ <;> unfold zcall
  · simp (config := {maxSteps := 1000000}) (disch := omega) only [↓reduceIte, Int32.reduceLT, Int32.reduceLE, Int32.reduceToNatClampNeg, Int32.reduceAdd, Int32.reduceSub, Int32.reduceMul, Nat.reduceLeDiff, zEL, zup_ne, zup_eq, zT0, zT1, zT2, if_true, if_false, zneq_f, true_and, and_true, false_and, and_false, zKL, eq_self, Nat.reduceEqDiff, zite0, ite_not, zaddr, zaddl, zputr, zsb1, zsb2, zsb0, zsbm, znm1, gX, gM, tEC, S124, b1, t83u_12 (S := S) (L := L) b2, t83u_25 (S := S) (L := L) b3, t83u_51 (S := S) (L := L) b5, t37u (S := S) (L := L) b8, t77u (S := S) (L := L) b7, t155u (S := S) (L := L) b2, t156u (S := S) (L := L) b2]
  · simp (config := {maxSteps := 1000000}) (disch := omega) only [↓reduceIte, Int32.reduceLT, Int32.reduceLE, Int32.reduceToNatClampNeg, Int32.reduceAdd, Int32.reduceSub, Int32.reduceMul, Nat.reduceLeDiff, zEL, zup_ne, zup_eq, zT0, zT1, zT2, if_true, if_false, zneq_f, true_and, and_true, false_and, and_false, zKL, eq_self, Nat.reduceEqDiff, zite0, ite_not, zaddr, zaddl, zputr, zsb1, zsb2, zsb0, zsbm, znm1, layM0, tEM0, tUM, S252]
theorem u_125 {a b c : Int32} (h : zTU S Sm) : ∃ S' Sm' : zS, zcall 125 [.ref 0, .int a, .int b, .int c] zRc S L = some (some (.int (-1)), zRc, S', L) ∧ zcall 254 [.ref 0, .int a, .int b, .int c] (zRm0 rd) Sm Lm = some (some (.int (-1)), zRm0 rd, Sm', Lm) ∧ zTU S' Sm' := by
  have h' := zTU_t (v := 0) h
  obtain ⟨-, b1, ⟨b2, b3, b4, b5, b6, b7, b8⟩, -, b9, -⟩ := h
  refine ⟨_, _, ?_, ?_, zTU_d 1 (by decide) h'⟩ <;> unfold zcall
  · simp (config := {maxSteps := 1000000}) (disch := omega) only [↓reduceIte, Int32.reduceLT, Int32.reduceLE, Int32.reduceToNatClampNeg, Int32.reduceAdd, Int32.reduceSub, Int32.reduceMul, Nat.reduceLeDiff, zEL, zup_ne, zup_eq, zT0, zT1, zT2, if_true, if_false, zneq_f, true_and, and_true, false_and, and_false, zKL, eq_self, Nat.reduceEqDiff, zite0, ite_not, zaddr, zaddl, zputr, zsb1, zsb2, zsb0, zsbm, znm1, gX, gM, tEC, S125, b1, t83u_12 (S := S) (L := L) b2, t83u_25 (S := S) (L := L) b3, t83u_51 (S := S) (L := L) b5, t37u (S := S) (L := L) b8, t77u (S := S) (L := L) b7, t155u (S := S) (L := L) b2, t156u (S := S) (L := L) b2]
  · simp (config := {maxSteps := 1000000}) (disch := omega) only [↓reduceIte, Int32.reduceLT, Int32.reduceLE, Int32.reduceToNatClampNeg, Int32.reduceAdd, Int32.reduceSub, Int32.reduceMul, Nat.reduceLeDiff, zEL, zup_ne, zup_eq, zT0, zT1, zT2, if_true, if_false, zneq_f, true_and, and_true, false_and, and_false, zKL, eq_self, Nat.reduceEqDiff, zite0, ite_not, zaddr, zaddl, zputr, zsb1, zsb2, zsb0, zsbm, znm1, layM0, tEM0, tUM, S254]
theorem u_126 {a b c : Int32} (h : zTU S Sm) : ∃ S' Sm' : zS, zcall 126 [.ref 0, .int a, .int b, .int c] zRc S L = some (some (.int (-1)), zRc, S', L) ∧ zcall 257 [.ref 0, .int a, .int b, .int c] (zRm0 rd) Sm Lm = some (some (.int (-1)), zRm0 rd, Sm', Lm) ∧ zTU S' Sm' := by
  have h' := zTU_t (v := 0) h
  obtain ⟨-, b1, ⟨b2, b3, b4, b5, b6, b7, b8⟩, -, b9, -⟩ := h
  refine ⟨_, _, ?_, ?_, zTU_d 1 (by decide) h'⟩ <;> unfold zcall
  · simp (config := {maxSteps := 1000000}) (disch := omega) only [↓reduceIte, Int32.reduceLT, Int32.reduceLE, Int32.reduceToNatClampNeg, Int32.reduceAdd, Int32.reduceSub, Int32.reduceMul, Nat.reduceLeDiff, zEL, zup_ne, zup_eq, zT0, zT1, zT2, if_true, if_false, zneq_f, true_and, and_true, false_and, and_false, zKL, eq_self, Nat.reduceEqDiff, zite0, ite_not, zaddr, zaddl, zputr, zsb1, zsb2, zsb0, zsbm, znm1, gX, gM, tEC, S126, b1, t83u_12 (S := S) (L := L) b2, t83u_25 (S := S) (L := L) b3, t83u_51 (S := S) (L := L) b5, t37u (S := S) (L := L) b8, t77u (S := S) (L := L) b7, t155u (S := S) (L := L) b2, t156u (S := S) (L := L) b2]
  · simp (config := {maxSteps := 1000000}) (disch := omega) only [↓reduceIte, Int32.reduceLT, Int32.reduceLE, Int32.reduceToNatClampNeg, Int32.reduceAdd, Int32.reduceSub, Int32.reduceMul, Nat.reduceLeDiff, zEL, zup_ne, zup_eq, zT0, zT1, zT2, if_true, if_false, zneq_f, true_and, and_true, false_and, and_false, zKL, eq_self, Nat.reduceEqDiff, zite0, ite_not, zaddr, zaddl, zputr, zsb1, zsb2, zsb0, zsbm, znm1, layM0, tEM0, tUM, S257]
theorem u_127 {a b c : Int32} (h : zTU S Sm) : ∃ S' Sm' : zS, zcall 127 [.ref 0, .int a, .int b, .int c] zRc S L = some (some (.int (-1)), zRc, S', L) ∧ zcall 258 [.ref 0, .int a, .int b, .int c] (zRm0 rd) Sm Lm = some (some (.int (-1)), zRm0 rd, Sm', Lm) ∧ zTU S' Sm' := by
  have h' := zTU_t (v := 0) h
  obtain ⟨-, b1, ⟨b2, b3, b4, b5, b6, b7, b8⟩, -, b9, -⟩ := h
  refine ⟨_, _, ?_, ?_, zTU_d 1 (by decide) h'⟩ <;> unfold zcall
  · simp (config := {maxSteps := 1000000}) (disch := omega) only [↓reduceIte, Int32.reduceLT, Int32.reduceLE, Int32.reduceToNatClampNeg, Int32.reduceAdd, Int32.reduceSub, Int32.reduceMul, Nat.reduceLeDiff, zEL, zup_ne, zup_eq, zT0, zT1, zT2, if_true, if_false, zneq_f, true_and, and_true, false_and, and_false, zKL, eq_self, Nat.reduceEqDiff, zite0, ite_not, zaddr, zaddl, zputr, zsb1, zsb2, zsb0, zsbm, znm1, gX, gM, tEC, S127, b1, t83u_12 (S := S) (L := L) b2, t83u_25 (S := S) (L := L) b3, t83u_51 (S := S) (L := L) b5, t37u (S := S) (L := L) b8, t77u (S := S) (L := L) b7, t155u (S := S) (L := L) b2, t156u (S := S) (L := L) b2]
  · simp (config := {maxSteps := 1000000}) (disch := omega) only [↓reduceIte, Int32.reduceLT, Int32.reduceLE, Int32.reduceToNatClampNeg, Int32.reduceAdd, Int32.reduceSub, Int32.reduceMul, Nat.reduceLeDiff, zEL, zup_ne, zup_eq, zT0, zT1, zT2, if_true, if_false, zneq_f, true_and, and_true, false_and, and_false, zKL, eq_self, Nat.reduceEqDiff, zite0, ite_not, zaddr, zaddl, zputr, zsb1, zsb2, zsb0, zsbm, znm1, layM0, tEM0, tUM, S258]
theorem u_130 {a : Int32} (h : zTU S Sm) : ∃ S' Sm' : zS, zcall 130 [.ref 0, .int a] zRc S L = some (some (.int (-1)), zRc, S', L) ∧ zcall 265 [.ref 0, .int a] (zRm0 rd) Sm Lm = some (some (.int (-1)), zRm0 rd, Sm', Lm) ∧ zTU S' Sm' := by
  have h' := zTU_t (v := 0) h
  obtain ⟨-, b1, ⟨b2, b3, b4, b5, b6, b7, b8⟩, -, b9, -⟩ := h
  refine ⟨_, _, ?_, ?_, zTU_d 1 (by decide) h'⟩ <;> unfold zcall
  · simp (config := {maxSteps := 1000000}) (disch := omega) only [↓reduceIte, Int32.reduceLT, Int32.reduceLE, Int32.reduceToNatClampNeg, Int32.reduceAdd, Int32.reduceSub, Int32.reduceMul, Nat.reduceLeDiff, zEL, zup_ne, zup_eq, zT0, zT1, zT2, if_true, if_false, zneq_f, true_and, and_true, false_and, and_false, zKL, eq_self, Nat.reduceEqDiff, zite0, ite_not, zaddr, zaddl, zputr, zsb1, zsb2, zsb0, zsbm, znm1, gX, gM, tEC, S130, b1, t83u_12 (S := S) (L := L) b2, t83u_25 (S := S) (L := L) b3, t83u_51 (S := S) (L := L) b5, t37u (S := S) (L := L) b8, t77u (S := S) (L := L) b7, t155u (S := S) (L := L) b2, t156u (S := S) (L := L) b2]
  · simp (config := {maxSteps := 1000000}) (disch := omega) only [↓reduceIte, Int32.reduceLT, Int32.reduceLE, Int32.reduceToNatClampNeg, Int32.reduceAdd, Int32.reduceSub, Int32.reduceMul, Nat.reduceLeDiff, zEL, zup_ne, zup_eq, zT0, zT1, zT2, if_true, if_false, zneq_f, true_and, and_true, false_and, and_false, zKL, eq_self, Nat.reduceEqDiff, zite0, ite_not, zaddr, zaddl, zputr, zsb1, zsb2, zsb0, zsbm, znm1, layM0, tEM0, tUM, S265]
theorem u_131 {a b : Int32} (h : zTU S Sm) : ∃ S' Sm' : zS, zcall 131 [.ref 0, .int a, .int b] zRc S L = some (some (.int (-1)), zRc, S', L) ∧ zcall 267 [.ref 0, .int a, .int b] (zRm0 rd) Sm Lm = some (some (.int (-1)), zRm0 rd, Sm', Lm) ∧ zTU S' Sm' := by
  have h' := zTU_t (v := 0) h
  obtain ⟨-, b1, ⟨b2, b3, b4, b5, b6, b7, b8⟩, -, b9, -⟩ := h
  refine ⟨_, _, ?_, ?_, zTU_d 1 (by decide) h'⟩ <;> unfold zcall
  · simp (config := {maxSteps := 1000000}) (disch := omega) only [↓reduceIte, Int32.reduceLT, Int32.reduceLE, Int32.reduceToNatClampNeg, Int32.reduceAdd, Int32.reduceSub, Int32.reduceMul, Nat.reduceLeDiff, zEL, zup_ne, zup_eq, zT0, zT1, zT2, if_true, if_false, zneq_f, true_and, and_true, false_and, and_false, zKL, eq_self, Nat.reduceEqDiff, zite0, ite_not, zaddr, zaddl, zputr, zsb1, zsb2, zsb0, zsbm, znm1, gX, gM, tEC, S131, b1, t83u_12 (S := S) (L := L) b2, t83u_25 (S := S) (L := L) b3, t83u_51 (S := S) (L := L) b5, t37u (S := S) (L := L) b8, t77u (S := S) (L := L) b7, t155u (S := S) (L := L) b2, t156u (S := S) (L := L) b2]
  · simp (config := {maxSteps := 1000000}) (disch := omega) only [↓reduceIte, Int32.reduceLT, Int32.reduceLE, Int32.reduceToNatClampNeg, Int32.reduceAdd, Int32.reduceSub, Int32.reduceMul, Nat.reduceLeDiff, zEL, zup_ne, zup_eq, zT0, zT1, zT2, if_true, if_false, zneq_f, true_and, and_true, false_and, and_false, zKL, eq_self, Nat.reduceEqDiff, zite0, ite_not, zaddr, zaddl, zputr, zsb1, zsb2, zsb0, zsbm, znm1, layM0, tEM0, tUM, S267]
theorem u_132 {a b : Int32} (h : zTU S Sm) : ∃ S' Sm' : zS, zcall 132 [.ref 0, .int a, .int b] zRc S L = some (some (.int (-1)), zRc, S', L) ∧ zcall 269 [.ref 0, .int a, .int b] (zRm0 rd) Sm Lm = some (some (.int (-1)), zRm0 rd, Sm', Lm) ∧ zTU S' Sm' := by
  have h' := zTU_t (v := 0) h
  obtain ⟨-, b1, ⟨b2, b3, b4, b5, b6, b7, b8⟩, -, b9, -⟩ := h
  refine ⟨_, _, ?_, ?_, zTU_d 1 (by decide) h'⟩ <;> unfold zcall
  · simp (config := {maxSteps := 1000000}) (disch := omega) only [↓reduceIte, Int32.reduceLT, Int32.reduceLE, Int32.reduceToNatClampNeg, Int32.reduceAdd, Int32.reduceSub, Int32.reduceMul, Nat.reduceLeDiff, zEL, zup_ne, zup_eq, zT0, zT1, zT2, if_true, if_false, zneq_f, true_and, and_true, false_and, and_false, zKL, eq_self, Nat.reduceEqDiff, zite0, ite_not, zaddr, zaddl, zputr, zsb1, zsb2, zsb0, zsbm, znm1, gX, gM, tEC, S132, b1, t83u_12 (S := S) (L := L) b2, t83u_25 (S := S) (L := L) b3, t83u_51 (S := S) (L := L) b5, t37u (S := S) (L := L) b8, t77u (S := S) (L := L) b7, t155u (S := S) (L := L) b2, t156u (S := S) (L := L) b2]
  · simp (config := {maxSteps := 1000000}) (disch := omega) only [↓reduceIte, Int32.reduceLT, Int32.reduceLE, Int32.reduceToNatClampNeg, Int32.reduceAdd, Int32.reduceSub, Int32.reduceMul, Nat.reduceLeDiff, zEL, zup_ne, zup_eq, zT0, zT1, zT2, if_true, if_false, zneq_f, true_and, and_true, false_and, and_false, zKL, eq_self, Nat.reduceEqDiff, zite0, ite_not, zaddr, zaddl, zputr, zsb1, zsb2, zsb0, zsbm, znm1, layM0, tEM0, tUM, S269]
theorem u_133 {a b : Int32} (h : zTU S Sm) : ∃ S' Sm' : zS, zcall 133 [.ref 0, .int a, .int b] zRc S L = some (some (.int (-1)), zRc, S', L) ∧ zcall 270 [.ref 0, .int a, .int b] (zRm0 rd) Sm Lm = some (some (.int (-1)), zRm0 rd, Sm', Lm) ∧ zTU S' Sm' := by
  have h' := zTU_t (v := 0) h
  obtain ⟨-, b1, ⟨b2, b3, b4, b5, b6, b7, b8⟩, -, b9, -⟩ := h
  refine ⟨_, _, ?_, ?_, zTU_d 1 (by decide) h'⟩ <;> unfold zcall
  · simp (config := {maxSteps := 1000000}) (disch := omega) only [↓reduceIte, Int32.reduceLT, Int32.reduceLE, Int32.reduceToNatClampNeg, Int32.reduceAdd, Int32.reduceSub, Int32.reduceMul, Nat.reduceLeDiff, zEL, zup_ne, zup_eq, zT0, zT1, zT2, if_true, if_false, zneq_f, true_and, and_true, false_and, and_false, zKL, eq_self, Nat.reduceEqDiff, zite0, ite_not, zaddr, zaddl, zputr, zsb1, zsb2, zsb0, zsbm, znm1, gX, gM, tEC, S133, b1, t83u_12 (S := S) (L := L) b2, t83u_25 (S := S) (L := L) b3, t83u_51 (S := S) (L := L) b5, t37u (S := S) (L := L) b8, t77u (S := S) (L := L) b7, t155u (S := S) (L := L) b2, t156u (S := S) (L := L) b2]
  · simp (config := {maxSteps := 1000000}) (disch := omega) only [↓reduceIte, Int32.reduceLT, Int32.reduceLE, Int32.reduceToNatClampNeg, Int32.reduceAdd, Int32.reduceSub, Int32.reduceMul, Nat.reduceLeDiff, zEL, zup_ne, zup_eq, zT0, zT1, zT2, if_true, if_false, zneq_f, true_and, and_true, false_and, and_false, zKL, eq_self, Nat.reduceEqDiff, zite0, ite_not, zaddr, zaddl, zputr, zsb1, zsb2, zsb0, zsbm, znm1, layM0, tEM0, tUM, S270]
theorem u_134 {a b : Int32} (h : zTU S Sm) : ∃ S' Sm' : zS, zcall 134 [.ref 0, .int a, .int b] zRc S L = some (some (.int (-1)), zRc, S', L) ∧ zcall 273 [.ref 0, .int a, .int b] (zRm0 rd) Sm Lm = some (some (.int (-1)), zRm0 rd, Sm', Lm) ∧ zTU S' Sm' := by
  have h' := zTU_t (v := 0) h
  obtain ⟨-, b1, ⟨b2, b3, b4, b5, b6, b7, b8⟩, -, b9, -⟩ := h
  refine ⟨_, _, ?_, ?_, zTU_d 1 (by decide) h'⟩ <;> unfold zcall
  · simp (config := {maxSteps := 1000000}) (disch := omega) only [↓reduceIte, Int32.reduceLT, Int32.reduceLE, Int32.reduceToNatClampNeg, Int32.reduceAdd, Int32.reduceSub, Int32.reduceMul, Nat.reduceLeDiff, zEL, zup_ne, zup_eq, zT0, zT1, zT2, if_true, if_false, zneq_f, true_and, and_true, false_and, and_false, zKL, eq_self, Nat.reduceEqDiff, zite0, ite_not, zaddr, zaddl, zputr, zsb1, zsb2, zsb0, zsbm, znm1, gX, gM, tEC, S134, b1, t83u_12 (S := S) (L := L) b2, t83u_25 (S := S) (L := L) b3, t83u_51 (S := S) (L := L) b5, t37u (S := S) (L := L) b8, t77u (S := S) (L := L) b7, t155u (S := S) (L := L) b2, t156u (S := S) (L := L) b2]
  · simp (config := {maxSteps := 1000000}) (disch := omega) only [↓reduceIte, Int32.reduceLT, Int32.reduceLE, Int32.reduceToNatClampNeg, Int32.reduceAdd, Int32.reduceSub, Int32.reduceMul, Nat.reduceLeDiff, zEL, zup_ne, zup_eq, zT0, zT1, zT2, if_true, if_false, zneq_f, true_and, and_true, false_and, and_false, zKL, eq_self, Nat.reduceEqDiff, zite0, ite_not, zaddr, zaddl, zputr, zsb1, zsb2, zsb0, zsbm, znm1, layM0, tEM0, tUM, S273]
theorem u_135 {a b : Int32} (h : zTU S Sm) : ∃ S' Sm' : zS, zcall 135 [.ref 0, .int a, .int b] zRc S L = some (some (.int (-1)), zRc, S', L) ∧ zcall 274 [.ref 0, .int a, .int b] (zRm0 rd) Sm Lm = some (some (.int (-1)), zRm0 rd, Sm', Lm) ∧ zTU S' Sm' := by
  have h' := zTU_t (v := 0) h
  obtain ⟨-, b1, ⟨b2, b3, b4, b5, b6, b7, b8⟩, -, b9, -⟩ := h
  refine ⟨_, _, ?_, ?_, zTU_d 1 (by decide) h'⟩ <;> unfold zcall
  · simp (config := {maxSteps := 1000000}) (disch := omega) only [↓reduceIte, Int32.reduceLT, Int32.reduceLE, Int32.reduceToNatClampNeg, Int32.reduceAdd, Int32.reduceSub, Int32.reduceMul, Nat.reduceLeDiff, zEL, zup_ne, zup_eq, zT0, zT1, zT2, if_true, if_false, zneq_f, true_and, and_true, false_and, and_false, zKL, eq_self, Nat.reduceEqDiff, zite0, ite_not, zaddr, zaddl, zputr, zsb1, zsb2, zsb0, zsbm, znm1, gX, gM, tEC, S135, b1, t83u_12 (S := S) (L := L) b2, t83u_25 (S := S) (L := L) b3, t83u_51 (S := S) (L := L) b5, t37u (S := S) (L := L) b8, t77u (S := S) (L := L) b7, t155u (S := S) (L := L) b2, t156u (S := S) (L := L) b2]
  · simp (config := {maxSteps := 1000000}) (disch := omega) only [↓reduceIte, Int32.reduceLT, Int32.reduceLE, Int32.reduceToNatClampNeg, Int32.reduceAdd, Int32.reduceSub, Int32.reduceMul, Nat.reduceLeDiff, zEL, zup_ne, zup_eq, zT0, zT1, zT2, if_true, if_false, zneq_f, true_and, and_true, false_and, and_false, zKL, eq_self, Nat.reduceEqDiff, zite0, ite_not, zaddr, zaddl, zputr, zsb1, zsb2, zsb0, zsbm, znm1, layM0, tEM0, tUM, S274]
theorem u_136 {a b : Int32} (h : zTU S Sm) : ∃ S' Sm' : zS, zcall 136 [.ref 0, .int a, .int b] zRc S L = some (some (.int (-1)), zRc, S', L) ∧ zcall 275 [.ref 0, .int a, .int b] (zRm0 rd) Sm Lm = some (some (.int (-1)), zRm0 rd, Sm', Lm) ∧ zTU S' Sm' := by
  have h' := zTU_t (v := 0) h
  obtain ⟨-, b1, ⟨b2, b3, b4, b5, b6, b7, b8⟩, -, b9, -⟩ := h
  refine ⟨_, _, ?_, ?_, zTU_d 1 (by decide) h'⟩ <;> unfold zcall
  · simp (config := {maxSteps := 1000000}) (disch := omega) only [↓reduceIte, Int32.reduceLT, Int32.reduceLE, Int32.reduceToNatClampNeg, Int32.reduceAdd, Int32.reduceSub, Int32.reduceMul, Nat.reduceLeDiff, zEL, zup_ne, zup_eq, zT0, zT1, zT2, if_true, if_false, zneq_f, true_and, and_true, false_and, and_false, zKL, eq_self, Nat.reduceEqDiff, zite0, ite_not, zaddr, zaddl, zputr, zsb1, zsb2, zsb0, zsbm, znm1, gX, gM, tEC, S136, b1, t83u_12 (S := S) (L := L) b2, t83u_25 (S := S) (L := L) b3, t83u_51 (S := S) (L := L) b5, t37u (S := S) (L := L) b8, t77u (S := S) (L := L) b7, t155u (S := S) (L := L) b2, t156u (S := S) (L := L) b2]
  · simp (config := {maxSteps := 1000000}) (disch := omega) only [↓reduceIte, Int32.reduceLT, Int32.reduceLE, Int32.reduceToNatClampNeg, Int32.reduceAdd, Int32.reduceSub, Int32.reduceMul, Nat.reduceLeDiff, zEL, zup_ne, zup_eq, zT0, zT1, zT2, if_true, if_false, zneq_f, true_and, and_true, false_and, and_false, zKL, eq_self, Nat.reduceEqDiff, zite0, ite_not, zaddr, zaddl, zputr, zsb1, zsb2, zsb0, zsbm, znm1, layM0, tEM0, tUM, S275]
theorem u_137 {a b : Int32} (h : zTU S Sm) : ∃ S' Sm' : zS, zcall 137 [.ref 0, .int a, .int b] zRc S L = some (some (.int (-1)), zRc, S', L) ∧ zcall 276 [.ref 0, .int a, .int b] (zRm0 rd) Sm Lm = some (some (.int (-1)), zRm0 rd, Sm', Lm) ∧ zTU S' Sm' := by
  have h' := zTU_t (v := 0) h
  obtain ⟨-, b1, ⟨b2, b3, b4, b5, b6, b7, b8⟩, -, b9, -⟩ := h
  refine ⟨_, _, ?_, ?_, zTU_d 1 (by decide) h'⟩ <;> unfold zcall
  · simp (config := {maxSteps := 1000000}) (disch := omega) only [↓reduceIte, Int32.reduceLT, Int32.reduceLE, Int32.reduceToNatClampNeg, Int32.reduceAdd, Int32.reduceSub, Int32.reduceMul, Nat.reduceLeDiff, zEL, zup_ne, zup_eq, zT0, zT1, zT2, if_true, if_false, zneq_f, true_and, and_true, false_and, and_false, zKL, eq_self, Nat.reduceEqDiff, zite0, ite_not, zaddr, zaddl, zputr, zsb1, zsb2, zsb0, zsbm, znm1, gX, gM, tEC, S137, b1, t83u_12 (S := S) (L := L) b2, t83u_25 (S := S) (L := L) b3, t83u_51 (S := S) (L := L) b5, t37u (S := S) (L := L) b8, t77u (S := S) (L := L) b7, t155u (S := S) (L := L) b2, t156u (S := S) (L := L) b2]
  · simp (config := {maxSteps := 1000000}) (disch := omega) only [↓reduceIte, Int32.reduceLT, Int32.reduceLE, Int32.reduceToNatClampNeg, Int32.reduceAdd, Int32.reduceSub, Int32.reduceMul, Nat.reduceLeDiff, zEL, zup_ne, zup_eq, zT0, zT1, zT2, if_true, if_false, zneq_f, true_and, and_true, false_and, and_false, zKL, eq_self, Nat.reduceEqDiff, zite0, ite_not, zaddr, zaddl, zputr, zsb1, zsb2, zsb0, zsbm, znm1, layM0, tEM0, tUM, S276]
theorem u_138 {a : Int32} (h : zTU S Sm) : ∃ S' Sm' : zS, zcall 138 [.ref 0, .int a] zRc S L = some (some (.int (-1)), zRc, S', L) ∧ zcall 277 [.ref 0, .int a] (zRm0 rd) Sm Lm = some (some (.int (-1)), zRm0 rd, Sm', Lm) ∧ zTU S' Sm' := by
  have h' := zTU_t (v := 0) h
  obtain ⟨-, b1, ⟨b2, b3, b4, b5, b6, b7, b8⟩, -, b9, -⟩ := h
  refine ⟨_, _, ?_, ?_, zTU_d 1 (by decide) h'⟩ <;> unfold zcall
  · simp (config := {maxSteps := 1000000}) (disch := omega) only [↓reduceIte, Int32.reduceLT, Int32.reduceLE, Int32.reduceToNatClampNeg, Int32.reduceAdd, Int32.reduceSub, Int32.reduceMul, Nat.reduceLeDiff, zEL, zup_ne, zup_eq, zT0, zT1, zT2, if_true, if_false, zneq_f, true_and, and_true, false_and, and_false, zKL, eq_self, Nat.reduceEqDiff, zite0, ite_not, zaddr, zaddl, zputr, zsb1, zsb2, zsb0, zsbm, znm1, gX, gM, tEC, S138, b1, t83u_12 (S := S) (L := L) b2, t83u_25 (S := S) (L := L) b3, t83u_51 (S := S) (L := L) b5, t37u (S := S) (L := L) b8, t77u (S := S) (L := L) b7, t155u (S := S) (L := L) b2, t156u (S := S) (L := L) b2]
  · simp (config := {maxSteps := 1000000}) (disch := omega) only [↓reduceIte, Int32.reduceLT, Int32.reduceLE, Int32.reduceToNatClampNeg, Int32.reduceAdd, Int32.reduceSub, Int32.reduceMul, Nat.reduceLeDiff, zEL, zup_ne, zup_eq, zT0, zT1, zT2, if_true, if_false, zneq_f, true_and, and_true, false_and, and_false, zKL, eq_self, Nat.reduceEqDiff, zite0, ite_not, zaddr, zaddl, zputr, zsb1, zsb2, zsb0, zsbm, znm1, layM0, tEM0, tUM, S277]
theorem u_139 {a : Int32} (h : zTU S Sm) : ∃ S' Sm' : zS, zcall 139 [.ref 0, .int a] zRc S L = some (some (.int (-1)), zRc, S', L) ∧ zcall 280 [.ref 0, .int a] (zRm0 rd) Sm Lm = some (some (.int (-1)), zRm0 rd, Sm', Lm) ∧ zTU S' Sm' := by
  have h' := zTU_t (v := 0) h
  obtain ⟨-, b1, ⟨b2, b3, b4, b5, b6, b7, b8⟩, -, b9, -⟩ := h
  refine ⟨_, _, ?_, ?_, zTU_d 1 (by decide) h'⟩ <;> unfold zcall
  · simp (config := {maxSteps := 1000000}) (disch := omega) only [↓reduceIte, Int32.reduceLT, Int32.reduceLE, Int32.reduceToNatClampNeg, Int32.reduceAdd, Int32.reduceSub, Int32.reduceMul, Nat.reduceLeDiff, zEL, zup_ne, zup_eq, zT0, zT1, zT2, if_true, if_false, zneq_f, true_and, and_true, false_and, and_false, zKL, eq_self, Nat.reduceEqDiff, zite0, ite_not, zaddr, zaddl, zputr, zsb1, zsb2, zsb0, zsbm, znm1, gX, gM, tEC, S139, b1, t83u_12 (S := S) (L := L) b2, t83u_25 (S := S) (L := L) b3, t83u_51 (S := S) (L := L) b5, t37u (S := S) (L := L) b8, t77u (S := S) (L := L) b7, t155u (S := S) (L := L) b2, t156u (S := S) (L := L) b2]
  · simp (config := {maxSteps := 1000000}) (disch := omega) only [↓reduceIte, Int32.reduceLT, Int32.reduceLE, Int32.reduceToNatClampNeg, Int32.reduceAdd, Int32.reduceSub, Int32.reduceMul, Nat.reduceLeDiff, zEL, zup_ne, zup_eq, zT0, zT1, zT2, if_true, if_false, zneq_f, true_and, and_true, false_and, and_false, zKL, eq_self, Nat.reduceEqDiff, zite0, ite_not, zaddr, zaddl, zputr, zsb1, zsb2, zsb0, zsbm, znm1, layM0, tEM0, tUM, S280]
theorem u_140 {a b : Int32} (h : zTU S Sm) : ∃ S' Sm' : zS, zcall 140 [.ref 0, .int a, .int b] zRc S L = some (some (.int (-1)), zRc, S', L) ∧ zcall 281 [.ref 0, .int a, .int b] (zRm0 rd) Sm Lm = some (some (.int (-1)), zRm0 rd, Sm', Lm) ∧ zTU S' Sm' := by
  have h' := zTU_t (v := 0) h
  obtain ⟨-, b1, ⟨b2, b3, b4, b5, b6, b7, b8⟩, -, b9, -⟩ := h
  refine ⟨_, _, ?_, ?_, zTU_d 1 (by decide) h'⟩ <;> unfold zcall
  · simp (config := {maxSteps := 1000000}) (disch := omega) only [↓reduceIte, Int32.reduceLT, Int32.reduceLE, Int32.reduceToNatClampNeg, Int32.reduceAdd, Int32.reduceSub, Int32.reduceMul, Nat.reduceLeDiff, zEL, zup_ne, zup_eq, zT0, zT1, zT2, if_true, if_false, zneq_f, true_and, and_true, false_and, and_false, zKL, eq_self, Nat.reduceEqDiff, zite0, ite_not, zaddr, zaddl, zputr, zsb1, zsb2, zsb0, zsbm, znm1, gX, gM, tEC, S140, b1, t83u_12 (S := S) (L := L) b2, t83u_25 (S := S) (L := L) b3, t83u_51 (S := S) (L := L) b5, t37u (S := S) (L := L) b8, t77u (S := S) (L := L) b7, t155u (S := S) (L := L) b2, t156u (S := S) (L := L) b2]
  · simp (config := {maxSteps := 1000000}) (disch := omega) only [↓reduceIte, Int32.reduceLT, Int32.reduceLE, Int32.reduceToNatClampNeg, Int32.reduceAdd, Int32.reduceSub, Int32.reduceMul, Nat.reduceLeDiff, zEL, zup_ne, zup_eq, zT0, zT1, zT2, if_true, if_false, zneq_f, true_and, and_true, false_and, and_false, zKL, eq_self, Nat.reduceEqDiff, zite0, ite_not, zaddr, zaddl, zputr, zsb1, zsb2, zsb0, zsbm, znm1, layM0, tEM0, tUM, S281]
theorem u_141 {a : Int32} (h : zTU S Sm) : ∃ S' Sm' : zS, zcall 141 [.ref 0, .int a] zRc S L = some (some (.int (-1)), zRc, S', L) ∧ zcall 282 [.ref 0, .int a] (zRm0 rd) Sm Lm = some (some (.int (-1)), zRm0 rd, Sm', Lm) ∧ zTU S' Sm' := by
  have h' := zTU_t (v := 0) h
  obtain ⟨-, b1, ⟨b2, b3, b4, b5, b6, b7, b8⟩, -, b9, -⟩ := h
  refine ⟨_, _, ?_, ?_, zTU_d 1 (by decide) h'⟩ <;> unfold zcall
  · simp (config := {maxSteps := 1000000}) (disch := omega) only [↓reduceIte, Int32.reduceLT, Int32.reduceLE, Int32.reduceToNatClampNeg, Int32.reduceAdd, Int32.reduceSub, Int32.reduceMul, Nat.reduceLeDiff, zEL, zup_ne, zup_eq, zT0, zT1, zT2, if_true, if_false, zneq_f, true_and, and_true, false_and, and_false, zKL, eq_self, Nat.reduceEqDiff, zite0, ite_not, zaddr, zaddl, zputr, zsb1, zsb2, zsb0, zsbm, znm1, gX, gM, tEC, S141, b1, t83u_12 (S := S) (L := L) b2, t83u_25 (S := S) (L := L) b3, t83u_51 (S := S) (L := L) b5, t37u (S := S) (L := L) b8, t77u (S := S) (L := L) b7, t155u (S := S) (L := L) b2, t156u (S := S) (L := L) b2]
  · simp (config := {maxSteps := 1000000}) (disch := omega) only [↓reduceIte, Int32.reduceLT, Int32.reduceLE, Int32.reduceToNatClampNeg, Int32.reduceAdd, Int32.reduceSub, Int32.reduceMul, Nat.reduceLeDiff, zEL, zup_ne, zup_eq, zT0, zT1, zT2, if_true, if_false, zneq_f, true_and, and_true, false_and, and_false, zKL, eq_self, Nat.reduceEqDiff, zite0, ite_not, zaddr, zaddl, zputr, zsb1, zsb2, zsb0, zsbm, znm1, layM0, tEM0, tUM, S282]
theorem u_143 (h : zTU S Sm) : ∃ S' Sm' : zS, zcall 143 [.ref 0] zRc S L = some (some (.int (-1)), zRc, S', L) ∧ zcall 287 [.ref 0] (zRm0 rd) Sm Lm = some (some (.int (-1)), zRm0 rd, Sm', Lm) ∧ zTU S' Sm' := by
  have h' := zTU_t (v := 0) h
  obtain ⟨-, b1, ⟨b2, b3, b4, b5, b6, b7, b8⟩, -, b9, -⟩ := h
  refine ⟨_, _, ?_, ?_, zTU_d 1 (by decide) h'⟩ <;> unfold zcall
  · simp (config := {maxSteps := 1000000}) (disch := omega) only [↓reduceIte, Int32.reduceLT, Int32.reduceLE, Int32.reduceToNatClampNeg, Int32.reduceAdd, Int32.reduceSub, Int32.reduceMul, Nat.reduceLeDiff, zEL, zup_ne, zup_eq, zT0, zT1, zT2, if_true, if_false, zneq_f, true_and, and_true, false_and, and_false, zKL, eq_self, Nat.reduceEqDiff, zite0, ite_not, zaddr, zaddl, zputr, zsb1, zsb2, zsb0, zsbm, znm1, gX, gM, tEC, S143, b1, t83u_12 (S := S) (L := L) b2, t83u_25 (S := S) (L := L) b3, t83u_51 (S := S) (L := L) b5, t37u (S := S) (L := L) b8, t77u (S := S) (L := L) b7, t155u (S := S) (L := L) b2, t156u (S := S) (L := L) b2]
  · simp (config := {maxSteps := 1000000}) (disch := omega) only [↓reduceIte, Int32.reduceLT, Int32.reduceLE, Int32.reduceToNatClampNeg, Int32.reduceAdd, Int32.reduceSub, Int32.reduceMul, Nat.reduceLeDiff, zEL, zup_ne, zup_eq, zT0, zT1, zT2, if_true, if_false, zneq_f, true_and, and_true, false_and, and_false, zKL, eq_self, Nat.reduceEqDiff, zite0, ite_not, zaddr, zaddl, zputr, zsb1, zsb2, zsb0, zsbm, znm1, layM0, tEM0, tUM, S287]
theorem u_144 (h : zTU S Sm) : ∃ S' Sm' : zS, zcall 144 [.ref 0] zRc S L = some (some (.int (-1)), zRc, S', L) ∧ zcall 288 [.ref 0] (zRm0 rd) Sm Lm = some (some (.int (-1)), zRm0 rd, Sm', Lm) ∧ zTU S' Sm' := by
  have h' := zTU_t (v := 0) h
  obtain ⟨-, b1, ⟨b2, b3, b4, b5, b6, b7, b8⟩, -, b9, -⟩ := h
  refine ⟨_, _, ?_, ?_, zTU_d 1 (by decide) h'⟩ <;> unfold zcall
  · simp (config := {maxSteps := 1000000}) (disch := omega) only [↓reduceIte, Int32.reduceLT, Int32.reduceLE, Int32.reduceToNatClampNeg, Int32.reduceAdd, Int32.reduceSub, Int32.reduceMul, Nat.reduceLeDiff, zEL, zup_ne, zup_eq, zT0, zT1, zT2, if_true, if_false, zneq_f, true_and, and_true, false_and, and_false, zKL, eq_self, Nat.reduceEqDiff, zite0, ite_not, zaddr, zaddl, zputr, zsb1, zsb2, zsb0, zsbm, znm1, gX, gM, tEC, S144, b1, t83u_12 (S := S) (L := L) b2, t83u_25 (S := S) (L := L) b3, t83u_51 (S := S) (L := L) b5, t37u (S := S) (L := L) b8, t77u (S := S) (L := L) b7, t155u (S := S) (L := L) b2, t156u (S := S) (L := L) b2]
  · simp (config := {maxSteps := 1000000}) (disch := omega) only [↓reduceIte, Int32.reduceLT, Int32.reduceLE, Int32.reduceToNatClampNeg, Int32.reduceAdd, Int32.reduceSub, Int32.reduceMul, Nat.reduceLeDiff, zEL, zup_ne, zup_eq, zT0, zT1, zT2, if_true, if_false, zneq_f, true_and, and_true, false_and, and_false, zKL, eq_self, Nat.reduceEqDiff, zite0, ite_not, zaddr, zaddl, zputr, zsb1, zsb2, zsb0, zsbm, znm1, layM0, tEM0, tUM, S288]
theorem u_142 {a : Int32} (h : zTU S Sm) : ∃ S' Sm' : zS, zcall 142 [.ref 0, .int a] zRc S L = some (some (.long (-1)), zRc, S', L) ∧ zcall 285 [.ref 0, .int a] (zRm0 rd) Sm Lm = some (some (.long (-1)), zRm0 rd, Sm', Lm) ∧ zTU S' Sm' := by
  have h' := zTU_t (v := 0) h
  obtain ⟨-, b1, ⟨b2, b3, b4, b5, b6, b7, b8⟩, -, b9, -⟩ := h
  refine ⟨_, _, ?_, ?_, zTU_d 1 (by decide) h'⟩ <;> unfold zcall
  · simp (config := {maxSteps := 1000000}) (disch := omega) only [↓reduceIte, Int32.reduceLT, Int32.reduceLE, Int32.reduceToNatClampNeg, Int32.reduceAdd, Int32.reduceSub, Int32.reduceMul, Nat.reduceLeDiff, zEL, zup_ne, zup_eq, zT0, zT1, zT2, if_true, if_false, zneq_f, true_and, and_true, false_and, and_false, zKL, eq_self, Nat.reduceEqDiff, zite0, ite_not, zaddr, zaddl, zputr, zsb1, zsb2, zsb0, zsbm, znm1, gX, gM, tEC, S142, b1, t37u (S := S) (L := L) b8]
    all_goals rfl
  · simp (config := {maxSteps := 1000000}) (disch := omega) only [↓reduceIte, Int32.reduceLT, Int32.reduceLE, Int32.reduceToNatClampNeg, Int32.reduceAdd, Int32.reduceSub, Int32.reduceMul, Nat.reduceLeDiff, zEL, zup_ne, zup_eq, zT0, zT1, zT2, if_true, if_false, zneq_f, true_and, and_true, false_and, and_false, zKL, eq_self, Nat.reduceEqDiff, zite0, ite_not, zaddr, zaddl, zputr, zsb1, zsb2, zsb0, zsbm, znm1, layM0, tEM0, tUM, S285]
    all_goals rfl
theorem u_120 {a : Int32} (h : zTU S Sm) : ∃ S' Sm' : zS, zcall 120 [.ref 0, .int a] zRc S L = some (some (.int 0), zRc, S', L) ∧ zcall 246 [.ref 0, .int a] (zRm0 rd) Sm Lm = some (some (.int 0), zRm0 rd, Sm', Lm) ∧ zTU S' Sm' := by
  have h' := zTU_t (v := 0) h
  obtain ⟨-, b1, -, -, b9, -⟩ := h
  refine ⟨_, _, ?_, ?_, zTU_d 1 (by decide) h'⟩ <;> unfold zcall
  · by_cases h0 : a < 0
    · simp (config := {maxSteps := 1000000}) (disch := omega) only [↓reduceIte, Int32.reduceLT, Int32.reduceLE, Int32.reduceToNatClampNeg, Int32.reduceAdd, Int32.reduceSub, Int32.reduceMul, Nat.reduceLeDiff, zEL, zup_ne, zup_eq, zT0, zT1, zT2, if_true, if_false, zneq_f, true_and, and_true, false_and, and_false, zKL, eq_self, Nat.reduceEqDiff, zite0, ite_not, zaddr, zaddl, zputr, zsb1, zsb2, zsb0, zsbm, znm1, gX, tEC, S120, b9, h0]
    · simp (config := {maxSteps := 1000000}) (disch := omega) only [↓reduceIte, Int32.reduceLT, Int32.reduceLE, Int32.reduceToNatClampNeg, Int32.reduceAdd, Int32.reduceSub, Int32.reduceMul, Nat.reduceLeDiff, zEL, zup_ne, zup_eq, zT0, zT1, zT2, if_true, if_false, zneq_f, true_and, and_true, false_and, and_false, zKL, eq_self, Nat.reduceEqDiff, zite0, ite_not, zaddr, zaddl, zputr, zsb1, zsb2, zsb0, zsbm, znm1, gX, tEC, S120, b9, h0, Int32.not_lt.mp h0]
  · simp (config := {maxSteps := 1000000}) (disch := omega) only [↓reduceIte, Int32.reduceLT, Int32.reduceLE, Int32.reduceToNatClampNeg, Int32.reduceAdd, Int32.reduceSub, Int32.reduceMul, Nat.reduceLeDiff, zEL, zup_ne, zup_eq, zT0, zT1, zT2, if_true, if_false, zneq_f, true_and, and_true, false_and, and_false, zKL, eq_self, Nat.reduceEqDiff, zite0, ite_not, zaddr, zaddl, zputr, zsb1, zsb2, zsb0, zsbm, znm1, layM0, tEM0, tUM, S246]
/-! fault, where, trouble, size: of both -/
theorem u_105 (h : zTU S Sm) : ∃ v : Int32, ∃ Sm' : zS, zcall 105 [.ref 0] zRc S L = some (some (.int v), zRc, S, L) ∧ zcall 205 [.ref 0] (zRm0 rd) Sm Lm = some (some (.int v), zRm0 rd, Sm', Lm) ∧ zTU S Sm' := by
  have h' := zTU_t (v := 0) h
  have e := h.1.2.2.1
  refine ⟨Sm 0 13, _, ?_, ?_, h'⟩ <;> unfold zcall
  · simp (config := {maxSteps := 1000000}) (disch := omega) only [↓reduceIte, Int32.reduceLT, Int32.reduceLE, Int32.reduceToNatClampNeg, Int32.reduceAdd, Int32.reduceSub, Int32.reduceMul, Nat.reduceLeDiff, zEL, zup_ne, zup_eq, zT0, zT1, zT2, if_true, if_false, zneq_f, true_and, and_true, false_and, and_false, zKL, eq_self, Nat.reduceEqDiff, zite0, ite_not, zaddr, zaddl, zputr, zsb1, zsb2, zsb0, zsbm, znm1, gX, S105, e]
    all_goals rfl
  · simp (config := {maxSteps := 1000000}) (disch := omega) only [↓reduceIte, Int32.reduceLT, Int32.reduceLE, Int32.reduceToNatClampNeg, Int32.reduceAdd, Int32.reduceSub, Int32.reduceMul, Nat.reduceLeDiff, zEL, zup_ne, zup_eq, zT0, zT1, zT2, if_true, if_false, zneq_f, true_and, and_true, false_and, and_false, zKL, eq_self, Nat.reduceEqDiff, zite0, ite_not, zaddr, zaddl, zputr, zsb1, zsb2, zsb0, zsbm, znm1, layM0, S205]
theorem u_106 (h : zTU S Sm) : ∃ v : Int32, ∃ Sm' : zS, zcall 106 [.ref 0] zRc S L = some (some (.int v), zRc, S, L) ∧ zcall 206 [.ref 0] (zRm0 rd) Sm Lm = some (some (.int v), zRm0 rd, Sm', Lm) ∧ zTU S Sm' := by
  have h' := zTU_t (v := 0) h
  have e := h.1.2.1
  refine ⟨Sm 0 2, _, ?_, ?_, h'⟩ <;> unfold zcall
  · rw [← e]
    simp (config := {maxSteps := 1000000}) (disch := omega) only [↓reduceIte, Int32.reduceLT, Int32.reduceLE, Int32.reduceToNatClampNeg, Int32.reduceAdd, Int32.reduceSub, Int32.reduceMul, Nat.reduceLeDiff, zEL, zup_ne, zup_eq, zT0, zT1, zT2, if_true, if_false, zneq_f, true_and, and_true, false_and, and_false, zKL, eq_self, Nat.reduceEqDiff, zite0, ite_not, zaddr, zaddl, zputr, zsb1, zsb2, zsb0, zsbm, znm1, gX, S106]
    split <;> rfl
  · simp (config := {maxSteps := 1000000}) (disch := omega) only [↓reduceIte, Int32.reduceLT, Int32.reduceLE, Int32.reduceToNatClampNeg, Int32.reduceAdd, Int32.reduceSub, Int32.reduceMul, Nat.reduceLeDiff, zEL, zup_ne, zup_eq, zT0, zT1, zT2, if_true, if_false, zneq_f, true_and, and_true, false_and, and_false, zKL, eq_self, Nat.reduceEqDiff, zite0, ite_not, zaddr, zaddl, zputr, zsb1, zsb2, zsb0, zsbm, znm1, layM0, S206]
theorem u_147 (h : zTU S Sm) : ∃ v : Int32, ∃ Sm' : zS, zcall 147 [.ref 0] zRc S L = some (some (.int v), zRc, S, L) ∧ zcall 291 [.ref 0] (zRm0 rd) Sm Lm = some (some (.int v), zRm0 rd, Sm', Lm) ∧ zTU S Sm' := by
  have h' := zTU_t (v := 0) h
  have e := h.1.1
  refine ⟨Sm 0 1, _, ?_, ?_, h'⟩ <;> unfold zcall
  · simp (config := {maxSteps := 1000000}) (disch := omega) only [↓reduceIte, Int32.reduceLT, Int32.reduceLE, Int32.reduceToNatClampNeg, Int32.reduceAdd, Int32.reduceSub, Int32.reduceMul, Nat.reduceLeDiff, zEL, zup_ne, zup_eq, zT0, zT1, zT2, if_true, if_false, zneq_f, true_and, and_true, false_and, and_false, zKL, eq_self, Nat.reduceEqDiff, zite0, ite_not, zaddr, zaddl, zputr, zsb1, zsb2, zsb0, zsbm, znm1, gX, S147, e]
    all_goals rfl
  · simp (config := {maxSteps := 1000000}) (disch := omega) only [↓reduceIte, Int32.reduceLT, Int32.reduceLE, Int32.reduceToNatClampNeg, Int32.reduceAdd, Int32.reduceSub, Int32.reduceMul, Nat.reduceLeDiff, zEL, zup_ne, zup_eq, zT0, zT1, zT2, if_true, if_false, zneq_f, true_and, and_true, false_and, and_false, zKL, eq_self, Nat.reduceEqDiff, zite0, ite_not, zaddr, zaddl, zputr, zsb1, zsb2, zsb0, zsbm, znm1, layM0, S291]
theorem zem_0_0 : ((0 : Int32) = 0) = True := by decide
theorem zem_0_1 : ((0 : Int32) = 1) = False := by decide
theorem zem_0_2 : ((0 : Int32) = 2) = False := by decide
theorem zem_0_3 : ((0 : Int32) = 3) = False := by decide
theorem zem_0_4 : ((0 : Int32) = 4) = False := by decide
theorem zem_0_5 : ((0 : Int32) = 5) = False := by decide
theorem zem_0_6 : ((0 : Int32) = 6) = False := by decide
theorem zem_0_7 : ((0 : Int32) = 7) = False := by decide
theorem zem_0_8 : ((0 : Int32) = 8) = False := by decide
theorem zem_0_9 : ((0 : Int32) = 9) = False := by decide
theorem zem_0_10 : ((0 : Int32) = 10) = False := by decide
theorem zem_0_11 : ((0 : Int32) = 11) = False := by decide
theorem zem_0_12 : ((0 : Int32) = 12) = False := by decide
theorem zem_1_0 : ((1 : Int32) = 0) = False := by decide
theorem zem_1_1 : ((1 : Int32) = 1) = True := by decide
theorem zem_1_2 : ((1 : Int32) = 2) = False := by decide
theorem zem_1_3 : ((1 : Int32) = 3) = False := by decide
theorem zem_1_4 : ((1 : Int32) = 4) = False := by decide
theorem zem_1_5 : ((1 : Int32) = 5) = False := by decide
theorem zem_1_6 : ((1 : Int32) = 6) = False := by decide
theorem zem_1_7 : ((1 : Int32) = 7) = False := by decide
theorem zem_1_8 : ((1 : Int32) = 8) = False := by decide
theorem zem_1_9 : ((1 : Int32) = 9) = False := by decide
theorem zem_1_10 : ((1 : Int32) = 10) = False := by decide
theorem zem_1_11 : ((1 : Int32) = 11) = False := by decide
theorem zem_1_12 : ((1 : Int32) = 12) = False := by decide
theorem zem_2_0 : ((2 : Int32) = 0) = False := by decide
theorem zem_2_1 : ((2 : Int32) = 1) = False := by decide
theorem zem_2_2 : ((2 : Int32) = 2) = True := by decide
theorem zem_2_3 : ((2 : Int32) = 3) = False := by decide
theorem zem_2_4 : ((2 : Int32) = 4) = False := by decide
theorem zem_2_5 : ((2 : Int32) = 5) = False := by decide
theorem zem_2_6 : ((2 : Int32) = 6) = False := by decide
theorem zem_2_7 : ((2 : Int32) = 7) = False := by decide
theorem zem_2_8 : ((2 : Int32) = 8) = False := by decide
theorem zem_2_9 : ((2 : Int32) = 9) = False := by decide
theorem zem_2_10 : ((2 : Int32) = 10) = False := by decide
theorem zem_2_11 : ((2 : Int32) = 11) = False := by decide
theorem zem_2_12 : ((2 : Int32) = 12) = False := by decide
theorem zem_3_0 : ((3 : Int32) = 0) = False := by decide
theorem zem_3_1 : ((3 : Int32) = 1) = False := by decide
theorem zem_3_2 : ((3 : Int32) = 2) = False := by decide
theorem zem_3_3 : ((3 : Int32) = 3) = True := by decide
theorem zem_3_4 : ((3 : Int32) = 4) = False := by decide
theorem zem_3_5 : ((3 : Int32) = 5) = False := by decide
theorem zem_3_6 : ((3 : Int32) = 6) = False := by decide
theorem zem_3_7 : ((3 : Int32) = 7) = False := by decide
theorem zem_3_8 : ((3 : Int32) = 8) = False := by decide
theorem zem_3_9 : ((3 : Int32) = 9) = False := by decide
theorem zem_3_10 : ((3 : Int32) = 10) = False := by decide
theorem zem_3_11 : ((3 : Int32) = 11) = False := by decide
theorem zem_3_12 : ((3 : Int32) = 12) = False := by decide
theorem zem_4_0 : ((4 : Int32) = 0) = False := by decide
theorem zem_4_1 : ((4 : Int32) = 1) = False := by decide
theorem zem_4_2 : ((4 : Int32) = 2) = False := by decide
theorem zem_4_3 : ((4 : Int32) = 3) = False := by decide
theorem zem_4_4 : ((4 : Int32) = 4) = True := by decide
theorem zem_4_5 : ((4 : Int32) = 5) = False := by decide
theorem zem_4_6 : ((4 : Int32) = 6) = False := by decide
theorem zem_4_7 : ((4 : Int32) = 7) = False := by decide
theorem zem_4_8 : ((4 : Int32) = 8) = False := by decide
theorem zem_4_9 : ((4 : Int32) = 9) = False := by decide
theorem zem_4_10 : ((4 : Int32) = 10) = False := by decide
theorem zem_4_11 : ((4 : Int32) = 11) = False := by decide
theorem zem_4_12 : ((4 : Int32) = 12) = False := by decide
theorem zem_5_0 : ((5 : Int32) = 0) = False := by decide
theorem zem_5_1 : ((5 : Int32) = 1) = False := by decide
theorem zem_5_2 : ((5 : Int32) = 2) = False := by decide
theorem zem_5_3 : ((5 : Int32) = 3) = False := by decide
theorem zem_5_4 : ((5 : Int32) = 4) = False := by decide
theorem zem_5_5 : ((5 : Int32) = 5) = True := by decide
theorem zem_5_6 : ((5 : Int32) = 6) = False := by decide
theorem zem_5_7 : ((5 : Int32) = 7) = False := by decide
theorem zem_5_8 : ((5 : Int32) = 8) = False := by decide
theorem zem_5_9 : ((5 : Int32) = 9) = False := by decide
theorem zem_5_10 : ((5 : Int32) = 10) = False := by decide
theorem zem_5_11 : ((5 : Int32) = 11) = False := by decide
theorem zem_5_12 : ((5 : Int32) = 12) = False := by decide
theorem zem_6_0 : ((6 : Int32) = 0) = False := by decide
theorem zem_6_1 : ((6 : Int32) = 1) = False := by decide
theorem zem_6_2 : ((6 : Int32) = 2) = False := by decide
theorem zem_6_3 : ((6 : Int32) = 3) = False := by decide
theorem zem_6_4 : ((6 : Int32) = 4) = False := by decide
theorem zem_6_5 : ((6 : Int32) = 5) = False := by decide
theorem zem_6_6 : ((6 : Int32) = 6) = True := by decide
theorem zem_6_7 : ((6 : Int32) = 7) = False := by decide
theorem zem_6_8 : ((6 : Int32) = 8) = False := by decide
theorem zem_6_9 : ((6 : Int32) = 9) = False := by decide
theorem zem_6_10 : ((6 : Int32) = 10) = False := by decide
theorem zem_6_11 : ((6 : Int32) = 11) = False := by decide
theorem zem_6_12 : ((6 : Int32) = 12) = False := by decide
theorem zem_7_0 : ((7 : Int32) = 0) = False := by decide
theorem zem_7_1 : ((7 : Int32) = 1) = False := by decide
theorem zem_7_2 : ((7 : Int32) = 2) = False := by decide
theorem zem_7_3 : ((7 : Int32) = 3) = False := by decide
theorem zem_7_4 : ((7 : Int32) = 4) = False := by decide
theorem zem_7_5 : ((7 : Int32) = 5) = False := by decide
theorem zem_7_6 : ((7 : Int32) = 6) = False := by decide
theorem zem_7_7 : ((7 : Int32) = 7) = True := by decide
theorem zem_7_8 : ((7 : Int32) = 8) = False := by decide
theorem zem_7_9 : ((7 : Int32) = 9) = False := by decide
theorem zem_7_10 : ((7 : Int32) = 10) = False := by decide
theorem zem_7_11 : ((7 : Int32) = 11) = False := by decide
theorem zem_7_12 : ((7 : Int32) = 12) = False := by decide
theorem zem_8_0 : ((8 : Int32) = 0) = False := by decide
theorem zem_8_1 : ((8 : Int32) = 1) = False := by decide
theorem zem_8_2 : ((8 : Int32) = 2) = False := by decide
theorem zem_8_3 : ((8 : Int32) = 3) = False := by decide
theorem zem_8_4 : ((8 : Int32) = 4) = False := by decide
theorem zem_8_5 : ((8 : Int32) = 5) = False := by decide
theorem zem_8_6 : ((8 : Int32) = 6) = False := by decide
theorem zem_8_7 : ((8 : Int32) = 7) = False := by decide
theorem zem_8_8 : ((8 : Int32) = 8) = True := by decide
theorem zem_8_9 : ((8 : Int32) = 9) = False := by decide
theorem zem_8_10 : ((8 : Int32) = 10) = False := by decide
theorem zem_8_11 : ((8 : Int32) = 11) = False := by decide
theorem zem_8_12 : ((8 : Int32) = 12) = False := by decide
theorem zem_9_0 : ((9 : Int32) = 0) = False := by decide
theorem zem_9_1 : ((9 : Int32) = 1) = False := by decide
theorem zem_9_2 : ((9 : Int32) = 2) = False := by decide
theorem zem_9_3 : ((9 : Int32) = 3) = False := by decide
theorem zem_9_4 : ((9 : Int32) = 4) = False := by decide
theorem zem_9_5 : ((9 : Int32) = 5) = False := by decide
theorem zem_9_6 : ((9 : Int32) = 6) = False := by decide
theorem zem_9_7 : ((9 : Int32) = 7) = False := by decide
theorem zem_9_8 : ((9 : Int32) = 8) = False := by decide
theorem zem_9_9 : ((9 : Int32) = 9) = True := by decide
theorem zem_9_10 : ((9 : Int32) = 10) = False := by decide
theorem zem_9_11 : ((9 : Int32) = 11) = False := by decide
theorem zem_9_12 : ((9 : Int32) = 12) = False := by decide
theorem zem_10_0 : ((10 : Int32) = 0) = False := by decide
theorem zem_10_1 : ((10 : Int32) = 1) = False := by decide
theorem zem_10_2 : ((10 : Int32) = 2) = False := by decide
theorem zem_10_3 : ((10 : Int32) = 3) = False := by decide
theorem zem_10_4 : ((10 : Int32) = 4) = False := by decide
theorem zem_10_5 : ((10 : Int32) = 5) = False := by decide
theorem zem_10_6 : ((10 : Int32) = 6) = False := by decide
theorem zem_10_7 : ((10 : Int32) = 7) = False := by decide
theorem zem_10_8 : ((10 : Int32) = 8) = False := by decide
theorem zem_10_9 : ((10 : Int32) = 9) = False := by decide
theorem zem_10_10 : ((10 : Int32) = 10) = True := by decide
theorem zem_10_11 : ((10 : Int32) = 11) = False := by decide
theorem zem_10_12 : ((10 : Int32) = 12) = False := by decide
theorem zem_11_0 : ((11 : Int32) = 0) = False := by decide
theorem zem_11_1 : ((11 : Int32) = 1) = False := by decide
theorem zem_11_2 : ((11 : Int32) = 2) = False := by decide
theorem zem_11_3 : ((11 : Int32) = 3) = False := by decide
theorem zem_11_4 : ((11 : Int32) = 4) = False := by decide
theorem zem_11_5 : ((11 : Int32) = 5) = False := by decide
theorem zem_11_6 : ((11 : Int32) = 6) = False := by decide
theorem zem_11_7 : ((11 : Int32) = 7) = False := by decide
theorem zem_11_8 : ((11 : Int32) = 8) = False := by decide
theorem zem_11_9 : ((11 : Int32) = 9) = False := by decide
theorem zem_11_10 : ((11 : Int32) = 10) = False := by decide
theorem zem_11_11 : ((11 : Int32) = 11) = True := by decide
theorem zem_11_12 : ((11 : Int32) = 12) = False := by decide
theorem zem_12_0 : ((12 : Int32) = 0) = False := by decide
theorem zem_12_1 : ((12 : Int32) = 1) = False := by decide
theorem zem_12_2 : ((12 : Int32) = 2) = False := by decide
theorem zem_12_3 : ((12 : Int32) = 3) = False := by decide
theorem zem_12_4 : ((12 : Int32) = 4) = False := by decide
theorem zem_12_5 : ((12 : Int32) = 5) = False := by decide
theorem zem_12_6 : ((12 : Int32) = 6) = False := by decide
theorem zem_12_7 : ((12 : Int32) = 7) = False := by decide
theorem zem_12_8 : ((12 : Int32) = 8) = False := by decide
theorem zem_12_9 : ((12 : Int32) = 9) = False := by decide
theorem zem_12_10 : ((12 : Int32) = 10) = False := by decide
theorem zem_12_11 : ((12 : Int32) = 11) = False := by decide
theorem zem_12_12 : ((12 : Int32) = 12) = True := by decide
def zEM := (And.intro @zem_0_0 (And.intro @zem_0_1 (And.intro @zem_0_2 (And.intro @zem_0_3 (And.intro @zem_0_4 (And.intro @zem_0_5 (And.intro @zem_0_6 (And.intro @zem_0_7 (And.intro @zem_0_8 (And.intro @zem_0_9 (And.intro @zem_0_10 (And.intro @zem_0_11 (And.intro @zem_0_12 (And.intro @zem_1_0 (And.intro @zem_1_1 (And.intro @zem_1_2 (And.intro @zem_1_3 (And.intro @zem_1_4 (And.intro @zem_1_5 (And.intro @zem_1_6 (And.intro @zem_1_7 (And.intro @zem_1_8 (And.intro @zem_1_9 (And.intro @zem_1_10 (And.intro @zem_1_11 (And.intro @zem_1_12 (And.intro @zem_2_0 (And.intro @zem_2_1 (And.intro @zem_2_2 (And.intro @zem_2_3 (And.intro @zem_2_4 (And.intro @zem_2_5 (And.intro @zem_2_6 (And.intro @zem_2_7 (And.intro @zem_2_8 (And.intro @zem_2_9 (And.intro @zem_2_10 (And.intro @zem_2_11 (And.intro @zem_2_12 (And.intro @zem_3_0 (And.intro @zem_3_1 (And.intro @zem_3_2 (And.intro @zem_3_3 (And.intro @zem_3_4 (And.intro @zem_3_5 (And.intro @zem_3_6 (And.intro @zem_3_7 (And.intro @zem_3_8 (And.intro @zem_3_9 (And.intro @zem_3_10 (And.intro @zem_3_11 (And.intro @zem_3_12 (And.intro @zem_4_0 (And.intro @zem_4_1 (And.intro @zem_4_2 (And.intro @zem_4_3 (And.intro @zem_4_4 (And.intro @zem_4_5 (And.intro @zem_4_6 (And.intro @zem_4_7 (And.intro @zem_4_8 (And.intro @zem_4_9 (And.intro @zem_4_10 (And.intro @zem_4_11 (And.intro @zem_4_12 (And.intro @zem_5_0 (And.intro @zem_5_1 (And.intro @zem_5_2 (And.intro @zem_5_3 (And.intro @zem_5_4 (And.intro @zem_5_5 (And.intro @zem_5_6 (And.intro @zem_5_7 (And.intro @zem_5_8 (And.intro @zem_5_9 (And.intro @zem_5_10 (And.intro @zem_5_11 (And.intro @zem_5_12 (And.intro @zem_6_0 (And.intro @zem_6_1 (And.intro @zem_6_2 (And.intro @zem_6_3 (And.intro @zem_6_4 (And.intro @zem_6_5 (And.intro @zem_6_6 (And.intro @zem_6_7 (And.intro @zem_6_8 (And.intro @zem_6_9 (And.intro @zem_6_10 (And.intro @zem_6_11 (And.intro @zem_6_12 (And.intro @zem_7_0 (And.intro @zem_7_1 (And.intro @zem_7_2 (And.intro @zem_7_3 (And.intro @zem_7_4 (And.intro @zem_7_5 (And.intro @zem_7_6 (And.intro @zem_7_7 (And.intro @zem_7_8 (And.intro @zem_7_9 (And.intro @zem_7_10 (And.intro @zem_7_11 (And.intro @zem_7_12 (And.intro @zem_8_0 (And.intro @zem_8_1 (And.intro @zem_8_2 (And.intro @zem_8_3 (And.intro @zem_8_4 (And.intro @zem_8_5 (And.intro @zem_8_6 (And.intro @zem_8_7 (And.intro @zem_8_8 (And.intro @zem_8_9 (And.intro @zem_8_10 (And.intro @zem_8_11 (And.intro @zem_8_12 (And.intro @zem_9_0 (And.intro @zem_9_1 (And.intro @zem_9_2 (And.intro @zem_9_3 (And.intro @zem_9_4 (And.intro @zem_9_5 (And.intro @zem_9_6 (And.intro @zem_9_7 (And.intro @zem_9_8 (And.intro @zem_9_9 (And.intro @zem_9_10 (And.intro @zem_9_11 (And.intro @zem_9_12 (And.intro @zem_10_0 (And.intro @zem_10_1 (And.intro @zem_10_2 (And.intro @zem_10_3 (And.intro @zem_10_4 (And.intro @zem_10_5 (And.intro @zem_10_6 (And.intro @zem_10_7 (And.intro @zem_10_8 (And.intro @zem_10_9 (And.intro @zem_10_10 (And.intro @zem_10_11 (And.intro @zem_10_12 (And.intro @zem_11_0 (And.intro @zem_11_1 (And.intro @zem_11_2 (And.intro @zem_11_3 (And.intro @zem_11_4 (And.intro @zem_11_5 (And.intro @zem_11_6 (And.intro @zem_11_7 (And.intro @zem_11_8 (And.intro @zem_11_9 (And.intro @zem_11_10 (And.intro @zem_11_11 (And.intro @zem_11_12 (And.intro @zem_12_0 (And.intro @zem_12_1 (And.intro @zem_12_2 (And.intro @zem_12_3 (And.intro @zem_12_4 (And.intro @zem_12_5 (And.intro @zem_12_6 (And.intro @zem_12_7 (And.intro @zem_12_8 (And.intro @zem_12_9 (And.intro @zem_12_10 (And.intro @zem_12_11 (And.intro @zem_12_12 trivial)))))))))))))))))))))))))))))))))))))))))))))))))))))))))))))))))))))))))))))))))))))))))))))))))))))))))))))))))))))))))))))))))))))))))))))))))))))))))))))))))))))))))
theorem zsw (v : Int32) : (v = 0 ∨ v = 1 ∨ v = 2 ∨ v = 3 ∨ v = 4 ∨ v = 5 ∨ v = 6 ∨ v = 7 ∨ v = 8 ∨ v = 9 ∨ v = 10 ∨ v = 11 ∨ v = 12) ∨ (v ≠ 0 ∧ v ≠ 1 ∧ v ≠ 2 ∧ v ≠ 3 ∧ v ≠ 4 ∧ v ≠ 5 ∧ v ≠ 6 ∧ v ≠ 7 ∧ v ≠ 8 ∧ v ≠ 9 ∧ v ≠ 10 ∧ v ≠ 11 ∧ v ≠ 12 ∧ (0 ≤ v ∧ v ≤ 11) = False) := by
  rcases zrng v 12 (by omega) 12 13 rfl rfl with ⟨n, hn, e, -⟩ | ⟨a1, a2, -⟩ | ⟨a1, a2, a3, -⟩
  · left
    subst e
    rcases (show n = 0 ∨ n = 1 ∨ n = 2 ∨ n = 3 ∨ n = 4 ∨ n = 5 ∨ n = 6 ∨ n = 7 ∨ n = 8 ∨ n = 9 ∨ n = 10 ∨ n = 11 ∨ n = 12 by omega) with rfl | rfl | rfl | rfl | rfl | rfl | rfl | rfl | rfl | rfl | rfl | rfl | rfl <;> decide
  · right
    refine ⟨?_, ?_, ?_, ?_, ?_, ?_, ?_, ?_, ?_, ?_, ?_, ?_, ?_, eq_false (fun h => by rw [a2] at h; exact h.1)⟩
    all_goals
      rintro rfl
      exact absurd a1 (by decide)
  · right
    refine ⟨?_, ?_, ?_, ?_, ?_, ?_, ?_, ?_, ?_, ?_, ?_, ?_, ?_, eq_false (fun h => ?_)⟩
    rotate_right
    · have h1 := h.2
      rw [Int32.le_iff_toInt_le, show (11 : Int32).toInt = 11 from rfl] at h1
      have h2 := of_eq_false a3
      rw [Int32.le_iff_toInt_le, show (12 : Int32).toInt = 12 from rfl] at h2
      omega
    all_goals
      rintro rfl
      exact absurd a3 (by decide)
theorem zrd0 {S : zS} {k n : Nat} (hn : 0 < n) : zrd S k n 0 = S k 0 := by
  unfold zrd
  rw [if_neg]
  · rfl
  · rintro (h | h)
    · exact absurd h (by decide)
    · have : (0 : Int32).toNatClampNeg = 0 := rfl
      omega
theorem u_146 {a : Int32} (h : zTU S Sm) : ∃ v : Int32, ∃ Sm' : zS, zcall 146 [.ref 0, .int a] zRc S L = some (some (.int v), zRc, S, L) ∧ zcall 290 [.ref 0, .int a] (zRm0 rd) Sm Lm = some (some (.int v), zRm0 rd, Sm', Lm) ∧ zTU S Sm' := by
  have h' := zTU_t (v := 0) h
  obtain ⟨⟨-, -, -, n, -, n1, n2, -⟩, b1, ⟨b2, b3, b4, b5, b6, b7, b8⟩, ⟨d1, d2, d3, d4⟩, b9, b10⟩ := h
  have z0 := zrd0 (S := S) (k := 7) (n := 5) (by omega)
  rcases zsw a with h0 | ⟨e0, e1, e2, e3, e4, e5, e6, e7, e8, e9, e10, e11, e12, e13⟩
  · rcases h0 with rfl | rfl | rfl | rfl | rfl | rfl | rfl | rfl | rfl | rfl | rfl | rfl | rfl
    · refine ⟨0, _, ?_, ?_, h'⟩ <;> unfold zcall
      all_goals simp (config := {maxSteps := 1000000}) (disch := omega) only [↓reduceIte, Int32.reduceLT, Int32.reduceLE, Int32.reduceToNatClampNeg, Int32.reduceAdd, Int32.reduceSub, Int32.reduceMul, Nat.reduceLeDiff, zEL, zup_ne, zup_eq, zT0, zT1, zT2, if_true, if_false, zneq_f, true_and, and_true, false_and, and_false, zKL, eq_self, Nat.reduceEqDiff, zite0, ite_not, zaddr, zaddl, zputr, zsb1, zsb2, zsb0, zsbm, znm1, gX, gM, g168, layM0, S146, S290, b2, b3, b4, b5, b6, b7, b8, d1, d2, d3, d4, b9, b10, n1, n2, t173, z0, zEM]
    · refine ⟨0, _, ?_, ?_, h'⟩ <;> unfold zcall
      all_goals simp (config := {maxSteps := 1000000}) (disch := omega) only [↓reduceIte, Int32.reduceLT, Int32.reduceLE, Int32.reduceToNatClampNeg, Int32.reduceAdd, Int32.reduceSub, Int32.reduceMul, Nat.reduceLeDiff, zEL, zup_ne, zup_eq, zT0, zT1, zT2, if_true, if_false, zneq_f, true_and, and_true, false_and, and_false, zKL, eq_self, Nat.reduceEqDiff, zite0, ite_not, zaddr, zaddl, zputr, zsb1, zsb2, zsb0, zsbm, znm1, gX, gM, g168, layM0, S146, S290, b2, b3, b4, b5, b6, b7, b8, d1, d2, d3, d4, b9, b10, n1, n2, t173, z0, zEM]
    · refine ⟨0, _, ?_, ?_, h'⟩ <;> unfold zcall
      all_goals simp (config := {maxSteps := 1000000}) (disch := omega) only [↓reduceIte, Int32.reduceLT, Int32.reduceLE, Int32.reduceToNatClampNeg, Int32.reduceAdd, Int32.reduceSub, Int32.reduceMul, Nat.reduceLeDiff, zEL, zup_ne, zup_eq, zT0, zT1, zT2, if_true, if_false, zneq_f, true_and, and_true, false_and, and_false, zKL, eq_self, Nat.reduceEqDiff, zite0, ite_not, zaddr, zaddl, zputr, zsb1, zsb2, zsb0, zsbm, znm1, gX, gM, g168, layM0, S146, S290, b2, b3, b4, b5, b6, b7, b8, d1, d2, d3, d4, b9, b10, n1, n2, t173, z0, zEM]
    · refine ⟨0, _, ?_, ?_, h'⟩ <;> unfold zcall
      all_goals simp (config := {maxSteps := 1000000}) (disch := omega) only [↓reduceIte, Int32.reduceLT, Int32.reduceLE, Int32.reduceToNatClampNeg, Int32.reduceAdd, Int32.reduceSub, Int32.reduceMul, Nat.reduceLeDiff, zEL, zup_ne, zup_eq, zT0, zT1, zT2, if_true, if_false, zneq_f, true_and, and_true, false_and, and_false, zKL, eq_self, Nat.reduceEqDiff, zite0, ite_not, zaddr, zaddl, zputr, zsb1, zsb2, zsb0, zsbm, znm1, gX, gM, g168, layM0, S146, S290, b2, b3, b4, b5, b6, b7, b8, d1, d2, d3, d4, b9, b10, n1, n2, t173, z0, zEM]
    · refine ⟨0, _, ?_, ?_, h'⟩ <;> unfold zcall
      all_goals simp (config := {maxSteps := 1000000}) (disch := omega) only [↓reduceIte, Int32.reduceLT, Int32.reduceLE, Int32.reduceToNatClampNeg, Int32.reduceAdd, Int32.reduceSub, Int32.reduceMul, Nat.reduceLeDiff, zEL, zup_ne, zup_eq, zT0, zT1, zT2, if_true, if_false, zneq_f, true_and, and_true, false_and, and_false, zKL, eq_self, Nat.reduceEqDiff, zite0, ite_not, zaddr, zaddl, zputr, zsb1, zsb2, zsb0, zsbm, znm1, gX, gM, g168, layM0, S146, S290, b2, b3, b4, b5, b6, b7, b8, d1, d2, d3, d4, b9, b10, n1, n2, t173, z0, zEM]
    · refine ⟨0, _, ?_, ?_, h'⟩ <;> unfold zcall
      all_goals simp (config := {maxSteps := 1000000}) (disch := omega) only [↓reduceIte, Int32.reduceLT, Int32.reduceLE, Int32.reduceToNatClampNeg, Int32.reduceAdd, Int32.reduceSub, Int32.reduceMul, Nat.reduceLeDiff, zEL, zup_ne, zup_eq, zT0, zT1, zT2, if_true, if_false, zneq_f, true_and, and_true, false_and, and_false, zKL, eq_self, Nat.reduceEqDiff, zite0, ite_not, zaddr, zaddl, zputr, zsb1, zsb2, zsb0, zsbm, znm1, gX, gM, g168, layM0, S146, S290, b2, b3, b4, b5, b6, b7, b8, d1, d2, d3, d4, b9, b10, n1, n2, t173, z0, zEM]
    · refine ⟨0, _, ?_, ?_, h'⟩ <;> unfold zcall
      all_goals simp (config := {maxSteps := 1000000}) (disch := omega) only [↓reduceIte, Int32.reduceLT, Int32.reduceLE, Int32.reduceToNatClampNeg, Int32.reduceAdd, Int32.reduceSub, Int32.reduceMul, Nat.reduceLeDiff, zEL, zup_ne, zup_eq, zT0, zT1, zT2, if_true, if_false, zneq_f, true_and, and_true, false_and, and_false, zKL, eq_self, Nat.reduceEqDiff, zite0, ite_not, zaddr, zaddl, zputr, zsb1, zsb2, zsb0, zsbm, znm1, gX, gM, g168, layM0, S146, S290, b2, b3, b4, b5, b6, b7, b8, d1, d2, d3, d4, b9, b10, n1, n2, t173, z0, zEM]
    · refine ⟨0, _, ?_, ?_, h'⟩ <;> unfold zcall
      all_goals simp (config := {maxSteps := 1000000}) (disch := omega) only [↓reduceIte, Int32.reduceLT, Int32.reduceLE, Int32.reduceToNatClampNeg, Int32.reduceAdd, Int32.reduceSub, Int32.reduceMul, Nat.reduceLeDiff, zEL, zup_ne, zup_eq, zT0, zT1, zT2, if_true, if_false, zneq_f, true_and, and_true, false_and, and_false, zKL, eq_self, Nat.reduceEqDiff, zite0, ite_not, zaddr, zaddl, zputr, zsb1, zsb2, zsb0, zsbm, znm1, gX, gM, g168, layM0, S146, S290, b2, b3, b4, b5, b6, b7, b8, d1, d2, d3, d4, b9, b10, n1, n2, t173, z0, zEM]
    · refine ⟨0, _, ?_, ?_, h'⟩ <;> unfold zcall
      all_goals simp (config := {maxSteps := 1000000}) (disch := omega) only [↓reduceIte, Int32.reduceLT, Int32.reduceLE, Int32.reduceToNatClampNeg, Int32.reduceAdd, Int32.reduceSub, Int32.reduceMul, Nat.reduceLeDiff, zEL, zup_ne, zup_eq, zT0, zT1, zT2, if_true, if_false, zneq_f, true_and, and_true, false_and, and_false, zKL, eq_self, Nat.reduceEqDiff, zite0, ite_not, zaddr, zaddl, zputr, zsb1, zsb2, zsb0, zsbm, znm1, gX, gM, g168, layM0, S146, S290, b2, b3, b4, b5, b6, b7, b8, d1, d2, d3, d4, b9, b10, n1, n2, t173, z0, zEM]
    · refine ⟨0, _, ?_, ?_, h'⟩ <;> unfold zcall
      all_goals simp (config := {maxSteps := 1000000}) (disch := omega) only [↓reduceIte, Int32.reduceLT, Int32.reduceLE, Int32.reduceToNatClampNeg, Int32.reduceAdd, Int32.reduceSub, Int32.reduceMul, Nat.reduceLeDiff, zEL, zup_ne, zup_eq, zT0, zT1, zT2, if_true, if_false, zneq_f, true_and, and_true, false_and, and_false, zKL, eq_self, Nat.reduceEqDiff, zite0, ite_not, zaddr, zaddl, zputr, zsb1, zsb2, zsb0, zsbm, znm1, gX, gM, g168, layM0, S146, S290, b2, b3, b4, b5, b6, b7, b8, d1, d2, d3, d4, b9, b10, n1, n2, t173, z0, zEM]
    · refine ⟨0, _, ?_, ?_, h'⟩ <;> unfold zcall
      all_goals simp (config := {maxSteps := 1000000}) (disch := omega) only [↓reduceIte, Int32.reduceLT, Int32.reduceLE, Int32.reduceToNatClampNeg, Int32.reduceAdd, Int32.reduceSub, Int32.reduceMul, Nat.reduceLeDiff, zEL, zup_ne, zup_eq, zT0, zT1, zT2, if_true, if_false, zneq_f, true_and, and_true, false_and, and_false, zKL, eq_self, Nat.reduceEqDiff, zite0, ite_not, zaddr, zaddl, zputr, zsb1, zsb2, zsb0, zsbm, znm1, gX, gM, g168, layM0, S146, S290, b2, b3, b4, b5, b6, b7, b8, d1, d2, d3, d4, b9, b10, n1, n2, t173, z0, zEM]
    · refine ⟨0, _, ?_, ?_, h'⟩ <;> unfold zcall
      all_goals simp (config := {maxSteps := 1000000}) (disch := omega) only [↓reduceIte, Int32.reduceLT, Int32.reduceLE, Int32.reduceToNatClampNeg, Int32.reduceAdd, Int32.reduceSub, Int32.reduceMul, Nat.reduceLeDiff, zEL, zup_ne, zup_eq, zT0, zT1, zT2, if_true, if_false, zneq_f, true_and, and_true, false_and, and_false, zKL, eq_self, Nat.reduceEqDiff, zite0, ite_not, zaddr, zaddl, zputr, zsb1, zsb2, zsb0, zsbm, znm1, gX, gM, g168, layM0, S146, S290, b2, b3, b4, b5, b6, b7, b8, d1, d2, d3, d4, b9, b10, n1, n2, t173, z0, zEM]
    · refine ⟨nI n, _, ?_, ?_, h'⟩ <;> unfold zcall
      all_goals simp (config := {maxSteps := 1000000}) (disch := omega) only [↓reduceIte, Int32.reduceLT, Int32.reduceLE, Int32.reduceToNatClampNeg, Int32.reduceAdd, Int32.reduceSub, Int32.reduceMul, Nat.reduceLeDiff, zEL, zup_ne, zup_eq, zT0, zT1, zT2, if_true, if_false, zneq_f, true_and, and_true, false_and, and_false, zKL, eq_self, Nat.reduceEqDiff, zite0, ite_not, zaddr, zaddl, zputr, zsb1, zsb2, zsb0, zsbm, znm1, gX, gM, g168, layM0, S146, S290, b2, b3, b4, b5, b6, b7, b8, d1, d2, d3, d4, b9, b10, n1, n2, t173, z0, zEM]
  · refine ⟨-1, _, ?_, ?_, h'⟩ <;> unfold zcall
    · simp (config := {maxSteps := 1000000}) (disch := omega) only [↓reduceIte, Int32.reduceLT, Int32.reduceLE, Int32.reduceToNatClampNeg, Int32.reduceAdd, Int32.reduceSub, Int32.reduceMul, Nat.reduceLeDiff, zEL, zup_ne, zup_eq, zT0, zT1, zT2, if_true, if_false, zneq_f, true_and, and_true, false_and, and_false, zKL, eq_self, Nat.reduceEqDiff, zite0, ite_not, zaddr, zaddl, zputr, zsb1, zsb2, zsb0, zsbm, znm1, S146, e0, e1, e2, e3, e4, e5, e6, e7, e8, e9, e10, e11, e12]
    · simp (config := {maxSteps := 1000000}) (disch := omega) only [↓reduceIte, Int32.reduceLT, Int32.reduceLE, Int32.reduceToNatClampNeg, Int32.reduceAdd, Int32.reduceSub, Int32.reduceMul, Nat.reduceLeDiff, zEL, zup_ne, zup_eq, zT0, zT1, zT2, if_true, if_false, zneq_f, true_and, and_true, false_and, and_false, zKL, eq_self, Nat.reduceEqDiff, zite0, ite_not, zaddr, zaddl, zputr, zsb1, zsb2, zsb0, zsbm, znm1, layM0, S290, e12, t173, e13]
end ZT2
