/-! match: refused -/
section ZPN
variable {c : Nat → Nat} {S Sm : zS} {L Lm : zL} {rd : Value}
theorem m_104r {v : Int32} (h : zTM c S Sm) : (∃ S' Sm', zcall 104 [.ref 0, .int v] zRc S L = some (some (.int (-1)), zRc, S', L) ∧ zcall 204 [.ref 0, .int v] (zRm1 rd) Sm Lm = some (some (.int (-1)), zRm1 rd, Sm', Lm) ∧ zTM c S' Sm') ∨ ∃ len n, len ≤ 900 ∧ n ≤ len ∧ v = nI n ∧ S 1 1 = nI len ∧ Sm 0 6 = nI len := by
  obtain ⟨X, hX⟩ : ∃ X, X = zup Sm 0 0 0 := ⟨_, rfl⟩
  have h' := zTM_t (v := 0) h
  rw [← hX] at h'
  obtain ⟨-, -, -, len, hn, a4, a5, -⟩ := id h.1
  have a5' : X 0 6 = nI len := by rw [hX, zup_ne (by omega), a5]
  rcases zrng v len (by omega) (nI len) (nI (len + 1)) rfl rfl with ⟨m, hm, rfl, -⟩ | ⟨b1, b2, -⟩ | ⟨b1, b2, b3, b4, -⟩
  · exact .inr ⟨len, m, hn, hm, rfl, a4, a5⟩
  · refine .inl ⟨_, _, ?_, ?_, zTM_d 2 (by decide) h'⟩ <;> unfold zcall
    · simp (config := {maxSteps := 1000000}) (disch := omega) only [↓reduceIte, Int32.reduceLT, Int32.reduceLE, Int32.reduceToNatClampNeg, Int32.reduceAdd, Int32.reduceSub, Int32.reduceMul, Nat.reduceLeDiff, zEL, zup_ne, zup_eq, zT0, zT1, zT2, if_true, if_false, zneq_f, true_and, and_true, false_and, and_false, zKL, eq_self, Nat.reduceEqDiff, zite0, ite_not, zaddr, zaddl, zputr, zsb1, zsb2, zsb0, zsbm, znm1, gX, gR, tEC, ze_104, s104_0, s104_1, s104_4, s104_5, s104_6, s104_9, s104_12, s104_15, s104_16, s104_17, s104_20, b1, b2]
    · simp (config := {maxSteps := 1000000}) (disch := omega) only [↓reduceIte, Int32.reduceLT, Int32.reduceLE, Int32.reduceToNatClampNeg, Int32.reduceAdd, Int32.reduceSub, Int32.reduceMul, Nat.reduceLeDiff, zEL, zup_ne, zup_eq, zT0, zT1, zT2, if_true, if_false, zneq_f, true_and, and_true, false_and, and_false, zKL, eq_self, Nat.reduceEqDiff, zite0, ite_not, zaddr, zaddl, zputr, zsb1, zsb2, zsb0, zsbm, znm1, layM1, tEM1, ze_204, s204_0, s204_1, s204_2, s204_5, s204_6, s204_9, s204_10, s204_11, s204_14, s204_17, s204_18, s204_19, s204_22, ← hX, b1, b2]
  · refine .inl ⟨_, _, ?_, ?_, zTM_d 2 (by decide) h'⟩ <;> unfold zcall
    · simp (config := {maxSteps := 1000000}) (disch := omega) only [↓reduceIte, Int32.reduceLT, Int32.reduceLE, Int32.reduceToNatClampNeg, Int32.reduceAdd, Int32.reduceSub, Int32.reduceMul, Nat.reduceLeDiff, zEL, zup_ne, zup_eq, zT0, zT1, zT2, if_true, if_false, zneq_f, true_and, and_true, false_and, and_false, zKL, eq_self, Nat.reduceEqDiff, zite0, ite_not, zaddr, zaddl, zputr, zsb1, zsb2, zsb0, zsbm, znm1, gX, gR, tEC, ze_104, s104_0, s104_1, s104_4, s104_5, s104_6, s104_9, s104_12, s104_15, s104_16, s104_17, s104_20, b1, b2, b3, b4, a4]
    · simp (config := {maxSteps := 1000000}) (disch := omega) only [↓reduceIte, Int32.reduceLT, Int32.reduceLE, Int32.reduceToNatClampNeg, Int32.reduceAdd, Int32.reduceSub, Int32.reduceMul, Nat.reduceLeDiff, zEL, zup_ne, zup_eq, zT0, zT1, zT2, if_true, if_false, zneq_f, true_and, and_true, false_and, and_false, zKL, eq_self, Nat.reduceEqDiff, zite0, ite_not, zaddr, zaddl, zputr, zsb1, zsb2, zsb0, zsbm, znm1, layM1, tEM1, ze_204, s204_0, s204_1, s204_2, s204_5, s204_6, s204_9, s204_10, s204_11, s204_14, s204_17, s204_18, s204_19, s204_22, ← hX, b1, b2, b3, b4, a5']
theorem u_104r {v : Int32} (h : zTU S Sm) : (∃ S' Sm', zcall 104 [.ref 0, .int v] zRc S L = some (some (.int (-1)), zRc, S', L) ∧ zcall 204 [.ref 0, .int v] (zRm0 rd) Sm Lm = some (some (.int (-1)), zRm0 rd, Sm', Lm) ∧ zTU S' Sm') ∨ ∃ len n, len ≤ 900 ∧ n ≤ len ∧ v = nI n ∧ S 1 1 = nI len ∧ Sm 0 6 = nI len := by
  obtain ⟨X, hX⟩ : ∃ X, X = zup Sm 0 0 0 := ⟨_, rfl⟩
  have h' := zTU_t (v := 0) h
  rw [← hX] at h'
  obtain ⟨-, -, -, len, hn, a4, a5, -⟩ := id h.1
  have a5' : X 0 6 = nI len := by rw [hX, zup_ne (by omega), a5]
  rcases zrng v len (by omega) (nI len) (nI (len + 1)) rfl rfl with ⟨m, hm, rfl, -⟩ | ⟨b1, b2, -⟩ | ⟨b1, b2, b3, b4, -⟩
  · exact .inr ⟨len, m, hn, hm, rfl, a4, a5⟩
  · refine .inl ⟨_, _, ?_, ?_, zTU_d 2 (by decide) h'⟩ <;> unfold zcall
    · simp (config := {maxSteps := 1000000}) (disch := omega) only [↓reduceIte, Int32.reduceLT, Int32.reduceLE, Int32.reduceToNatClampNeg, Int32.reduceAdd, Int32.reduceSub, Int32.reduceMul, Nat.reduceLeDiff, zEL, zup_ne, zup_eq, zT0, zT1, zT2, if_true, if_false, zneq_f, true_and, and_true, false_and, and_false, zKL, eq_self, Nat.reduceEqDiff, zite0, ite_not, zaddr, zaddl, zputr, zsb1, zsb2, zsb0, zsbm, znm1, gX, gR, tEC, ze_104, s104_0, s104_1, s104_4, s104_5, s104_6, s104_9, s104_12, s104_15, s104_16, s104_17, s104_20, b1, b2]
    · simp (config := {maxSteps := 1000000}) (disch := omega) only [↓reduceIte, Int32.reduceLT, Int32.reduceLE, Int32.reduceToNatClampNeg, Int32.reduceAdd, Int32.reduceSub, Int32.reduceMul, Nat.reduceLeDiff, zEL, zup_ne, zup_eq, zT0, zT1, zT2, if_true, if_false, zneq_f, true_and, and_true, false_and, and_false, zKL, eq_self, Nat.reduceEqDiff, zite0, ite_not, zaddr, zaddl, zputr, zsb1, zsb2, zsb0, zsbm, znm1, layM0, tEM0, ze_204, s204_0, s204_1, s204_2, s204_5, s204_6, s204_9, s204_10, s204_11, s204_14, s204_17, s204_18, s204_19, s204_22, ← hX, b1, b2]
  · refine .inl ⟨_, _, ?_, ?_, zTU_d 2 (by decide) h'⟩ <;> unfold zcall
    · simp (config := {maxSteps := 1000000}) (disch := omega) only [↓reduceIte, Int32.reduceLT, Int32.reduceLE, Int32.reduceToNatClampNeg, Int32.reduceAdd, Int32.reduceSub, Int32.reduceMul, Nat.reduceLeDiff, zEL, zup_ne, zup_eq, zT0, zT1, zT2, if_true, if_false, zneq_f, true_and, and_true, false_and, and_false, zKL, eq_self, Nat.reduceEqDiff, zite0, ite_not, zaddr, zaddl, zputr, zsb1, zsb2, zsb0, zsbm, znm1, gX, gR, tEC, ze_104, s104_0, s104_1, s104_4, s104_5, s104_6, s104_9, s104_12, s104_15, s104_16, s104_17, s104_20, b1, b2, b3, b4, a4]
    · simp (config := {maxSteps := 1000000}) (disch := omega) only [↓reduceIte, Int32.reduceLT, Int32.reduceLE, Int32.reduceToNatClampNeg, Int32.reduceAdd, Int32.reduceSub, Int32.reduceMul, Nat.reduceLeDiff, zEL, zup_ne, zup_eq, zT0, zT1, zT2, if_true, if_false, zneq_f, true_and, and_true, false_and, and_false, zKL, eq_self, Nat.reduceEqDiff, zite0, ite_not, zaddr, zaddl, zputr, zsb1, zsb2, zsb0, zsbm, znm1, layM0, tEM0, ze_204, s204_0, s204_1, s204_2, s204_5, s204_6, s204_9, s204_10, s204_11, s204_14, s204_17, s204_18, s204_19, s204_22, ← hX, b1, b2, b3, b4, a5']
end ZPN
