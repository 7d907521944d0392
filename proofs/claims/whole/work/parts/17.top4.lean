/-! A MATCH is told: throws, leagues -/
section ZT4
variable {c : Nat → Nat} {S Sm : zS} {L Lm : zL} {rd : Value}
theorem topp (hM : zMD c S Sm) (p q : Int32) : (∃ a b, a < c 0 ∧ b < c 0 ∧ p = nI a ∧ q = nI b ∧ ¬ Sm 18 a = Sm 18 b ∧ zcall 155 [.ref 0, .int p, .int q] zRc S L = some (some (.int 1), zRc, S, L) ∧ zcall 250 [.ref 0, .int p, .int q] (zRm1 rd) Sm Lm = some (some (.int 1), zRm1 rd, Sm, Lm)) ∨ (zcall 155 [.ref 0, .int p, .int q] zRc S L = some (some (.int 0), zRc, S, L) ∧ zcall 250 [.ref 0, .int p, .int q] (zRm1 rd) Sm Lm = some (some (.int 0), zRm1 rd, Sm, Lm)) := by
  have b0 : c 0 ≤ 8 := hM.1.2.1
  have a0 : S 12 7 = nI (c 0) := hM.2.1.1
  have m0 : Sm 11 8 = nI (c 0) := hM.2.2.1.1
  obtain ⟨-, -, -, -, -, hP, -⟩ := hM
  rcases zidx p (n := c 0) (by omega) with ⟨a, ha, rfl⟩ | hp
  · have k1 := t83a_12 (L := L) a0 (by omega) ha
    have k2 := t236a (Lm := Lm) (rd := rd) m0 (by omega) ha
    rcases zidx q (n := c 0) (by omega) with ⟨b, hb, rfl⟩ | hq
    · have k3 := t83a_12 (L := L) a0 (by omega) hb
      have k4 := t236a (Lm := Lm) (rd := rd) m0 (by omega) hb
      have e1 := (hP a ha).1
      have e2 := (hP b hb).1
      by_cases hs : Sm 18 a = Sm 18 b
      · refine .inr ⟨?_, ?_⟩ <;> unfold zcall
        · simp (config := {maxSteps := 1000000}) (disch := omega) only [↓reduceIte, Int32.reduceLT, Int32.reduceLE, Int32.reduceToNatClampNeg, Int32.reduceAdd, Int32.reduceSub, Int32.reduceMul, Nat.reduceLeDiff, zEL, zup_ne, zup_eq, zT0, zT1, zT2, if_true, if_false, zneq_f, true_and, and_true, false_and, and_false, zKL, eq_self, Nat.reduceEqDiff, zite0, ite_not, zaddr, zaddl, zputr, zsb1, zsb2, zsb0, zsbm, znm1, gX, gM, ze_155, s155_0, s155_1, s155_4, s155_7, s155_8, s155_9, s155_10, s155_13, s155_16, s155_17, s155_18, s155_21, s155_24, s155_25, s155_28, s155_29, s155_32, s155_33, s155_36, s155_37, s155_40, s155_43, s155_44, s155_47, s155_48, k1, k3, e1, e2, hs]
        · simp (config := {maxSteps := 1000000}) (disch := omega) only [↓reduceIte, Int32.reduceLT, Int32.reduceLE, Int32.reduceToNatClampNeg, Int32.reduceAdd, Int32.reduceSub, Int32.reduceMul, Nat.reduceLeDiff, zEL, zup_ne, zup_eq, zT0, zT1, zT2, if_true, if_false, zneq_f, true_and, and_true, false_and, and_false, zKL, eq_self, Nat.reduceEqDiff, zite0, ite_not, zaddr, zaddl, zputr, zsb1, zsb2, zsb0, zsbm, znm1, layM1, ze_250, s250_0, s250_1, s250_2, s250_5, s250_8, s250_9, s250_10, s250_13, s250_16, s250_17, s250_20, s250_23, s250_24, s250_25, s250_26, s250_29, s250_32, s250_33, s250_34, s250_37, s250_38, s250_41, s250_42, k2, k4, hs]
      · refine .inl ⟨a, b, ha, hb, rfl, rfl, hs, ?_, ?_⟩ <;> unfold zcall
        · simp (config := {maxSteps := 1000000}) (disch := omega) only [↓reduceIte, Int32.reduceLT, Int32.reduceLE, Int32.reduceToNatClampNeg, Int32.reduceAdd, Int32.reduceSub, Int32.reduceMul, Nat.reduceLeDiff, zEL, zup_ne, zup_eq, zT0, zT1, zT2, if_true, if_false, zneq_f, true_and, and_true, false_and, and_false, zKL, eq_self, Nat.reduceEqDiff, zite0, ite_not, zaddr, zaddl, zputr, zsb1, zsb2, zsb0, zsbm, znm1, gX, gM, ze_155, s155_0, s155_1, s155_4, s155_7, s155_8, s155_9, s155_10, s155_13, s155_16, s155_17, s155_18, s155_21, s155_24, s155_25, s155_28, s155_29, s155_32, s155_33, s155_36, s155_37, s155_40, s155_43, s155_44, s155_47, s155_48, k1, k3, e1, e2, hs]
        · simp (config := {maxSteps := 1000000}) (disch := omega) only [↓reduceIte, Int32.reduceLT, Int32.reduceLE, Int32.reduceToNatClampNeg, Int32.reduceAdd, Int32.reduceSub, Int32.reduceMul, Nat.reduceLeDiff, zEL, zup_ne, zup_eq, zT0, zT1, zT2, if_true, if_false, zneq_f, true_and, and_true, false_and, and_false, zKL, eq_self, Nat.reduceEqDiff, zite0, ite_not, zaddr, zaddl, zputr, zsb1, zsb2, zsb0, zsbm, znm1, layM1, ze_250, s250_0, s250_1, s250_2, s250_5, s250_8, s250_9, s250_10, s250_13, s250_16, s250_17, s250_20, s250_23, s250_24, s250_25, s250_26, s250_29, s250_32, s250_33, s250_34, s250_37, s250_38, s250_41, s250_42, k2, k4, hs]
    · have k3 := t83b_12 (L := L) a0 hq
      have k4 := t236b (Lm := Lm) (rd := rd) m0 hq
      refine .inr ⟨?_, ?_⟩ <;> unfold zcall
      · simp (config := {maxSteps := 1000000}) (disch := omega) only [↓reduceIte, Int32.reduceLT, Int32.reduceLE, Int32.reduceToNatClampNeg, Int32.reduceAdd, Int32.reduceSub, Int32.reduceMul, Nat.reduceLeDiff, zEL, zup_ne, zup_eq, zT0, zT1, zT2, if_true, if_false, zneq_f, true_and, and_true, false_and, and_false, zKL, eq_self, Nat.reduceEqDiff, zite0, ite_not, zaddr, zaddl, zputr, zsb1, zsb2, zsb0, zsbm, znm1, gX, gM, ze_155, s155_0, s155_1, s155_4, s155_7, s155_8, s155_9, s155_10, s155_13, s155_16, s155_17, s155_18, s155_21, s155_24, s155_25, s155_28, s155_29, s155_32, s155_33, s155_36, s155_37, s155_40, s155_43, s155_44, s155_47, s155_48, k1, k3]
      · simp (config := {maxSteps := 1000000}) (disch := omega) only [↓reduceIte, Int32.reduceLT, Int32.reduceLE, Int32.reduceToNatClampNeg, Int32.reduceAdd, Int32.reduceSub, Int32.reduceMul, Nat.reduceLeDiff, zEL, zup_ne, zup_eq, zT0, zT1, zT2, if_true, if_false, zneq_f, true_and, and_true, false_and, and_false, zKL, eq_self, Nat.reduceEqDiff, zite0, ite_not, zaddr, zaddl, zputr, zsb1, zsb2, zsb0, zsbm, znm1, layM1, ze_250, s250_0, s250_1, s250_2, s250_5, s250_8, s250_9, s250_10, s250_13, s250_16, s250_17, s250_20, s250_23, s250_24, s250_25, s250_26, s250_29, s250_32, s250_33, s250_34, s250_37, s250_38, s250_41, s250_42, k2, k4]
  · have k1 := t83b_12 (L := L) a0 hp
    have k2 := t236b (Lm := Lm) (rd := rd) m0 hp
    refine .inr ⟨?_, ?_⟩ <;> unfold zcall
    · simp (config := {maxSteps := 1000000}) (disch := omega) only [↓reduceIte, Int32.reduceLT, Int32.reduceLE, Int32.reduceToNatClampNeg, Int32.reduceAdd, Int32.reduceSub, Int32.reduceMul, Nat.reduceLeDiff, zEL, zup_ne, zup_eq, zT0, zT1, zT2, if_true, if_false, zneq_f, true_and, and_true, false_and, and_false, zKL, eq_self, Nat.reduceEqDiff, zite0, ite_not, zaddr, zaddl, zputr, zsb1, zsb2, zsb0, zsbm, znm1, gX, gM, ze_155, s155_0, s155_1, s155_4, s155_7, s155_8, s155_9, s155_10, s155_13, s155_16, s155_17, s155_18, s155_21, s155_24, s155_25, s155_28, s155_29, s155_32, s155_33, s155_36, s155_37, s155_40, s155_43, s155_44, s155_47, s155_48, k1]
    · simp (config := {maxSteps := 1000000}) (disch := omega) only [↓reduceIte, Int32.reduceLT, Int32.reduceLE, Int32.reduceToNatClampNeg, Int32.reduceAdd, Int32.reduceSub, Int32.reduceMul, Nat.reduceLeDiff, zEL, zup_ne, zup_eq, zT0, zT1, zT2, if_true, if_false, zneq_f, true_and, and_true, false_and, and_false, zKL, eq_self, Nat.reduceEqDiff, zite0, ite_not, zaddr, zaddl, zputr, zsb1, zsb2, zsb0, zsbm, znm1, layM1, ze_250, s250_0, s250_1, s250_2, s250_5, s250_8, s250_9, s250_10, s250_13, s250_16, s250_17, s250_20, s250_23, s250_24, s250_25, s250_26, s250_29, s250_32, s250_33, s250_34, s250_37, s250_38, s250_41, s250_42, k2]
theorem tpai (hM : zMD c S Sm) (p r q : Int32) : (∃ a d b, a < c 0 ∧ d < c 0 ∧ b < c 0 ∧ p = nI a ∧ r = nI d ∧ q = nI b ∧ zcall 156 [.ref 0, .int p, .int r, .int q] zRc S L = some (some (.int 1), zRc, S, L) ∧ zcall 255 [.ref 0, .int p, .int r, .int q] (zRm1 rd) Sm Lm = some (some (.int 1), zRm1 rd, Sm, Lm)) ∨ (zcall 156 [.ref 0, .int p, .int r, .int q] zRc S L = some (some (.int 0), zRc, S, L) ∧ zcall 255 [.ref 0, .int p, .int r, .int q] (zRm1 rd) Sm Lm = some (some (.int 0), zRm1 rd, Sm, Lm)) := by
  rcases topp (L := L) (Lm := Lm) (rd := rd) hM p q with ⟨a, b, ha, hb, e1, e2, -, k1, k2⟩ | ⟨k1, k2⟩
  · rcases topp (L := L) (Lm := Lm) (rd := rd) hM r q with ⟨d, b', hd, hb', e3, e4, -, k3, k4⟩ | ⟨k3, k4⟩
    · by_cases hpr : p = r
      · refine .inr ⟨?_, ?_⟩ <;> unfold zcall
        · subst hpr
          simp (config := {maxSteps := 1000000}) (disch := omega) only [↓reduceIte, Int32.reduceLT, Int32.reduceLE, Int32.reduceToNatClampNeg, Int32.reduceAdd, Int32.reduceSub, Int32.reduceMul, Nat.reduceLeDiff, zEL, zup_ne, zup_eq, zT0, zT1, zT2, if_true, if_false, zneq_f, true_and, and_true, false_and, and_false, zKL, eq_self, Nat.reduceEqDiff, zite0, ite_not, zaddr, zaddl, zputr, zsb1, zsb2, zsb0, zsbm, znm1, gX, ze_156, s156_0, s156_1, s156_2, s156_5, s156_6, s156_7, s156_8, s156_11, s156_14, s156_15, s156_16, s156_17, s156_20, s156_23, s156_24, s156_27, s156_28]
        · subst hpr
          simp (config := {maxSteps := 1000000}) (disch := omega) only [↓reduceIte, Int32.reduceLT, Int32.reduceLE, Int32.reduceToNatClampNeg, Int32.reduceAdd, Int32.reduceSub, Int32.reduceMul, Nat.reduceLeDiff, zEL, zup_ne, zup_eq, zT0, zT1, zT2, if_true, if_false, zneq_f, true_and, and_true, false_and, and_false, zKL, eq_self, Nat.reduceEqDiff, zite0, ite_not, zaddr, zaddl, zputr, zsb1, zsb2, zsb0, zsbm, znm1, layM1, ze_255, s255_0, s255_1, s255_2, s255_3, s255_6, s255_9, s255_10, s255_11, s255_12, s255_15, s255_18, s255_19, s255_20, s255_23, s255_24, s255_27, s255_28, k2, k4]
      · refine .inl ⟨a, d, b, ha, hd, hb, e1, e3, e2, ?_, ?_⟩ <;> unfold zcall
        · simp (config := {maxSteps := 1000000}) (disch := omega) only [↓reduceIte, Int32.reduceLT, Int32.reduceLE, Int32.reduceToNatClampNeg, Int32.reduceAdd, Int32.reduceSub, Int32.reduceMul, Nat.reduceLeDiff, zEL, zup_ne, zup_eq, zT0, zT1, zT2, if_true, if_false, zneq_f, true_and, and_true, false_and, and_false, zKL, eq_self, Nat.reduceEqDiff, zite0, ite_not, zaddr, zaddl, zputr, zsb1, zsb2, zsb0, zsbm, znm1, gX, ze_156, s156_0, s156_1, s156_2, s156_5, s156_6, s156_7, s156_8, s156_11, s156_14, s156_15, s156_16, s156_17, s156_20, s156_23, s156_24, s156_27, s156_28, hpr, k1, k3]
        · simp (config := {maxSteps := 1000000}) (disch := omega) only [↓reduceIte, Int32.reduceLT, Int32.reduceLE, Int32.reduceToNatClampNeg, Int32.reduceAdd, Int32.reduceSub, Int32.reduceMul, Nat.reduceLeDiff, zEL, zup_ne, zup_eq, zT0, zT1, zT2, if_true, if_false, zneq_f, true_and, and_true, false_and, and_false, zKL, eq_self, Nat.reduceEqDiff, zite0, ite_not, zaddr, zaddl, zputr, zsb1, zsb2, zsb0, zsbm, znm1, layM1, ze_255, s255_0, s255_1, s255_2, s255_3, s255_6, s255_9, s255_10, s255_11, s255_12, s255_15, s255_18, s255_19, s255_20, s255_23, s255_24, s255_27, s255_28, hpr, k2, k4]
    · refine .inr ⟨?_, ?_⟩ <;> unfold zcall
      · simp (config := {maxSteps := 1000000}) (disch := omega) only [↓reduceIte, Int32.reduceLT, Int32.reduceLE, Int32.reduceToNatClampNeg, Int32.reduceAdd, Int32.reduceSub, Int32.reduceMul, Nat.reduceLeDiff, zEL, zup_ne, zup_eq, zT0, zT1, zT2, if_true, if_false, zneq_f, true_and, and_true, false_and, and_false, zKL, eq_self, Nat.reduceEqDiff, zite0, ite_not, zaddr, zaddl, zputr, zsb1, zsb2, zsb0, zsbm, znm1, gX, ze_156, s156_0, s156_1, s156_2, s156_5, s156_6, s156_7, s156_8, s156_11, s156_14, s156_15, s156_16, s156_17, s156_20, s156_23, s156_24, s156_27, s156_28, k1, k3]
        all_goals (split <;> rfl)
      · simp (config := {maxSteps := 1000000}) (disch := omega) only [↓reduceIte, Int32.reduceLT, Int32.reduceLE, Int32.reduceToNatClampNeg, Int32.reduceAdd, Int32.reduceSub, Int32.reduceMul, Nat.reduceLeDiff, zEL, zup_ne, zup_eq, zT0, zT1, zT2, if_true, if_false, zneq_f, true_and, and_true, false_and, and_false, zKL, eq_self, Nat.reduceEqDiff, zite0, ite_not, zaddr, zaddl, zputr, zsb1, zsb2, zsb0, zsbm, znm1, layM1, ze_255, s255_0, s255_1, s255_2, s255_3, s255_6, s255_9, s255_10, s255_11, s255_12, s255_15, s255_18, s255_19, s255_20, s255_23, s255_24, s255_27, s255_28, k2, k4]
  · refine .inr ⟨?_, ?_⟩ <;> unfold zcall
    · simp (config := {maxSteps := 1000000}) (disch := omega) only [↓reduceIte, Int32.reduceLT, Int32.reduceLE, Int32.reduceToNatClampNeg, Int32.reduceAdd, Int32.reduceSub, Int32.reduceMul, Nat.reduceLeDiff, zEL, zup_ne, zup_eq, zT0, zT1, zT2, if_true, if_false, zneq_f, true_and, and_true, false_and, and_false, zKL, eq_self, Nat.reduceEqDiff, zite0, ite_not, zaddr, zaddl, zputr, zsb1, zsb2, zsb0, zsbm, znm1, gX, ze_156, s156_0, s156_1, s156_2, s156_5, s156_6, s156_7, s156_8, s156_11, s156_14, s156_15, s156_16, s156_17, s156_20, s156_23, s156_24, s156_27, s156_28, k1]
      all_goals (split <;> rfl)
    · simp (config := {maxSteps := 1000000}) (disch := omega) only [↓reduceIte, Int32.reduceLT, Int32.reduceLE, Int32.reduceToNatClampNeg, Int32.reduceAdd, Int32.reduceSub, Int32.reduceMul, Nat.reduceLeDiff, zEL, zup_ne, zup_eq, zT0, zT1, zT2, if_true, if_false, zneq_f, true_and, and_true, false_and, and_false, zKL, eq_self, Nat.reduceEqDiff, zite0, ite_not, zaddr, zaddl, zputr, zsb1, zsb2, zsb0, zsbm, znm1, layM1, ze_255, s255_0, s255_1, s255_2, s255_3, s255_6, s255_9, s255_10, s255_11, s255_12, s255_15, s255_18, s255_19, s255_20, s255_23, s255_24, s255_27, s255_28, k2]
theorem todds {a b : Nat} {hi dodge : Int32} (hM : zMD c S Sm) (hG : zGD 168 c S (Sm 2)) (ha : a < c 0) (hb : b < c 0) (hhi : hi = 0 ∨ hi = 1) : ∃ n : Nat, n ≤ 9000 ∧ zcall 158 [.ref 0, .int (nI a), .int (nI b), .int hi, .int dodge] zRc S L = some (some (.int (nI n)), zRc, S, L) ∧ zcall 253 [.ref 0, .int (nI a), .int (nI b), .int hi, .int dodge] (zRm1 rd) Sm Lm = some (some (.int (nI n)), zRm1 rd, Sm, Lm) := by
  obtain ⟨n, hn, k1, k2⟩ := t27_168 (L := L) (Lm := Lm) (rd := rd) (dodge := dodge) (dk := 0) (does := 0) hM hG ha hb hhi (.inr ⟨rfl, .inl rfl⟩)
  obtain ⟨i, h, w, d, hi5, hh, hw, hd, e1, e2, e3, e4, e5, e6⟩ := zsnow_168 hM hG
  have k3 := t78 (L := L) hi5 hw e2
  have k4 := t213 (Lm := Lm) (rd := rd) hh hw e4 e5
  have hz := @zhd_lt w
  have hm : n * zhd w ≤ 9000 := Nat.le_trans (Nat.mul_le_mul hn hz) (by omega)
  have em : nI n * nI (zhd w) = nI (n * zhd w) := znI_mul (by omega)
  refine ⟨n * zhd w, hm, ?_, ?_⟩ <;> unfold zcall
  · simp (config := {maxSteps := 1000000}) (disch := omega) only [↓reduceIte, Int32.reduceLT, Int32.reduceLE, Int32.reduceToNatClampNeg, Int32.reduceAdd, Int32.reduceSub, Int32.reduceMul, Nat.reduceLeDiff, zEL, zup_ne, zup_eq, zT0, zT1, zT2, if_true, if_false, zneq_f, true_and, and_true, false_and, and_false, zKL, eq_self, Nat.reduceEqDiff, zite0, ite_not, zaddr, zaddl, zputr, zsb1, zsb2, zsb0, zsbm, znm1, gX, gM, g168, ze_158, s158_0, s158_1, s158_4, s158_5, s158_6, s158_7, s158_9, s158_10, s158_13, s158_14, s158_17, s158_20, s158_21, s158_24, s158_27, s158_30, s158_31, k1, e1, k3, em]
  · simp (config := {maxSteps := 1000000}) (disch := omega) only [↓reduceIte, Int32.reduceLT, Int32.reduceLE, Int32.reduceToNatClampNeg, Int32.reduceAdd, Int32.reduceSub, Int32.reduceMul, Nat.reduceLeDiff, zEL, zup_ne, zup_eq, zT0, zT1, zT2, if_true, if_false, zneq_f, true_and, and_true, false_and, and_false, zKL, eq_self, Nat.reduceEqDiff, zite0, ite_not, zaddr, zaddl, zputr, zsb1, zsb2, zsb0, zsbm, znm1, layM1, ze_253, s253_0, s253_1, s253_2, s253_3, s253_4, s253_5, s253_7, s253_10, s253_11, s253_14, s253_15, k2, k4, em]
theorem tpOd {a r b : Nat} {dodge : Int32} (hM : zMD c S Sm) (hG : zGD 168 c S (Sm 2)) (ha : a < c 0) (hr : r < c 0) (hb : b < c 0) : ∃ v : Int32, zcall 159 [.ref 0, .int (nI a), .int (nI r), .int (nI b), .int dodge] zRc S L = some (some (.int v), zRc, S, L) ∧ zcall 256 [.ref 0, .int (nI a), .int (nI r), .int (nI b), .int dodge] (zRm1 rd) Sm Lm = some (some (.int v), zRm1 rd, Sm, Lm) := by
  obtain ⟨n, hn, k1, k2⟩ := todds (L := L) (Lm := Lm) (rd := rd) (dodge := dodge) (hi := 0) hM hG ha hb (.inl rfl)
  obtain ⟨m, hm, k3, k4⟩ := todds (L := L) (Lm := Lm) (rd := rd) (dodge := dodge) (hi := 1) hM hG hr hb (.inr rfl)
  refine ⟨100000000 - (10000 - nI n) * (10000 - nI m), ?_, ?_⟩ <;> unfold zcall
  · simp (config := {maxSteps := 1000000}) (disch := omega) only [↓reduceIte, Int32.reduceLT, Int32.reduceLE, Int32.reduceToNatClampNeg, Int32.reduceAdd, Int32.reduceSub, Int32.reduceMul, Nat.reduceLeDiff, zEL, zup_ne, zup_eq, zT0, zT1, zT2, if_true, if_false, zneq_f, true_and, and_true, false_and, and_false, zKL, eq_self, Nat.reduceEqDiff, zite0, ite_not, zaddr, zaddl, zputr, zsb1, zsb2, zsb0, zsbm, znm1, gX, ze_159, s159_0, s159_3, s159_4, s159_5, s159_6, s159_7, s159_9, s159_12, s159_13, s159_15, s159_18, s159_19, s159_20, s159_21, s159_22, s159_24, s159_27, s159_28, s159_30, s159_33, s159_35, s159_37, s159_38, s159_39, k1, k3]
  · simp (config := {maxSteps := 1000000}) (disch := omega) only [↓reduceIte, Int32.reduceLT, Int32.reduceLE, Int32.reduceToNatClampNeg, Int32.reduceAdd, Int32.reduceSub, Int32.reduceMul, Nat.reduceLeDiff, zEL, zup_ne, zup_eq, zT0, zT1, zT2, if_true, if_false, zneq_f, true_and, and_true, false_and, and_false, zKL, eq_self, Nat.reduceEqDiff, zite0, ite_not, zaddr, zaddl, zputr, zsb1, zsb2, zsb0, zsbm, znm1, layM1, ze_256, s256_0, s256_3, s256_6, s256_7, s256_8, s256_9, s256_10, s256_12, s256_15, s256_16, s256_19, s256_20, s256_21, s256_22, s256_23, s256_25, s256_28, s256_29, s256_30, s256_31, k2, k4]
theorem m_123 {p q hi : Int32} (hhi : hi = 0 ∨ hi = 1) (h : zTM c S Sm) : ∃ v : Int32, ∃ S' Sm' : zS, zcall 123 [.ref 0, .int p, .int q, .int hi] zRc S L = some (some (.int v), zRc, S', L) ∧ zcall 251 [.ref 0, .int p, .int q, .int hi] (zRm1 rd) Sm Lm = some (some (.int v), zRm1 rd, Sm', Lm) ∧ zTM c S' Sm' := by
  obtain ⟨X, hX⟩ : ∃ X, X = zup Sm 0 0 0 := ⟨_, rfl⟩
  have h' := zTM_t (v := 0) h
  rw [← hX] at h'
  rcases topp (L := L) (Lm := Lm) (rd := rd) h'.2.2.1 p q with ⟨a, b, ha, hb, rfl, rfl, -, k1, k2⟩ | ⟨k1, k2⟩
  · have b0 : c 0 ≤ 8 := h'.2.2.1.1.2.1
    have q6 := (h'.2.2.1.2.2.2.2.2.1 b hb).2.2.2.2.2.1
    obtain ⟨n, hn, k3, k4⟩ := t27_168 (L := L) (Lm := Lm) (rd := rd) (dodge := X 22 b) (dk := 0) (does := 0) h'.2.2.1 h'.2.2.2.1 ha hb hhi (.inr ⟨rfl, .inl rfl⟩)
    refine ⟨nI n, _, _, ?_, ?_, zTM_d 0 (by decide) h'⟩ <;> unfold zcall
    · simp (config := {maxSteps := 1000000}) (disch := omega) only [↓reduceIte, Int32.reduceLT, Int32.reduceLE, Int32.reduceToNatClampNeg, Int32.reduceAdd, Int32.reduceSub, Int32.reduceMul, Nat.reduceLeDiff, zEL, zup_ne, zup_eq, zT0, zT1, zT2, if_true, if_false, zneq_f, true_and, and_true, false_and, and_false, zKL, eq_self, Nat.reduceEqDiff, zite0, ite_not, zaddr, zaddl, zputr, zsb1, zsb2, zsb0, zsbm, znm1, gX, gM, g168, tEC, S123, k1, q6, k3]
    · simp (config := {maxSteps := 1000000}) (disch := omega) only [↓reduceIte, Int32.reduceLT, Int32.reduceLE, Int32.reduceToNatClampNeg, Int32.reduceAdd, Int32.reduceSub, Int32.reduceMul, Nat.reduceLeDiff, zEL, zup_ne, zup_eq, zT0, zT1, zT2, if_true, if_false, zneq_f, true_and, and_true, false_and, and_false, zKL, eq_self, Nat.reduceEqDiff, zite0, ite_not, zaddr, zaddl, zputr, zsb1, zsb2, zsb0, zsbm, znm1, layM1, tEM1, S251, ← hX, k2, k4]
  · refine ⟨-1, _, _, ?_, ?_, zTM_d 1 (by decide) h'⟩ <;> unfold zcall
    · simp (config := {maxSteps := 1000000}) (disch := omega) only [↓reduceIte, Int32.reduceLT, Int32.reduceLE, Int32.reduceToNatClampNeg, Int32.reduceAdd, Int32.reduceSub, Int32.reduceMul, Nat.reduceLeDiff, zEL, zup_ne, zup_eq, zT0, zT1, zT2, if_true, if_false, zneq_f, true_and, and_true, false_and, and_false, zKL, eq_self, Nat.reduceEqDiff, zite0, ite_not, zaddr, zaddl, zputr, zsb1, zsb2, zsb0, zsbm, znm1, gX, gM, g168, tEC, S123, k1]
    · simp (config := {maxSteps := 1000000}) (disch := omega) only [↓reduceIte, Int32.reduceLT, Int32.reduceLE, Int32.reduceToNatClampNeg, Int32.reduceAdd, Int32.reduceSub, Int32.reduceMul, Nat.reduceLeDiff, zEL, zup_ne, zup_eq, zT0, zT1, zT2, if_true, if_false, zneq_f, true_and, and_true, false_and, and_false, zKL, eq_self, Nat.reduceEqDiff, zite0, ite_not, zaddr, zaddl, zputr, zsb1, zsb2, zsb0, zsbm, znm1, layM1, tEM1, S251, ← hX, k2]
theorem m_124 {p q : Int32} (h : zTM c S Sm) : ∃ v : Int32, ∃ S' Sm' : zS, zcall 124 [.ref 0, .int p, .int q] zRc S L = some (some (.int v), zRc, S', L) ∧ zcall 252 [.ref 0, .int p, .int q] (zRm1 rd) Sm Lm = some (some (.int v), zRm1 rd, Sm', Lm) ∧ zTM c S' Sm' := by
  obtain ⟨X, hX⟩ : ∃ X, X = zup Sm 0 0 0 := ⟨_, rfl⟩
  have h' := zTM_t (v := 0) h
  rw [← hX] at h'
  rcases topp (L := L) (Lm := Lm) (rd := rd) h'.2.2.1 p q with ⟨a, b, ha, hb, rfl, rfl, -, k1, k2⟩ | ⟨k1, k2⟩
  · obtain ⟨o, ho, k3, k4⟩ := thid_168 (L := L) (Lm := Lm) (rd := rd) h'.2.2.1 h'.2.2.2.1 ha hb
    rcases o with _ | w
    · rw [zon_n] at k3 k4
      refine ⟨-2, _, _, ?_, ?_, zTM_d 0 (by decide) h'⟩ <;> unfold zcall
      · simp (config := {maxSteps := 1000000}) (disch := omega) only [↓reduceIte, Int32.reduceLT, Int32.reduceLE, Int32.reduceToNatClampNeg, Int32.reduceAdd, Int32.reduceSub, Int32.reduceMul, Nat.reduceLeDiff, zEL, zup_ne, zup_eq, zT0, zT1, zT2, if_true, if_false, zneq_f, true_and, and_true, false_and, and_false, zKL, eq_self, Nat.reduceEqDiff, zite0, ite_not, zaddr, zaddl, zputr, zsb1, zsb2, zsb0, zsbm, znm1, gX, gM, g168, tEC, S124, k1, k3]
      · simp (config := {maxSteps := 1000000}) (disch := omega) only [↓reduceIte, Int32.reduceLT, Int32.reduceLE, Int32.reduceToNatClampNeg, Int32.reduceAdd, Int32.reduceSub, Int32.reduceMul, Nat.reduceLeDiff, zEL, zup_ne, zup_eq, zT0, zT1, zT2, if_true, if_false, zneq_f, true_and, and_true, false_and, and_false, zKL, eq_self, Nat.reduceEqDiff, zite0, ite_not, zaddr, zaddl, zputr, zsb1, zsb2, zsb0, zsbm, znm1, layM1, tEM1, S252, ← hX, k2, k4]
    · rw [zon_s] at k3 k4
      have hw := (ho w rfl).1
      have b1 : c 1 ≤ 8 := h'.2.2.1.1.2.2.1
      refine ⟨nI w, _, _, ?_, ?_, zTM_d 0 (by decide) h'⟩ <;> unfold zcall
      · simp (config := {maxSteps := 1000000}) (disch := omega) only [↓reduceIte, Int32.reduceLT, Int32.reduceLE, Int32.reduceToNatClampNeg, Int32.reduceAdd, Int32.reduceSub, Int32.reduceMul, Nat.reduceLeDiff, zEL, zup_ne, zup_eq, zT0, zT1, zT2, if_true, if_false, zneq_f, true_and, and_true, false_and, and_false, zKL, eq_self, Nat.reduceEqDiff, zite0, ite_not, zaddr, zaddl, zputr, zsb1, zsb2, zsb0, zsbm, znm1, gX, gM, g168, tEC, S124, k1, k3]
      · simp (config := {maxSteps := 1000000}) (disch := omega) only [↓reduceIte, Int32.reduceLT, Int32.reduceLE, Int32.reduceToNatClampNeg, Int32.reduceAdd, Int32.reduceSub, Int32.reduceMul, Nat.reduceLeDiff, zEL, zup_ne, zup_eq, zT0, zT1, zT2, if_true, if_false, zneq_f, true_and, and_true, false_and, and_false, zKL, eq_self, Nat.reduceEqDiff, zite0, ite_not, zaddr, zaddl, zputr, zsb1, zsb2, zsb0, zsbm, znm1, layM1, tEM1, S252, ← hX, k2, k4]
  · refine ⟨-1, _, _, ?_, ?_, zTM_d 1 (by decide) h'⟩ <;> unfold zcall
    · simp (config := {maxSteps := 1000000}) (disch := omega) only [↓reduceIte, Int32.reduceLT, Int32.reduceLE, Int32.reduceToNatClampNeg, Int32.reduceAdd, Int32.reduceSub, Int32.reduceMul, Nat.reduceLeDiff, zEL, zup_ne, zup_eq, zT0, zT1, zT2, if_true, if_false, zneq_f, true_and, and_true, false_and, and_false, zKL, eq_self, Nat.reduceEqDiff, zite0, ite_not, zaddr, zaddl, zputr, zsb1, zsb2, zsb0, zsbm, znm1, gX, gM, g168, tEC, S124, k1]
    · simp (config := {maxSteps := 1000000}) (disch := omega) only [↓reduceIte, Int32.reduceLT, Int32.reduceLE, Int32.reduceToNatClampNeg, Int32.reduceAdd, Int32.reduceSub, Int32.reduceMul, Nat.reduceLeDiff, zEL, zup_ne, zup_eq, zT0, zT1, zT2, if_true, if_false, zneq_f, true_and, and_true, false_and, and_false, zKL, eq_self, Nat.reduceEqDiff, zite0, ite_not, zaddr, zaddl, zputr, zsb1, zsb2, zsb0, zsbm, znm1, layM1, tEM1, S252, ← hX, k2]
theorem m_125 {p q hi : Int32} (hhi : hi = 0 ∨ hi = 1) (h : zTM c S Sm) : ∃ v : Int32, ∃ S' Sm' : zS, zcall 125 [.ref 0, .int p, .int q, .int hi] zRc S L = some (some (.int v), zRc, S', L) ∧ zcall 254 [.ref 0, .int p, .int q, .int hi] (zRm1 rd) Sm Lm = some (some (.int v), zRm1 rd, Sm', Lm) ∧ zTM c S' Sm' := by
  obtain ⟨X, hX⟩ : ∃ X, X = zup Sm 0 0 0 := ⟨_, rfl⟩
  have h' := zTM_t (v := 0) h
  rw [← hX] at h'
  rcases topp (L := L) (Lm := Lm) (rd := rd) h'.2.2.1 p q with ⟨a, b, ha, hb, rfl, rfl, -, k1, k2⟩ | ⟨k1, k2⟩
  · have b0 : c 0 ≤ 8 := h'.2.2.1.1.2.1
    have q6 := (h'.2.2.1.2.2.2.2.2.1 b hb).2.2.2.2.2.1
    obtain ⟨n, hn, k3, k4⟩ := todds (L := L) (Lm := Lm) (rd := rd) (dodge := X 22 b) h'.2.2.1 h'.2.2.2.1 ha hb hhi
    refine ⟨nI n, _, _, ?_, ?_, zTM_d 0 (by decide) h'⟩ <;> unfold zcall
    · simp (config := {maxSteps := 1000000}) (disch := omega) only [↓reduceIte, Int32.reduceLT, Int32.reduceLE, Int32.reduceToNatClampNeg, Int32.reduceAdd, Int32.reduceSub, Int32.reduceMul, Nat.reduceLeDiff, zEL, zup_ne, zup_eq, zT0, zT1, zT2, if_true, if_false, zneq_f, true_and, and_true, false_and, and_false, zKL, eq_self, Nat.reduceEqDiff, zite0, ite_not, zaddr, zaddl, zputr, zsb1, zsb2, zsb0, zsbm, znm1, gX, gM, g168, tEC, S125, k1, q6, k3]
    · simp (config := {maxSteps := 1000000}) (disch := omega) only [↓reduceIte, Int32.reduceLT, Int32.reduceLE, Int32.reduceToNatClampNeg, Int32.reduceAdd, Int32.reduceSub, Int32.reduceMul, Nat.reduceLeDiff, zEL, zup_ne, zup_eq, zT0, zT1, zT2, if_true, if_false, zneq_f, true_and, and_true, false_and, and_false, zKL, eq_self, Nat.reduceEqDiff, zite0, ite_not, zaddr, zaddl, zputr, zsb1, zsb2, zsb0, zsbm, znm1, layM1, tEM1, S254, ← hX, k2, k4]
  · refine ⟨-1, _, _, ?_, ?_, zTM_d 1 (by decide) h'⟩ <;> unfold zcall
    · simp (config := {maxSteps := 1000000}) (disch := omega) only [↓reduceIte, Int32.reduceLT, Int32.reduceLE, Int32.reduceToNatClampNeg, Int32.reduceAdd, Int32.reduceSub, Int32.reduceMul, Nat.reduceLeDiff, zEL, zup_ne, zup_eq, zT0, zT1, zT2, if_true, if_false, zneq_f, true_and, and_true, false_and, and_false, zKL, eq_self, Nat.reduceEqDiff, zite0, ite_not, zaddr, zaddl, zputr, zsb1, zsb2, zsb0, zsbm, znm1, gX, gM, g168, tEC, S125, k1]
    · simp (config := {maxSteps := 1000000}) (disch := omega) only [↓reduceIte, Int32.reduceLT, Int32.reduceLE, Int32.reduceToNatClampNeg, Int32.reduceAdd, Int32.reduceSub, Int32.reduceMul, Nat.reduceLeDiff, zEL, zup_ne, zup_eq, zT0, zT1, zT2, if_true, if_false, zneq_f, true_and, and_true, false_and, and_false, zKL, eq_self, Nat.reduceEqDiff, zite0, ite_not, zaddr, zaddl, zputr, zsb1, zsb2, zsb0, zsbm, znm1, layM1, tEM1, S254, ← hX, k2]
theorem m_126 {p r q : Int32} (h : zTM c S Sm) : ∃ v : Int32, ∃ S' Sm' : zS, zcall 126 [.ref 0, .int p, .int r, .int q] zRc S L = some (some (.int v), zRc, S', L) ∧ zcall 257 [.ref 0, .int p, .int r, .int q] (zRm1 rd) Sm Lm = some (some (.int v), zRm1 rd, Sm', Lm) ∧ zTM c S' Sm' := by
  obtain ⟨X, hX⟩ : ∃ X, X = zup Sm 0 0 0 := ⟨_, rfl⟩
  have h' := zTM_t (v := 0) h
  rw [← hX] at h'
  rcases tpai (L := L) (Lm := Lm) (rd := rd) h'.2.2.1 p r q with ⟨a, d, b, ha, hd, hb, rfl, rfl, rfl, k1, k2⟩ | ⟨k1, k2⟩
  · obtain ⟨v, k3, k4⟩ := tpOd (L := L) (Lm := Lm) (rd := rd) (dodge := 0) h'.2.2.1 h'.2.2.2.1 ha hd hb
    refine ⟨v, _, _, ?_, ?_, zTM_d 0 (by decide) h'⟩ <;> unfold zcall
    · simp (config := {maxSteps := 1000000}) (disch := omega) only [↓reduceIte, Int32.reduceLT, Int32.reduceLE, Int32.reduceToNatClampNeg, Int32.reduceAdd, Int32.reduceSub, Int32.reduceMul, Nat.reduceLeDiff, zEL, zup_ne, zup_eq, zT0, zT1, zT2, if_true, if_false, zneq_f, true_and, and_true, false_and, and_false, zKL, eq_self, Nat.reduceEqDiff, zite0, ite_not, zaddr, zaddl, zputr, zsb1, zsb2, zsb0, zsbm, znm1, gX, gM, g168, tEC, S126, k1, k3]
    · simp (config := {maxSteps := 1000000}) (disch := omega) only [↓reduceIte, Int32.reduceLT, Int32.reduceLE, Int32.reduceToNatClampNeg, Int32.reduceAdd, Int32.reduceSub, Int32.reduceMul, Nat.reduceLeDiff, zEL, zup_ne, zup_eq, zT0, zT1, zT2, if_true, if_false, zneq_f, true_and, and_true, false_and, and_false, zKL, eq_self, Nat.reduceEqDiff, zite0, ite_not, zaddr, zaddl, zputr, zsb1, zsb2, zsb0, zsbm, znm1, layM1, tEM1, S257, ← hX, k2, k4]
  · refine ⟨-1, _, _, ?_, ?_, zTM_d 1 (by decide) h'⟩ <;> unfold zcall
    · simp (config := {maxSteps := 1000000}) (disch := omega) only [↓reduceIte, Int32.reduceLT, Int32.reduceLE, Int32.reduceToNatClampNeg, Int32.reduceAdd, Int32.reduceSub, Int32.reduceMul, Nat.reduceLeDiff, zEL, zup_ne, zup_eq, zT0, zT1, zT2, if_true, if_false, zneq_f, true_and, and_true, false_and, and_false, zKL, eq_self, Nat.reduceEqDiff, zite0, ite_not, zaddr, zaddl, zputr, zsb1, zsb2, zsb0, zsbm, znm1, gX, gM, g168, tEC, S126, k1]
    · simp (config := {maxSteps := 1000000}) (disch := omega) only [↓reduceIte, Int32.reduceLT, Int32.reduceLE, Int32.reduceToNatClampNeg, Int32.reduceAdd, Int32.reduceSub, Int32.reduceMul, Nat.reduceLeDiff, zEL, zup_ne, zup_eq, zT0, zT1, zT2, if_true, if_false, zneq_f, true_and, and_true, false_and, and_false, zKL, eq_self, Nat.reduceEqDiff, zite0, ite_not, zaddr, zaddl, zputr, zsb1, zsb2, zsb0, zsbm, znm1, layM1, tEM1, S257, ← hX, k2]
theorem m_127 {p r q : Int32} (h : zTM c S Sm) : ∃ v : Int32, ∃ S' Sm' : zS, zcall 127 [.ref 0, .int p, .int r, .int q] zRc S L = some (some (.int v), zRc, S', L) ∧ zcall 258 [.ref 0, .int p, .int r, .int q] (zRm1 rd) Sm Lm = some (some (.int v), zRm1 rd, Sm', Lm) ∧ zTM c S' Sm' := by
  obtain ⟨X, hX⟩ : ∃ X, X = zup Sm 0 0 0 := ⟨_, rfl⟩
  have h' := zTM_t (v := 0) h
  rw [← hX] at h'
  rcases tpai (L := L) (Lm := Lm) (rd := rd) h'.2.2.1 p r q with ⟨a, d, b, ha, hd, hb, rfl, rfl, rfl, k1, k2⟩ | ⟨k1, k2⟩
  · have b0 : c 0 ≤ 8 := h'.2.2.1.1.2.1
    have q6 := (h'.2.2.1.2.2.2.2.2.1 b hb).2.2.2.2.2.1
    obtain ⟨v, k3, k4⟩ := tpOd (L := L) (Lm := Lm) (rd := rd) (dodge := 0) h'.2.2.1 h'.2.2.2.1 ha hd hb
    obtain ⟨w, k5, k6⟩ := tpOd (L := L) (Lm := Lm) (rd := rd) (dodge := X 22 b) h'.2.2.1 h'.2.2.2.1 ha hd hb
    refine ⟨v - w, _, _, ?_, ?_, zTM_d 0 (by decide) h'⟩ <;> unfold zcall
    · simp (config := {maxSteps := 1000000}) (disch := omega) only [↓reduceIte, Int32.reduceLT, Int32.reduceLE, Int32.reduceToNatClampNeg, Int32.reduceAdd, Int32.reduceSub, Int32.reduceMul, Nat.reduceLeDiff, zEL, zup_ne, zup_eq, zT0, zT1, zT2, if_true, if_false, zneq_f, true_and, and_true, false_and, and_false, zKL, eq_self, Nat.reduceEqDiff, zite0, ite_not, zaddr, zaddl, zputr, zsb1, zsb2, zsb0, zsbm, znm1, gX, gM, g168, tEC, S127, k1, k3, q6, k5]
    · simp (config := {maxSteps := 1000000}) (disch := omega) only [↓reduceIte, Int32.reduceLT, Int32.reduceLE, Int32.reduceToNatClampNeg, Int32.reduceAdd, Int32.reduceSub, Int32.reduceMul, Nat.reduceLeDiff, zEL, zup_ne, zup_eq, zT0, zT1, zT2, if_true, if_false, zneq_f, true_and, and_true, false_and, and_false, zKL, eq_self, Nat.reduceEqDiff, zite0, ite_not, zaddr, zaddl, zputr, zsb1, zsb2, zsb0, zsbm, znm1, layM1, tEM1, S258, ← hX, k2, k4, k6]
  · refine ⟨-1, _, _, ?_, ?_, zTM_d 1 (by decide) h'⟩ <;> unfold zcall
    · simp (config := {maxSteps := 1000000}) (disch := omega) only [↓reduceIte, Int32.reduceLT, Int32.reduceLE, Int32.reduceToNatClampNeg, Int32.reduceAdd, Int32.reduceSub, Int32.reduceMul, Nat.reduceLeDiff, zEL, zup_ne, zup_eq, zT0, zT1, zT2, if_true, if_false, zneq_f, true_and, and_true, false_and, and_false, zKL, eq_self, Nat.reduceEqDiff, zite0, ite_not, zaddr, zaddl, zputr, zsb1, zsb2, zsb0, zsbm, znm1, gX, gM, g168, tEC, S127, k1]
    · simp (config := {maxSteps := 1000000}) (disch := omega) only [↓reduceIte, Int32.reduceLT, Int32.reduceLE, Int32.reduceToNatClampNeg, Int32.reduceAdd, Int32.reduceSub, Int32.reduceMul, Nat.reduceLeDiff, zEL, zup_ne, zup_eq, zT0, zT1, zT2, if_true, if_false, zneq_f, true_and, and_true, false_and, and_false, zKL, eq_self, Nat.reduceEqDiff, zite0, ite_not, zaddr, zaddl, zputr, zsb1, zsb2, zsb0, zsbm, znm1, layM1, tEM1, S258, ← hX, k2]
/-! leagues -/
theorem t153 {v : Int32} {R : List zE} : zcall 153 [.int v] R S L = some (some (.int (if 1 ≤ v ∧ v ≤ 60 then 1 else 0)), R, S, L) := by
  unfold zcall
  simp (config := {maxSteps := 1000000}) (disch := omega) only [↓reduceIte, Int32.reduceLT, Int32.reduceLE, Int32.reduceToNatClampNeg, Int32.reduceAdd, Int32.reduceSub, Int32.reduceMul, Nat.reduceLeDiff, zEL, zup_ne, zup_eq, zT0, zT1, zT2, if_true, if_false, ze_153, s153_0, s153_1, s153_2, s153_5, s153_6, s153_8, s153_11, s153_12, s153_15, s153_16]
  by_cases h1 : v < 1
  · simp only [h1, Int32.not_le.mpr h1, if_true, if_false, false_and]
  · by_cases h2 : 60 < v
    · simp only [h1, h2, Int32.not_le.mpr h2, if_true, if_false, and_false]
    · simp only [h1, h2, Int32.not_lt.mp h1, Int32.not_lt.mp h2, if_true, if_false, true_and]
theorem zlg (v : Int32) : (∃ n : Nat, 1 ≤ n ∧ n ≤ 60 ∧ v = nI n ∧ (v ≤ 60) = True) ∨ (1 ≤ v ∧ v ≤ 60) = False := by
  by_cases h : 1 ≤ v ∧ v ≤ 60
  · left
    have h1 := h.1
    have h2 := h.2
    rw [Int32.le_iff_toInt_le, show (1 : Int32).toInt = 1 from rfl] at h1
    rw [Int32.le_iff_toInt_le, show (60 : Int32).toInt = 60 from rfl] at h2
    exact ⟨v.toInt.toNat, by omega, by omega, znI_of (by omega), eq_true h.2⟩
  · exact .inr (eq_false h)
theorem m_121 {p v : Int32} (h : zTM c S Sm) : ∃ w : Int32, ∃ S' Sm' : zS, zcall 121 [.ref 0, .int p, .int v] zRc S L = some (some (.int w), zRc, S', L) ∧ zcall 248 [.ref 0, .int p, .int v] (zRm1 rd) Sm Lm = some (some (.int w), zRm1 rd, Sm', Lm) ∧ zTM c S' Sm' := by
  obtain ⟨X, hX⟩ : ∃ X, X = zup Sm 0 0 0 := ⟨_, rfl⟩
  have h' := zTM_t (v := 0) h
  rw [← hX] at h'
  have b1 := h.2.1
  rcases zrng p 2 (by omega) 2 3 rfl rfl with ⟨sd, hsd, rfl, a1, a2, a3, a4, a5, a6⟩ | ⟨a1, a2, a3, a4, a5, a6⟩ | ⟨a1, a2, a3, a4, a5, a6⟩
  · rcases zlg v with ⟨n, hn1, hn, rfl, hv⟩ | hv
    · obtain ⟨m, hm, S1, X1, r1, r2, r3, r4, r5, r6⟩ := t157 (L := L) (Lm := Lm) (rd := rd) hn hsd h'.2.2.1 h'.2.2.2.1
      refine ⟨nI m, _, _, ?_, ?_, zTM_fr (S' := zup S1 0 14 0) (Sm' := zup (zup X1 0 1 0) 0 2 (-1)) h' (fun j k hj => by
        unfold zrelC at hj
        rw [zup_ne (by omega)]
        exact r4 j k (by omega)) (fun j k hj => by
        unfold zrelM at hj
        rw [zup_ne (by omega), zup_ne (by omega)]
        by_cases e : j = 2
        · subst e
          exact r6 k (by omega)
        · exact r5 j k e (by omega) (by omega) (by omega)) (zup_eq rfl rfl) (by rw [zup_ne (by omega), zup_eq rfl rfl]) (zup_eq rfl rfl) (by decide)⟩ <;> unfold zcall
      · simp (config := {maxSteps := 1000000}) (disch := omega) only [↓reduceIte, Int32.reduceLT, Int32.reduceLE, Int32.reduceToNatClampNeg, Int32.reduceAdd, Int32.reduceSub, Int32.reduceMul, Nat.reduceLeDiff, zEL, zup_ne, zup_eq, zT0, zT1, zT2, if_true, if_false, zneq_f, true_and, and_true, false_and, and_false, zKL, eq_self, Nat.reduceEqDiff, zite0, ite_not, zaddr, zaddl, zputr, zsb1, zsb2, zsb0, zsbm, znm1, gX, g168, tEC, S121, b1, a1, a3, t153, hv, r1, r3]
      · simp (config := {maxSteps := 1000000}) (disch := omega) only [↓reduceIte, Int32.reduceLT, Int32.reduceLE, Int32.reduceToNatClampNeg, Int32.reduceAdd, Int32.reduceSub, Int32.reduceMul, Nat.reduceLeDiff, zEL, zup_ne, zup_eq, zT0, zT1, zT2, if_true, if_false, zneq_f, true_and, and_true, false_and, and_false, zKL, eq_self, Nat.reduceEqDiff, zite0, ite_not, zaddr, zaddl, zputr, zsb1, zsb2, zsb0, zsbm, znm1, layM1, tEM1, S248, ← hX, t173, a2, a3, hv, r2]
    · refine ⟨-1, _, _, ?_, ?_, zTM_d 2 (by decide) h'⟩ <;> unfold zcall
      · simp (config := {maxSteps := 1000000}) (disch := omega) only [↓reduceIte, Int32.reduceLT, Int32.reduceLE, Int32.reduceToNatClampNeg, Int32.reduceAdd, Int32.reduceSub, Int32.reduceMul, Nat.reduceLeDiff, zEL, zup_ne, zup_eq, zT0, zT1, zT2, if_true, if_false, zneq_f, true_and, and_true, false_and, and_false, zKL, eq_self, Nat.reduceEqDiff, zite0, ite_not, zaddr, zaddl, zputr, zsb1, zsb2, zsb0, zsbm, znm1, gX, g168, tEC, S121, b1, a1, a3, t153, hv]
      · simp (config := {maxSteps := 1000000}) (disch := omega) only [↓reduceIte, Int32.reduceLT, Int32.reduceLE, Int32.reduceToNatClampNeg, Int32.reduceAdd, Int32.reduceSub, Int32.reduceMul, Nat.reduceLeDiff, zEL, zup_ne, zup_eq, zT0, zT1, zT2, if_true, if_false, zneq_f, true_and, and_true, false_and, and_false, zKL, eq_self, Nat.reduceEqDiff, zite0, ite_not, zaddr, zaddl, zputr, zsb1, zsb2, zsb0, zsbm, znm1, layM1, tEM1, S248, ← hX, t173, a2, a3, hv]
  · refine ⟨-1, _, _, ?_, ?_, zTM_d 1 (by decide) h'⟩ <;> unfold zcall
    · simp (config := {maxSteps := 1000000}) (disch := omega) only [↓reduceIte, Int32.reduceLT, Int32.reduceLE, Int32.reduceToNatClampNeg, Int32.reduceAdd, Int32.reduceSub, Int32.reduceMul, Nat.reduceLeDiff, zEL, zup_ne, zup_eq, zT0, zT1, zT2, if_true, if_false, zneq_f, true_and, and_true, false_and, and_false, zKL, eq_self, Nat.reduceEqDiff, zite0, ite_not, zaddr, zaddl, zputr, zsb1, zsb2, zsb0, zsbm, znm1, gX, g168, tEC, S121, b1, a1]
    · simp (config := {maxSteps := 1000000}) (disch := omega) only [↓reduceIte, Int32.reduceLT, Int32.reduceLE, Int32.reduceToNatClampNeg, Int32.reduceAdd, Int32.reduceSub, Int32.reduceMul, Nat.reduceLeDiff, zEL, zup_ne, zup_eq, zT0, zT1, zT2, if_true, if_false, zneq_f, true_and, and_true, false_and, and_false, zKL, eq_self, Nat.reduceEqDiff, zite0, ite_not, zaddr, zaddl, zputr, zsb1, zsb2, zsb0, zsbm, znm1, layM1, tEM1, S248, ← hX, t173, a2]
  · refine ⟨-1, _, _, ?_, ?_, zTM_d 1 (by decide) h'⟩ <;> unfold zcall
    · simp (config := {maxSteps := 1000000}) (disch := omega) only [↓reduceIte, Int32.reduceLT, Int32.reduceLE, Int32.reduceToNatClampNeg, Int32.reduceAdd, Int32.reduceSub, Int32.reduceMul, Nat.reduceLeDiff, zEL, zup_ne, zup_eq, zT0, zT1, zT2, if_true, if_false, zneq_f, true_and, and_true, false_and, and_false, zKL, eq_self, Nat.reduceEqDiff, zite0, ite_not, zaddr, zaddl, zputr, zsb1, zsb2, zsb0, zsbm, znm1, gX, g168, tEC, S121, b1, a1, a3]
    · simp (config := {maxSteps := 1000000}) (disch := omega) only [↓reduceIte, Int32.reduceLT, Int32.reduceLE, Int32.reduceToNatClampNeg, Int32.reduceAdd, Int32.reduceSub, Int32.reduceMul, Nat.reduceLeDiff, zEL, zup_ne, zup_eq, zT0, zT1, zT2, if_true, if_false, zneq_f, true_and, and_true, false_and, and_false, zKL, eq_self, Nat.reduceEqDiff, zite0, ite_not, zaddr, zaddl, zputr, zsb1, zsb2, zsb0, zsbm, znm1, layM1, tEM1, S248, ← hX, t173, a2, a3]
theorem m_122 {v : Int32} (h : zTM c S Sm) : ∃ w : Int32, ∃ S' Sm' : zS, zcall 122 [.ref 0, .int v] zRc S L = some (some (.int w), zRc, S', L) ∧ zcall 249 [.ref 0, .int v] (zRm1 rd) Sm Lm = some (some (.int w), zRm1 rd, Sm', Lm) ∧ zTM c S' Sm' := by
  obtain ⟨X, hX⟩ : ∃ X, X = zup Sm 0 0 0 := ⟨_, rfl⟩
  have h' := zTM_t (v := 0) h
  rw [← hX] at h'
  have b1 := h.2.1
  rcases zlg v with ⟨n, hn1, hn, rfl, hv⟩ | hv
  · obtain ⟨m, hm, S1, X1, r1, r2, r3, r4, r5, r6⟩ := t157 (sd := 0) (L := L) (Lm := Lm) (rd := rd) hn (by omega) h'.2.2.1 h'.2.2.2.1
    have hM1 : zMD c S X1 := zMD_fr h'.2.2.1 (fun _ _ _ => rfl) (fun j k hj => r5 j k (by omega) (by omega) (by omega) (by omega))
    have hG1 : zGD 168 c S (X1 2) := zGD_fr h'.2.2.2.1 h'.2.2.1.1.2.1 h'.2.2.1.1.2.2.1 (fun _ _ _ => rfl) r6
    obtain ⟨m2, hm2, S2, X2, q1, q2, q3, q4, q5, q6⟩ := t157 (sd := 1) (L := L) (Lm := Lm) (rd := rd) hn (by omega) hM1 hG1
    have hS : S1 = S2 := by
      rw [r1] at q1
      exact congrArg (fun x : Option (Option Value × List zE × zS × zL) => match x with | some y => y.2.2.1 | none => S1) q1
    subst hS
    refine ⟨nI m - nI m2, _, _, ?_, ?_, zTM_fr (S' := zup S1 0 14 0) (Sm' := zup (zup X2 0 1 0) 0 2 (-1)) h' (fun j k hj => by
      unfold zrelC at hj
      rw [zup_ne (by omega)]
      exact r4 j k (by omega)) (fun j k hj => by
      unfold zrelM at hj
      rw [zup_ne (by omega), zup_ne (by omega)]
      by_cases e : j = 2
      · subst e
        exact (q6 k (by omega)).trans (r6 k (by omega))
      · exact (q5 j k e (by omega) (by omega) (by omega)).trans (r5 j k e (by omega) (by omega) (by omega))) (zup_eq rfl rfl) (by rw [zup_ne (by omega), zup_eq rfl rfl]) (zup_eq rfl rfl) (by decide)⟩ <;> unfold zcall
    · have z0 : zrd S1 207 3 0 = nI m := zrd_nI (j := 0) (by omega) (by omega) |>.trans r3
      have z1 : zrd S1 207 3 1 = nI m2 := zrd_nI (j := 1) (by omega) (by omega) |>.trans q3
      simp (config := {maxSteps := 1000000}) (disch := omega) only [↓reduceIte, Int32.reduceLT, Int32.reduceLE, Int32.reduceToNatClampNeg, Int32.reduceAdd, Int32.reduceSub, Int32.reduceMul, Nat.reduceLeDiff, zEL, zup_ne, zup_eq, zT0, zT1, zT2, if_true, if_false, zneq_f, true_and, and_true, false_and, and_false, zKL, eq_self, Nat.reduceEqDiff, zite0, ite_not, zaddr, zaddl, zputr, zsb1, zsb2, zsb0, zsbm, znm1, gX, g168, tEC, S122, b1, t153, hv, r1, z0, z1]
    · have r2 : zcall 247 [.ref 0, .int 0, .int (nI n)] (zRm1 rd) X Lm = some (some (.int (nI m)), zRm1 rd, X1, Lm) := r2
      have q2 : zcall 247 [.ref 0, .int 1, .int (nI n)] (zRm1 rd) X1 Lm = some (some (.int (nI m2)), zRm1 rd, X2, Lm) := q2
      simp (config := {maxSteps := 1000000}) (disch := omega) only [↓reduceIte, Int32.reduceLT, Int32.reduceLE, Int32.reduceToNatClampNeg, Int32.reduceAdd, Int32.reduceSub, Int32.reduceMul, Nat.reduceLeDiff, zEL, zup_ne, zup_eq, zT0, zT1, zT2, if_true, if_false, zneq_f, true_and, and_true, false_and, and_false, zKL, eq_self, Nat.reduceEqDiff, zite0, ite_not, zaddr, zaddl, zputr, zsb1, zsb2, zsb0, zsbm, znm1, layM1, tEM1, S249, ← hX, t173, hv, r2, q2]
  · refine ⟨-1000, _, _, ?_, ?_, zTM_d 2 (by decide) h'⟩ <;> unfold zcall
    · simp (config := {maxSteps := 1000000}) (disch := omega) only [↓reduceIte, Int32.reduceLT, Int32.reduceLE, Int32.reduceToNatClampNeg, Int32.reduceAdd, Int32.reduceSub, Int32.reduceMul, Nat.reduceLeDiff, zEL, zup_ne, zup_eq, zT0, zT1, zT2, if_true, if_false, zneq_f, true_and, and_true, false_and, and_false, zKL, eq_self, Nat.reduceEqDiff, zite0, ite_not, zaddr, zaddl, zputr, zsb1, zsb2, zsb0, zsbm, znm1, gX, g168, tEC, S122, b1, t153, hv]
    · simp (config := {maxSteps := 1000000}) (disch := omega) only [↓reduceIte, Int32.reduceLT, Int32.reduceLE, Int32.reduceToNatClampNeg, Int32.reduceAdd, Int32.reduceSub, Int32.reduceMul, Nat.reduceLeDiff, zEL, zup_ne, zup_eq, zT0, zT1, zT2, if_true, if_false, zneq_f, true_and, and_true, false_and, and_false, zKL, eq_self, Nat.reduceEqDiff, zite0, ite_not, zaddr, zaddl, zputr, zsb1, zsb2, zsb0, zsbm, znm1, layM1, tEM1, S249, ← hX, t173, hv]
end ZT4
