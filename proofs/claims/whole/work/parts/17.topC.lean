/-! dash, runners as calls -/
section ZTC
variable {c : Nat → Nat} {S Sm : zS} {L Lm : zL} {rd : Value}
theorem zrg1 (v : Int32) (b : Nat) (hb : b < 1000000) (ub : Int32) (h1 : ub = nI b) : (∃ n, 1 ≤ n ∧ n ≤ b ∧ v = nI n ∧ (v < 1) = False ∧ (1 ≤ v) = True ∧ (v ≤ ub) = True ∧ (ub < v) = False) ∨ ((v < 1) = True ∧ (1 ≤ v) = False) ∨ ((v < 1) = False ∧ (1 ≤ v) = True ∧ (v ≤ ub) = False ∧ (ub < v) = True) := by
  subst h1
  rcases znI_cases v with h | ⟨a, ha, rfl⟩
  · have g : v < 1 := by
      rw [Int32.lt_iff_toInt_lt, show (0 : Int32).toInt = 0 from rfl] at h
      rw [Int32.lt_iff_toInt_lt, show (1 : Int32).toInt = 1 from rfl]
      omega
    exact .inr (.inl ⟨eq_true g, eq_false (Int32.not_le.mpr g)⟩)
  · rw [show (1 : Int32) = nI 1 from rfl, zlt_nI (by omega) (by omega), zle_nI (by omega) (by omega), zle_nI (by omega) (by omega), zlt_nI (by omega) (by omega)]
    by_cases h0 : a < 1
    · exact .inr (.inl ⟨eq_true h0, eq_false (by omega)⟩)
    · by_cases h : a ≤ b
      · exact .inl ⟨a, by omega, h, rfl, eq_false h0, eq_true (by omega), eq_true h, eq_false (by omega)⟩
      · exact .inr (.inr ⟨eq_false h0, eq_true (by omega), eq_false h, eq_true (by omega)⟩)
/-- throws and hundredths: of both -/
theorem t154 (v w : Int32) {Rm : List zE} : (∃ n k, n ≤ 8 ∧ k ≤ 100 ∧ v = nI n ∧ w = nI k ∧ zcall 154 [.int v, .int w] zRc S L = some (some (.int 1), zRc, S, L) ∧ (0 ≤ v ∧ v ≤ 8) = True ∧ (0 ≤ w ∧ w ≤ 100) = True) ∨ (zcall 154 [.int v, .int w] zRc S L = some (some (.int 0), zRc, S, L) ∧ ((0 ≤ v ∧ v ≤ 8) = False ∨ ((0 ≤ v ∧ v ≤ 8) = True ∧ (0 ≤ w ∧ w ≤ 100) = False))) := by
  rcases zrng v 8 (by omega) 8 9 rfl rfl with ⟨n, hn, e1, a1, a2, a3, a4, a5, a6⟩ | ⟨a1, a2, a3, a4, a5, a6⟩ | ⟨a1, a2, a3, a4, a5, a6⟩
  · rcases zrng w 100 (by omega) 100 101 rfl rfl with ⟨k, hk, e2, b1, b2, b3, b4, b5, b6⟩ | ⟨b1, b2, b3, b4, b5, b6⟩ | ⟨b1, b2, b3, b4, b5, b6⟩
    · refine .inl ⟨n, k, hn, hk, e1, e2, ?_, by rw [a2, a3]; exact and_self _, by rw [b2, b3]; exact and_self _⟩
      unfold zcall
      simp (config := {maxSteps := 1000000}) (disch := omega) only [↓reduceIte, Int32.reduceLT, Int32.reduceLE, Int32.reduceToNatClampNeg, Int32.reduceAdd, Int32.reduceSub, Int32.reduceMul, Nat.reduceLeDiff, zEL, zup_ne, zup_eq, zT0, zT1, zT2, if_true, if_false, ze_154, s154_0, s154_1, s154_4, s154_5, s154_7, s154_10, s154_11, s154_14, s154_15, s154_17, s154_20, s154_21, s154_24, s154_25, a1, a4, b1, b4]
    · refine .inr ⟨?_, .inr ⟨by rw [a2, a3]; exact and_self _, by rw [b2]; exact false_and _⟩⟩
      unfold zcall
      simp (config := {maxSteps := 1000000}) (disch := omega) only [↓reduceIte, Int32.reduceLT, Int32.reduceLE, Int32.reduceToNatClampNeg, Int32.reduceAdd, Int32.reduceSub, Int32.reduceMul, Nat.reduceLeDiff, zEL, zup_ne, zup_eq, zT0, zT1, zT2, if_true, if_false, ze_154, s154_0, s154_1, s154_4, s154_5, s154_7, s154_10, s154_11, s154_14, s154_15, s154_17, s154_20, s154_21, s154_24, s154_25, a1, a4, b1, b4]
    · refine .inr ⟨?_, .inr ⟨by rw [a2, a3]; exact and_self _, by rw [b3]; exact and_false _⟩⟩
      unfold zcall
      simp (config := {maxSteps := 1000000}) (disch := omega) only [↓reduceIte, Int32.reduceLT, Int32.reduceLE, Int32.reduceToNatClampNeg, Int32.reduceAdd, Int32.reduceSub, Int32.reduceMul, Nat.reduceLeDiff, zEL, zup_ne, zup_eq, zT0, zT1, zT2, if_true, if_false, ze_154, s154_0, s154_1, s154_4, s154_5, s154_7, s154_10, s154_11, s154_14, s154_15, s154_17, s154_20, s154_21, s154_24, s154_25, a1, a4, b1, b4]
  · refine .inr ⟨?_, .inl (by rw [a2]; exact false_and _)⟩
    unfold zcall
    simp (config := {maxSteps := 1000000}) (disch := omega) only [↓reduceIte, Int32.reduceLT, Int32.reduceLE, Int32.reduceToNatClampNeg, Int32.reduceAdd, Int32.reduceSub, Int32.reduceMul, Nat.reduceLeDiff, zEL, zup_ne, zup_eq, zT0, zT1, zT2, if_true, if_false, ze_154, s154_0, s154_1, s154_4, s154_5, s154_7, s154_10, s154_11, s154_14, s154_15, s154_17, s154_20, s154_21, s154_24, s154_25, a1, a4]
  · refine .inr ⟨?_, .inl (by rw [a3]; exact and_false _)⟩
    unfold zcall
    simp (config := {maxSteps := 1000000}) (disch := omega) only [↓reduceIte, Int32.reduceLT, Int32.reduceLE, Int32.reduceToNatClampNeg, Int32.reduceAdd, Int32.reduceSub, Int32.reduceMul, Nat.reduceLeDiff, zEL, zup_ne, zup_eq, zT0, zT1, zT2, if_true, if_false, ze_154, s154_0, s154_1, s154_4, s154_5, s154_7, s154_10, s154_11, s154_14, s154_15, s154_17, s154_20, s154_21, s154_24, s154_25, a1, a4]
theorem u_128 {r v w : Int32} (h : zTU S Sm) : ∃ x : Int64, ∃ S' Sm' : zS, ∃ Lm' : zL, zcall 128 [.ref 0, .int r, .int v, .int w] zRc S L = some (some (.long x), zRc, S', L) ∧ zcall 260 [.ref 0, .int r, .int v, .int w] (zRm0 rd) Sm Lm = some (some (.long x), zRm0 rd, Sm', Lm') ∧ zTU S' Sm' := by
  obtain ⟨X, hX⟩ : ∃ X, X = zup Sm 0 0 0 := ⟨_, rfl⟩
  have h' := zTU_t (v := 0) h
  rw [← hX] at h'
  have e1 : (-1 : Int32).toInt64 = -1 := by decide
  rcases zrg1 r 9 (by omega) 9 rfl with ⟨n, hn1, hn, rfl, a1, a2, a3, a4⟩ | ⟨a1, a2⟩ | ⟨a1, a2, a3, a4⟩
  · rcases t154 (S := S) (L := L) (Rm := []) v w with ⟨t, k, ht, hk, rfl, rfl, k1, b1, b2⟩ | ⟨k1, hb⟩
    · have h2 := zTU_d 0 (by decide) h'
      obtain ⟨Y, k2⟩ := t259_0 (Sm := zup (zup X 0 1 0) 0 2 (-1)) (Lm := Lm) (rd := rd) (run := n) hn ht hk
      have k3 := t160 (S := zup S 0 14 0) (L := L) (R := zRc) hn ht hk
      have b3 : (nI t ≤ 8) = True := eq_true (of_eq_true b1).2
      have b4 : (nI k ≤ 100) = True := eq_true (of_eq_true b2).2
      refine ⟨lN (zda k t n), _, _, Y, ?_, ?_, h2⟩ <;> unfold zcall
      · simp (config := {maxSteps := 1000000}) (disch := omega) only [↓reduceIte, Int32.reduceLT, Int32.reduceLE, Int32.reduceToNatClampNeg, Int32.reduceAdd, Int32.reduceSub, Int32.reduceMul, Nat.reduceLeDiff, zEL, zup_ne, zup_eq, zT0, zT1, zT2, if_true, if_false, zneq_f, true_and, and_true, false_and, and_false, zKL, eq_self, Nat.reduceEqDiff, zite0, ite_not, zaddr, zaddl, zputr, zsb1, zsb2, zsb0, zsbm, znm1, gX, tEC, S128, a1, a4, k1, k3]
      · simp (config := {maxSteps := 1000000}) (disch := omega) only [↓reduceIte, Int32.reduceLT, Int32.reduceLE, Int32.reduceToNatClampNeg, Int32.reduceAdd, Int32.reduceSub, Int32.reduceMul, Nat.reduceLeDiff, zEL, zup_ne, zup_eq, zT0, zT1, zT2, if_true, if_false, zneq_f, true_and, and_true, false_and, and_false, zKL, eq_self, Nat.reduceEqDiff, zite0, ite_not, zaddr, zaddl, zputr, zsb1, zsb2, zsb0, zsbm, znm1, layM0, tEM0, S260, ← hX, t173, a2, a3, b3, b4, k2]
    · refine ⟨-1, _, _, Lm, ?_, ?_, zTU_d 2 (by decide) h'⟩ <;> unfold zcall
      · simp (config := {maxSteps := 1000000}) (disch := omega) only [↓reduceIte, Int32.reduceLT, Int32.reduceLE, Int32.reduceToNatClampNeg, Int32.reduceAdd, Int32.reduceSub, Int32.reduceMul, Nat.reduceLeDiff, zEL, zup_ne, zup_eq, zT0, zT1, zT2, if_true, if_false, gX, tEC, S128, a1, a4, k1, e1]
      · rcases hb with hb | ⟨hb, hb2⟩
        · simp (config := {maxSteps := 1000000}) (disch := omega) only [↓reduceIte, Int32.reduceLT, Int32.reduceLE, Int32.reduceToNatClampNeg, Int32.reduceAdd, Int32.reduceSub, Int32.reduceMul, Nat.reduceLeDiff, zEL, zup_ne, zup_eq, zT0, zT1, zT2, if_true, if_false, layM0, tEM0, S260, ← hX, t173, a2, a3, and_self, hb, e1]
        · simp (config := {maxSteps := 1000000}) (disch := omega) only [↓reduceIte, Int32.reduceLT, Int32.reduceLE, Int32.reduceToNatClampNeg, Int32.reduceAdd, Int32.reduceSub, Int32.reduceMul, Nat.reduceLeDiff, zEL, zup_ne, zup_eq, zT0, zT1, zT2, if_true, if_false, layM0, tEM0, S260, ← hX, t173, a2, a3, and_self, hb, hb2, e1]
  · refine ⟨-1, _, _, Lm, ?_, ?_, zTU_d 2 (by decide) h'⟩ <;> unfold zcall
    · simp (config := {maxSteps := 1000000}) (disch := omega) only [↓reduceIte, Int32.reduceLT, Int32.reduceLE, Int32.reduceToNatClampNeg, Int32.reduceAdd, Int32.reduceSub, Int32.reduceMul, Nat.reduceLeDiff, zEL, zup_ne, zup_eq, zT0, zT1, zT2, if_true, if_false, gX, tEC, S128, a1, e1]
    · simp (config := {maxSteps := 1000000}) (disch := omega) only [↓reduceIte, Int32.reduceLT, Int32.reduceLE, Int32.reduceToNatClampNeg, Int32.reduceAdd, Int32.reduceSub, Int32.reduceMul, Nat.reduceLeDiff, zEL, zup_ne, zup_eq, zT0, zT1, zT2, if_true, if_false, layM0, tEM0, S260, ← hX, t173, a2, false_and, e1]
  · refine ⟨-1, _, _, Lm, ?_, ?_, zTU_d 2 (by decide) h'⟩ <;> unfold zcall
    · simp (config := {maxSteps := 1000000}) (disch := omega) only [↓reduceIte, Int32.reduceLT, Int32.reduceLE, Int32.reduceToNatClampNeg, Int32.reduceAdd, Int32.reduceSub, Int32.reduceMul, Nat.reduceLeDiff, zEL, zup_ne, zup_eq, zT0, zT1, zT2, if_true, if_false, gX, tEC, S128, a1, a4, e1]
    · simp (config := {maxSteps := 1000000}) (disch := omega) only [↓reduceIte, Int32.reduceLT, Int32.reduceLE, Int32.reduceToNatClampNeg, Int32.reduceAdd, Int32.reduceSub, Int32.reduceMul, Nat.reduceLeDiff, zEL, zup_ne, zup_eq, zT0, zT1, zT2, if_true, if_false, layM0, tEM0, S260, ← hX, t173, a2, a3, and_false, e1]
theorem urun {t k w : Nat} (ht : t ≤ 8) (hk : k ≤ 100) (hw : w ≤ 100) : ∀ d n, n + d = 10 → 1 ≤ n → ∀ Y : zL, ∃ v : Int32, ∃ Y' : zL, zgo 129 35 [.ref 0, .int (nI t), .int (nI k), .int (nI w), .long (lN (100 ^ t)), .retAddr 0, .int (nI n)] [] zRc S L = some (some (.int v), zRc, zup S 0 14 0, L) ∧ zgo 261 70 [.ref 0, .int (nI t), .int (nI k), .int (nI w), .long (lN (100 ^ t)), .retAddr 0, .int (nI n)] [] (zRm0 rd) Sm Y = some (some (.int v), zRm0 rd, zup (zup Sm 0 1 0) 0 2 (-1), Y') := by
  intro d
  induction d with
  | zero =>
    intro n hd h1 Y
    have hn : n = 10 := by omega
    subst hn
    have h9 : (9 : Int32) < nI 10 := by decide
    have h10 : (10 : Int32) ≤ nI 10 := by decide
    refine ⟨-2, Y, ?_, ?_⟩
    · rw [s129_35]
      simp (config := {maxSteps := 1000000}) (disch := omega) only [↓reduceIte, Int32.reduceLT, Int32.reduceLE, Int32.reduceToNatClampNeg, Int32.reduceAdd, Int32.reduceSub, Int32.reduceMul, Nat.reduceLeDiff, zEL, zup_ne, zup_eq, zT0, zT1, zT2, if_true, if_false, gX, tEC, s129_37, s129_39, s129_42, s129_44, s129_45, s129_46, s129_49, s129_52, s129_53, s129_55, s129_56, s129_57, s129_58, s129_59, s129_62, s129_63, s129_65, s129_68, s129_69, s129_72, s129_75, s129_76, s129_78, s129_81, h9]
    · rw [s261_70]
      simp (config := {maxSteps := 1000000}) (disch := omega) only [↓reduceIte, Int32.reduceLT, Int32.reduceLE, Int32.reduceToNatClampNeg, Int32.reduceAdd, Int32.reduceSub, Int32.reduceMul, Nat.reduceLeDiff, zEL, zup_ne, zup_eq, zT0, zT1, zT2, if_true, if_false, layM0, tEM0, s261_72, s261_74, s261_77, s261_78, s261_80, s261_81, s261_82, s261_85, s261_88, s261_89, s261_91, s261_92, s261_93, s261_94, s261_95, s261_98, s261_99, s261_101, s261_104, s261_105, s261_108, s261_111, s261_112, s261_114, s261_117, h10]
  | succ d ih =>
    intro n hd h1 Y
    have h9 : (9 < nI n) = False := eq_false (by rw [show (9 : Int32) = nI 9 from rfl, znI_lt (by omega) (by omega)]; omega)
    have h10 : (10 ≤ nI n) = False := eq_false (by rw [show (10 : Int32) = nI 10 from rfl, znI_le (by omega) (by omega)]; omega)
    obtain ⟨Y1, k2⟩ := t259_0 (Sm := Sm) (Lm := Y) (rd := rd) (run := n) (by omega) ht hk
    have k3 := t160 (S := S) (L := L) (R := zRc) (run := n) (by omega) ht hk
    by_cases hc : lg_cmp (lN (zda k t n) * 100) (lN (100 ^ t) * (nI w).toInt64) < 0
    · obtain ⟨v, Y', r1, r2⟩ := ih (n + 1) (by omega) (by omega) Y1
      refine ⟨v, Y', ?_, ?_⟩
      · rw [← r1, s129_35]
        simp (config := {maxSteps := 1000000}) (disch := omega) only [↓reduceIte, Int32.reduceLT, Int32.reduceLE, Int32.reduceToNatClampNeg, Int32.reduceAdd, Int32.reduceSub, Int32.reduceMul, Nat.reduceLeDiff, zEL, zup_ne, zup_eq, zT0, zT1, zT2, if_true, if_false, gX, tEC, s129_37, s129_39, s129_42, s129_44, s129_45, s129_46, s129_49, s129_52, s129_53, s129_55, s129_56, s129_57, s129_58, s129_59, s129_62, s129_63, s129_65, s129_68, s129_69, s129_72, s129_75, s129_76, s129_78, s129_81, h9, k3, hc]
      · rw [← r2, s261_70]
        simp (config := {maxSteps := 1000000}) (disch := omega) only [↓reduceIte, Int32.reduceLT, Int32.reduceLE, Int32.reduceToNatClampNeg, Int32.reduceAdd, Int32.reduceSub, Int32.reduceMul, Nat.reduceLeDiff, zEL, zup_ne, zup_eq, zT0, zT1, zT2, if_true, if_false, layM0, tEM0, s261_72, s261_74, s261_77, s261_78, s261_80, s261_81, s261_82, s261_85, s261_88, s261_89, s261_91, s261_92, s261_93, s261_94, s261_95, s261_98, s261_99, s261_101, s261_104, s261_105, s261_108, s261_111, s261_112, s261_114, s261_117, h10, k2, hc]
    · refine ⟨nI n, Y1, ?_, ?_⟩
      · rw [s129_35]
        simp (config := {maxSteps := 1000000}) (disch := omega) only [↓reduceIte, Int32.reduceLT, Int32.reduceLE, Int32.reduceToNatClampNeg, Int32.reduceAdd, Int32.reduceSub, Int32.reduceMul, Nat.reduceLeDiff, zEL, zup_ne, zup_eq, zT0, zT1, zT2, if_true, if_false, gX, tEC, s129_37, s129_39, s129_42, s129_44, s129_45, s129_46, s129_49, s129_52, s129_53, s129_55, s129_56, s129_57, s129_58, s129_59, s129_62, s129_63, s129_65, s129_68, s129_69, s129_72, s129_75, s129_76, s129_78, s129_81, h9, k3, hc]
      · rw [s261_70]
        simp (config := {maxSteps := 1000000}) (disch := omega) only [↓reduceIte, Int32.reduceLT, Int32.reduceLE, Int32.reduceToNatClampNeg, Int32.reduceAdd, Int32.reduceSub, Int32.reduceMul, Nat.reduceLeDiff, zEL, zup_ne, zup_eq, zT0, zT1, zT2, if_true, if_false, layM0, tEM0, s261_72, s261_74, s261_77, s261_78, s261_80, s261_81, s261_82, s261_85, s261_88, s261_89, s261_91, s261_92, s261_93, s261_94, s261_95, s261_98, s261_99, s261_101, s261_104, s261_105, s261_108, s261_111, s261_112, s261_114, s261_117, h10, k2, hc]
theorem uall {t k w : Nat} (ht : t ≤ 8) : zgo 261 41 [.ref 0, .int (nI t), .int (nI k), .int (nI w), .retAddr 0, .retAddr 0, .retAddr 0] [] (zRm0 rd) Sm Lm = zgo 261 70 [.ref 0, .int (nI t), .int (nI k), .int (nI w), .long (lN (100 ^ t)), .retAddr 0, .int (nI 1)] [] (zRm0 rd) Sm Lm := by
  have key : ∀ d i, i + d = t → zgo 261 47 [.ref 0, .int (nI t), .int (nI k), .int (nI w), .long (lN (100 ^ i)), .retAddr 0, .int (nI i)] [] (zRm0 rd) Sm Lm = zgo 261 70 [.ref 0, .int (nI t), .int (nI k), .int (nI w), .long (lN (100 ^ t)), .retAddr 0, .int (nI 1)] [] (zRm0 rd) Sm Lm := by
    intro d
    induction d with
    | zero =>
      intro i hd
      have hi : i = t := by omega
      subst hi
      rw [s261_47]
      simp (config := {maxSteps := 1000000}) (disch := omega) only [↓reduceIte, Int32.reduceLT, Int32.reduceLE, Int32.reduceToNatClampNeg, Int32.reduceAdd, Int32.reduceSub, Int32.reduceMul, Nat.reduceLeDiff, zEL, zup_ne, zup_eq, zT0, zT1, zT2, if_true, if_false, s261_49, s261_50, s261_53, s261_55, s261_58, s261_59, s261_61, s261_64, s261_67, s261_68]
      all_goals rfl
    | succ d ih =>
      intro i hd
      have := ih (i + 1) (by omega)
      rw [Nat.pow_succ] at this
      have e2 : lN (100 ^ i) * 100 = lN (100 ^ i * 100) := zl_mul (b := 100)
      rw [← this, s261_47]
      simp (config := {maxSteps := 1000000}) (disch := omega) only [↓reduceIte, Int32.reduceLT, Int32.reduceLE, Int32.reduceToNatClampNeg, Int32.reduceAdd, Int32.reduceSub, Int32.reduceMul, Nat.reduceLeDiff, zEL, zup_ne, zup_eq, zT0, zT1, zT2, if_true, if_false, s261_49, s261_50, s261_53, s261_55, s261_58, s261_59, s261_61, s261_64, s261_67, s261_68, e2]
  rw [← key t 0 (by omega)]
  simp (config := {maxSteps := 1000000}) (disch := omega) only [↓reduceIte, Int32.reduceLT, Int32.reduceLE, Int32.reduceToNatClampNeg, Int32.reduceAdd, Int32.reduceSub, Int32.reduceMul, Nat.reduceLeDiff, zEL, zup_ne, zup_eq, zT0, zT1, zT2, if_true, if_false, s261_41, s261_42, s261_44, s261_45]
  all_goals rfl
theorem u_129 {v w x : Int32} (h : zTU S Sm) : ∃ y : Int32, ∃ S' Sm' : zS, ∃ Lm' : zL, zcall 129 [.ref 0, .int v, .int w, .int x] zRc S L = some (some (.int y), zRc, S', L) ∧ zcall 261 [.ref 0, .int v, .int w, .int x] (zRm0 rd) Sm Lm = some (some (.int y), zRm0 rd, Sm', Lm') ∧ zTU S' Sm' := by
  obtain ⟨X, hX⟩ : ∃ X, X = zup Sm 0 0 0 := ⟨_, rfl⟩
  have h' := zTU_t (v := 0) h
  rw [← hX] at h'
  rcases t154 (S := S) (L := L) (Rm := []) v w with ⟨t, k, ht, hk, rfl, rfl, k1, b1, b2⟩ | ⟨k1, hb⟩
  · have b3 : (nI t ≤ 8) = True := eq_true (of_eq_true b1).2
    have b4 : (nI k ≤ 100) = True := eq_true (of_eq_true b2).2
    have b5 : (0 ≤ nI t) = True := eq_true (of_eq_true b1).1
    have b6 : (0 ≤ nI k) = True := eq_true (of_eq_true b2).1
    rcases zrng x 100 (by omega) 100 101 rfl rfl with ⟨n, hn, rfl, a1, a2, a3, a4, a5, a6⟩ | ⟨a1, a2, a3, a4, a5, a6⟩ | ⟨a1, a2, a3, a4, a5, a6⟩
    · obtain ⟨y, Y', r1, r2⟩ := urun (S := S) (L := L) (Sm := X) (rd := rd) ht hk hn 9 1 (by omega) (by omega) Lm
      have p1 : zcall 161 [.int 100, .int (nI t)] zRc S L = _ := t161 (S := S) (L := L) (R := zRc) (x := 100) (by omega) ht
      refine ⟨y, _, _, Y', ?_, ?_, zTU_d 0 (by decide) h'⟩ <;> unfold zcall
      · rw [← r1]
        simp (config := {maxSteps := 1000000}) (disch := omega) only [↓reduceIte, Int32.reduceLT, Int32.reduceLE, Int32.reduceToNatClampNeg, Int32.reduceAdd, Int32.reduceSub, Int32.reduceMul, Nat.reduceLeDiff, zEL, zup_ne, zup_eq, zT0, zT1, zT2, if_true, if_false, gX, tEC, ze_129, s129_0, s129_1, s129_2, s129_5, s129_8, s129_9, s129_12, s129_13, s129_15, s129_18, s129_19, s129_20, s129_23, s129_24, s129_26, s129_27, s129_30, s129_32, s129_33, k1, a1, a3, p1]
        all_goals rfl
      · rw [← r2, ← uall ht]
        simp (config := {maxSteps := 1000000}) (disch := omega) only [↓reduceIte, Int32.reduceLT, Int32.reduceLE, Int32.reduceToNatClampNeg, Int32.reduceAdd, Int32.reduceSub, Int32.reduceMul, Nat.reduceLeDiff, zEL, zup_ne, zup_eq, zT0, zT1, zT2, if_true, if_false, layM0, tEM0, ze_261, s261_0, s261_1, s261_2, s261_5, s261_6, s261_7, s261_9, s261_12, s261_15, s261_16, s261_17, s261_19, s261_22, s261_25, s261_26, s261_27, s261_29, s261_32, s261_35, s261_36, s261_37, s261_40, ← hX, t173, a2, a3, b3, b4, b5, b6, and_self]
    · refine ⟨-1, _, _, Lm, ?_, ?_, zTU_d 2 (by decide) h'⟩ <;> unfold zcall
      · simp (config := {maxSteps := 1000000}) (disch := omega) only [↓reduceIte, Int32.reduceLT, Int32.reduceLE, Int32.reduceToNatClampNeg, Int32.reduceAdd, Int32.reduceSub, Int32.reduceMul, Nat.reduceLeDiff, zEL, zup_ne, zup_eq, zT0, zT1, zT2, if_true, if_false, gX, tEC, ze_129, s129_0, s129_1, s129_2, s129_5, s129_8, s129_9, s129_12, s129_13, s129_15, s129_18, s129_19, s129_20, s129_23, s129_24, s129_26, s129_27, s129_30, s129_32, s129_33, k1, a1]
      · simp (config := {maxSteps := 1000000}) (disch := omega) only [↓reduceIte, Int32.reduceLT, Int32.reduceLE, Int32.reduceToNatClampNeg, Int32.reduceAdd, Int32.reduceSub, Int32.reduceMul, Nat.reduceLeDiff, zEL, zup_ne, zup_eq, zT0, zT1, zT2, if_true, if_false, layM0, tEM0, ze_261, s261_0, s261_1, s261_2, s261_5, s261_6, s261_7, s261_9, s261_12, s261_15, s261_16, s261_17, s261_19, s261_22, s261_25, s261_26, s261_27, s261_29, s261_32, s261_35, s261_36, s261_37, s261_40, ← hX, t173, a2, b3, b4, b5, b6, and_self, false_and]
    · refine ⟨-1, _, _, Lm, ?_, ?_, zTU_d 2 (by decide) h'⟩ <;> unfold zcall
      · simp (config := {maxSteps := 1000000}) (disch := omega) only [↓reduceIte, Int32.reduceLT, Int32.reduceLE, Int32.reduceToNatClampNeg, Int32.reduceAdd, Int32.reduceSub, Int32.reduceMul, Nat.reduceLeDiff, zEL, zup_ne, zup_eq, zT0, zT1, zT2, if_true, if_false, gX, tEC, ze_129, s129_0, s129_1, s129_2, s129_5, s129_8, s129_9, s129_12, s129_13, s129_15, s129_18, s129_19, s129_20, s129_23, s129_24, s129_26, s129_27, s129_30, s129_32, s129_33, k1, a1, a3]
      · simp (config := {maxSteps := 1000000}) (disch := omega) only [↓reduceIte, Int32.reduceLT, Int32.reduceLE, Int32.reduceToNatClampNeg, Int32.reduceAdd, Int32.reduceSub, Int32.reduceMul, Nat.reduceLeDiff, zEL, zup_ne, zup_eq, zT0, zT1, zT2, if_true, if_false, layM0, tEM0, ze_261, s261_0, s261_1, s261_2, s261_5, s261_6, s261_7, s261_9, s261_12, s261_15, s261_16, s261_17, s261_19, s261_22, s261_25, s261_26, s261_27, s261_29, s261_32, s261_35, s261_36, s261_37, s261_40, ← hX, t173, a2, a3, b3, b4, b5, b6, and_self, and_false]
  · refine ⟨-1, _, _, Lm, ?_, ?_, zTU_d 2 (by decide) h'⟩ <;> unfold zcall
    · simp (config := {maxSteps := 1000000}) (disch := omega) only [↓reduceIte, Int32.reduceLT, Int32.reduceLE, Int32.reduceToNatClampNeg, Int32.reduceAdd, Int32.reduceSub, Int32.reduceMul, Nat.reduceLeDiff, zEL, zup_ne, zup_eq, zT0, zT1, zT2, if_true, if_false, gX, tEC, ze_129, s129_0, s129_1, s129_2, s129_5, s129_8, s129_9, s129_12, s129_13, s129_15, s129_18, s129_19, s129_20, s129_23, s129_24, s129_26, s129_27, s129_30, s129_32, s129_33, k1]
    · rcases hb with hb | ⟨hb, hb2⟩
      · simp (config := {maxSteps := 1000000}) (disch := omega) only [↓reduceIte, Int32.reduceLT, Int32.reduceLE, Int32.reduceToNatClampNeg, Int32.reduceAdd, Int32.reduceSub, Int32.reduceMul, Nat.reduceLeDiff, zEL, zup_ne, zup_eq, zT0, zT1, zT2, if_true, if_false, layM0, tEM0, ze_261, s261_0, s261_1, s261_2, s261_5, s261_6, s261_7, s261_9, s261_12, s261_15, s261_16, s261_17, s261_19, s261_22, s261_25, s261_26, s261_27, s261_29, s261_32, s261_35, s261_36, s261_37, s261_40, ← hX, t173, hb]
      · simp (config := {maxSteps := 1000000}) (disch := omega) only [↓reduceIte, Int32.reduceLT, Int32.reduceLE, Int32.reduceToNatClampNeg, Int32.reduceAdd, Int32.reduceSub, Int32.reduceMul, Nat.reduceLeDiff, zEL, zup_ne, zup_eq, zT0, zT1, zT2, if_true, if_false, layM0, tEM0, ze_261, s261_0, s261_1, s261_2, s261_5, s261_6, s261_7, s261_9, s261_12, s261_15, s261_16, s261_17, s261_19, s261_22, s261_25, s261_26, s261_27, s261_29, s261_32, s261_35, s261_36, s261_37, s261_40, ← hX, t173, hb, hb2]
theorem m_128 {r v w : Int32} (h : zTM c S Sm) : ∃ x : Int64, ∃ S' Sm' : zS, ∃ Lm' : zL, zcall 128 [.ref 0, .int r, .int v, .int w] zRc S L = some (some (.long x), zRc, S', L) ∧ zcall 260 [.ref 0, .int r, .int v, .int w] (zRm1 rd) Sm Lm = some (some (.long x), zRm1 rd, Sm', Lm') ∧ zTM c S' Sm' := by
  obtain ⟨X, hX⟩ : ∃ X, X = zup Sm 0 0 0 := ⟨_, rfl⟩
  have h' := zTM_t (v := 0) h
  rw [← hX] at h'
  have e1 : (-1 : Int32).toInt64 = -1 := by decide
  rcases zrg1 r 9 (by omega) 9 rfl with ⟨n, hn1, hn, rfl, a1, a2, a3, a4⟩ | ⟨a1, a2⟩ | ⟨a1, a2, a3, a4⟩
  · rcases t154 (S := S) (L := L) (Rm := []) v w with ⟨t, k, ht, hk, rfl, rfl, k1, b1, b2⟩ | ⟨k1, hb⟩
    · have h2 := zTM_d 0 (by decide) h'
      obtain ⟨Y, k2⟩ := t259_1 (Sm := zup (zup X 0 1 0) 0 2 (-1)) (Lm := Lm) (rd := rd) (run := n) hn ht hk
      have k3 := t160 (S := zup S 0 14 0) (L := L) (R := zRc) hn ht hk
      have b3 : (nI t ≤ 8) = True := eq_true (of_eq_true b1).2
      have b4 : (nI k ≤ 100) = True := eq_true (of_eq_true b2).2
      refine ⟨lN (zda k t n), _, _, Y, ?_, ?_, h2⟩ <;> unfold zcall
      · simp (config := {maxSteps := 1000000}) (disch := omega) only [↓reduceIte, Int32.reduceLT, Int32.reduceLE, Int32.reduceToNatClampNeg, Int32.reduceAdd, Int32.reduceSub, Int32.reduceMul, Nat.reduceLeDiff, zEL, zup_ne, zup_eq, zT0, zT1, zT2, if_true, if_false, zneq_f, true_and, and_true, false_and, and_false, zKL, eq_self, Nat.reduceEqDiff, zite0, ite_not, zaddr, zaddl, zputr, zsb1, zsb2, zsb0, zsbm, znm1, gX, tEC, S128, a1, a4, k1, k3]
      · simp (config := {maxSteps := 1000000}) (disch := omega) only [↓reduceIte, Int32.reduceLT, Int32.reduceLE, Int32.reduceToNatClampNeg, Int32.reduceAdd, Int32.reduceSub, Int32.reduceMul, Nat.reduceLeDiff, zEL, zup_ne, zup_eq, zT0, zT1, zT2, if_true, if_false, zneq_f, true_and, and_true, false_and, and_false, zKL, eq_self, Nat.reduceEqDiff, zite0, ite_not, zaddr, zaddl, zputr, zsb1, zsb2, zsb0, zsbm, znm1, layM1, tEM1, S260, ← hX, t173, a2, a3, b3, b4, k2]
    · refine ⟨-1, _, _, Lm, ?_, ?_, zTM_d 2 (by decide) h'⟩ <;> unfold zcall
      · simp (config := {maxSteps := 1000000}) (disch := omega) only [↓reduceIte, Int32.reduceLT, Int32.reduceLE, Int32.reduceToNatClampNeg, Int32.reduceAdd, Int32.reduceSub, Int32.reduceMul, Nat.reduceLeDiff, zEL, zup_ne, zup_eq, zT0, zT1, zT2, if_true, if_false, gX, tEC, S128, a1, a4, k1, e1]
      · rcases hb with hb | ⟨hb, hb2⟩
        · simp (config := {maxSteps := 1000000}) (disch := omega) only [↓reduceIte, Int32.reduceLT, Int32.reduceLE, Int32.reduceToNatClampNeg, Int32.reduceAdd, Int32.reduceSub, Int32.reduceMul, Nat.reduceLeDiff, zEL, zup_ne, zup_eq, zT0, zT1, zT2, if_true, if_false, layM1, tEM1, S260, ← hX, t173, a2, a3, and_self, hb, e1]
        · simp (config := {maxSteps := 1000000}) (disch := omega) only [↓reduceIte, Int32.reduceLT, Int32.reduceLE, Int32.reduceToNatClampNeg, Int32.reduceAdd, Int32.reduceSub, Int32.reduceMul, Nat.reduceLeDiff, zEL, zup_ne, zup_eq, zT0, zT1, zT2, if_true, if_false, layM1, tEM1, S260, ← hX, t173, a2, a3, and_self, hb, hb2, e1]
  · refine ⟨-1, _, _, Lm, ?_, ?_, zTM_d 2 (by decide) h'⟩ <;> unfold zcall
    · simp (config := {maxSteps := 1000000}) (disch := omega) only [↓reduceIte, Int32.reduceLT, Int32.reduceLE, Int32.reduceToNatClampNeg, Int32.reduceAdd, Int32.reduceSub, Int32.reduceMul, Nat.reduceLeDiff, zEL, zup_ne, zup_eq, zT0, zT1, zT2, if_true, if_false, gX, tEC, S128, a1, e1]
    · simp (config := {maxSteps := 1000000}) (disch := omega) only [↓reduceIte, Int32.reduceLT, Int32.reduceLE, Int32.reduceToNatClampNeg, Int32.reduceAdd, Int32.reduceSub, Int32.reduceMul, Nat.reduceLeDiff, zEL, zup_ne, zup_eq, zT0, zT1, zT2, if_true, if_false, layM1, tEM1, S260, ← hX, t173, a2, false_and, e1]
  · refine ⟨-1, _, _, Lm, ?_, ?_, zTM_d 2 (by decide) h'⟩ <;> unfold zcall
    · simp (config := {maxSteps := 1000000}) (disch := omega) only [↓reduceIte, Int32.reduceLT, Int32.reduceLE, Int32.reduceToNatClampNeg, Int32.reduceAdd, Int32.reduceSub, Int32.reduceMul, Nat.reduceLeDiff, zEL, zup_ne, zup_eq, zT0, zT1, zT2, if_true, if_false, gX, tEC, S128, a1, a4, e1]
    · simp (config := {maxSteps := 1000000}) (disch := omega) only [↓reduceIte, Int32.reduceLT, Int32.reduceLE, Int32.reduceToNatClampNeg, Int32.reduceAdd, Int32.reduceSub, Int32.reduceMul, Nat.reduceLeDiff, zEL, zup_ne, zup_eq, zT0, zT1, zT2, if_true, if_false, layM1, tEM1, S260, ← hX, t173, a2, a3, and_false, e1]
theorem mrun {t k w : Nat} (ht : t ≤ 8) (hk : k ≤ 100) (hw : w ≤ 100) : ∀ d n, n + d = 10 → 1 ≤ n → ∀ Y : zL, ∃ v : Int32, ∃ Y' : zL, zgo 129 35 [.ref 0, .int (nI t), .int (nI k), .int (nI w), .long (lN (100 ^ t)), .retAddr 0, .int (nI n)] [] zRc S L = some (some (.int v), zRc, zup S 0 14 0, L) ∧ zgo 261 70 [.ref 0, .int (nI t), .int (nI k), .int (nI w), .long (lN (100 ^ t)), .retAddr 0, .int (nI n)] [] (zRm1 rd) Sm Y = some (some (.int v), zRm1 rd, zup (zup Sm 0 1 0) 0 2 (-1), Y') := by
  intro d
  induction d with
  | zero =>
    intro n hd h1 Y
    have hn : n = 10 := by omega
    subst hn
    have h9 : (9 : Int32) < nI 10 := by decide
    have h10 : (10 : Int32) ≤ nI 10 := by decide
    refine ⟨-2, Y, ?_, ?_⟩
    · rw [s129_35]
      simp (config := {maxSteps := 1000000}) (disch := omega) only [↓reduceIte, Int32.reduceLT, Int32.reduceLE, Int32.reduceToNatClampNeg, Int32.reduceAdd, Int32.reduceSub, Int32.reduceMul, Nat.reduceLeDiff, zEL, zup_ne, zup_eq, zT0, zT1, zT2, if_true, if_false, gX, tEC, s129_37, s129_39, s129_42, s129_44, s129_45, s129_46, s129_49, s129_52, s129_53, s129_55, s129_56, s129_57, s129_58, s129_59, s129_62, s129_63, s129_65, s129_68, s129_69, s129_72, s129_75, s129_76, s129_78, s129_81, h9]
    · rw [s261_70]
      simp (config := {maxSteps := 1000000}) (disch := omega) only [↓reduceIte, Int32.reduceLT, Int32.reduceLE, Int32.reduceToNatClampNeg, Int32.reduceAdd, Int32.reduceSub, Int32.reduceMul, Nat.reduceLeDiff, zEL, zup_ne, zup_eq, zT0, zT1, zT2, if_true, if_false, layM1, tEM1, s261_72, s261_74, s261_77, s261_78, s261_80, s261_81, s261_82, s261_85, s261_88, s261_89, s261_91, s261_92, s261_93, s261_94, s261_95, s261_98, s261_99, s261_101, s261_104, s261_105, s261_108, s261_111, s261_112, s261_114, s261_117, h10]
  | succ d ih =>
    intro n hd h1 Y
    have h9 : (9 < nI n) = False := eq_false (by rw [show (9 : Int32) = nI 9 from rfl, znI_lt (by omega) (by omega)]; omega)
    have h10 : (10 ≤ nI n) = False := eq_false (by rw [show (10 : Int32) = nI 10 from rfl, znI_le (by omega) (by omega)]; omega)
    obtain ⟨Y1, k2⟩ := t259_1 (Sm := Sm) (Lm := Y) (rd := rd) (run := n) (by omega) ht hk
    have k3 := t160 (S := S) (L := L) (R := zRc) (run := n) (by omega) ht hk
    by_cases hc : lg_cmp (lN (zda k t n) * 100) (lN (100 ^ t) * (nI w).toInt64) < 0
    · obtain ⟨v, Y', r1, r2⟩ := ih (n + 1) (by omega) (by omega) Y1
      refine ⟨v, Y', ?_, ?_⟩
      · rw [← r1, s129_35]
        simp (config := {maxSteps := 1000000}) (disch := omega) only [↓reduceIte, Int32.reduceLT, Int32.reduceLE, Int32.reduceToNatClampNeg, Int32.reduceAdd, Int32.reduceSub, Int32.reduceMul, Nat.reduceLeDiff, zEL, zup_ne, zup_eq, zT0, zT1, zT2, if_true, if_false, gX, tEC, s129_37, s129_39, s129_42, s129_44, s129_45, s129_46, s129_49, s129_52, s129_53, s129_55, s129_56, s129_57, s129_58, s129_59, s129_62, s129_63, s129_65, s129_68, s129_69, s129_72, s129_75, s129_76, s129_78, s129_81, h9, k3, hc]
      · rw [← r2, s261_70]
        simp (config := {maxSteps := 1000000}) (disch := omega) only [↓reduceIte, Int32.reduceLT, Int32.reduceLE, Int32.reduceToNatClampNeg, Int32.reduceAdd, Int32.reduceSub, Int32.reduceMul, Nat.reduceLeDiff, zEL, zup_ne, zup_eq, zT0, zT1, zT2, if_true, if_false, layM1, tEM1, s261_72, s261_74, s261_77, s261_78, s261_80, s261_81, s261_82, s261_85, s261_88, s261_89, s261_91, s261_92, s261_93, s261_94, s261_95, s261_98, s261_99, s261_101, s261_104, s261_105, s261_108, s261_111, s261_112, s261_114, s261_117, h10, k2, hc]
    · refine ⟨nI n, Y1, ?_, ?_⟩
      · rw [s129_35]
        simp (config := {maxSteps := 1000000}) (disch := omega) only [↓reduceIte, Int32.reduceLT, Int32.reduceLE, Int32.reduceToNatClampNeg, Int32.reduceAdd, Int32.reduceSub, Int32.reduceMul, Nat.reduceLeDiff, zEL, zup_ne, zup_eq, zT0, zT1, zT2, if_true, if_false, gX, tEC, s129_37, s129_39, s129_42, s129_44, s129_45, s129_46, s129_49, s129_52, s129_53, s129_55, s129_56, s129_57, s129_58, s129_59, s129_62, s129_63, s129_65, s129_68, s129_69, s129_72, s129_75, s129_76, s129_78, s129_81, h9, k3, hc]
      · rw [s261_70]
        simp (config := {maxSteps := 1000000}) (disch := omega) only [↓reduceIte, Int32.reduceLT, Int32.reduceLE, Int32.reduceToNatClampNeg, Int32.reduceAdd, Int32.reduceSub, Int32.reduceMul, Nat.reduceLeDiff, zEL, zup_ne, zup_eq, zT0, zT1, zT2, if_true, if_false, layM1, tEM1, s261_72, s261_74, s261_77, s261_78, s261_80, s261_81, s261_82, s261_85, s261_88, s261_89, s261_91, s261_92, s261_93, s261_94, s261_95, s261_98, s261_99, s261_101, s261_104, s261_105, s261_108, s261_111, s261_112, s261_114, s261_117, h10, k2, hc]
theorem mall {t k w : Nat} (ht : t ≤ 8) : zgo 261 41 [.ref 0, .int (nI t), .int (nI k), .int (nI w), .retAddr 0, .retAddr 0, .retAddr 0] [] (zRm1 rd) Sm Lm = zgo 261 70 [.ref 0, .int (nI t), .int (nI k), .int (nI w), .long (lN (100 ^ t)), .retAddr 0, .int (nI 1)] [] (zRm1 rd) Sm Lm := by
  have key : ∀ d i, i + d = t → zgo 261 47 [.ref 0, .int (nI t), .int (nI k), .int (nI w), .long (lN (100 ^ i)), .retAddr 0, .int (nI i)] [] (zRm1 rd) Sm Lm = zgo 261 70 [.ref 0, .int (nI t), .int (nI k), .int (nI w), .long (lN (100 ^ t)), .retAddr 0, .int (nI 1)] [] (zRm1 rd) Sm Lm := by
    intro d
    induction d with
    | zero =>
      intro i hd
      have hi : i = t := by omega
      subst hi
      rw [s261_47]
      simp (config := {maxSteps := 1000000}) (disch := omega) only [↓reduceIte, Int32.reduceLT, Int32.reduceLE, Int32.reduceToNatClampNeg, Int32.reduceAdd, Int32.reduceSub, Int32.reduceMul, Nat.reduceLeDiff, zEL, zup_ne, zup_eq, zT0, zT1, zT2, if_true, if_false, s261_49, s261_50, s261_53, s261_55, s261_58, s261_59, s261_61, s261_64, s261_67, s261_68]
      all_goals rfl
    | succ d ih =>
      intro i hd
      have := ih (i + 1) (by omega)
      rw [Nat.pow_succ] at this
      have e2 : lN (100 ^ i) * 100 = lN (100 ^ i * 100) := zl_mul (b := 100)
      rw [← this, s261_47]
      simp (config := {maxSteps := 1000000}) (disch := omega) only [↓reduceIte, Int32.reduceLT, Int32.reduceLE, Int32.reduceToNatClampNeg, Int32.reduceAdd, Int32.reduceSub, Int32.reduceMul, Nat.reduceLeDiff, zEL, zup_ne, zup_eq, zT0, zT1, zT2, if_true, if_false, s261_49, s261_50, s261_53, s261_55, s261_58, s261_59, s261_61, s261_64, s261_67, s261_68, e2]
  rw [← key t 0 (by omega)]
  simp (config := {maxSteps := 1000000}) (disch := omega) only [↓reduceIte, Int32.reduceLT, Int32.reduceLE, Int32.reduceToNatClampNeg, Int32.reduceAdd, Int32.reduceSub, Int32.reduceMul, Nat.reduceLeDiff, zEL, zup_ne, zup_eq, zT0, zT1, zT2, if_true, if_false, s261_41, s261_42, s261_44, s261_45]
  all_goals rfl
theorem m_129 {v w x : Int32} (h : zTM c S Sm) : ∃ y : Int32, ∃ S' Sm' : zS, ∃ Lm' : zL, zcall 129 [.ref 0, .int v, .int w, .int x] zRc S L = some (some (.int y), zRc, S', L) ∧ zcall 261 [.ref 0, .int v, .int w, .int x] (zRm1 rd) Sm Lm = some (some (.int y), zRm1 rd, Sm', Lm') ∧ zTM c S' Sm' := by
  obtain ⟨X, hX⟩ : ∃ X, X = zup Sm 0 0 0 := ⟨_, rfl⟩
  have h' := zTM_t (v := 0) h
  rw [← hX] at h'
  rcases t154 (S := S) (L := L) (Rm := []) v w with ⟨t, k, ht, hk, rfl, rfl, k1, b1, b2⟩ | ⟨k1, hb⟩
  · have b3 : (nI t ≤ 8) = True := eq_true (of_eq_true b1).2
    have b4 : (nI k ≤ 100) = True := eq_true (of_eq_true b2).2
    have b5 : (0 ≤ nI t) = True := eq_true (of_eq_true b1).1
    have b6 : (0 ≤ nI k) = True := eq_true (of_eq_true b2).1
    rcases zrng x 100 (by omega) 100 101 rfl rfl with ⟨n, hn, rfl, a1, a2, a3, a4, a5, a6⟩ | ⟨a1, a2, a3, a4, a5, a6⟩ | ⟨a1, a2, a3, a4, a5, a6⟩
    · obtain ⟨y, Y', r1, r2⟩ := mrun (S := S) (L := L) (Sm := X) (rd := rd) ht hk hn 9 1 (by omega) (by omega) Lm
      have p1 : zcall 161 [.int 100, .int (nI t)] zRc S L = _ := t161 (S := S) (L := L) (R := zRc) (x := 100) (by omega) ht
      refine ⟨y, _, _, Y', ?_, ?_, zTM_d 0 (by decide) h'⟩ <;> unfold zcall
      · rw [← r1]
        simp (config := {maxSteps := 1000000}) (disch := omega) only [↓reduceIte, Int32.reduceLT, Int32.reduceLE, Int32.reduceToNatClampNeg, Int32.reduceAdd, Int32.reduceSub, Int32.reduceMul, Nat.reduceLeDiff, zEL, zup_ne, zup_eq, zT0, zT1, zT2, if_true, if_false, gX, tEC, ze_129, s129_0, s129_1, s129_2, s129_5, s129_8, s129_9, s129_12, s129_13, s129_15, s129_18, s129_19, s129_20, s129_23, s129_24, s129_26, s129_27, s129_30, s129_32, s129_33, k1, a1, a3, p1]
        all_goals rfl
      · rw [← r2, ← mall ht]
        simp (config := {maxSteps := 1000000}) (disch := omega) only [↓reduceIte, Int32.reduceLT, Int32.reduceLE, Int32.reduceToNatClampNeg, Int32.reduceAdd, Int32.reduceSub, Int32.reduceMul, Nat.reduceLeDiff, zEL, zup_ne, zup_eq, zT0, zT1, zT2, if_true, if_false, layM1, tEM1, ze_261, s261_0, s261_1, s261_2, s261_5, s261_6, s261_7, s261_9, s261_12, s261_15, s261_16, s261_17, s261_19, s261_22, s261_25, s261_26, s261_27, s261_29, s261_32, s261_35, s261_36, s261_37, s261_40, ← hX, t173, a2, a3, b3, b4, b5, b6, and_self]
    · refine ⟨-1, _, _, Lm, ?_, ?_, zTM_d 2 (by decide) h'⟩ <;> unfold zcall
      · simp (config := {maxSteps := 1000000}) (disch := omega) only [↓reduceIte, Int32.reduceLT, Int32.reduceLE, Int32.reduceToNatClampNeg, Int32.reduceAdd, Int32.reduceSub, Int32.reduceMul, Nat.reduceLeDiff, zEL, zup_ne, zup_eq, zT0, zT1, zT2, if_true, if_false, gX, tEC, ze_129, s129_0, s129_1, s129_2, s129_5, s129_8, s129_9, s129_12, s129_13, s129_15, s129_18, s129_19, s129_20, s129_23, s129_24, s129_26, s129_27, s129_30, s129_32, s129_33, k1, a1]
      · simp (config := {maxSteps := 1000000}) (disch := omega) only [↓reduceIte, Int32.reduceLT, Int32.reduceLE, Int32.reduceToNatClampNeg, Int32.reduceAdd, Int32.reduceSub, Int32.reduceMul, Nat.reduceLeDiff, zEL, zup_ne, zup_eq, zT0, zT1, zT2, if_true, if_false, layM1, tEM1, ze_261, s261_0, s261_1, s261_2, s261_5, s261_6, s261_7, s261_9, s261_12, s261_15, s261_16, s261_17, s261_19, s261_22, s261_25, s261_26, s261_27, s261_29, s261_32, s261_35, s261_36, s261_37, s261_40, ← hX, t173, a2, b3, b4, b5, b6, and_self, false_and]
    · refine ⟨-1, _, _, Lm, ?_, ?_, zTM_d 2 (by decide) h'⟩ <;> unfold zcall
      · simp (config := {maxSteps := 1000000}) (disch := omega) only [↓reduceIte, Int32.reduceLT, Int32.reduceLE, Int32.reduceToNatClampNeg, Int32.reduceAdd, Int32.reduceSub, Int32.reduceMul, Nat.reduceLeDiff, zEL, zup_ne, zup_eq, zT0, zT1, zT2, if_true, if_false, gX, tEC, ze_129, s129_0, s129_1, s129_2, s129_5, s129_8, s129_9, s129_12, s129_13, s129_15, s129_18, s129_19, s129_20, s129_23, s129_24, s129_26, s129_27, s129_30, s129_32, s129_33, k1, a1, a3]
      · simp (config := {maxSteps := 1000000}) (disch := omega) only [↓reduceIte, Int32.reduceLT, Int32.reduceLE, Int32.reduceToNatClampNeg, Int32.reduceAdd, Int32.reduceSub, Int32.reduceMul, Nat.reduceLeDiff, zEL, zup_ne, zup_eq, zT0, zT1, zT2, if_true, if_false, layM1, tEM1, ze_261, s261_0, s261_1, s261_2, s261_5, s261_6, s261_7, s261_9, s261_12, s261_15, s261_16, s261_17, s261_19, s261_22, s261_25, s261_26, s261_27, s261_29, s261_32, s261_35, s261_36, s261_37, s261_40, ← hX, t173, a2, a3, b3, b4, b5, b6, and_self, and_false]
  · refine ⟨-1, _, _, Lm, ?_, ?_, zTM_d 2 (by decide) h'⟩ <;> unfold zcall
    · simp (config := {maxSteps := 1000000}) (disch := omega) only [↓reduceIte, Int32.reduceLT, Int32.reduceLE, Int32.reduceToNatClampNeg, Int32.reduceAdd, Int32.reduceSub, Int32.reduceMul, Nat.reduceLeDiff, zEL, zup_ne, zup_eq, zT0, zT1, zT2, if_true, if_false, gX, tEC, ze_129, s129_0, s129_1, s129_2, s129_5, s129_8, s129_9, s129_12, s129_13, s129_15, s129_18, s129_19, s129_20, s129_23, s129_24, s129_26, s129_27, s129_30, s129_32, s129_33, k1]
    · rcases hb with hb | ⟨hb, hb2⟩
      · simp (config := {maxSteps := 1000000}) (disch := omega) only [↓reduceIte, Int32.reduceLT, Int32.reduceLE, Int32.reduceToNatClampNeg, Int32.reduceAdd, Int32.reduceSub, Int32.reduceMul, Nat.reduceLeDiff, zEL, zup_ne, zup_eq, zT0, zT1, zT2, if_true, if_false, layM1, tEM1, ze_261, s261_0, s261_1, s261_2, s261_5, s261_6, s261_7, s261_9, s261_12, s261_15, s261_16, s261_17, s261_19, s261_22, s261_25, s261_26, s261_27, s261_29, s261_32, s261_35, s261_36, s261_37, s261_40, ← hX, t173, hb]
      · simp (config := {maxSteps := 1000000}) (disch := omega) only [↓reduceIte, Int32.reduceLT, Int32.reduceLE, Int32.reduceToNatClampNeg, Int32.reduceAdd, Int32.reduceSub, Int32.reduceMul, Nat.reduceLeDiff, zEL, zup_ne, zup_eq, zT0, zT1, zT2, if_true, if_false, layM1, tEM1, ze_261, s261_0, s261_1, s261_2, s261_5, s261_6, s261_7, s261_9, s261_12, s261_15, s261_16, s261_17, s261_19, s261_22, s261_25, s261_26, s261_27, s261_29, s261_32, s261_35, s261_36, s261_37, s261_40, ← hX, t173, hb, hb2]
end ZTC
