/-! A MATCH is told: supply, thaw -/
section ZT8
variable {c : Nat → Nat} {S Sm : zS} {L Lm : zL} {rd : Value}
theorem znge {b n : Nat} (hb : b < 1000) (hn : n < 1000) (h : b < n) : (0 ≤ nI b - nI n) = False ∧ (nI b - nI n ≤ 0) = True := by
  refine ⟨eq_false (fun h1 => ?_), eq_true ?_⟩
  · have := (znI_dneg (by omega) (by omega)).mp h1
    omega
  · rw [Int32.le_iff_toInt_le, Int32.toInt_sub, zint_nI (by omega), zint_nI (by omega), show (0 : Int32).toInt = 0 from rfl, Int.bmod_eq_of_le (by omega) (by omega)]
    omega
theorem zsubs {l b n : Nat} (h : b ≤ n) : nI l - (nI b - nI n) = nI (l + (n - b)) := by
  have e : nI n = nI b + nI (n - b) := by
    rw [zadd_nI]
    congr 1
    omega
  have e2 : nI b - (nI b + nI (n - b)) = - nI (n - b) := by
    rw [Int32.sub_eq_add_neg, Int32.neg_add, Int32.sub_eq_add_neg, ← Int32.add_assoc, Int32.add_right_neg, Int32.zero_add]
  rw [e, e2, Int32.sub_neg, zadd_nI]
theorem t34 {side : Int32} {n : Nat} (hn : n ≤ 9) (hM : zMD c S Sm) (hG : zGD 168 c S (Sm 2)) : ∃ v : Int32, zcall 34 [.ref 168, .int side, .int (nI n)] zRc S L = some (some (.int v), zRc, S, L) ∧ zgo 275 40 [.ref 0, .int side, .int (nI n), .retAddr 0, .retAddr 0, .retAddr 0, .retAddr 0] [] (zRm1 rd) Sm Lm = zcall 171 [.ref 0, .int v] (zRm1 rd) Sm Lm := by
  have b0 : c 0 ≤ 8 := hM.1.2.1
  have a0 : S 12 7 = nI (c 0) := hM.2.1.1
  have m0 : Sm 11 8 = nI (c 0) := hM.2.2.1.1
  have key : ∀ d p, p + d = c 0 → ∀ l s, l ≤ 9 * p → s ≤ 9 * p → ∀ j, ∃ v : Int32, zgo 34 8 [.ref 168, .int side, .int (nI n), .int (nI l), .int (nI s), .int (nI p)] [] zRc S L = some (some (.int v), zRc, S, L) ∧ zgo 275 48 [.ref 0, .int side, .int (nI n), .int (nI l), .int (nI s), .int (nI p), j] [] (zRm1 rd) Sm Lm = zcall 171 [.ref 0, .int v] (zRm1 rd) Sm Lm := by
    intro d
    induction d with
    | zero =>
      intro p hd l s hl hs j
      have hp : p = c 0 := by omega
      subst hp
      by_cases hc : l ≤ s
      · refine ⟨nI l, ?_, ?_⟩
        · rw [s34_8]
          simp (config := {maxSteps := 1000000}) (disch := omega) only [↓reduceIte, Int32.reduceLT, Int32.reduceLE, Int32.reduceToNatClampNeg, Int32.reduceAdd, Int32.reduceSub, Int32.reduceMul, Nat.reduceLeDiff, zEL, zup_ne, zup_eq, zT0, zT1, zT2, if_true, if_false, zneq_f, true_and, and_true, false_and, and_false, zKL, eq_self, Nat.reduceEqDiff, zite0, ite_not, zaddr, zaddl, zputr, zsb1, zsb2, zsb0, zsbm, znm1, gM, g168, s34_10, s34_11, s34_14, s34_17, s34_20, s34_23, s34_24, s34_27, s34_30, s34_33, s34_35, s34_38, s34_39, s34_42, s34_43, s34_46, s34_48, s34_51, s34_54, s34_55, s34_56, s34_57, s34_58, s34_61, s34_63, s34_66, s34_67, s34_70, s34_71, s34_72, s34_74, s34_75, s34_76, s34_79, s34_81, s34_84, s34_85, s34_86, s34_89, s34_90, s34_92, s34_95, s34_98, s34_100, s34_101, s34_104, s34_106, s34_109, s34_110, a0]
        · rw [s275_48]
          simp (config := {maxSteps := 1000000}) (disch := omega) only [↓reduceIte, Int32.reduceLT, Int32.reduceLE, Int32.reduceToNatClampNeg, Int32.reduceAdd, Int32.reduceSub, Int32.reduceMul, Nat.reduceLeDiff, zEL, zup_ne, zup_eq, zT0, zT1, zT2, if_true, if_false, zneq_f, true_and, and_true, false_and, and_false, zKL, eq_self, Nat.reduceEqDiff, zite0, ite_not, zaddr, zaddl, zputr, zsb1, zsb2, zsb0, zsbm, znm1, layM1, tEM1, s275_50, s275_51, s275_54, s275_57, s275_60, s275_61, s275_64, s275_67, s275_69, s275_70, s275_71, s275_74, s275_75, s275_77, s275_80, s275_83, s275_86, s275_87, s275_90, s275_92, s275_94, s275_95, s275_96, s275_97, s275_98, s275_100, s275_101, s275_103, s275_106, s275_108, s275_111, s275_112, s275_113, s275_114, s275_116, s275_118, s275_121, s275_123, s275_126, s275_127, s275_128, s275_130, s275_133, s275_136, s275_137, s275_139, s275_140, s275_143, s275_145, s275_148, s275_149, s275_152, m0]
      · refine ⟨-2, ?_, ?_⟩
        · rw [s34_8]
          simp (config := {maxSteps := 1000000}) (disch := omega) only [↓reduceIte, Int32.reduceLT, Int32.reduceLE, Int32.reduceToNatClampNeg, Int32.reduceAdd, Int32.reduceSub, Int32.reduceMul, Nat.reduceLeDiff, zEL, zup_ne, zup_eq, zT0, zT1, zT2, if_true, if_false, zneq_f, true_and, and_true, false_and, and_false, zKL, eq_self, Nat.reduceEqDiff, zite0, ite_not, zaddr, zaddl, zputr, zsb1, zsb2, zsb0, zsbm, znm1, gM, g168, s34_10, s34_11, s34_14, s34_17, s34_20, s34_23, s34_24, s34_27, s34_30, s34_33, s34_35, s34_38, s34_39, s34_42, s34_43, s34_46, s34_48, s34_51, s34_54, s34_55, s34_56, s34_57, s34_58, s34_61, s34_63, s34_66, s34_67, s34_70, s34_71, s34_72, s34_74, s34_75, s34_76, s34_79, s34_81, s34_84, s34_85, s34_86, s34_89, s34_90, s34_92, s34_95, s34_98, s34_100, s34_101, s34_104, s34_106, s34_109, s34_110, a0]
        · rw [s275_48]
          simp (config := {maxSteps := 1000000}) (disch := omega) only [↓reduceIte, Int32.reduceLT, Int32.reduceLE, Int32.reduceToNatClampNeg, Int32.reduceAdd, Int32.reduceSub, Int32.reduceMul, Nat.reduceLeDiff, zEL, zup_ne, zup_eq, zT0, zT1, zT2, if_true, if_false, zneq_f, true_and, and_true, false_and, and_false, zKL, eq_self, Nat.reduceEqDiff, zite0, ite_not, zaddr, zaddl, zputr, zsb1, zsb2, zsb0, zsbm, znm1, layM1, tEM1, s275_50, s275_51, s275_54, s275_57, s275_60, s275_61, s275_64, s275_67, s275_69, s275_70, s275_71, s275_74, s275_75, s275_77, s275_80, s275_83, s275_86, s275_87, s275_90, s275_92, s275_94, s275_95, s275_96, s275_97, s275_98, s275_100, s275_101, s275_103, s275_106, s275_108, s275_111, s275_112, s275_113, s275_114, s275_116, s275_118, s275_121, s275_123, s275_126, s275_127, s275_128, s275_130, s275_133, s275_136, s275_137, s275_139, s275_140, s275_143, s275_145, s275_148, s275_149, s275_152, m0]
    | succ d ih =>
      intro p hd l s hl hs j
      have hp : p < c 0 := by omega
      obtain ⟨p1, -⟩ := hM.2.2.2.2.2.1 p hp
      obtain ⟨-, e2, -, e4, -, ⟨b, hb, eb⟩, ⟨o, ho, eo⟩⟩ := hG.1 p hp
      have e2 : S 172 p = nI b := e2.trans eb
      have eb : Sm 2 (17 + p) = nI b := eb
      have e4 : S 176 p = nI o := e4.trans eo
      have eo : Sm 2 (33 + p) = nI o := eo
      by_cases hs1 : Sm 18 p = side
      · rcases (show o = 1 ∨ o = 0 by omega) with rfl | rfl
        · obtain ⟨v, r1, r2⟩ := ih (p + 1) (by omega) l s (by omega) (by omega) j
          refine ⟨v, ?_, ?_⟩
          · rw [← r1, s34_8]
            simp (config := {maxSteps := 1000000}) (disch := omega) only [↓reduceIte, Int32.reduceLT, Int32.reduceLE, Int32.reduceToNatClampNeg, Int32.reduceAdd, Int32.reduceSub, Int32.reduceMul, Nat.reduceLeDiff, zEL, zup_ne, zup_eq, zT0, zT1, zT2, if_true, if_false, zneq_f, true_and, and_true, false_and, and_false, zKL, eq_self, Nat.reduceEqDiff, zite0, ite_not, zaddr, zaddl, zputr, zsb1, zsb2, zsb0, zsbm, znm1, gM, g168, s34_10, s34_11, s34_14, s34_17, s34_20, s34_23, s34_24, s34_27, s34_30, s34_33, s34_35, s34_38, s34_39, s34_42, s34_43, s34_46, s34_48, s34_51, s34_54, s34_55, s34_56, s34_57, s34_58, s34_61, s34_63, s34_66, s34_67, s34_70, s34_71, s34_72, s34_74, s34_75, s34_76, s34_79, s34_81, s34_84, s34_85, s34_86, s34_89, s34_90, s34_92, s34_95, s34_98, s34_100, s34_101, s34_104, s34_106, s34_109, s34_110, a0, p1, hs1, e4]
          · rw [← r2, s275_48]
            simp (config := {maxSteps := 1000000}) (disch := omega) only [↓reduceIte, Int32.reduceLT, Int32.reduceLE, Int32.reduceToNatClampNeg, Int32.reduceAdd, Int32.reduceSub, Int32.reduceMul, Nat.reduceLeDiff, zEL, zup_ne, zup_eq, zT0, zT1, zT2, if_true, if_false, zneq_f, true_and, and_true, false_and, and_false, zKL, eq_self, Nat.reduceEqDiff, zite0, ite_not, zaddr, zaddl, zputr, zsb1, zsb2, zsb0, zsbm, znm1, layM1, s275_50, s275_51, s275_54, s275_57, s275_60, s275_61, s275_64, s275_67, s275_69, s275_70, s275_71, s275_74, s275_75, s275_77, s275_80, s275_83, s275_86, s275_87, s275_90, s275_92, s275_94, s275_95, s275_96, s275_97, s275_98, s275_100, s275_101, s275_103, s275_106, s275_108, s275_111, s275_112, s275_113, s275_114, s275_116, s275_118, s275_121, s275_123, s275_126, s275_127, s275_128, s275_130, s275_133, s275_136, s275_137, s275_139, s275_140, s275_143, s275_145, s275_148, s275_149, s275_152, m0, hs1, t214, eo]
        · have z1 := zmx0 (s := n) (v := b) (by omega) (by omega)
          have z2 := zmx0 (s := b) (v := n) (by omega) (by omega)
          by_cases hc : b < n
          · obtain ⟨v, r1, r2⟩ := ih (p + 1) (by omega) (l + (n - b)) (s + (b - n)) (by omega) (by omega) (.int (nI b - nI n))
            refine ⟨v, ?_, ?_⟩
            · rw [← r1, s34_8]
              simp (config := {maxSteps := 1000000}) (disch := omega) only [↓reduceIte, Int32.reduceLT, Int32.reduceLE, Int32.reduceToNatClampNeg, Int32.reduceAdd, Int32.reduceSub, Int32.reduceMul, Nat.reduceLeDiff, zEL, zup_ne, zup_eq, zT0, zT1, zT2, if_true, if_false, zneq_f, true_and, and_true, false_and, and_false, zKL, eq_self, Nat.reduceEqDiff, zite0, ite_not, zaddr, zaddl, zputr, zsb1, zsb2, zsb0, zsbm, znm1, gM, g168, s34_10, s34_11, s34_14, s34_17, s34_20, s34_23, s34_24, s34_27, s34_30, s34_33, s34_35, s34_38, s34_39, s34_42, s34_43, s34_46, s34_48, s34_51, s34_54, s34_55, s34_56, s34_57, s34_58, s34_61, s34_63, s34_66, s34_67, s34_70, s34_71, s34_72, s34_74, s34_75, s34_76, s34_79, s34_81, s34_84, s34_85, s34_86, s34_89, s34_90, s34_92, s34_95, s34_98, s34_100, s34_101, s34_104, s34_106, s34_109, s34_110, a0, p1, hs1, e4, e2, z1, z2, zadd_nI]
            · obtain ⟨f1, f2⟩ := znge (b := b) (n := n) (by omega) (by omega) hc
              have f3 := zsubs (l := l) (b := b) (n := n) (by omega)
              rw [← r2, s275_48, show s + (b - n) = s by omega]
              simp (config := {maxSteps := 1000000}) (disch := omega) only [↓reduceIte, Int32.reduceLT, Int32.reduceLE, Int32.reduceToNatClampNeg, Int32.reduceAdd, Int32.reduceSub, Int32.reduceMul, Nat.reduceLeDiff, zEL, zup_ne, zup_eq, zT0, zT1, zT2, if_true, if_false, zneq_f, true_and, and_true, false_and, and_false, zKL, eq_self, Nat.reduceEqDiff, zite0, ite_not, zaddr, zaddl, zputr, zsb1, zsb2, zsb0, zsbm, znm1, layM1, s275_50, s275_51, s275_54, s275_57, s275_60, s275_61, s275_64, s275_67, s275_69, s275_70, s275_71, s275_74, s275_75, s275_77, s275_80, s275_83, s275_86, s275_87, s275_90, s275_92, s275_94, s275_95, s275_96, s275_97, s275_98, s275_100, s275_101, s275_103, s275_106, s275_108, s275_111, s275_112, s275_113, s275_114, s275_116, s275_118, s275_121, s275_123, s275_126, s275_127, s275_128, s275_130, s275_133, s275_136, s275_137, s275_139, s275_140, s275_143, s275_145, s275_148, s275_149, s275_152, m0, hs1, t214, eo, eb, f1, f2, f3, Int32.add_zero]
          · obtain ⟨v, r1, r2⟩ := ih (p + 1) (by omega) (l + (n - b)) (s + (b - n)) (by omega) (by omega) (.int (nI (b - n)))
            refine ⟨v, ?_, ?_⟩
            · rw [← r1, s34_8]
              simp (config := {maxSteps := 1000000}) (disch := omega) only [↓reduceIte, Int32.reduceLT, Int32.reduceLE, Int32.reduceToNatClampNeg, Int32.reduceAdd, Int32.reduceSub, Int32.reduceMul, Nat.reduceLeDiff, zEL, zup_ne, zup_eq, zT0, zT1, zT2, if_true, if_false, zneq_f, true_and, and_true, false_and, and_false, zKL, eq_self, Nat.reduceEqDiff, zite0, ite_not, zaddr, zaddl, zputr, zsb1, zsb2, zsb0, zsbm, znm1, gM, g168, s34_10, s34_11, s34_14, s34_17, s34_20, s34_23, s34_24, s34_27, s34_30, s34_33, s34_35, s34_38, s34_39, s34_42, s34_43, s34_46, s34_48, s34_51, s34_54, s34_55, s34_56, s34_57, s34_58, s34_61, s34_63, s34_66, s34_67, s34_70, s34_71, s34_72, s34_74, s34_75, s34_76, s34_79, s34_81, s34_84, s34_85, s34_86, s34_89, s34_90, s34_92, s34_95, s34_98, s34_100, s34_101, s34_104, s34_106, s34_109, s34_110, a0, p1, hs1, e4, e2, z1, z2, zadd_nI]
            · have f1 : nI b - nI n = nI (b - n) := znI_sub (by omega)
              rw [← r2, s275_48, show l + (n - b) = l by omega]
              by_cases hc2 : b - n = 0
              · rw [hc2] at f1 ⊢
                simp (config := {maxSteps := 1000000}) (disch := omega) only [↓reduceIte, Int32.reduceLT, Int32.reduceLE, Int32.reduceToNatClampNeg, Int32.reduceAdd, Int32.reduceSub, Int32.reduceMul, Nat.reduceLeDiff, zEL, zup_ne, zup_eq, zT0, zT1, zT2, if_true, if_false, zneq_f, true_and, and_true, false_and, and_false, zKL, eq_self, Nat.reduceEqDiff, zite0, ite_not, zaddr, zaddl, zputr, zsb1, zsb2, zsb0, zsbm, znm1, layM1, s275_50, s275_51, s275_54, s275_57, s275_60, s275_61, s275_64, s275_67, s275_69, s275_70, s275_71, s275_74, s275_75, s275_77, s275_80, s275_83, s275_86, s275_87, s275_90, s275_92, s275_94, s275_95, s275_96, s275_97, s275_98, s275_100, s275_101, s275_103, s275_106, s275_108, s275_111, s275_112, s275_113, s275_114, s275_116, s275_118, s275_121, s275_123, s275_126, s275_127, s275_128, s275_130, s275_133, s275_136, s275_137, s275_139, s275_140, s275_143, s275_145, s275_148, s275_149, s275_152, m0, hs1, t214, eo, eb, f1, Int32.add_zero, Int32.sub_zero, Nat.add_zero]
              · simp (config := {maxSteps := 1000000}) (disch := omega) only [↓reduceIte, Int32.reduceLT, Int32.reduceLE, Int32.reduceToNatClampNeg, Int32.reduceAdd, Int32.reduceSub, Int32.reduceMul, Nat.reduceLeDiff, zEL, zup_ne, zup_eq, zT0, zT1, zT2, if_true, if_false, zneq_f, true_and, and_true, false_and, and_false, zKL, eq_self, Nat.reduceEqDiff, zite0, ite_not, zaddr, zaddl, zputr, zsb1, zsb2, zsb0, zsbm, znm1, layM1, s275_50, s275_51, s275_54, s275_57, s275_60, s275_61, s275_64, s275_67, s275_69, s275_70, s275_71, s275_74, s275_75, s275_77, s275_80, s275_83, s275_86, s275_87, s275_90, s275_92, s275_94, s275_95, s275_96, s275_97, s275_98, s275_100, s275_101, s275_103, s275_106, s275_108, s275_111, s275_112, s275_113, s275_114, s275_116, s275_118, s275_121, s275_123, s275_126, s275_127, s275_128, s275_130, s275_133, s275_136, s275_137, s275_139, s275_140, s275_143, s275_145, s275_148, s275_149, s275_152, m0, hs1, t214, eo, eb, f1, Int32.sub_zero, zadd_nI]
      · obtain ⟨v, r1, r2⟩ := ih (p + 1) (by omega) l s (by omega) (by omega) j
        refine ⟨v, ?_, ?_⟩
        · rw [← r1, s34_8]
          simp (config := {maxSteps := 1000000}) (disch := omega) only [↓reduceIte, Int32.reduceLT, Int32.reduceLE, Int32.reduceToNatClampNeg, Int32.reduceAdd, Int32.reduceSub, Int32.reduceMul, Nat.reduceLeDiff, zEL, zup_ne, zup_eq, zT0, zT1, zT2, if_true, if_false, zneq_f, true_and, and_true, false_and, and_false, zKL, eq_self, Nat.reduceEqDiff, zite0, ite_not, zaddr, zaddl, zputr, zsb1, zsb2, zsb0, zsbm, znm1, gM, g168, s34_10, s34_11, s34_14, s34_17, s34_20, s34_23, s34_24, s34_27, s34_30, s34_33, s34_35, s34_38, s34_39, s34_42, s34_43, s34_46, s34_48, s34_51, s34_54, s34_55, s34_56, s34_57, s34_58, s34_61, s34_63, s34_66, s34_67, s34_70, s34_71, s34_72, s34_74, s34_75, s34_76, s34_79, s34_81, s34_84, s34_85, s34_86, s34_89, s34_90, s34_92, s34_95, s34_98, s34_100, s34_101, s34_104, s34_106, s34_109, s34_110, a0, p1, hs1]
        · rw [← r2, s275_48]
          simp (config := {maxSteps := 1000000}) (disch := omega) only [↓reduceIte, Int32.reduceLT, Int32.reduceLE, Int32.reduceToNatClampNeg, Int32.reduceAdd, Int32.reduceSub, Int32.reduceMul, Nat.reduceLeDiff, zEL, zup_ne, zup_eq, zT0, zT1, zT2, if_true, if_false, zneq_f, true_and, and_true, false_and, and_false, zKL, eq_self, Nat.reduceEqDiff, zite0, ite_not, zaddr, zaddl, zputr, zsb1, zsb2, zsb0, zsbm, znm1, layM1, s275_50, s275_51, s275_54, s275_57, s275_60, s275_61, s275_64, s275_67, s275_69, s275_70, s275_71, s275_74, s275_75, s275_77, s275_80, s275_83, s275_86, s275_87, s275_90, s275_92, s275_94, s275_95, s275_96, s275_97, s275_98, s275_100, s275_101, s275_103, s275_106, s275_108, s275_111, s275_112, s275_113, s275_114, s275_116, s275_118, s275_121, s275_123, s275_126, s275_127, s275_128, s275_130, s275_133, s275_136, s275_137, s275_139, s275_140, s275_143, s275_145, s275_148, s275_149, s275_152, m0, hs1]
  obtain ⟨v, r1, r2⟩ := key (c 0) 0 (by omega) 0 0 (by omega) (by omega) (.retAddr 0)
  refine ⟨v, ?_, ?_⟩
  · unfold zcall
    simp (config := {maxSteps := 1000000}) (disch := omega) only [↓reduceIte, Int32.reduceLT, Int32.reduceLE, Int32.reduceToNatClampNeg, Int32.reduceAdd, Int32.reduceSub, Int32.reduceMul, Nat.reduceLeDiff, zEL, zup_ne, zup_eq, zT0, zT1, zT2, if_true, if_false, zneq_f, true_and, and_true, false_and, and_false, zKL, eq_self, Nat.reduceEqDiff, zite0, ite_not, zaddr, zaddl, zputr, zsb1, zsb2, zsb0, zsbm, znm1, ze_34, s34_0, s34_1, s34_2, s34_3, s34_5, s34_6]
    exact r1
  · rw [← r2]
    simp (config := {maxSteps := 1000000}) (disch := omega) only [↓reduceIte, Int32.reduceLT, Int32.reduceLE, Int32.reduceToNatClampNeg, Int32.reduceAdd, Int32.reduceSub, Int32.reduceMul, Nat.reduceLeDiff, zEL, zup_ne, zup_eq, zT0, zT1, zT2, if_true, if_false, zneq_f, true_and, and_true, false_and, and_false, zKL, eq_self, Nat.reduceEqDiff, zite0, ite_not, zaddr, zaddl, zputr, zsb1, zsb2, zsb0, zsbm, znm1, s275_40, s275_41, s275_42, s275_43, s275_45, s275_46]
    all_goals rfl
theorem m_136 {p v : Int32} (h : zTM c S Sm) : ∃ w : Int32, ∃ S' Sm' : zS, zcall 136 [.ref 0, .int p, .int v] zRc S L = some (some (.int w), zRc, S', L) ∧ zcall 275 [.ref 0, .int p, .int v] (zRm1 rd) Sm Lm = some (some (.int w), zRm1 rd, Sm', Lm) ∧ zTM c S' Sm' := by
  obtain ⟨X, hX⟩ : ∃ X, X = zup Sm 0 0 0 := ⟨_, rfl⟩
  have h' := zTM_t (v := 0) h
  rw [← hX] at h'
  have b1 := h.2.1
  obtain ⟨f1, -, -, -, ⟨cc, hc1, hc2, ec⟩, -⟩ := h'.2.2.1.2.2.2.1
  have f1 : S 4 1 = nI cc := f1.trans ec
  have hside : (p = 0 ∨ p = 1) = True ∧ (0 ≤ p ∧ p ≤ 1) = True ∨ (p = 0 ∨ p = 1) = False ∧ (0 ≤ p ∧ p ≤ 1) = False := by
    rcases zside p with rfl | rfl | ⟨a1, a2, a3⟩
    · exact .inl ⟨by decide, by decide⟩
    · exact .inl ⟨by decide, by decide⟩
    · exact .inr ⟨by rw [a1, a2]; exact or_self _, a3⟩
  rcases hside with ⟨s1, s2⟩ | ⟨s1, s2⟩
  · rcases zrng v cc (by omega) (nI cc) (nI (cc + 1)) rfl rfl with ⟨n, hn, rfl, a1, a2, a3, a4, a5, a6⟩ | ⟨a1, a2, a3, a4, a5, a6⟩ | ⟨a1, a2, a3, a4, a5, a6⟩
    · obtain ⟨w, k1, k2⟩ := t34 (L := L) (Lm := Lm) (rd := rd) (side := p) (n := n) (by omega) h'.2.2.1 h'.2.2.2.1
      refine ⟨w, _, _, ?_, ?_, zTM_d 0 (by decide) h'⟩ <;> unfold zcall
      · simp (config := {maxSteps := 1000000}) (disch := omega) only [↓reduceIte, Int32.reduceLT, Int32.reduceLE, Int32.reduceToNatClampNeg, Int32.reduceAdd, Int32.reduceSub, Int32.reduceMul, Nat.reduceLeDiff, zEL, zup_ne, zup_eq, zT0, zT1, zT2, if_true, if_false, zneq_f, true_and, and_true, false_and, and_false, zKL, eq_self, Nat.reduceEqDiff, zite0, ite_not, zaddr, zaddl, zputr, zsb1, zsb2, zsb0, zsbm, znm1, gX, gM, g168, tEC, S136, b1, t152, s1, f1, a1, a4, k1]
      · simp (config := {maxSteps := 1000000}) (disch := omega) only [↓reduceIte, Int32.reduceLT, Int32.reduceLE, Int32.reduceToNatClampNeg, Int32.reduceAdd, Int32.reduceSub, Int32.reduceMul, Nat.reduceLeDiff, zEL, zup_ne, zup_eq, zT0, zT1, zT2, if_true, if_false, zneq_f, true_and, and_true, false_and, and_false, zKL, eq_self, Nat.reduceEqDiff, zite0, ite_not, zaddr, zaddl, zputr, zsb1, zsb2, zsb0, zsbm, znm1, layM1, tEM1, ze_275, s275_0, s275_1, s275_2, s275_5, s275_6, s275_7, s275_10, s275_13, s275_14, s275_15, s275_18, s275_19, s275_20, s275_21, s275_22, s275_25, s275_28, s275_31, s275_34, s275_35, s275_36, s275_39, ← hX, t240m, s2, ec, t173, a2, a3]
        rw [k2, t171_1]
    · refine ⟨-1, _, _, ?_, ?_, zTM_d 2 (by decide) h'⟩ <;> unfold zcall
      · simp (config := {maxSteps := 1000000}) (disch := omega) only [↓reduceIte, Int32.reduceLT, Int32.reduceLE, Int32.reduceToNatClampNeg, Int32.reduceAdd, Int32.reduceSub, Int32.reduceMul, Nat.reduceLeDiff, zEL, zup_ne, zup_eq, zT0, zT1, zT2, if_true, if_false, zneq_f, true_and, and_true, false_and, and_false, zKL, eq_self, Nat.reduceEqDiff, zite0, ite_not, zaddr, zaddl, zputr, zsb1, zsb2, zsb0, zsbm, znm1, gX, gM, g168, tEC, S136, b1, t152, s1, a1]
      · simp (config := {maxSteps := 1000000}) (disch := omega) only [↓reduceIte, Int32.reduceLT, Int32.reduceLE, Int32.reduceToNatClampNeg, Int32.reduceAdd, Int32.reduceSub, Int32.reduceMul, Nat.reduceLeDiff, zEL, zup_ne, zup_eq, zT0, zT1, zT2, if_true, if_false, zneq_f, true_and, and_true, false_and, and_false, zKL, eq_self, Nat.reduceEqDiff, zite0, ite_not, zaddr, zaddl, zputr, zsb1, zsb2, zsb0, zsbm, znm1, layM1, tEM1, ze_275, s275_0, s275_1, s275_2, s275_5, s275_6, s275_7, s275_10, s275_13, s275_14, s275_15, s275_18, s275_19, s275_20, s275_21, s275_22, s275_25, s275_28, s275_31, s275_34, s275_35, s275_36, s275_39, ← hX, t240m, s2, ec, t173, a2]
    · refine ⟨-1, _, _, ?_, ?_, zTM_d 2 (by decide) h'⟩ <;> unfold zcall
      · simp (config := {maxSteps := 1000000}) (disch := omega) only [↓reduceIte, Int32.reduceLT, Int32.reduceLE, Int32.reduceToNatClampNeg, Int32.reduceAdd, Int32.reduceSub, Int32.reduceMul, Nat.reduceLeDiff, zEL, zup_ne, zup_eq, zT0, zT1, zT2, if_true, if_false, zneq_f, true_and, and_true, false_and, and_false, zKL, eq_self, Nat.reduceEqDiff, zite0, ite_not, zaddr, zaddl, zputr, zsb1, zsb2, zsb0, zsbm, znm1, gX, gM, g168, tEC, S136, b1, t152, s1, f1, a1, a3, a4]
      · simp (config := {maxSteps := 1000000}) (disch := omega) only [↓reduceIte, Int32.reduceLT, Int32.reduceLE, Int32.reduceToNatClampNeg, Int32.reduceAdd, Int32.reduceSub, Int32.reduceMul, Nat.reduceLeDiff, zEL, zup_ne, zup_eq, zT0, zT1, zT2, if_true, if_false, zneq_f, true_and, and_true, false_and, and_false, zKL, eq_self, Nat.reduceEqDiff, zite0, ite_not, zaddr, zaddl, zputr, zsb1, zsb2, zsb0, zsbm, znm1, layM1, tEM1, ze_275, s275_0, s275_1, s275_2, s275_5, s275_6, s275_7, s275_10, s275_13, s275_14, s275_15, s275_18, s275_19, s275_20, s275_21, s275_22, s275_25, s275_28, s275_31, s275_34, s275_35, s275_36, s275_39, ← hX, t240m, s2, ec, t173, a2, a3]
  · refine ⟨-1, _, _, ?_, ?_, zTM_d 1 (by decide) h'⟩ <;> unfold zcall
    · simp (config := {maxSteps := 1000000}) (disch := omega) only [↓reduceIte, Int32.reduceLT, Int32.reduceLE, Int32.reduceToNatClampNeg, Int32.reduceAdd, Int32.reduceSub, Int32.reduceMul, Nat.reduceLeDiff, zEL, zup_ne, zup_eq, zT0, zT1, zT2, if_true, if_false, zneq_f, true_and, and_true, false_and, and_false, zKL, eq_self, Nat.reduceEqDiff, zite0, ite_not, zaddr, zaddl, zputr, zsb1, zsb2, zsb0, zsbm, znm1, gX, gM, g168, tEC, S136, b1, t152, s1]
    · simp (config := {maxSteps := 1000000}) (disch := omega) only [↓reduceIte, Int32.reduceLT, Int32.reduceLE, Int32.reduceToNatClampNeg, Int32.reduceAdd, Int32.reduceSub, Int32.reduceMul, Nat.reduceLeDiff, zEL, zup_ne, zup_eq, zT0, zT1, zT2, if_true, if_false, zneq_f, true_and, and_true, false_and, and_false, zKL, eq_self, Nat.reduceEqDiff, zite0, ite_not, zaddr, zaddl, zputr, zsb1, zsb2, zsb0, zsbm, znm1, layM1, tEM1, ze_275, s275_0, s275_1, s275_2, s275_5, s275_6, s275_7, s275_10, s275_13, s275_14, s275_15, s275_18, s275_19, s275_20, s275_21, s275_22, s275_25, s275_28, s275_31, s275_34, s275_35, s275_36, s275_39, ← hX, t240m, s2]
/-- a thaw behind a TENTH: of both -/
theorem ttw {b v : Nat} (hM : zMD c S Sm) (hG : zGD 168 c S (Sm 2)) (hb : b < c 1) (hv : v ≤ 1) (k2 : zcall 227 [.ref 0, .int (nI b)] (zRm1 rd) Sm Lm = some (some (.int (nI v)), zRm1 rd, Sm, Lm)) (t : Nat) (ht : t ≤ 1000) : ∃ tw : Bool, zcall 29 [.ref 168, .int (nI t)] zRc S L = some (some (.int (if tw = true then 1 else 0)), zRc, S, L) ∧ ∀ s, s ≤ 9 → zcall 228 [.ref 0, .int (nI b), .int (nI s), .int (nI t)] (zRm1 rd) Sm Lm = some (some (.int (nI (if tw = true then s - (v + 1) else s))), zRm1 rd, Sm, Lm) := by
  obtain ⟨th, w, hth, hw, eth, hw', k29⟩ := t29_168 (L := L) hM hG (t := t) ht
  exact ⟨ztw th t w, k29, fun s hs => t228_168 (Lm := Lm) (rd := rd) hM hG hb hs ht hv k2 hth hw eth hw'⟩
theorem t32 {b n : Nat} (hn : n ≤ 200) (hM : zMD c S Sm) (hG : zGD 168 c S (Sm 2)) (hb : b < c 1) : ∃ v : Int32, zcall 32 [.ref 168, .int (nI b), .int (nI n)] zRc S L = some (some (.int v), zRc, S, L) ∧ zgo 276 36 [.ref 0, .int (nI b), .int (nI n), .retAddr 0, .retAddr 0] [] (zRm1 rd) Sm Lm = zcall 171 [.ref 0, .int v] (zRm1 rd) Sm Lm := by
  have b1 : c 1 ≤ 8 := hM.1.2.2.1
  obtain ⟨v, hv, k1, k2⟩ := t31_168 (L := L) (Lm := Lm) (rd := rd) hM hG hb
  obtain ⟨e1, s, hs, es⟩ := hG.2.1 b hb
  have e1 : S 178 b = nI s := e1.trans es
  have es : Sm 2 (41 + b) = nI s := es
  obtain ⟨g7, pp, hpp, epp⟩ := hG.2.2.2.1
  have g7 : S 168 7 = nI pp := g7.trans epp
  have htw := fun t ht => ttw (L := L) (Lm := Lm) (rd := rd) hM hG hb hv k2 t ht
  have key : ∀ d t, t + d = n → ∀ s, s ≤ 9 → ∃ w : Int32, zgo 32 19 [.ref 168, .int (nI b), .int (nI n), .int (nI s), .int (nI (v + 1)), .int (nI t)] [] zRc S L = some (some (.int w), zRc, S, L) ∧ zgo 276 49 [.ref 0, .int (nI b), .int (nI n), .int (nI s), .int (nI t)] [] (zRm1 rd) Sm Lm = zcall 171 [.ref 0, .int w] (zRm1 rd) Sm Lm := by
    intro d
    induction d with
    | zero =>
      intro t hd s hs
      have ht : t = n := by omega
      subst ht
      refine ⟨nI s, ?_, ?_⟩
      · rw [s32_19]
        simp (config := {maxSteps := 1000000}) (disch := omega) only [↓reduceIte, Int32.reduceLT, Int32.reduceLE, Int32.reduceToNatClampNeg, Int32.reduceAdd, Int32.reduceSub, Int32.reduceMul, Nat.reduceLeDiff, zEL, zup_ne, zup_eq, zT0, zT1, zT2, if_true, if_false, zneq_f, true_and, and_true, false_and, and_false, zKL, eq_self, Nat.reduceEqDiff, zite0, ite_not, zaddr, zaddl, zputr, zsb1, zsb2, zsb0, zsbm, znm1, s32_21, s32_22, s32_25, s32_26, s32_27, s32_30, s32_32, s32_33, s32_36, s32_39, s32_40, s32_41, s32_43, s32_44, s32_47, s32_48, s32_51, s32_54, s32_55]
      · rw [s276_49]
        simp (config := {maxSteps := 1000000}) (disch := omega) only [↓reduceIte, Int32.reduceLT, Int32.reduceLE, Int32.reduceToNatClampNeg, Int32.reduceAdd, Int32.reduceSub, Int32.reduceMul, Nat.reduceLeDiff, zEL, zup_ne, zup_eq, zT0, zT1, zT2, if_true, if_false, zneq_f, true_and, and_true, false_and, and_false, zKL, eq_self, Nat.reduceEqDiff, zite0, ite_not, zaddr, zaddl, zputr, zsb1, zsb2, zsb0, zsbm, znm1, layM1, tEM1, s276_51, s276_52, s276_55, s276_56, s276_57, s276_58, s276_59, s276_62, s276_63, s276_64, s276_66, s276_67, s276_70, s276_71, s276_74, s276_77, s276_78, s276_79, s276_82]
    | succ d ih =>
      intro t hd s hs
      obtain ⟨tw, w1, w2⟩ := htw (pp + t) (by omega)
      have w2 := w2 s hs
      cases tw with
      | true =>
        rw [if_pos rfl] at w1 w2
        obtain ⟨w, r1, r2⟩ := ih (t + 1) (by omega) (s - (v + 1)) (by omega)
        have hm := zmx0 (s := s) (v := v + 1) (by omega) (by omega)
        refine ⟨w, ?_, ?_⟩
        · rw [← r1, s32_19]
          simp (config := {maxSteps := 1000000}) (disch := omega) only [↓reduceIte, Int32.reduceLT, Int32.reduceLE, Int32.reduceToNatClampNeg, Int32.reduceAdd, Int32.reduceSub, Int32.reduceMul, Nat.reduceLeDiff, zEL, zup_ne, zup_eq, zT0, zT1, zT2, if_true, if_false, zneq_f, true_and, and_true, false_and, and_false, zKL, eq_self, Nat.reduceEqDiff, zite0, ite_not, zaddr, zaddl, zputr, zsb1, zsb2, zsb0, zsbm, znm1, g168, s32_21, s32_22, s32_25, s32_26, s32_27, s32_30, s32_32, s32_33, s32_36, s32_39, s32_40, s32_41, s32_43, s32_44, s32_47, s32_48, s32_51, s32_54, s32_55, g7, zadd_nI, w1, hm]
        · rw [← r2, s276_49]
          simp (config := {maxSteps := 1000000}) (disch := omega) only [↓reduceIte, Int32.reduceLT, Int32.reduceLE, Int32.reduceToNatClampNeg, Int32.reduceAdd, Int32.reduceSub, Int32.reduceMul, Nat.reduceLeDiff, zEL, zup_ne, zup_eq, zT0, zT1, zT2, if_true, if_false, zneq_f, true_and, and_true, false_and, and_false, zKL, eq_self, Nat.reduceEqDiff, zite0, ite_not, zaddr, zaddl, zputr, zsb1, zsb2, zsb0, zsbm, znm1, layM1, s276_51, s276_52, s276_55, s276_56, s276_57, s276_58, s276_59, s276_62, s276_63, s276_64, s276_66, s276_67, s276_70, s276_71, s276_74, s276_77, s276_78, s276_79, s276_82, epp, zadd_nI, w2]
      | false =>
        rw [if_neg (by decide)] at w1 w2
        obtain ⟨w, r1, r2⟩ := ih (t + 1) (by omega) s hs
        refine ⟨w, ?_, ?_⟩
        · rw [← r1, s32_19]
          simp (config := {maxSteps := 1000000}) (disch := omega) only [↓reduceIte, Int32.reduceLT, Int32.reduceLE, Int32.reduceToNatClampNeg, Int32.reduceAdd, Int32.reduceSub, Int32.reduceMul, Nat.reduceLeDiff, zEL, zup_ne, zup_eq, zT0, zT1, zT2, if_true, if_false, zneq_f, true_and, and_true, false_and, and_false, zKL, eq_self, Nat.reduceEqDiff, zite0, ite_not, zaddr, zaddl, zputr, zsb1, zsb2, zsb0, zsbm, znm1, g168, s32_21, s32_22, s32_25, s32_26, s32_27, s32_30, s32_32, s32_33, s32_36, s32_39, s32_40, s32_41, s32_43, s32_44, s32_47, s32_48, s32_51, s32_54, s32_55, g7, zadd_nI, w1]
        · rw [← r2, s276_49]
          simp (config := {maxSteps := 1000000}) (disch := omega) only [↓reduceIte, Int32.reduceLT, Int32.reduceLE, Int32.reduceToNatClampNeg, Int32.reduceAdd, Int32.reduceSub, Int32.reduceMul, Nat.reduceLeDiff, zEL, zup_ne, zup_eq, zT0, zT1, zT2, if_true, if_false, zneq_f, true_and, and_true, false_and, and_false, zKL, eq_self, Nat.reduceEqDiff, zite0, ite_not, zaddr, zaddl, zputr, zsb1, zsb2, zsb0, zsbm, znm1, layM1, s276_51, s276_52, s276_55, s276_56, s276_57, s276_58, s276_59, s276_62, s276_63, s276_64, s276_66, s276_67, s276_70, s276_71, s276_74, s276_77, s276_78, s276_79, s276_82, epp, zadd_nI, w2]
  obtain ⟨w, r1, r2⟩ := key n 0 (by omega) s hs
  refine ⟨w, ?_, ?_⟩
  · unfold zcall
    simp (config := {maxSteps := 1000000}) (disch := omega) only [↓reduceIte, Int32.reduceLT, Int32.reduceLE, Int32.reduceToNatClampNeg, Int32.reduceAdd, Int32.reduceSub, Int32.reduceMul, Nat.reduceLeDiff, zEL, zup_ne, zup_eq, zT0, zT1, zT2, if_true, if_false, zneq_f, true_and, and_true, false_and, and_false, zKL, eq_self, Nat.reduceEqDiff, zite0, ite_not, zaddr, zaddl, zputr, zsb1, zsb2, zsb0, zsbm, znm1, gM, g168, ze_32, s32_0, s32_1, s32_4, s32_5, s32_8, s32_9, s32_10, s32_11, s32_14, s32_16, s32_17, e1, k1]
    exact r1
  · rw [← r2]
    simp (config := {maxSteps := 1000000}) (disch := omega) only [↓reduceIte, Int32.reduceLT, Int32.reduceLE, Int32.reduceToNatClampNeg, Int32.reduceAdd, Int32.reduceSub, Int32.reduceMul, Nat.reduceLeDiff, zEL, zup_ne, zup_eq, zT0, zT1, zT2, if_true, if_false, zneq_f, true_and, and_true, false_and, and_false, zKL, eq_self, Nat.reduceEqDiff, zite0, ite_not, zaddr, zaddl, zputr, zsb1, zsb2, zsb0, zsbm, znm1, layM1, s276_36, s276_37, s276_40, s276_42, s276_43, s276_44, s276_45, s276_46, s276_47, es]
    all_goals rfl
theorem m_137 {p v : Int32} (h : zTM c S Sm) : ∃ w : Int32, ∃ S' Sm' : zS, zcall 137 [.ref 0, .int p, .int v] zRc S L = some (some (.int w), zRc, S', L) ∧ zcall 276 [.ref 0, .int p, .int v] (zRm1 rd) Sm Lm = some (some (.int w), zRm1 rd, Sm', Lm) ∧ zTM c S' Sm' := by
  obtain ⟨X, hX⟩ : ∃ X, X = zup Sm 0 0 0 := ⟨_, rfl⟩
  have h' := zTM_t (v := 0) h
  rw [← hX] at h'
  have b0 : c 1 ≤ 8 := h'.2.2.1.1.2.2.1
  have a0 : S 25 7 = nI (c 1) := h'.2.2.1.2.1.2.1
  have m0 : X 11 7 = nI (c 1) := h'.2.2.1.2.2.1.2.1
  rcases zidx p (n := c 1) (by omega) with ⟨a, ha, rfl⟩ | hp
  · have k1 := t83a_25 (L := L) a0 (by omega) ha
    have k2 := t237a (Lm := Lm) (rd := rd) m0 (by omega) ha
    rcases zrng v 200 (by omega) 200 201 rfl rfl with ⟨n, hn, rfl, a1, a2, a3, a4, a5, a6⟩ | ⟨a1, a2, a3, a4, a5, a6⟩ | ⟨a1, a2, a3, a4, a5, a6⟩
    · obtain ⟨w, k3, k4⟩ := t32 (L := L) (Lm := Lm) (rd := rd) hn h'.2.2.1 h'.2.2.2.1 ha
      refine ⟨w, _, _, ?_, ?_, zTM_d 0 (by decide) h'⟩ <;> unfold zcall
      · simp (config := {maxSteps := 1000000}) (disch := omega) only [↓reduceIte, Int32.reduceLT, Int32.reduceLE, Int32.reduceToNatClampNeg, Int32.reduceAdd, Int32.reduceSub, Int32.reduceMul, Nat.reduceLeDiff, zEL, zup_ne, zup_eq, zT0, zT1, zT2, if_true, if_false, zneq_f, true_and, and_true, false_and, and_false, zKL, eq_self, Nat.reduceEqDiff, zite0, ite_not, zaddr, zaddl, zputr, zsb1, zsb2, zsb0, zsbm, znm1, gX, gM, g168, tEC, S137, k1, a1, a3, a4, k3]
      · simp (config := {maxSteps := 1000000}) (disch := omega) only [↓reduceIte, Int32.reduceLT, Int32.reduceLE, Int32.reduceToNatClampNeg, Int32.reduceAdd, Int32.reduceSub, Int32.reduceMul, Nat.reduceLeDiff, zEL, zup_ne, zup_eq, zT0, zT1, zT2, if_true, if_false, zneq_f, true_and, and_true, false_and, and_false, zKL, eq_self, Nat.reduceEqDiff, zite0, ite_not, zaddr, zaddl, zputr, zsb1, zsb2, zsb0, zsbm, znm1, layM1, tEM1, ze_276, s276_0, s276_1, s276_2, s276_5, s276_6, s276_7, s276_10, s276_13, s276_14, s276_15, s276_18, s276_19, s276_20, s276_21, s276_24, s276_27, s276_30, s276_31, s276_32, s276_35, ← hX, k2, t173, a2, a3]
        rw [k4, t171_1]
    · refine ⟨-1, _, _, ?_, ?_, zTM_d 2 (by decide) h'⟩ <;> unfold zcall
      · simp (config := {maxSteps := 1000000}) (disch := omega) only [↓reduceIte, Int32.reduceLT, Int32.reduceLE, Int32.reduceToNatClampNeg, Int32.reduceAdd, Int32.reduceSub, Int32.reduceMul, Nat.reduceLeDiff, zEL, zup_ne, zup_eq, zT0, zT1, zT2, if_true, if_false, zneq_f, true_and, and_true, false_and, and_false, zKL, eq_self, Nat.reduceEqDiff, zite0, ite_not, zaddr, zaddl, zputr, zsb1, zsb2, zsb0, zsbm, znm1, gX, gM, g168, tEC, S137, k1, a1]
      · simp (config := {maxSteps := 1000000}) (disch := omega) only [↓reduceIte, Int32.reduceLT, Int32.reduceLE, Int32.reduceToNatClampNeg, Int32.reduceAdd, Int32.reduceSub, Int32.reduceMul, Nat.reduceLeDiff, zEL, zup_ne, zup_eq, zT0, zT1, zT2, if_true, if_false, zneq_f, true_and, and_true, false_and, and_false, zKL, eq_self, Nat.reduceEqDiff, zite0, ite_not, zaddr, zaddl, zputr, zsb1, zsb2, zsb0, zsbm, znm1, layM1, tEM1, ze_276, s276_0, s276_1, s276_2, s276_5, s276_6, s276_7, s276_10, s276_13, s276_14, s276_15, s276_18, s276_19, s276_20, s276_21, s276_24, s276_27, s276_30, s276_31, s276_32, s276_35, ← hX, k2, t173, a2]
    · refine ⟨-1, _, _, ?_, ?_, zTM_d 2 (by decide) h'⟩ <;> unfold zcall
      · simp (config := {maxSteps := 1000000}) (disch := omega) only [↓reduceIte, Int32.reduceLT, Int32.reduceLE, Int32.reduceToNatClampNeg, Int32.reduceAdd, Int32.reduceSub, Int32.reduceMul, Nat.reduceLeDiff, zEL, zup_ne, zup_eq, zT0, zT1, zT2, if_true, if_false, zneq_f, true_and, and_true, false_and, and_false, zKL, eq_self, Nat.reduceEqDiff, zite0, ite_not, zaddr, zaddl, zputr, zsb1, zsb2, zsb0, zsbm, znm1, gX, gM, g168, tEC, S137, k1, a1, a3, a4]
      · simp (config := {maxSteps := 1000000}) (disch := omega) only [↓reduceIte, Int32.reduceLT, Int32.reduceLE, Int32.reduceToNatClampNeg, Int32.reduceAdd, Int32.reduceSub, Int32.reduceMul, Nat.reduceLeDiff, zEL, zup_ne, zup_eq, zT0, zT1, zT2, if_true, if_false, zneq_f, true_and, and_true, false_and, and_false, zKL, eq_self, Nat.reduceEqDiff, zite0, ite_not, zaddr, zaddl, zputr, zsb1, zsb2, zsb0, zsbm, znm1, layM1, tEM1, ze_276, s276_0, s276_1, s276_2, s276_5, s276_6, s276_7, s276_10, s276_13, s276_14, s276_15, s276_18, s276_19, s276_20, s276_21, s276_24, s276_27, s276_30, s276_31, s276_32, s276_35, ← hX, k2, t173, a2, a3]
  · have k1 := t83b_25 (L := L) a0 hp
    have k2 := t237b (Lm := Lm) (rd := rd) m0 hp
    refine ⟨-1, _, _, ?_, ?_, zTM_d 1 (by decide) h'⟩ <;> unfold zcall
    · simp (config := {maxSteps := 1000000}) (disch := omega) only [↓reduceIte, Int32.reduceLT, Int32.reduceLE, Int32.reduceToNatClampNeg, Int32.reduceAdd, Int32.reduceSub, Int32.reduceMul, Nat.reduceLeDiff, zEL, zup_ne, zup_eq, zT0, zT1, zT2, if_true, if_false, zneq_f, true_and, and_true, false_and, and_false, zKL, eq_self, Nat.reduceEqDiff, zite0, ite_not, zaddr, zaddl, zputr, zsb1, zsb2, zsb0, zsbm, znm1, gX, gM, g168, tEC, S137, k1]
    · simp (config := {maxSteps := 1000000}) (disch := omega) only [↓reduceIte, Int32.reduceLT, Int32.reduceLE, Int32.reduceToNatClampNeg, Int32.reduceAdd, Int32.reduceSub, Int32.reduceMul, Nat.reduceLeDiff, zEL, zup_ne, zup_eq, zT0, zT1, zT2, if_true, if_false, zneq_f, true_and, and_true, false_and, and_false, zKL, eq_self, Nat.reduceEqDiff, zite0, ite_not, zaddr, zaddl, zputr, zsb1, zsb2, zsb0, zsbm, znm1, layM1, tEM1, ze_276, s276_0, s276_1, s276_2, s276_5, s276_6, s276_7, s276_10, s276_13, s276_14, s276_15, s276_18, s276_19, s276_20, s276_21, s276_24, s276_27, s276_30, s276_31, s276_32, s276_35, ← hX, k2]
theorem zneg0 {s v : Nat} (hs : s < 1000) (hv : v < 1000) (h : s ≤ v) : nI s - nI v ≤ 0 := by
  rw [Int32.le_iff_toInt_le, Int32.toInt_sub, zint_nI (by omega), zint_nI (by omega), show (0 : Int32).toInt = 0 from rfl, Int.bmod_eq_of_le (by omega) (by omega)]
  omega
theorem t33 {b : Nat} (hM : zMD c S Sm) (hG : zGD 168 c S (Sm 2)) (hb : b < c 1) : ∃ v : Int32, zcall 33 [.ref 168, .int (nI b), .int 200] zRc S L = some (some (.int v), zRc, S, L) ∧ zgo 277 19 [.ref 0, .int (nI b), .retAddr 0, .retAddr 0] [] (zRm1 rd) Sm Lm = zcall 171 [.ref 0, .int v] (zRm1 rd) Sm Lm := by
  have b1 : c 1 ≤ 8 := hM.1.2.2.1
  obtain ⟨v, hv, k1, k2⟩ := t31_168 (L := L) (Lm := Lm) (rd := rd) hM hG hb
  obtain ⟨e1, s, hs, es⟩ := hG.2.1 b hb
  have e1 : S 178 b = nI s := e1.trans es
  have es : Sm 2 (41 + b) = nI s := es
  obtain ⟨g7, pp, hpp, epp⟩ := hG.2.2.2.1
  have g7 : S 168 7 = nI pp := g7.trans epp
  have htw := fun t ht => ttw (L := L) (Lm := Lm) (rd := rd) hM hG hb hv k2 t ht
  have key : ∀ d t, t + d = 201 → ∀ s, s ≤ 9 → ∀ x : Int32, (0 < s → x = nI s) → (s = 0 → x ≤ 0) → ∃ w : Int32, zgo 33 19 [.ref 168, .int (nI b), .int 200, .int x, .int (nI (v + 1)), .int (nI t)] [] zRc S L = some (some (.int w), zRc, S, L) ∧ zgo 277 31 [.ref 0, .int (nI b), .int (nI s), .int (nI t)] [] (zRm1 rd) Sm Lm = zcall 171 [.ref 0, .int w] (zRm1 rd) Sm Lm := by
    intro d
    induction d with
    | zero =>
      intro t hd s hs x hx1 hx2
      have ht : t = 201 := by omega
      subst ht
      have h2 : (200 : Int32) < nI 201 := by decide
      refine ⟨-2, ?_, ?_⟩
      · rw [s33_19]
        simp (config := {maxSteps := 1000000}) (disch := omega) only [↓reduceIte, Int32.reduceLT, Int32.reduceLE, Int32.reduceToNatClampNeg, Int32.reduceAdd, Int32.reduceSub, Int32.reduceMul, Nat.reduceLeDiff, zEL, zup_ne, zup_eq, zT0, zT1, zT2, if_true, if_false, zneq_f, true_and, and_true, false_and, and_false, zKL, eq_self, Nat.reduceEqDiff, zite0, ite_not, zaddr, zaddl, zputr, zsb1, zsb2, zsb0, zsbm, znm1, s33_21, s33_22, s33_25, s33_26, s33_29, s33_31, s33_32, s33_33, s33_34, s33_37, s33_39, s33_40, s33_43, s33_46, s33_47, s33_49, s33_50, s33_51, s33_54, s33_57, s33_59, h2]
      · rw [s277_31]
        simp (config := {maxSteps := 1000000}) (disch := omega) only [↓reduceIte, Int32.reduceLT, Int32.reduceLE, Int32.reduceToNatClampNeg, Int32.reduceAdd, Int32.reduceSub, Int32.reduceMul, Nat.reduceLeDiff, zEL, zup_ne, zup_eq, zT0, zT1, zT2, if_true, if_false, zneq_f, true_and, and_true, false_and, and_false, zKL, eq_self, Nat.reduceEqDiff, zite0, ite_not, zaddr, zaddl, zputr, zsb1, zsb2, zsb0, zsbm, znm1, layM1, tEM1, s277_32, s277_35, s277_38, s277_39, s277_42, s277_43, s277_44, s277_47, s277_48, s277_49, s277_50, s277_51, s277_52, s277_55, s277_56, s277_57, s277_58, s277_59, s277_62, s277_63, s277_66, s277_69, s277_70, s277_72, s277_75, h2]
    | succ d ih =>
      intro t hd s hs x hx1 hx2
      have h2 : (200 < nI t) = False := eq_false (by rw [show (200 : Int32) = nI 200 from rfl, znI_lt (by omega) (by omega)]; omega)
      by_cases hs0 : s = 0
      · subst hs0
        have h3 : (0 < x) = False := eq_false (Int32.not_lt.mpr (hx2 rfl))
        refine ⟨nI t, ?_, ?_⟩
        · rw [s33_19]
          simp (config := {maxSteps := 1000000}) (disch := omega) only [↓reduceIte, Int32.reduceLT, Int32.reduceLE, Int32.reduceToNatClampNeg, Int32.reduceAdd, Int32.reduceSub, Int32.reduceMul, Nat.reduceLeDiff, zEL, zup_ne, zup_eq, zT0, zT1, zT2, if_true, if_false, zneq_f, true_and, and_true, false_and, and_false, zKL, eq_self, Nat.reduceEqDiff, zite0, ite_not, zaddr, zaddl, zputr, zsb1, zsb2, zsb0, zsbm, znm1, s33_21, s33_22, s33_25, s33_26, s33_29, s33_31, s33_32, s33_33, s33_34, s33_37, s33_39, s33_40, s33_43, s33_46, s33_47, s33_49, s33_50, s33_51, s33_54, s33_57, s33_59, h2, h3]
        · rw [s277_31]
          simp (config := {maxSteps := 1000000}) (disch := omega) only [↓reduceIte, Int32.reduceLT, Int32.reduceLE, Int32.reduceToNatClampNeg, Int32.reduceAdd, Int32.reduceSub, Int32.reduceMul, Nat.reduceLeDiff, zEL, zup_ne, zup_eq, zT0, zT1, zT2, if_true, if_false, zneq_f, true_and, and_true, false_and, and_false, zKL, eq_self, Nat.reduceEqDiff, zite0, ite_not, zaddr, zaddl, zputr, zsb1, zsb2, zsb0, zsbm, znm1, layM1, tEM1, s277_32, s277_35, s277_38, s277_39, s277_42, s277_43, s277_44, s277_47, s277_48, s277_49, s277_50, s277_51, s277_52, s277_55, s277_56, s277_57, s277_58, s277_59, s277_62, s277_63, s277_66, s277_69, s277_70, s277_72, s277_75, h2]
      · have hx := hx1 (by omega)
        subst hx
        clear hx1 hx2
        obtain ⟨tw, w1, w2⟩ := htw (pp + t) (by omega)
        have w2 := w2 s hs
        cases tw with
        | true =>
          rw [if_pos rfl] at w1 w2
          obtain ⟨w, r1, r2⟩ := ih (t + 1) (by omega) (s - (v + 1)) (by omega) (nI s - nI (v + 1)) (fun h => znI_sub (by omega)) (fun h => zneg0 (by omega) (by omega) (by omega))
          refine ⟨w, ?_, ?_⟩
          · rw [← r1, s33_19]
            simp (config := {maxSteps := 1000000}) (disch := omega) only [↓reduceIte, Int32.reduceLT, Int32.reduceLE, Int32.reduceToNatClampNeg, Int32.reduceAdd, Int32.reduceSub, Int32.reduceMul, Nat.reduceLeDiff, zEL, zup_ne, zup_eq, zT0, zT1, zT2, if_true, if_false, zneq_f, true_and, and_true, false_and, and_false, zKL, eq_self, Nat.reduceEqDiff, zite0, ite_not, zaddr, zaddl, zputr, zsb1, zsb2, zsb0, zsbm, znm1, g168, s33_21, s33_22, s33_25, s33_26, s33_29, s33_31, s33_32, s33_33, s33_34, s33_37, s33_39, s33_40, s33_43, s33_46, s33_47, s33_49, s33_50, s33_51, s33_54, s33_57, s33_59, h2, g7, zadd_nI, w1]
          · rw [← r2, s277_31]
            simp (config := {maxSteps := 1000000}) (disch := omega) only [↓reduceIte, Int32.reduceLT, Int32.reduceLE, Int32.reduceToNatClampNeg, Int32.reduceAdd, Int32.reduceSub, Int32.reduceMul, Nat.reduceLeDiff, zEL, zup_ne, zup_eq, zT0, zT1, zT2, if_true, if_false, zneq_f, true_and, and_true, false_and, and_false, zKL, eq_self, Nat.reduceEqDiff, zite0, ite_not, zaddr, zaddl, zputr, zsb1, zsb2, zsb0, zsbm, znm1, layM1, s277_32, s277_35, s277_38, s277_39, s277_42, s277_43, s277_44, s277_47, s277_48, s277_49, s277_50, s277_51, s277_52, s277_55, s277_56, s277_57, s277_58, s277_59, s277_62, s277_63, s277_66, s277_69, s277_70, s277_72, s277_75, h2, epp, zadd_nI, w2]
        | false =>
          rw [if_neg (by decide)] at w1 w2
          obtain ⟨w, r1, r2⟩ := ih (t + 1) (by omega) s hs (nI s) (fun _ => rfl) (fun h => absurd h hs0)
          refine ⟨w, ?_, ?_⟩
          · rw [← r1, s33_19]
            simp (config := {maxSteps := 1000000}) (disch := omega) only [↓reduceIte, Int32.reduceLT, Int32.reduceLE, Int32.reduceToNatClampNeg, Int32.reduceAdd, Int32.reduceSub, Int32.reduceMul, Nat.reduceLeDiff, zEL, zup_ne, zup_eq, zT0, zT1, zT2, if_true, if_false, zneq_f, true_and, and_true, false_and, and_false, zKL, eq_self, Nat.reduceEqDiff, zite0, ite_not, zaddr, zaddl, zputr, zsb1, zsb2, zsb0, zsbm, znm1, g168, s33_21, s33_22, s33_25, s33_26, s33_29, s33_31, s33_32, s33_33, s33_34, s33_37, s33_39, s33_40, s33_43, s33_46, s33_47, s33_49, s33_50, s33_51, s33_54, s33_57, s33_59, h2, g7, zadd_nI, w1]
          · rw [← r2, s277_31]
            simp (config := {maxSteps := 1000000}) (disch := omega) only [↓reduceIte, Int32.reduceLT, Int32.reduceLE, Int32.reduceToNatClampNeg, Int32.reduceAdd, Int32.reduceSub, Int32.reduceMul, Nat.reduceLeDiff, zEL, zup_ne, zup_eq, zT0, zT1, zT2, if_true, if_false, zneq_f, true_and, and_true, false_and, and_false, zKL, eq_self, Nat.reduceEqDiff, zite0, ite_not, zaddr, zaddl, zputr, zsb1, zsb2, zsb0, zsbm, znm1, layM1, s277_32, s277_35, s277_38, s277_39, s277_42, s277_43, s277_44, s277_47, s277_48, s277_49, s277_50, s277_51, s277_52, s277_55, s277_56, s277_57, s277_58, s277_59, s277_62, s277_63, s277_66, s277_69, s277_70, s277_72, s277_75, h2, epp, zadd_nI, w2]
  obtain ⟨w, r1, r2⟩ := key 201 0 (by omega) s hs (nI s) (fun _ => rfl) (fun h => by subst h; decide)
  refine ⟨w, ?_, ?_⟩
  · unfold zcall
    simp (config := {maxSteps := 1000000}) (disch := omega) only [↓reduceIte, Int32.reduceLT, Int32.reduceLE, Int32.reduceToNatClampNeg, Int32.reduceAdd, Int32.reduceSub, Int32.reduceMul, Nat.reduceLeDiff, zEL, zup_ne, zup_eq, zT0, zT1, zT2, if_true, if_false, zneq_f, true_and, and_true, false_and, and_false, zKL, eq_self, Nat.reduceEqDiff, zite0, ite_not, zaddr, zaddl, zputr, zsb1, zsb2, zsb0, zsbm, znm1, gM, g168, ze_33, s33_0, s33_1, s33_4, s33_5, s33_8, s33_9, s33_10, s33_11, s33_14, s33_16, s33_17, e1, k1]
    exact r1
  · rw [← r2]
    simp (config := {maxSteps := 1000000}) (disch := omega) only [↓reduceIte, Int32.reduceLT, Int32.reduceLE, Int32.reduceToNatClampNeg, Int32.reduceAdd, Int32.reduceSub, Int32.reduceMul, Nat.reduceLeDiff, zEL, zup_ne, zup_eq, zT0, zT1, zT2, if_true, if_false, zneq_f, true_and, and_true, false_and, and_false, zKL, eq_self, Nat.reduceEqDiff, zite0, ite_not, zaddr, zaddl, zputr, zsb1, zsb2, zsb0, zsbm, znm1, layM1, s277_19, s277_20, s277_23, s277_25, s277_26, s277_27, s277_28, s277_29, s277_30, es]
    all_goals rfl
theorem m_138 {p : Int32} (h : zTM c S Sm) : ∃ w : Int32, ∃ S' Sm' : zS, zcall 138 [.ref 0, .int p] zRc S L = some (some (.int w), zRc, S', L) ∧ zcall 277 [.ref 0, .int p] (zRm1 rd) Sm Lm = some (some (.int w), zRm1 rd, Sm', Lm) ∧ zTM c S' Sm' := by
  obtain ⟨X, hX⟩ : ∃ X, X = zup Sm 0 0 0 := ⟨_, rfl⟩
  have h' := zTM_t (v := 0) h
  rw [← hX] at h'
  have b0 : c 1 ≤ 8 := h'.2.2.1.1.2.2.1
  have a0 : S 25 7 = nI (c 1) := h'.2.2.1.2.1.2.1
  have m0 : X 11 7 = nI (c 1) := h'.2.2.1.2.2.1.2.1
  rcases zidx p (n := c 1) (by omega) with ⟨a, ha, rfl⟩ | hp
  · have k1 := t83a_25 (L := L) a0 (by omega) ha
    have k2 := t237a (Lm := Lm) (rd := rd) m0 (by omega) ha
    obtain ⟨w, k3, k4⟩ := t33 (L := L) (Lm := Lm) (rd := rd) h'.2.2.1 h'.2.2.2.1 ha
    refine ⟨w, _, _, ?_, ?_, zTM_d 0 (by decide) h'⟩ <;> unfold zcall
    · simp (config := {maxSteps := 1000000}) (disch := omega) only [↓reduceIte, Int32.reduceLT, Int32.reduceLE, Int32.reduceToNatClampNeg, Int32.reduceAdd, Int32.reduceSub, Int32.reduceMul, Nat.reduceLeDiff, zEL, zup_ne, zup_eq, zT0, zT1, zT2, if_true, if_false, zneq_f, true_and, and_true, false_and, and_false, zKL, eq_self, Nat.reduceEqDiff, zite0, ite_not, zaddr, zaddl, zputr, zsb1, zsb2, zsb0, zsbm, znm1, gX, gM, g168, tEC, S138, k1, k3]
    · simp (config := {maxSteps := 1000000}) (disch := omega) only [↓reduceIte, Int32.reduceLT, Int32.reduceLE, Int32.reduceToNatClampNeg, Int32.reduceAdd, Int32.reduceSub, Int32.reduceMul, Nat.reduceLeDiff, zEL, zup_ne, zup_eq, zT0, zT1, zT2, if_true, if_false, zneq_f, true_and, and_true, false_and, and_false, zKL, eq_self, Nat.reduceEqDiff, zite0, ite_not, zaddr, zaddl, zputr, zsb1, zsb2, zsb0, zsbm, znm1, layM1, tEM1, ze_277, s277_0, s277_1, s277_2, s277_5, s277_6, s277_7, s277_10, s277_13, s277_14, s277_15, s277_18, ← hX, k2]
      rw [k4, t171_1]
  · have k1 := t83b_25 (L := L) a0 hp
    have k2 := t237b (Lm := Lm) (rd := rd) m0 hp
    refine ⟨-1, _, _, ?_, ?_, zTM_d 1 (by decide) h'⟩ <;> unfold zcall
    · simp (config := {maxSteps := 1000000}) (disch := omega) only [↓reduceIte, Int32.reduceLT, Int32.reduceLE, Int32.reduceToNatClampNeg, Int32.reduceAdd, Int32.reduceSub, Int32.reduceMul, Nat.reduceLeDiff, zEL, zup_ne, zup_eq, zT0, zT1, zT2, if_true, if_false, zneq_f, true_and, and_true, false_and, and_false, zKL, eq_self, Nat.reduceEqDiff, zite0, ite_not, zaddr, zaddl, zputr, zsb1, zsb2, zsb0, zsbm, znm1, gX, gM, g168, tEC, S138, k1]
    · simp (config := {maxSteps := 1000000}) (disch := omega) only [↓reduceIte, Int32.reduceLT, Int32.reduceLE, Int32.reduceToNatClampNeg, Int32.reduceAdd, Int32.reduceSub, Int32.reduceMul, Nat.reduceLeDiff, zEL, zup_ne, zup_eq, zT0, zT1, zT2, if_true, if_false, zneq_f, true_and, and_true, false_and, and_false, zKL, eq_self, Nat.reduceEqDiff, zite0, ite_not, zaddr, zaddl, zputr, zsb1, zsb2, zsb0, zsbm, znm1, layM1, tEM1, ze_277, s277_0, s277_1, s277_2, s277_5, s277_6, s277_7, s277_10, s277_13, s277_14, s277_15, s277_18, ← hX, k2]
end ZT8
