/-! prints: the class -/
section ZWB
variable {c : Nat → Nat} {S Sm : zS} {L Lm : zL} {rd : Value}
/-- may a print be of one: of both -/
theorem tmb {k p d : Nat} (hM : zMD c S Sm) (hG : zGD 168 c S (Sm 2)) (hk : k < c 3) (hp : p < c 0) (hd : d ≤ 19) : ∃ b : Bool, zcall 101 [.ref 288, .int (nI k), .int (nI p), .int (nI d)] zRc S L = some (some (.int (if b = true then 1 else 0)), zRc, S, L) ∧ zcall 278 [.ref 0, .int (nI k), .int (nI p), .int (nI d)] (zRm1 rd) Sm Lm = some (some (.int (if b = true then 1 else 0)), zRm1 rd, Sm, Lm) := by
  have b0 : c 0 ≤ 8 := hM.1.2.1
  have b3 : c 3 ≤ 6 := hM.1.2.2.2.2.1
  obtain ⟨p1, p2, p3, -, -, -, -, -, ⟨a, ha, ea⟩, -⟩ := hM.2.2.2.2.2.1 p hp
  obtain ⟨q1, q2, q3, -, -, ⟨z, hz, ez⟩⟩ := hM.2.2.2.2.2.2.2.2.1 k hk
  obtain ⟨g1, -, -, -, ⟨y, hy, ey⟩, -⟩ := hG.1 p hp
  have g1 : S 170 p = nI y := g1.trans ey
  have ey : Sm 2 (9 + p) = nI y := ey
  have p3 : S 18 p = nI a := p3.trans ea
  have q3 : S 57 k = nI z := q3.trans ez
  obtain ⟨LO, hLO⟩ : ∃ v, v = nI (min a y) - nI d := ⟨_, rfl⟩
  obtain ⟨HI, hHI⟩ : ∃ v, v = nI (max a y) + nI d := ⟨_, rfl⟩
  have fC : zcall 101 [.ref 288, .int (nI k), .int (nI p), .int (nI d)] zRc S L = some (some (.int (if decide (Sm 28 k = Sm 18 p ∧ Sm 29 k = Sm 19 p ∧ LO ≤ nI z ∧ nI z ≤ HI) = true then 1 else 0)), zRc, S, L) := by
    unfold zcall
    by_cases c1 : Sm 28 k = Sm 18 p
    · by_cases c2 : Sm 29 k = Sm 19 p
      · by_cases c3 : LO ≤ nI z
        · have c3' : (nI z < LO) = False := eq_false (Int32.not_lt.mpr c3)
          by_cases c4 : nI z ≤ HI
          · have c4' : (HI < nI z) = False := eq_false (Int32.not_lt.mpr c4)
            rw [if_pos (decide_eq_true ⟨c1, c2, c3, c4⟩)]
            simp (config := {maxSteps := 1000000}) (disch := omega) only [↓reduceIte, Int32.reduceLT, Int32.reduceLE, Int32.reduceToNatClampNeg, Int32.reduceAdd, Int32.reduceSub, Int32.reduceMul, Nat.reduceLeDiff, zEL, zup_ne, zup_eq, zT0, zT1, zT2, if_true, if_false, zneq_f, true_and, and_true, false_and, and_false, zKL, eq_self, Nat.reduceEqDiff, zite0, ite_not, zaddr, zaddl, zputr, zsb1, zsb2, zsb0, zsbm, znm1, gX, gM, g168, ze_101, s101_0, s101_1, s101_4, s101_7, s101_9, s101_10, s101_13, s101_16, s101_18, s101_20, s101_23, s101_24, s101_27, s101_29, s101_30, s101_33, s101_36, s101_37, s101_40, s101_42, s101_44, s101_47, s101_48, s101_51, s101_53, s101_55, s101_58, s101_59, s101_62, s101_64, s101_67, s101_68, s101_71, s101_74, s101_76, s101_79, s101_80, s101_83, s101_85, s101_88, s101_89, s101_92, s101_95, s101_97, s101_99, s101_101, s101_104, s101_105, s101_106, s101_109, s101_111, s101_113, s101_115, s101_118, s101_119, s101_120, s101_123, s101_124, s101_127, s101_128, p1, p2, p3, q1, q2, q3, g1, c1, c2, zmn, zmx, ← hLO, ← hHI, c3', c4']
          · have c4' : (HI < nI z) = True := eq_true (Int32.not_le.mp c4)
            rw [if_neg (fun h => c4 (of_decide_eq_true h).2.2.2)]
            simp (config := {maxSteps := 1000000}) (disch := omega) only [↓reduceIte, Int32.reduceLT, Int32.reduceLE, Int32.reduceToNatClampNeg, Int32.reduceAdd, Int32.reduceSub, Int32.reduceMul, Nat.reduceLeDiff, zEL, zup_ne, zup_eq, zT0, zT1, zT2, if_true, if_false, zneq_f, true_and, and_true, false_and, and_false, zKL, eq_self, Nat.reduceEqDiff, zite0, ite_not, zaddr, zaddl, zputr, zsb1, zsb2, zsb0, zsbm, znm1, gX, gM, g168, ze_101, s101_0, s101_1, s101_4, s101_7, s101_9, s101_10, s101_13, s101_16, s101_18, s101_20, s101_23, s101_24, s101_27, s101_29, s101_30, s101_33, s101_36, s101_37, s101_40, s101_42, s101_44, s101_47, s101_48, s101_51, s101_53, s101_55, s101_58, s101_59, s101_62, s101_64, s101_67, s101_68, s101_71, s101_74, s101_76, s101_79, s101_80, s101_83, s101_85, s101_88, s101_89, s101_92, s101_95, s101_97, s101_99, s101_101, s101_104, s101_105, s101_106, s101_109, s101_111, s101_113, s101_115, s101_118, s101_119, s101_120, s101_123, s101_124, s101_127, s101_128, p1, p2, p3, q1, q2, q3, g1, c1, c2, zmn, zmx, ← hLO, ← hHI, c3', c4']
        · have c3' : (nI z < LO) = True := eq_true (Int32.not_le.mp c3)
          rw [if_neg (fun h => c3 (of_decide_eq_true h).2.2.1)]
          simp (config := {maxSteps := 1000000}) (disch := omega) only [↓reduceIte, Int32.reduceLT, Int32.reduceLE, Int32.reduceToNatClampNeg, Int32.reduceAdd, Int32.reduceSub, Int32.reduceMul, Nat.reduceLeDiff, zEL, zup_ne, zup_eq, zT0, zT1, zT2, if_true, if_false, zneq_f, true_and, and_true, false_and, and_false, zKL, eq_self, Nat.reduceEqDiff, zite0, ite_not, zaddr, zaddl, zputr, zsb1, zsb2, zsb0, zsbm, znm1, gX, gM, g168, ze_101, s101_0, s101_1, s101_4, s101_7, s101_9, s101_10, s101_13, s101_16, s101_18, s101_20, s101_23, s101_24, s101_27, s101_29, s101_30, s101_33, s101_36, s101_37, s101_40, s101_42, s101_44, s101_47, s101_48, s101_51, s101_53, s101_55, s101_58, s101_59, s101_62, s101_64, s101_67, s101_68, s101_71, s101_74, s101_76, s101_79, s101_80, s101_83, s101_85, s101_88, s101_89, s101_92, s101_95, s101_97, s101_99, s101_101, s101_104, s101_105, s101_106, s101_109, s101_111, s101_113, s101_115, s101_118, s101_119, s101_120, s101_123, s101_124, s101_127, s101_128, p1, p2, p3, q1, q2, q3, g1, c1, c2, zmn, zmx, ← hLO, c3']
      · rw [if_neg (fun h => c2 (of_decide_eq_true h).2.1)]
        simp (config := {maxSteps := 1000000}) (disch := omega) only [↓reduceIte, Int32.reduceLT, Int32.reduceLE, Int32.reduceToNatClampNeg, Int32.reduceAdd, Int32.reduceSub, Int32.reduceMul, Nat.reduceLeDiff, zEL, zup_ne, zup_eq, zT0, zT1, zT2, if_true, if_false, zneq_f, true_and, and_true, false_and, and_false, zKL, eq_self, Nat.reduceEqDiff, zite0, ite_not, zaddr, zaddl, zputr, zsb1, zsb2, zsb0, zsbm, znm1, gX, gM, g168, ze_101, s101_0, s101_1, s101_4, s101_7, s101_9, s101_10, s101_13, s101_16, s101_18, s101_20, s101_23, s101_24, s101_27, s101_29, s101_30, s101_33, s101_36, s101_37, s101_40, s101_42, s101_44, s101_47, s101_48, s101_51, s101_53, s101_55, s101_58, s101_59, s101_62, s101_64, s101_67, s101_68, s101_71, s101_74, s101_76, s101_79, s101_80, s101_83, s101_85, s101_88, s101_89, s101_92, s101_95, s101_97, s101_99, s101_101, s101_104, s101_105, s101_106, s101_109, s101_111, s101_113, s101_115, s101_118, s101_119, s101_120, s101_123, s101_124, s101_127, s101_128, p1, p2, p3, q1, q2, q3, g1, c1, c2]
    · rw [if_neg (fun h => c1 (of_decide_eq_true h).1)]
      simp (config := {maxSteps := 1000000}) (disch := omega) only [↓reduceIte, Int32.reduceLT, Int32.reduceLE, Int32.reduceToNatClampNeg, Int32.reduceAdd, Int32.reduceSub, Int32.reduceMul, Nat.reduceLeDiff, zEL, zup_ne, zup_eq, zT0, zT1, zT2, if_true, if_false, zneq_f, true_and, and_true, false_and, and_false, zKL, eq_self, Nat.reduceEqDiff, zite0, ite_not, zaddr, zaddl, zputr, zsb1, zsb2, zsb0, zsbm, znm1, gX, gM, g168, ze_101, s101_0, s101_1, s101_4, s101_7, s101_9, s101_10, s101_13, s101_16, s101_18, s101_20, s101_23, s101_24, s101_27, s101_29, s101_30, s101_33, s101_36, s101_37, s101_40, s101_42, s101_44, s101_47, s101_48, s101_51, s101_53, s101_55, s101_58, s101_59, s101_62, s101_64, s101_67, s101_68, s101_71, s101_74, s101_76, s101_79, s101_80, s101_83, s101_85, s101_88, s101_89, s101_92, s101_95, s101_97, s101_99, s101_101, s101_104, s101_105, s101_106, s101_109, s101_111, s101_113, s101_115, s101_118, s101_119, s101_120, s101_123, s101_124, s101_127, s101_128, p1, p2, p3, q1, q2, q3, g1, c1]
  refine ⟨_, fC, ?_⟩
  have hin : (if LO ≤ nI z ∧ nI z ≤ HI then (1 : Int32) else 0) = if decide (LO ≤ nI z ∧ nI z ≤ HI) = true then 1 else 0 := by
    by_cases h : LO ≤ nI z ∧ nI z ≤ HI
    · rw [if_pos h, if_pos (decide_eq_true h)]
    · rw [if_neg h, if_neg (fun h' => h (of_decide_eq_true h'))]
  have fM : ∀ lo hi : Nat, nI lo - nI d = LO → nI hi + nI d = HI → zgo 278 68 [.ref 0, .int (nI k), .int (nI p), .int (nI d), .int (nI lo), .int (nI hi)] [] (zRm1 rd) Sm Lm = some (some (.int (if decide (Sm 28 k = Sm 18 p ∧ Sm 29 k = Sm 19 p ∧ LO ≤ nI z ∧ nI z ≤ HI) = true then 1 else 0)), zRm1 rd, Sm, Lm) := fun lo hi e1 e2 => by
    by_cases c1 : Sm 28 k = Sm 18 p
    · by_cases c2 : Sm 29 k = Sm 19 p
      · by_cases c3 : LO ≤ nI z ∧ nI z ≤ HI
        · rw [if_pos (decide_eq_true ⟨c1, c2, c3⟩)]
          have c3 := eq_true c3
          simp (config := {maxSteps := 1000000}) (disch := omega) only [↓reduceIte, Int32.reduceLT, Int32.reduceLE, Int32.reduceToNatClampNeg, Int32.reduceAdd, Int32.reduceSub, Int32.reduceMul, Nat.reduceLeDiff, zEL, zup_ne, zup_eq, zT0, zT1, zT2, if_true, if_false, zneq_f, true_and, and_true, false_and, and_false, zKL, eq_self, Nat.reduceEqDiff, zite0, ite_not, zaddr, zaddl, zputr, zsb1, zsb2, zsb0, zsbm, znm1, layM1, s278_68, s278_69, s278_72, s278_75, s278_76, s278_77, s278_78, s278_81, s278_84, s278_85, s278_86, s278_89, s278_90, s278_93, s278_96, s278_97, s278_98, s278_99, s278_102, s278_105, s278_106, s278_107, s278_110, s278_111, s278_114, s278_117, s278_118, s278_119, s278_121, s278_122, s278_123, s278_125, s278_126, s278_127, s278_130, s278_133, s278_134, s278_137, s278_138, ez, c1, c2, e1, e2, t173, c3]
        · rw [if_neg (fun h => c3 (of_decide_eq_true h).2.2)]
          have c3 := eq_false c3
          simp (config := {maxSteps := 1000000}) (disch := omega) only [↓reduceIte, Int32.reduceLT, Int32.reduceLE, Int32.reduceToNatClampNeg, Int32.reduceAdd, Int32.reduceSub, Int32.reduceMul, Nat.reduceLeDiff, zEL, zup_ne, zup_eq, zT0, zT1, zT2, if_true, if_false, zneq_f, true_and, and_true, false_and, and_false, zKL, eq_self, Nat.reduceEqDiff, zite0, ite_not, zaddr, zaddl, zputr, zsb1, zsb2, zsb0, zsbm, znm1, layM1, s278_68, s278_69, s278_72, s278_75, s278_76, s278_77, s278_78, s278_81, s278_84, s278_85, s278_86, s278_89, s278_90, s278_93, s278_96, s278_97, s278_98, s278_99, s278_102, s278_105, s278_106, s278_107, s278_110, s278_111, s278_114, s278_117, s278_118, s278_119, s278_121, s278_122, s278_123, s278_125, s278_126, s278_127, s278_130, s278_133, s278_134, s278_137, s278_138, ez, c1, c2, e1, e2, t173, c3]
      · rw [if_neg (fun h => c2 (of_decide_eq_true h).2.1)]
        simp (config := {maxSteps := 1000000}) (disch := omega) only [↓reduceIte, Int32.reduceLT, Int32.reduceLE, Int32.reduceToNatClampNeg, Int32.reduceAdd, Int32.reduceSub, Int32.reduceMul, Nat.reduceLeDiff, zEL, zup_ne, zup_eq, zT0, zT1, zT2, if_true, if_false, zneq_f, true_and, and_true, false_and, and_false, zKL, eq_self, Nat.reduceEqDiff, zite0, ite_not, zaddr, zaddl, zputr, zsb1, zsb2, zsb0, zsbm, znm1, layM1, s278_68, s278_69, s278_72, s278_75, s278_76, s278_77, s278_78, s278_81, s278_84, s278_85, s278_86, s278_89, s278_90, s278_93, s278_96, s278_97, s278_98, s278_99, s278_102, s278_105, s278_106, s278_107, s278_110, s278_111, s278_114, s278_117, s278_118, s278_119, s278_121, s278_122, s278_123, s278_125, s278_126, s278_127, s278_130, s278_133, s278_134, s278_137, s278_138, ez, c1, c2]
    · rw [if_neg (fun h => c1 (of_decide_eq_true h).1)]
      simp (config := {maxSteps := 1000000}) (disch := omega) only [↓reduceIte, Int32.reduceLT, Int32.reduceLE, Int32.reduceToNatClampNeg, Int32.reduceAdd, Int32.reduceSub, Int32.reduceMul, Nat.reduceLeDiff, zEL, zup_ne, zup_eq, zT0, zT1, zT2, if_true, if_false, zneq_f, true_and, and_true, false_and, and_false, zKL, eq_self, Nat.reduceEqDiff, zite0, ite_not, zaddr, zaddl, zputr, zsb1, zsb2, zsb0, zsbm, znm1, layM1, s278_68, s278_69, s278_72, s278_75, s278_76, s278_77, s278_78, s278_81, s278_84, s278_85, s278_86, s278_89, s278_90, s278_93, s278_96, s278_97, s278_98, s278_99, s278_102, s278_105, s278_106, s278_107, s278_110, s278_111, s278_114, s278_117, s278_118, s278_119, s278_121, s278_122, s278_123, s278_125, s278_126, s278_127, s278_130, s278_133, s278_134, s278_137, s278_138, ez, c1]
  by_cases hya : y ≤ a
  · have k1 := fM y a (by rw [hLO, Nat.min_eq_right hya]) (by rw [hHI, Nat.max_eq_left hya])
    have e : nI a + nI y - nI y = nI a := Int32.add_sub_cancel _ _
    rw [← k1]
    unfold zcall
    simp (config := {maxSteps := 1000000}) (disch := omega) only [↓reduceIte, Int32.reduceLT, Int32.reduceLE, Int32.reduceToNatClampNeg, Int32.reduceAdd, Int32.reduceSub, Int32.reduceMul, Nat.reduceLeDiff, zEL, zup_ne, zup_eq, zT0, zT1, zT2, if_true, if_false, zneq_f, true_and, and_true, false_and, and_false, zKL, eq_self, Nat.reduceEqDiff, zite0, ite_not, zaddr, zaddl, zputr, zsb1, zsb2, zsb0, zsbm, znm1, layM1, ze_278, s278_0, s278_1, s278_4, s278_7, s278_8, s278_9, s278_10, s278_13, s278_15, s278_16, s278_17, s278_18, s278_21, s278_22, s278_25, s278_28, s278_29, s278_30, s278_33, s278_34, s278_37, s278_39, s278_40, s278_41, s278_42, s278_44, s278_45, s278_48, s278_51, s278_52, s278_53, s278_54, s278_57, s278_59, s278_60, s278_61, s278_62, s278_63, s278_65, s278_66, ea, ey, e]
  · have k1 := fM a y (by rw [hLO, Nat.min_eq_left (by omega)]) (by rw [hHI, Nat.max_eq_right (by omega)])
    have e : nI a + nI y - nI a = nI y := by rw [Int32.add_comm]; exact Int32.add_sub_cancel _ _
    rw [← k1]
    unfold zcall
    simp (config := {maxSteps := 1000000}) (disch := omega) only [↓reduceIte, Int32.reduceLT, Int32.reduceLE, Int32.reduceToNatClampNeg, Int32.reduceAdd, Int32.reduceSub, Int32.reduceMul, Nat.reduceLeDiff, zEL, zup_ne, zup_eq, zT0, zT1, zT2, if_true, if_false, zneq_f, true_and, and_true, false_and, and_false, zKL, eq_self, Nat.reduceEqDiff, zite0, ite_not, zaddr, zaddl, zputr, zsb1, zsb2, zsb0, zsbm, znm1, layM1, ze_278, s278_0, s278_1, s278_4, s278_7, s278_8, s278_9, s278_10, s278_13, s278_15, s278_16, s278_17, s278_18, s278_21, s278_22, s278_25, s278_28, s278_29, s278_30, s278_33, s278_34, s278_37, s278_39, s278_40, s278_41, s278_42, s278_44, s278_45, s278_48, s278_51, s278_52, s278_53, s278_54, s278_57, s278_59, s278_60, s278_61, s278_62, s278_63, s278_65, s278_66, ea, ey, e]
theorem zpos {x : Nat} (h : x < 2147483648) : (nI x ≤ 0) = (x = 0) := by
  rw [show (0 : Int32) = nI 0 from rfl, znI_le h (by decide)]
  exact propext ⟨fun h => by omega, fun h => by omega⟩
theorem zfar {P : Prop} (h : ¬ P) : P = False := eq_false h
/-- what of the class's state a print's work leaves -/
def zag (S X : zS) : Prop := ∀ j k, j ≠ 290 → X j k = S j k
theorem zag_up {X : zS} {j : Nat} {v : Int32} (h : zag S X) : zag S (zup X 290 j v) := fun a b hab => by rw [zup_ne (by omega)]; exact h a b hab
/-- one print is spread -/
theorem t100 {k d n : Nat} {mb : Nat → Bool} {f : Nat → Nat} (hn : n ≤ 8) (a0 : S 12 7 = nI n) (hmb : ∀ X, zag S X → ∀ p, p < n → zcall 101 [.ref 288, .int (nI k), .int (nI p), .int (nI d)] zRc X L = some (some (.int (if mb p = true then 1 else 0)), zRc, X, L)) (hf : ∀ s, f s ≤ 1000000) (X : zS) (hX : zag S X) (hX0 : ∀ j, j < 256 → X 290 j = nI (f j)) : ∃ X', zag S X' ∧ (∀ j, j < 256 → X' 290 j = nI (zsp mb f j n)) ∧ zcall 100 [.ref 288, .int (nI k), .int (nI d)] zRc X L = some (none, zRc, X', L) := by
  -- the players of one set
  have inner : ∀ s, s < 256 → 0 < f s → ∀ q p, p + q = n → ∀ Y, zag S Y → ∀ base : Nat → Nat, (∀ j, j < 256 → Y 290 j = nI (base j + zsa mb s (f s) j p)) → ∃ Y', zag S Y' ∧ (∀ j, j < 256 → Y' 290 j = nI (base j + zsa mb s (f s) j n)) ∧ zgo 100 30 [.ref 288, .int (nI k), .int (nI d), .int (nI s), .int (nI (f s)), .int (nI p)] [] zRc Y L = zgo 100 91 [.ref 288, .int (nI k), .int (nI d), .int (nI s), .int (nI (f s)), .int (nI n)] [] zRc Y' L := by
    intro s hs hpos q
    have z1 : (nI (f s) ≤ 0) = False := (zpos (by have := hf s; omega)).trans (eq_false (by omega))
    induction q with
    | zero =>
      intro p hp Y hY base hB
      have hk : p = n := by omega
      subst hk
      refine ⟨Y, hY, hB, ?_⟩
      have a0' : Y 12 7 = nI p := (hY _ _ (by decide)).trans a0
      rw [s100_30]
      simp (config := {maxSteps := 1000000}) (disch := omega) only [↓reduceIte, Int32.reduceLT, Int32.reduceLE, Int32.reduceToNatClampNeg, Int32.reduceAdd, Int32.reduceSub, Int32.reduceMul, Nat.reduceLeDiff, zEL, zup_ne, zup_eq, zT0, zT1, zT2, if_true, if_false, zneq_f, true_and, and_true, false_and, and_false, zKL, eq_self, Nat.reduceEqDiff, zite0, ite_not, zaddr, zaddl, zputr, zsb1, zsb2, zsb0, zsbm, znm1, gX, gM, s100_32, s100_35, s100_37, s100_38, s100_41, s100_44, s100_47, s100_50, s100_51, s100_53, s100_54, s100_55, s100_56, s100_59, s100_60, s100_61, s100_63, s100_64, s100_67, s100_70, s100_71, s100_74, s100_75, s100_76, s100_78, s100_79, s100_80, s100_82, s100_85, s100_88, z1, a0']
    | succ q ih =>
      intro p hp Y hY base hB
      have a0' : Y 12 7 = nI n := (hY _ _ (by decide)).trans a0
      have zb := zbitK s hs p (by omega)
      have km := hmb Y hY p (by omega)
      have no : (∀ j, j < 256 → zsa mb s (f s) j (p + 1) = zsa mb s (f s) j p) → ∃ Y', zag S Y' ∧ (∀ j, j < 256 → Y' 290 j = nI (base j + zsa mb s (f s) j n)) ∧ zgo 100 30 [.ref 288, .int (nI k), .int (nI d), .int (nI s), .int (nI (f s)), .int (nI (p + 1))] [] zRc Y L = zgo 100 91 [.ref 288, .int (nI k), .int (nI d), .int (nI s), .int (nI (f s)), .int (nI n)] [] zRc Y' L := fun h => ih (p + 1) (by omega) Y hY base (fun j hj => by rw [h j hj]; exact hB j hj)
      rcases (show s / 2 ^ p % 2 = 0 ∨ s / 2 ^ p % 2 = 1 by omega) with hc | hc
      · cases hm : mb p
        · obtain ⟨Y', y1, y2, y3⟩ := no (fun j _ => by rw [zsa_s, if_neg (fun h => by rw [hm] at h; exact absurd h.2.1 (by decide)), Nat.add_zero])
          refine ⟨Y', y1, y2, ?_⟩
          rw [hc] at zb
          rw [hm] at km
          rw [← y3, s100_30]
          simp (config := {maxSteps := 1000000}) (disch := omega) only [↓reduceIte, Int32.reduceLT, Int32.reduceLE, Int32.reduceToNatClampNeg, Int32.reduceAdd, Int32.reduceSub, Int32.reduceMul, Nat.reduceLeDiff, zEL, zup_ne, zup_eq, zT0, zT1, zT2, if_true, if_false, zneq_f, true_and, and_true, false_and, and_false, zKL, eq_self, Nat.reduceEqDiff, zite0, ite_not, zaddr, zaddl, zputr, zsb1, zsb2, zsb0, zsbm, znm1, gX, gM, s100_32, s100_35, s100_37, s100_38, s100_41, s100_44, s100_47, s100_50, s100_51, s100_53, s100_54, s100_55, s100_56, s100_59, s100_60, s100_61, s100_63, s100_64, s100_67, s100_70, s100_71, s100_74, s100_75, s100_76, s100_78, s100_79, s100_80, s100_82, s100_85, s100_88, z1, a0', zb, km, Bool.false_eq_true]
        · obtain ⟨h1, h2⟩ := zw0 s hs p (by omega) hc
          have zo := zwor s hs p (by omega) hc
          have hB1 := hB (s + 2 ^ p) h1
          have hp0 : 0 < 2 ^ p := Nat.pow_pos (by decide)
          obtain ⟨Y', y1, y2, y3⟩ := ih (p + 1) (by omega) (zup Y 290 (s + 2 ^ p) (nI (base (s + 2 ^ p) + zsa mb s (f s) (s + 2 ^ p) p) + nI (f s))) (zag_up hY) base (fun j hj => by
            rw [zsa_s]
            by_cases e : j = s + 2 ^ p
            · rw [zup_eq rfl e, if_pos ⟨hc, hm, e⟩, e, zadd_nI, Nat.add_assoc]
            · rw [zup_ne (by omega), if_neg (fun h => e h.2.2), Nat.add_zero]
              exact hB j hj)
          refine ⟨Y', y1, y2, ?_⟩
          rw [hc] at zb
          rw [hm] at km
          have za := zaddr (S := Y) (k := 290) (n := 256) (a := s + 2 ^ p) (v := nI (f s)) h1 (by decide)
          rw [hB1] at za
          rw [← y3, s100_30]
          simp (config := {maxSteps := 1000000}) (disch := omega) only [↓reduceIte, Int32.reduceLT, Int32.reduceLE, Int32.reduceToNatClampNeg, Int32.reduceAdd, Int32.reduceSub, Int32.reduceMul, Nat.reduceLeDiff, zEL, zup_ne, zup_eq, zT0, zT1, zT2, if_true, if_false, zneq_f, true_and, and_true, false_and, and_false, zKL, eq_self, Nat.reduceEqDiff, zite0, ite_not, zaddr, zaddl, zputr, zsb1, zsb2, zsb0, zsbm, znm1, gX, gM, s100_32, s100_35, s100_37, s100_38, s100_41, s100_44, s100_47, s100_50, s100_51, s100_53, s100_54, s100_55, s100_56, s100_59, s100_60, s100_61, s100_63, s100_64, s100_67, s100_70, s100_71, s100_74, s100_75, s100_76, s100_78, s100_79, s100_80, s100_82, s100_85, s100_88, z1, a0', zb, km, zo, za]
      · obtain ⟨Y', y1, y2, y3⟩ := no (fun j _ => by rw [zsa_s, if_neg (fun h => by have := h.1; omega), Nat.add_zero])
        refine ⟨Y', y1, y2, ?_⟩
        rw [hc] at zb
        rw [← y3, s100_30]
        simp (config := {maxSteps := 1000000}) (disch := omega) only [↓reduceIte, Int32.reduceLT, Int32.reduceLE, Int32.reduceToNatClampNeg, Int32.reduceAdd, Int32.reduceSub, Int32.reduceMul, Nat.reduceLeDiff, zEL, zup_ne, zup_eq, zT0, zT1, zT2, if_true, if_false, zneq_f, true_and, and_true, false_and, and_false, zKL, eq_self, Nat.reduceEqDiff, zite0, ite_not, zaddr, zaddl, zputr, zsb1, zsb2, zsb0, zsbm, znm1, gX, gM, s100_32, s100_35, s100_37, s100_38, s100_41, s100_44, s100_47, s100_50, s100_51, s100_53, s100_54, s100_55, s100_56, s100_59, s100_60, s100_61, s100_63, s100_64, s100_67, s100_70, s100_71, s100_74, s100_75, s100_76, s100_78, s100_79, s100_80, s100_82, s100_85, s100_88, z1, a0', zb]
  -- the sets, downwards
  have outer : ∀ s, s ≤ 256 → ∀ Y, zag S Y → (∀ j, j < 256 → Y 290 j = nI (if j < s then f j else zsq mb f s j n)) → ∀ u v : Value, ∃ X', zag S X' ∧ (∀ j, j < 256 → X' 290 j = nI (zsp mb f j n)) ∧ zgo 100 4 [.ref 288, .int (nI k), .int (nI d), .int (nI s - 1), u, v] [] zRc Y L = some (none, zRc, X', L) := by
    intro s
    induction s with
    | zero =>
      intro _ Y hY hB u v
      refine ⟨Y, hY, fun j hj => ?_, ?_⟩
      · rw [hB j hj, if_neg (Nat.not_lt_zero _), zsq_0]
      · have e1 : (nI 0 - 1 < 0) = True := eq_true (by decide)
        rw [s100_4]
        simp (config := {maxSteps := 1000000}) (disch := omega) only [↓reduceIte, Int32.reduceLT, Int32.reduceLE, Int32.reduceToNatClampNeg, Int32.reduceAdd, Int32.reduceSub, Int32.reduceMul, Nat.reduceLeDiff, zEL, zup_ne, zup_eq, zT0, zT1, zT2, if_true, if_false, gX, gM, s100_5, s100_97, e1]
    | succ s ih =>
      intro hs Y hY hB u v
      have e0 : nI (s + 1) - 1 = nI s := zsb1
      have hl : (nI s < 0) = False := eq_false (znI_neg (by omega))
      have hBs : Y 290 s = nI (f s) := by rw [hB s (by omega), if_pos (Nat.lt_succ_self _)]
      have e2 : nI s + -1 = nI s - 1 := by rw [Int32.sub_eq_add_neg]
      have zr := zrd_lt (S := Y) (c := 290) (n := 256) (a := s) (by omega) (by decide)
      rw [hBs] at zr
      have zp := zputr (S := Y) (k := 290) (n := 256) (a := s) (v := 0) (by omega) (by decide)
      have hY2 : zag S (zup Y 290 s 0) := zag_up hY
      have hB2 : ∀ j, j < 256 → zup Y 290 s 0 290 j = nI ((if j < s then f j else if j = s then 0 else zsq mb f (s + 1) j n) + zsa mb s (f s) j 0) := fun j hj => by
        show _ = nI ((if j < s then f j else if j = s then 0 else zsq mb f (s + 1) j n) + 0)
        rw [Nat.add_zero]
        by_cases e : j = s
        · rw [zup_eq rfl e, if_neg (by omega), if_pos e]
          try rfl
        · rw [zup_ne (by omega), hB j hj]
          by_cases h : j < s
          · rw [if_pos h, if_pos (by omega)]
          · rw [if_neg h, if_neg e, if_neg (by omega)]
      have fin : ∀ Y', zag S Y' → (∀ j, j < 256 → Y' 290 j = nI ((if j < s then f j else if j = s then 0 else zsq mb f (s + 1) j n) + zsa mb s (f s) j n)) → ∀ p, ∃ X', zag S X' ∧ (∀ j, j < 256 → X' 290 j = nI (zsp mb f j n)) ∧ zgo 100 91 [.ref 288, .int (nI k), .int (nI d), .int (nI s), .int (nI (f s)), .int p] [] zRc Y' L = some (none, zRc, X', L) := fun Y' y1 y2 p => by
        obtain ⟨X', x1, x2, x3⟩ := ih (by omega) Y' y1 (fun j hj => by
          rw [y2 j hj]
          by_cases h : j < s
          · rw [if_pos h, if_pos h]
            have : ∀ m, zsa mb s (f s) j m = 0 := fun m => by
              induction m with
              | zero => rfl
              | succ m im =>
                rw [zsa_s, im, if_neg]
                rintro ⟨-, -, h3⟩
                have hp0 : 0 < 2 ^ m := Nat.pow_pos (by decide)
                omega
            rw [this, Nat.add_zero]
          · rw [if_neg h, if_neg h]
            by_cases e : j = s
            · subst e
              rw [if_pos rfl]
              have := zsq_step (mb := mb) (f := f) hj hj n hn
              rw [zsq_self hj n hn] at this
              rw [zsq_self hj n hn]
              congr 1
              omega
            · rw [if_neg e, zsq_step (show s < 256 by omega) hj n hn]) (.int (nI (f s))) (.int p)
        refine ⟨X', x1, x2, ?_⟩
        rw [← x3]
        simp (config := {maxSteps := 1000000}) (disch := omega) only [↓reduceIte, Int32.reduceLT, Int32.reduceLE, Int32.reduceToNatClampNeg, Int32.reduceAdd, Int32.reduceSub, Int32.reduceMul, Nat.reduceLeDiff, zEL, zup_ne, zup_eq, zT0, zT1, zT2, if_true, if_false, s100_91, s100_94, e2]
      have start : zgo 100 4 [.ref 288, .int (nI k), .int (nI d), .int (nI (s + 1) - 1), u, v] [] zRc Y L = zgo 100 30 [.ref 288, .int (nI k), .int (nI d), .int (nI s), .int (nI (f s)), .int (nI 0)] [] zRc (zup Y 290 s 0) L := by
        rw [e0, s100_4]
        simp (config := {maxSteps := 1000000}) (disch := omega) only [↓reduceIte, Int32.reduceLT, Int32.reduceLE, Int32.reduceToNatClampNeg, Int32.reduceAdd, Int32.reduceSub, Int32.reduceMul, Nat.reduceLeDiff, zEL, zup_ne, zup_eq, zT0, zT1, zT2, if_true, if_false, gX, gM, s100_5, s100_8, s100_9, s100_12, s100_13, s100_16, s100_18, s100_19, s100_22, s100_23, s100_24, s100_27, s100_28, hl, zr, zp]
        all_goals rfl
      by_cases hz : f s = 0
      · obtain ⟨X', x1, x2, x3⟩ := fin (zup Y 290 s 0) hY2 (fun j hj => by
          rw [hB2 j hj, hz]
          have : ∀ m, zsa mb s 0 j m = 0 := fun m => by
            induction m with
            | zero => rfl
            | succ m im =>
              rw [zsa_s, im]
              split <;> rfl
          rw [this, this]) 0
        refine ⟨X', x1, x2, ?_⟩
        have z1 : (nI (f s) ≤ 0) = True := (zpos (by have := hf s; omega)).trans (eq_true hz)
        rw [start, ← x3, s100_30]
        simp (config := {maxSteps := 1000000}) (disch := omega) only [↓reduceIte, Int32.reduceLT, Int32.reduceLE, Int32.reduceToNatClampNeg, Int32.reduceAdd, Int32.reduceSub, Int32.reduceMul, Nat.reduceLeDiff, zEL, zup_ne, zup_eq, zT0, zT1, zT2, if_true, if_false, s100_32, z1]
        all_goals rfl
      · obtain ⟨Y', y1, y2, y3⟩ := inner s (by omega) (by omega) n 0 (by omega) (zup Y 290 s 0) hY2 _ hB2
        obtain ⟨X', x1, x2, x3⟩ := fin Y' y1 y2 (nI n)
        exact ⟨X', x1, x2, by rw [start, y3, x3]⟩
  obtain ⟨X', x1, x2, x3⟩ := outer 256 (Nat.le_refl _) X hX (fun j hj => by rw [if_pos hj]; exact hX0 j hj) (.retAddr 0) (.retAddr 0)
  refine ⟨X', x1, x2, ?_⟩
  have e : nI 256 - 1 = 255 := by decide
  rw [e] at x3
  unfold zcall
  simp (config := {maxSteps := 1000000}) (disch := omega) only [↓reduceIte, Int32.reduceLT, Int32.reduceLE, Int32.reduceToNatClampNeg, Int32.reduceAdd, Int32.reduceSub, Int32.reduceMul, Nat.reduceLeDiff, zEL, zup_ne, zup_eq, zT0, zT1, zT2, if_true, if_false, ze_100, s100_0, s100_3]
  exact x3
/-- all prints but one are spread -/
theorem t99 {d n pn but : Nat} {v : Int32} {mb : Nat → Nat → Bool} (hn : n ≤ 8) (hpn : pn ≤ 6) (a0 : S 12 7 = nI n) (a3 : S 51 7 = nI pn) (hmb : ∀ k, k < pn → ∀ X, zag S X → ∀ p, p < n → zcall 101 [.ref 288, .int (nI k), .int (nI p), .int (nI d)] zRc X L = some (some (.int (if mb k p = true then 1 else 0)), zRc, X, L)) (hv : ∀ k, k < pn → (nI k = v) = (k = but)) : ∃ X', zag S X' ∧ (∀ j, j < 256 → X' 290 j = nI (zsk mb n but pn j)) ∧ zcall 99 [.ref 288, .int (nI d), .int v] zRc S L = some (none, zRc, X', L) := by
  have key : ∀ q k, k + q = pn → ∀ X, zag S X → (∀ j, j < 256 → X 290 j = nI (zsk mb n but k j)) → ∃ X', zag S X' ∧ (∀ j, j < 256 → X' 290 j = nI (zsk mb n but pn j)) ∧ zgo 99 18 [.ref 288, .int (nI d), .int v, .int (nI k)] [] zRc X L = some (none, zRc, X', L) := by
    intro q
    induction q with
    | zero =>
      intro k hk X hX hX0
      have hk : k = pn := by omega
      subst hk
      refine ⟨X, hX, hX0, ?_⟩
      have a3' : X 51 7 = nI k := (hX _ _ (by decide)).trans a3
      rw [s99_18]
      simp (config := {maxSteps := 1000000}) (disch := omega) only [↓reduceIte, Int32.reduceLT, Int32.reduceLE, Int32.reduceToNatClampNeg, Int32.reduceAdd, Int32.reduceSub, Int32.reduceMul, Nat.reduceLeDiff, zEL, zup_ne, zup_eq, zT0, zT1, zT2, if_true, if_false, gX, gM, s99_19, s99_20, s99_23, s99_26, s99_29, s99_32, s99_33, s99_34, s99_37, s99_38, s99_39, s99_40, s99_43, s99_46, s99_49, a3']
    | succ q ih =>
      intro k hk X hX hX0
      have a3' : X 51 7 = nI pn := (hX _ _ (by decide)).trans a3
      have hv1 := hv k (by omega)
      by_cases hc : k = but
      · obtain ⟨X', x1, x2, x3⟩ := ih (k + 1) (by omega) X hX (fun j hj => by rw [zsk_s, if_pos hc]; exact hX0 j hj)
        have hv1 : (nI k = v) = True := hv1.trans (eq_true hc)
        refine ⟨X', x1, x2, ?_⟩
        rw [← x3, s99_18]
        simp (config := {maxSteps := 1000000}) (disch := omega) only [↓reduceIte, Int32.reduceLT, Int32.reduceLE, Int32.reduceToNatClampNeg, Int32.reduceAdd, Int32.reduceSub, Int32.reduceMul, Nat.reduceLeDiff, zEL, zup_ne, zup_eq, zT0, zT1, zT2, if_true, if_false, gX, gM, s99_19, s99_20, s99_23, s99_26, s99_29, s99_32, s99_33, s99_34, s99_37, s99_38, s99_39, s99_40, s99_43, s99_46, s99_49, a3', hv1]
      · have hv1 : (nI k = v) = False := hv1.trans (eq_false hc)
        have hB : ∀ s, zsk mb n but k s ≤ 1000000 := fun s => by
          have h1 := zsk_le (mb := mb) (but := but) hn k s
          have h2 : 8 ^ k ≤ 8 ^ 6 := Nat.pow_le_pow_right (by decide) (by omega)
          omega
        obtain ⟨Y, y1, y2, y3⟩ := t100 (S := S) (L := L) (k := k) (d := d) (n := n) (mb := mb k) (f := zsk mb n but k) hn a0 (hmb k (by omega)) hB X hX hX0
        obtain ⟨X', x1, x2, x3⟩ := ih (k + 1) (by omega) Y y1 (fun j hj => by rw [zsk_s, if_neg hc]; exact y2 j hj)
        refine ⟨X', x1, x2, ?_⟩
        rw [← x3, s99_18]
        simp (config := {maxSteps := 1000000}) (disch := omega) only [↓reduceIte, Int32.reduceLT, Int32.reduceLE, Int32.reduceToNatClampNeg, Int32.reduceAdd, Int32.reduceSub, Int32.reduceMul, Nat.reduceLeDiff, zEL, zup_ne, zup_eq, zT0, zT1, zT2, if_true, if_false, gX, gM, s99_19, s99_20, s99_23, s99_26, s99_29, s99_32, s99_33, s99_34, s99_37, s99_38, s99_39, s99_40, s99_43, s99_46, s99_49, a3', hv1, y3]
  have zp : zput (zclear S 290 256) 290 256 0 1 = zup (zclear S 290 256) 290 0 1 := zputr (a := 0) (by decide) (by decide)
  obtain ⟨X', x1, x2, x3⟩ := key pn 0 (by omega) (zup (zclear S 290 256) 290 0 1) (fun j k hj => by rw [zup_ne (by omega), zclear_ne hj]) (fun j hj => by
    show _ = nI (if j = 0 then 1 else 0)
    by_cases e : j = 0
    · rw [zup_eq rfl e, if_pos e]
      try rfl
    · rw [zup_ne (by omega), zclear_eq rfl hj, if_neg e]
      try rfl)
  refine ⟨X', x1, x2, ?_⟩
  unfold zcall
  simp (config := {maxSteps := 1000000}) (disch := omega) only [↓reduceIte, Int32.reduceLT, Int32.reduceLE, Int32.reduceToNatClampNeg, Int32.reduceAdd, Int32.reduceSub, Int32.reduceMul, Nat.reduceLeDiff, zEL, zup_ne, zup_eq, zT0, zT1, zT2, if_true, if_false, gX, gM, ze_99, s99_0, s99_1, s99_4, s99_7, s99_8, s99_11, s99_12, s99_13, s99_16, s99_17, zp]
  exact x3
/-- ways: of the class -/
theorem t96 {d n pn : Nat} {mb : Nat → Nat → Bool} (hn : n ≤ 8) (hpn : pn ≤ 6) (a0 : S 12 7 = nI n) (a3 : S 51 7 = nI pn) (hmb : ∀ k, k < pn → ∀ X, zag S X → ∀ p, p < n → zcall 101 [.ref 288, .int (nI k), .int (nI p), .int (nI d)] zRc X L = some (some (.int (if mb k p = true then 1 else 0)), zRc, X, L)) : ∃ X', zag S X' ∧ zcall 96 [.ref 288, .int (nI d)] zRc S L = some (some (.int (nI (zwsum (zsk mb n 1000 pn) 256))), zRc, X', L) := by
  obtain ⟨X', x1, x2, x3⟩ := t99 (v := -1) (but := 1000) hn hpn a0 a3 hmb (fun k hk => by rw [znm1 (by omega)]; exact (eq_false (by omega)).symm)
  have key : ∀ q s, s + q = 256 → zgo 96 10 [.ref 288, .int (nI d), .int (nI (zwsum (zsk mb n 1000 pn) s)), .int (nI s)] [] zRc X' L = some (some (.int (nI (zwsum (zsk mb n 1000 pn) 256))), zRc, X', L) := by
    intro q
    induction q with
    | zero =>
      intro s hs
      have hk : s = 256 := by omega
      subst hk
      have e : ((256 : Int32) ≤ nI 256) = True := eq_true (by decide)
      rw [s96_10]
      simp (config := {maxSteps := 1000000}) (disch := omega) only [↓reduceIte, Int32.reduceLT, Int32.reduceLE, Int32.reduceToNatClampNeg, Int32.reduceAdd, Int32.reduceSub, Int32.reduceMul, Nat.reduceLeDiff, zEL, zup_ne, zup_eq, zT0, zT1, zT2, if_true, if_false, s96_11, s96_14, s96_17, s96_18, s96_19, s96_22, s96_23, s96_26, s96_27, s96_28, s96_31, s96_34, s96_35, e]
    | succ q ih =>
      intro s hs
      have e : ((256 : Int32) ≤ nI s) = False := eq_false (by rw [show (256 : Int32) = nI 256 from rfl, znI_le (by omega) (by omega)]; omega)
      have zr := zrd_lt (S := X') (c := 290) (n := 256) (a := s) (by omega) (by decide)
      rw [x2 s (by omega)] at zr
      have za : nI (zwsum (zsk mb n 1000 pn) s) + nI (zsk mb n 1000 pn s) = nI (zwsum (zsk mb n 1000 pn) (s + 1)) := zadd_nI
      rw [← ih (s + 1) (by omega), s96_10]
      simp (config := {maxSteps := 1000000}) (disch := omega) only [↓reduceIte, Int32.reduceLT, Int32.reduceLE, Int32.reduceToNatClampNeg, Int32.reduceAdd, Int32.reduceSub, Int32.reduceMul, Nat.reduceLeDiff, zEL, zup_ne, zup_eq, zT0, zT1, zT2, if_true, if_false, gX, s96_11, s96_14, s96_17, s96_18, s96_19, s96_22, s96_23, s96_26, s96_27, s96_28, s96_31, s96_34, s96_35, e, zr, za]
  have := key 256 0 (by omega)
  refine ⟨X', x1, ?_⟩
  unfold zcall
  simp (config := {maxSteps := 1000000}) (disch := omega) only [↓reduceIte, Int32.reduceLT, Int32.reduceLE, Int32.reduceToNatClampNeg, Int32.reduceAdd, Int32.reduceSub, Int32.reduceMul, Nat.reduceLeDiff, zEL, zup_ne, zup_eq, zT0, zT1, zT2, if_true, if_false, gX, ze_96, s96_0, s96_1, s96_2, s96_3, s96_6, s96_7, s96_8, s96_9, x3]
  exact this
/-- is one left free: of the class -/
theorem t98 {p : Nat} {f : Nat → Nat} (hp : p < 8) (hf : ∀ s, f s ≤ 1000000) (hX : ∀ j, j < 256 → S 290 j = nI (f j)) : zcall 98 [.ref 288, .int (nI p)] zRc S L = some (some (.int (if zsome (fun s => decide (s / 2 ^ p % 2 = 0 ∧ 0 < f s)) 256 = true then 1 else 0)), zRc, S, L) := by
  obtain ⟨g, hg⟩ : ∃ g : Nat → Bool, g = fun s => decide (s / 2 ^ p % 2 = 0 ∧ 0 < f s) := ⟨_, rfl⟩
  have hgs : ∀ s, g s = decide (s / 2 ^ p % 2 = 0 ∧ 0 < f s) := fun s => by rw [hg]
  rw [← hg]
  have key : ∀ q s, s + q = 256 → zsome g s = false → zgo 98 2 [.ref 288, .int (nI p), .int (nI s)] [] zRc S L = some (some (.int (if zsome g 256 = true then 1 else 0)), zRc, S, L) := by
    intro q
    induction q with
    | zero =>
      intro s hs hz
      have hk : s = 256 := by omega
      subst hk
      have e : ((256 : Int32) ≤ nI 256) = True := eq_true (by decide)
      rw [s98_2, hz]
      simp (config := {maxSteps := 1000000}) (disch := omega) only [↓reduceIte, Int32.reduceLT, Int32.reduceLE, Int32.reduceToNatClampNeg, Int32.reduceAdd, Int32.reduceSub, Int32.reduceMul, Nat.reduceLeDiff, zEL, zup_ne, zup_eq, zT0, zT1, zT2, if_true, if_false, s98_3, s98_6, s98_9, s98_10, s98_11, s98_12, s98_13, s98_14, s98_17, s98_18, s98_21, s98_22, s98_25, s98_28, s98_29, s98_30, s98_33, s98_36, s98_37, e]
      all_goals rfl
    | succ q ih =>
      intro s hs hz
      have e : ((256 : Int32) ≤ nI s) = False := eq_false (by rw [show (256 : Int32) = nI 256 from rfl, znI_le (by omega) (by omega)]; omega)
      have zb := zbitK s (by omega) p hp
      have zr := zrd_lt (S := S) (c := 290) (n := 256) (a := s) (by omega) (by decide)
      rw [hX s (by omega)] at zr
      have z1 := zpos (x := f s) (by have := hf s; omega)
      have go : g s = false → zgo 98 2 [.ref 288, .int (nI p), .int (nI (s + 1))] [] zRc S L = some (some (.int (if zsome g 256 = true then 1 else 0)), zRc, S, L) := fun h => ih (s + 1) (by omega) (by show (zsome g s || g s) = false; rw [hz, h]; rfl)
      rw [s98_2]
      rcases (show s / 2 ^ p % 2 = 0 ∨ s / 2 ^ p % 2 = 1 by omega) with hc | hc
      · rw [hc] at zb
        by_cases h0 : f s = 0
        · have z1 : (nI (f s) ≤ 0) = True := z1.trans (eq_true h0)
          rw [← go (by rw [hgs]; exact decide_eq_false (fun h => by omega))]
          simp (config := {maxSteps := 1000000}) (disch := omega) only [↓reduceIte, Int32.reduceLT, Int32.reduceLE, Int32.reduceToNatClampNeg, Int32.reduceAdd, Int32.reduceSub, Int32.reduceMul, Nat.reduceLeDiff, zEL, zup_ne, zup_eq, zT0, zT1, zT2, if_true, if_false, zneq_f, true_and, and_true, false_and, and_false, zKL, eq_self, Nat.reduceEqDiff, zite0, ite_not, zaddr, zaddl, zputr, zsb1, zsb2, zsb0, zsbm, znm1, gX, s98_3, s98_6, s98_9, s98_10, s98_11, s98_12, s98_13, s98_14, s98_17, s98_18, s98_21, s98_22, s98_25, s98_28, s98_29, s98_30, s98_33, s98_36, s98_37, e, zb, zr, z1]
        · have z1 : (nI (f s) ≤ 0) = False := z1.trans (eq_false h0)
          have hn := zsome_le (bt := g) (k := s + 1) (by show (zsome g s || g s) = true; rw [hgs, decide_eq_true ⟨hc, by omega⟩, Bool.or_true]) q
          rw [show s + 1 + q = 256 by omega] at hn
          rw [hn]
          simp (config := {maxSteps := 1000000}) (disch := omega) only [↓reduceIte, Int32.reduceLT, Int32.reduceLE, Int32.reduceToNatClampNeg, Int32.reduceAdd, Int32.reduceSub, Int32.reduceMul, Nat.reduceLeDiff, zEL, zup_ne, zup_eq, zT0, zT1, zT2, if_true, if_false, zneq_f, true_and, and_true, false_and, and_false, zKL, eq_self, Nat.reduceEqDiff, zite0, ite_not, zaddr, zaddl, zputr, zsb1, zsb2, zsb0, zsbm, znm1, gX, s98_3, s98_6, s98_9, s98_10, s98_11, s98_12, s98_13, s98_14, s98_17, s98_18, s98_21, s98_22, s98_25, s98_28, s98_29, s98_30, s98_33, s98_36, s98_37, e, zb, zr, z1]
          all_goals rfl
      · rw [hc] at zb
        rw [← go (by rw [hgs]; exact decide_eq_false (fun h => by omega))]
        simp (config := {maxSteps := 1000000}) (disch := omega) only [↓reduceIte, Int32.reduceLT, Int32.reduceLE, Int32.reduceToNatClampNeg, Int32.reduceAdd, Int32.reduceSub, Int32.reduceMul, Nat.reduceLeDiff, zEL, zup_ne, zup_eq, zT0, zT1, zT2, if_true, if_false, zneq_f, true_and, and_true, false_and, and_false, zKL, eq_self, Nat.reduceEqDiff, zite0, ite_not, zaddr, zaddl, zputr, zsb1, zsb2, zsb0, zsbm, znm1, gX, s98_3, s98_6, s98_9, s98_10, s98_11, s98_12, s98_13, s98_14, s98_17, s98_18, s98_21, s98_22, s98_25, s98_28, s98_29, s98_30, s98_33, s98_36, s98_37, e, zb]
  have := key 256 0 (by omega) rfl
  unfold zcall
  simp (config := {maxSteps := 1000000}) (disch := omega) only [↓reduceIte, Int32.reduceLT, Int32.reduceLE, Int32.reduceToNatClampNeg, Int32.reduceAdd, Int32.reduceSub, Int32.reduceMul, Nat.reduceLeDiff, zEL, zup_ne, zup_eq, zT0, zT1, zT2, if_true, if_false, ze_98, s98_0, s98_1]
  exact this
/-- those that are so, as bits -/
def zow (ok : Nat → Bool) : Nat → Int32
  | 0 => 0
  | p + 1 => if ok p = true then zow ok p ||| ((1 : Int32) <<< (nI p &&& 31)) else zow ok p
theorem zsome_iff {g : Nat → Bool} : ∀ n, zsome g n = true ↔ ∃ s, s < n ∧ g s = true := by
  intro n
  induction n with
  | zero => exact ⟨fun h => Bool.noConfusion (show false = true from h), fun ⟨s, h, _⟩ => absurd h (Nat.not_lt_zero _)⟩
  | succ n ih =>
    show (zsome g n || g n) = true ↔ _
    rw [Bool.or_eq_true, ih]
    constructor
    · rintro (⟨s, h1, h2⟩ | h)
      · exact ⟨s, by omega, h2⟩
      · exact ⟨n, by omega, h⟩
    · rintro ⟨s, h1, h2⟩
      rcases (show s < n ∨ s = n by omega) with h | rfl
      · exact .inl ⟨s, h, h2⟩
      · exact .inr h2
theorem t97 {d n pn pr : Nat} {mb : Nat → Nat → Bool} {ok : Nat → Bool} (hn : n ≤ 8) (hpn : pn ≤ 6) (hpr : pr < pn) (a0 : S 12 7 = nI n) (a3 : S 51 7 = nI pn) (hmb : ∀ k, k < pn → ∀ X, zag S X → ∀ p, p < n → zcall 101 [.ref 288, .int (nI k), .int (nI p), .int (nI d)] zRc X L = some (some (.int (if mb k p = true then 1 else 0)), zRc, X, L)) (hok : ∀ p, p < n → (ok p = true ↔ mb pr p = true ∧ ∃ s, s < 256 ∧ s / 2 ^ p % 2 = 0 ∧ 0 < zsk mb n pr pn s)) : ∃ X', zag S X' ∧ zcall 97 [.ref 288, .int (nI pr), .int (nI d)] zRc S L = some (some (.int (zow ok n)), zRc, X', L) := by
  obtain ⟨X', x1, x2, x3⟩ := t99 (v := nI pr) (but := pr) hn hpn a0 a3 hmb (fun k hk => propext (znI_inj (by omega) (by omega)))
  have a0' : X' 12 7 = nI n := (x1 _ _ (by decide)).trans a0
  have hB : ∀ s, zsk mb n pr pn s ≤ 1000000 := fun s => by
    have h1 := zsk_le (mb := mb) (but := pr) hn pn s
    have h2 : 8 ^ pn ≤ 8 ^ 6 := Nat.pow_le_pow_right (by decide) hpn
    omega
  have key : ∀ q p, p + q = n → zgo 97 11 [.ref 288, .int (nI pr), .int (nI d), .int (zow ok p), .int (nI p)] [] zRc X' L = some (some (.int (zow ok n)), zRc, X', L) := by
    intro q
    induction q with
    | zero =>
      intro p hp
      have hk : p = n := by omega
      subst hk
      rw [s97_11]
      simp (config := {maxSteps := 1000000}) (disch := omega) only [↓reduceIte, Int32.reduceLT, Int32.reduceLE, Int32.reduceToNatClampNeg, Int32.reduceAdd, Int32.reduceSub, Int32.reduceMul, Nat.reduceLeDiff, zEL, zup_ne, zup_eq, zT0, zT1, zT2, if_true, if_false, gX, gM, s97_13, s97_14, s97_17, s97_20, s97_23, s97_26, s97_27, s97_28, s97_30, s97_31, s97_34, s97_37, s97_38, s97_40, s97_43, s97_46, s97_47, s97_48, s97_50, s97_51, s97_52, s97_53, s97_56, s97_59, s97_60, a0']
    | succ q ih =>
      intro p hp
      have km := hmb pr hpr X' x1 p (by omega)
      have kl := t98 (S := X') (L := L) (p := p) (by omega) hB x2
      have ho := hok p (by omega)
      have i1 := ih (p + 1) (by omega)
      rw [show zow ok (p + 1) = if ok p = true then zow ok p ||| ((1 : Int32) <<< (nI p &&& 31)) else zow ok p from rfl] at i1
      by_cases h1 : mb pr p = true
      · by_cases h2 : ∃ s, s < 256 ∧ s / 2 ^ p % 2 = 0 ∧ 0 < zsk mb n pr pn s
        · have h3 : zsome (fun s => decide (s / 2 ^ p % 2 = 0 ∧ 0 < zsk mb n pr pn s)) 256 = true := by
            obtain ⟨s, e1, e2, e3⟩ := h2
            exact (zsome_iff 256).mpr ⟨s, e1, decide_eq_true ⟨e2, e3⟩⟩
          rw [if_pos (ho.mpr ⟨h1, h2⟩)] at i1
          rw [if_pos h1] at km
          rw [if_pos h3] at kl
          rw [← i1, s97_11]
          simp (config := {maxSteps := 1000000}) (disch := omega) only [↓reduceIte, Int32.reduceLT, Int32.reduceLE, Int32.reduceToNatClampNeg, Int32.reduceAdd, Int32.reduceSub, Int32.reduceMul, Nat.reduceLeDiff, zEL, zup_ne, zup_eq, zT0, zT1, zT2, if_true, if_false, zneq_f, true_and, and_true, false_and, and_false, zKL, eq_self, Nat.reduceEqDiff, zite0, ite_not, zaddr, zaddl, zputr, zsb1, zsb2, zsb0, zsbm, znm1, gX, gM, s97_13, s97_14, s97_17, s97_20, s97_23, s97_26, s97_27, s97_28, s97_30, s97_31, s97_34, s97_37, s97_38, s97_40, s97_43, s97_46, s97_47, s97_48, s97_50, s97_51, s97_52, s97_53, s97_56, s97_59, s97_60, a0', km, kl]
        · have h3 : ¬ zsome (fun s => decide (s / 2 ^ p % 2 = 0 ∧ 0 < zsk mb n pr pn s)) 256 = true := fun h => by
            obtain ⟨s, e1, e2⟩ := (zsome_iff 256).mp h
            exact h2 ⟨s, e1, (of_decide_eq_true e2).1, (of_decide_eq_true e2).2⟩
          rw [if_neg (fun h => h2 (ho.mp h).2)] at i1
          rw [if_pos h1] at km
          rw [if_neg h3] at kl
          rw [← i1, s97_11]
          simp (config := {maxSteps := 1000000}) (disch := omega) only [↓reduceIte, Int32.reduceLT, Int32.reduceLE, Int32.reduceToNatClampNeg, Int32.reduceAdd, Int32.reduceSub, Int32.reduceMul, Nat.reduceLeDiff, zEL, zup_ne, zup_eq, zT0, zT1, zT2, if_true, if_false, zneq_f, true_and, and_true, false_and, and_false, zKL, eq_self, Nat.reduceEqDiff, zite0, ite_not, zaddr, zaddl, zputr, zsb1, zsb2, zsb0, zsbm, znm1, gX, gM, s97_13, s97_14, s97_17, s97_20, s97_23, s97_26, s97_27, s97_28, s97_30, s97_31, s97_34, s97_37, s97_38, s97_40, s97_43, s97_46, s97_47, s97_48, s97_50, s97_51, s97_52, s97_53, s97_56, s97_59, s97_60, a0', km, kl]
      · rw [if_neg (fun h => h1 (ho.mp h).1)] at i1
        rw [if_neg h1] at km
        rw [← i1, s97_11]
        simp (config := {maxSteps := 1000000}) (disch := omega) only [↓reduceIte, Int32.reduceLT, Int32.reduceLE, Int32.reduceToNatClampNeg, Int32.reduceAdd, Int32.reduceSub, Int32.reduceMul, Nat.reduceLeDiff, zEL, zup_ne, zup_eq, zT0, zT1, zT2, if_true, if_false, zneq_f, true_and, and_true, false_and, and_false, zKL, eq_self, Nat.reduceEqDiff, zite0, ite_not, zaddr, zaddl, zputr, zsb1, zsb2, zsb0, zsbm, znm1, gX, gM, s97_13, s97_14, s97_17, s97_20, s97_23, s97_26, s97_27, s97_28, s97_30, s97_31, s97_34, s97_37, s97_38, s97_40, s97_43, s97_46, s97_47, s97_48, s97_50, s97_51, s97_52, s97_53, s97_56, s97_59, s97_60, a0', km]
  have := key n 0 (by omega)
  refine ⟨X', x1, ?_⟩
  unfold zcall
  simp (config := {maxSteps := 1000000}) (disch := omega) only [↓reduceIte, Int32.reduceLT, Int32.reduceLE, Int32.reduceToNatClampNeg, Int32.reduceAdd, Int32.reduceSub, Int32.reduceMul, Nat.reduceLeDiff, zEL, zup_ne, zup_eq, zT0, zT1, zT2, if_true, if_false, gX, ze_97, s97_0, s97_1, s97_2, s97_3, s97_6, s97_7, s97_8, s97_9, x3]
  exact this
end ZWB
