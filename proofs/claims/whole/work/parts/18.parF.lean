/-! THE TEXT: LINES: act -/
section ZPF
variable {S Sm S' Sm' : zS} {L Lm L' Lm' : zL} {R : List zE} {n B p q : Nat} {b : Nat → Nat}
/-- the kind of an act by its six WORDS -/
def zka (f0 f1 f2 f3 f4 f5 : Bool) : Int32 := bif f0 then 0 else bif f1 then 1 else bif f2 then 2 else bif f3 then 3 else bif f4 then 4 else bif f5 then 5 else -1
def zkk (v : Int32) : Prop := v = 0 ∨ v = 1 ∨ v = 2 ∨ v = 3 ∨ v = 4 ∨ v = 5
theorem zka_r : ∀ f0 f1 f2 f3 f4 f5 : Bool, zka f0 f1 f2 f3 f4 f5 = -1 ∨ ((f0 || f1 || f2 || f3 || f4 || f5) = true ∧ (zka f0 f1 f2 f3 f4 f5 = 0 ∨ zka f0 f1 f2 f3 f4 f5 = 1 ∨ zka f0 f1 f2 f3 f4 f5 = 2 ∨ zka f0 f1 f2 f3 f4 f5 = 3 ∨ zka f0 f1 f2 f3 f4 f5 = 4 ∨ zka f0 f1 f2 f3 f4 f5 = 5)) := by decide
theorem zW_1 {W : List Nat} (h : zW b n p q W = true) : zkN b n p q = 1 := by
  unfold zW at h
  rw [Bool.and_eq_true, decide_eq_true_eq] at h
  exact h.1
theorem t1_m1 : zcall 1 [.int (-1)] zRc S L = some (some (.int 0), zRc, S, L) := by
  have h0 : ((-1 : Int32) = 0) = False := by decide
  have h1 : ((-1 : Int32) = 1) = False := by decide
  have h2 : ((-1 : Int32) = 2) = False := by decide
  unfold zcall
  simp (config := {maxSteps := 1000000}) (disch := omega) only [↓reduceIte, Int32.reduceLT, Int32.reduceLE, Int32.reduceToNatClampNeg, Int32.reduceAdd, Int32.reduceSub, Int32.reduceMul, Nat.reduceLeDiff, zEL, zup_ne, zup_eq, zT0, zT1, zT2, if_true, if_false, ze_1, s1_0, s1_1, s1_4, s1_5, s1_6, s1_9, s1_10, s1_11, s1_14, s1_15, s1_18, s1_19, h0, h1, h2]
theorem m173_m1 : zcall 173 [.int (-1), .int 0, .int 2] R S L = some (some (.int 0), R, S, L) := by
  have h0 : ((-1 : Int32) < 0) = True := by decide
  have h1 : ((0 : Int32) ≤ (-1)) = False := by decide
  have h2 : ((-1 : Int32) ≤ 2) = True := by decide
  have h3 : ((2 : Int32) < (-1)) = False := by decide
  unfold zcall
  simp (config := {maxSteps := 1000000}) (disch := omega) only [↓reduceIte, Int32.reduceLT, Int32.reduceLE, Int32.reduceToNatClampNeg, Int32.reduceAdd, Int32.reduceSub, Int32.reduceMul, Nat.reduceLeDiff, zEL, zup_ne, zup_eq, zT0, zT1, zT2, if_true, if_false, ze_173, s173_0, s173_1, s173_2, s173_5, s173_6, s173_7, s173_10, s173_11, s173_14, s173_15, h0, h1, h2, h3]
theorem t1_0 : zcall 1 [.int (0)] zRc S L = some (some (.int 1), zRc, S, L) := by
  have h0 : ((0 : Int32) = 0) = True := by decide
  have h1 : ((0 : Int32) = 1) = False := by decide
  have h2 : ((0 : Int32) = 2) = False := by decide
  unfold zcall
  simp (config := {maxSteps := 1000000}) (disch := omega) only [↓reduceIte, Int32.reduceLT, Int32.reduceLE, Int32.reduceToNatClampNeg, Int32.reduceAdd, Int32.reduceSub, Int32.reduceMul, Nat.reduceLeDiff, zEL, zup_ne, zup_eq, zT0, zT1, zT2, if_true, if_false, ze_1, s1_0, s1_1, s1_4, s1_5, s1_6, s1_9, s1_10, s1_11, s1_14, s1_15, s1_18, s1_19, h0, h1, h2]
theorem m173_0 : zcall 173 [.int (0), .int 0, .int 2] R S L = some (some (.int 1), R, S, L) := by
  have h0 : ((0 : Int32) < 0) = False := by decide
  have h1 : ((0 : Int32) ≤ (0)) = True := by decide
  have h2 : ((0 : Int32) ≤ 2) = True := by decide
  have h3 : ((2 : Int32) < (0)) = False := by decide
  unfold zcall
  simp (config := {maxSteps := 1000000}) (disch := omega) only [↓reduceIte, Int32.reduceLT, Int32.reduceLE, Int32.reduceToNatClampNeg, Int32.reduceAdd, Int32.reduceSub, Int32.reduceMul, Nat.reduceLeDiff, zEL, zup_ne, zup_eq, zT0, zT1, zT2, if_true, if_false, ze_173, s173_0, s173_1, s173_2, s173_5, s173_6, s173_7, s173_10, s173_11, s173_14, s173_15, h0, h1, h2, h3]
theorem t1_1 : zcall 1 [.int (1)] zRc S L = some (some (.int 1), zRc, S, L) := by
  have h0 : ((1 : Int32) = 0) = False := by decide
  have h1 : ((1 : Int32) = 1) = True := by decide
  have h2 : ((1 : Int32) = 2) = False := by decide
  unfold zcall
  simp (config := {maxSteps := 1000000}) (disch := omega) only [↓reduceIte, Int32.reduceLT, Int32.reduceLE, Int32.reduceToNatClampNeg, Int32.reduceAdd, Int32.reduceSub, Int32.reduceMul, Nat.reduceLeDiff, zEL, zup_ne, zup_eq, zT0, zT1, zT2, if_true, if_false, ze_1, s1_0, s1_1, s1_4, s1_5, s1_6, s1_9, s1_10, s1_11, s1_14, s1_15, s1_18, s1_19, h0, h1, h2]
theorem m173_1 : zcall 173 [.int (1), .int 0, .int 2] R S L = some (some (.int 1), R, S, L) := by
  have h0 : ((1 : Int32) < 0) = False := by decide
  have h1 : ((0 : Int32) ≤ (1)) = True := by decide
  have h2 : ((1 : Int32) ≤ 2) = True := by decide
  have h3 : ((2 : Int32) < (1)) = False := by decide
  unfold zcall
  simp (config := {maxSteps := 1000000}) (disch := omega) only [↓reduceIte, Int32.reduceLT, Int32.reduceLE, Int32.reduceToNatClampNeg, Int32.reduceAdd, Int32.reduceSub, Int32.reduceMul, Nat.reduceLeDiff, zEL, zup_ne, zup_eq, zT0, zT1, zT2, if_true, if_false, ze_173, s173_0, s173_1, s173_2, s173_5, s173_6, s173_7, s173_10, s173_11, s173_14, s173_15, h0, h1, h2, h3]
theorem t1_2 : zcall 1 [.int (2)] zRc S L = some (some (.int 1), zRc, S, L) := by
  have h0 : ((2 : Int32) = 0) = False := by decide
  have h1 : ((2 : Int32) = 1) = False := by decide
  have h2 : ((2 : Int32) = 2) = True := by decide
  unfold zcall
  simp (config := {maxSteps := 1000000}) (disch := omega) only [↓reduceIte, Int32.reduceLT, Int32.reduceLE, Int32.reduceToNatClampNeg, Int32.reduceAdd, Int32.reduceSub, Int32.reduceMul, Nat.reduceLeDiff, zEL, zup_ne, zup_eq, zT0, zT1, zT2, if_true, if_false, ze_1, s1_0, s1_1, s1_4, s1_5, s1_6, s1_9, s1_10, s1_11, s1_14, s1_15, s1_18, s1_19, h0, h1, h2]
theorem m173_2 : zcall 173 [.int (2), .int 0, .int 2] R S L = some (some (.int 1), R, S, L) := by
  have h0 : ((2 : Int32) < 0) = False := by decide
  have h1 : ((0 : Int32) ≤ (2)) = True := by decide
  have h2 : ((2 : Int32) ≤ 2) = True := by decide
  have h3 : ((2 : Int32) < (2)) = False := by decide
  unfold zcall
  simp (config := {maxSteps := 1000000}) (disch := omega) only [↓reduceIte, Int32.reduceLT, Int32.reduceLE, Int32.reduceToNatClampNeg, Int32.reduceAdd, Int32.reduceSub, Int32.reduceMul, Nat.reduceLeDiff, zEL, zup_ne, zup_eq, zT0, zT1, zT2, if_true, if_false, ze_173, s173_0, s173_1, s173_2, s173_5, s173_6, s173_7, s173_10, s173_11, s173_14, s173_15, h0, h1, h2, h3]
theorem t1_3 : zcall 1 [.int (3)] zRc S L = some (some (.int 0), zRc, S, L) := by
  have h0 : ((3 : Int32) = 0) = False := by decide
  have h1 : ((3 : Int32) = 1) = False := by decide
  have h2 : ((3 : Int32) = 2) = False := by decide
  unfold zcall
  simp (config := {maxSteps := 1000000}) (disch := omega) only [↓reduceIte, Int32.reduceLT, Int32.reduceLE, Int32.reduceToNatClampNeg, Int32.reduceAdd, Int32.reduceSub, Int32.reduceMul, Nat.reduceLeDiff, zEL, zup_ne, zup_eq, zT0, zT1, zT2, if_true, if_false, ze_1, s1_0, s1_1, s1_4, s1_5, s1_6, s1_9, s1_10, s1_11, s1_14, s1_15, s1_18, s1_19, h0, h1, h2]
theorem m173_3 : zcall 173 [.int (3), .int 0, .int 2] R S L = some (some (.int 0), R, S, L) := by
  have h0 : ((3 : Int32) < 0) = False := by decide
  have h1 : ((0 : Int32) ≤ (3)) = True := by decide
  have h2 : ((3 : Int32) ≤ 2) = False := by decide
  have h3 : ((2 : Int32) < (3)) = True := by decide
  unfold zcall
  simp (config := {maxSteps := 1000000}) (disch := omega) only [↓reduceIte, Int32.reduceLT, Int32.reduceLE, Int32.reduceToNatClampNeg, Int32.reduceAdd, Int32.reduceSub, Int32.reduceMul, Nat.reduceLeDiff, zEL, zup_ne, zup_eq, zT0, zT1, zT2, if_true, if_false, ze_173, s173_0, s173_1, s173_2, s173_5, s173_6, s173_7, s173_10, s173_11, s173_14, s173_15, h0, h1, h2, h3]
theorem t1_4 : zcall 1 [.int (4)] zRc S L = some (some (.int 0), zRc, S, L) := by
  have h0 : ((4 : Int32) = 0) = False := by decide
  have h1 : ((4 : Int32) = 1) = False := by decide
  have h2 : ((4 : Int32) = 2) = False := by decide
  unfold zcall
  simp (config := {maxSteps := 1000000}) (disch := omega) only [↓reduceIte, Int32.reduceLT, Int32.reduceLE, Int32.reduceToNatClampNeg, Int32.reduceAdd, Int32.reduceSub, Int32.reduceMul, Nat.reduceLeDiff, zEL, zup_ne, zup_eq, zT0, zT1, zT2, if_true, if_false, ze_1, s1_0, s1_1, s1_4, s1_5, s1_6, s1_9, s1_10, s1_11, s1_14, s1_15, s1_18, s1_19, h0, h1, h2]
theorem m173_4 : zcall 173 [.int (4), .int 0, .int 2] R S L = some (some (.int 0), R, S, L) := by
  have h0 : ((4 : Int32) < 0) = False := by decide
  have h1 : ((0 : Int32) ≤ (4)) = True := by decide
  have h2 : ((4 : Int32) ≤ 2) = False := by decide
  have h3 : ((2 : Int32) < (4)) = True := by decide
  unfold zcall
  simp (config := {maxSteps := 1000000}) (disch := omega) only [↓reduceIte, Int32.reduceLT, Int32.reduceLE, Int32.reduceToNatClampNeg, Int32.reduceAdd, Int32.reduceSub, Int32.reduceMul, Nat.reduceLeDiff, zEL, zup_ne, zup_eq, zT0, zT1, zT2, if_true, if_false, ze_173, s173_0, s173_1, s173_2, s173_5, s173_6, s173_7, s173_10, s173_11, s173_14, s173_15, h0, h1, h2, h3]
theorem t1_5 : zcall 1 [.int (5)] zRc S L = some (some (.int 0), zRc, S, L) := by
  have h0 : ((5 : Int32) = 0) = False := by decide
  have h1 : ((5 : Int32) = 1) = False := by decide
  have h2 : ((5 : Int32) = 2) = False := by decide
  unfold zcall
  simp (config := {maxSteps := 1000000}) (disch := omega) only [↓reduceIte, Int32.reduceLT, Int32.reduceLE, Int32.reduceToNatClampNeg, Int32.reduceAdd, Int32.reduceSub, Int32.reduceMul, Nat.reduceLeDiff, zEL, zup_ne, zup_eq, zT0, zT1, zT2, if_true, if_false, ze_1, s1_0, s1_1, s1_4, s1_5, s1_6, s1_9, s1_10, s1_11, s1_14, s1_15, s1_18, s1_19, h0, h1, h2]
theorem m173_5 : zcall 173 [.int (5), .int 0, .int 2] R S L = some (some (.int 0), R, S, L) := by
  have h0 : ((5 : Int32) < 0) = False := by decide
  have h1 : ((0 : Int32) ≤ (5)) = True := by decide
  have h2 : ((5 : Int32) ≤ 2) = False := by decide
  have h3 : ((2 : Int32) < (5)) = True := by decide
  unfold zcall
  simp (config := {maxSteps := 1000000}) (disch := omega) only [↓reduceIte, Int32.reduceLT, Int32.reduceLE, Int32.reduceToNatClampNeg, Int32.reduceAdd, Int32.reduceSub, Int32.reduceMul, Nat.reduceLeDiff, zEL, zup_ne, zup_eq, zT0, zT1, zT2, if_true, if_false, ze_173, s173_0, s173_1, s173_2, s173_5, s173_6, s173_7, s173_10, s173_11, s173_14, s173_15, h0, h1, h2, h3]
theorem m56 {f0 f1 f2 f3 f4 f5 : Bool} {x y : Int32} (hR : zLT R) (k0 : zcall 181 [.ref 0, .ref 1000012] R S L = some (some (.int (zbi f0)), R, S, L)) (k1 : zcall 181 [.ref 0, .ref 1000013] R S L = some (some (.int (zbi f1)), R, S, L)) (k2 : zcall 181 [.ref 0, .ref 1000014] R S L = some (some (.int (zbi f2)), R, S, L)) (k3 : zcall 181 [.ref 0, .ref 1000015] R S L = some (some (.int (zbi f3)), R, S, L)) (k4 : zcall 181 [.ref 0, .ref 1000016] R S L = some (some (.int (zbi f4)), R, S, L)) (k5 : zcall 181 [.ref 0, .ref 1000017] R S L = some (some (.int (zbi f5)), R, S, L)) : zgo 201 26 [.ref 0, .int x, .int y, .retAddr 0, .retAddr 0, .retAddr 0] [] R S L = zgo 201 106 [.ref 0, .int x, .int y, .int (zka f0 f1 f2 f3 f4 f5), .retAddr 0, .retAddr 0] [] R S L := by
  have r0 := hR
  unfold zLT at r0
  cases f0 with
  | true =>
    rw [zbi_t] at k0
    simp (config := {maxSteps := 1000000}) (disch := omega) only [↓reduceIte, Int32.reduceLT, Int32.reduceLE, Int32.reduceToNatClampNeg, Int32.reduceAdd, Int32.reduceSub, Int32.reduceMul, Nat.reduceLeDiff, zEL, zup_ne, zup_eq, zT0, zT1, zT2, if_true, if_false, r0, s201_26, s201_27, s201_29, s201_32, s201_35, s201_36, s201_39, s201_40, s201_42, s201_45, s201_48, s201_49, s201_52, s201_53, s201_55, s201_58, s201_61, s201_62, s201_65, s201_66, s201_68, s201_71, s201_74, s201_75, s201_78, s201_79, s201_81, s201_84, s201_87, s201_88, s201_91, s201_92, s201_94, s201_97, s201_100, s201_101, s201_104, s201_105, k0, zka, cond_true, cond_false]
  | false =>
    rw [zbi_f] at k0
    cases f1 with
    | true =>
      rw [zbi_t] at k1
      simp (config := {maxSteps := 1000000}) (disch := omega) only [↓reduceIte, Int32.reduceLT, Int32.reduceLE, Int32.reduceToNatClampNeg, Int32.reduceAdd, Int32.reduceSub, Int32.reduceMul, Nat.reduceLeDiff, zEL, zup_ne, zup_eq, zT0, zT1, zT2, if_true, if_false, r0, s201_26, s201_27, s201_29, s201_32, s201_35, s201_36, s201_39, s201_40, s201_42, s201_45, s201_48, s201_49, s201_52, s201_53, s201_55, s201_58, s201_61, s201_62, s201_65, s201_66, s201_68, s201_71, s201_74, s201_75, s201_78, s201_79, s201_81, s201_84, s201_87, s201_88, s201_91, s201_92, s201_94, s201_97, s201_100, s201_101, s201_104, s201_105, k0, k1, zka, cond_true, cond_false]
    | false =>
      rw [zbi_f] at k1
      cases f2 with
      | true =>
        rw [zbi_t] at k2
        simp (config := {maxSteps := 1000000}) (disch := omega) only [↓reduceIte, Int32.reduceLT, Int32.reduceLE, Int32.reduceToNatClampNeg, Int32.reduceAdd, Int32.reduceSub, Int32.reduceMul, Nat.reduceLeDiff, zEL, zup_ne, zup_eq, zT0, zT1, zT2, if_true, if_false, r0, s201_26, s201_27, s201_29, s201_32, s201_35, s201_36, s201_39, s201_40, s201_42, s201_45, s201_48, s201_49, s201_52, s201_53, s201_55, s201_58, s201_61, s201_62, s201_65, s201_66, s201_68, s201_71, s201_74, s201_75, s201_78, s201_79, s201_81, s201_84, s201_87, s201_88, s201_91, s201_92, s201_94, s201_97, s201_100, s201_101, s201_104, s201_105, k0, k1, k2, zka, cond_true, cond_false]
      | false =>
        rw [zbi_f] at k2
        cases f3 with
        | true =>
          rw [zbi_t] at k3
          simp (config := {maxSteps := 1000000}) (disch := omega) only [↓reduceIte, Int32.reduceLT, Int32.reduceLE, Int32.reduceToNatClampNeg, Int32.reduceAdd, Int32.reduceSub, Int32.reduceMul, Nat.reduceLeDiff, zEL, zup_ne, zup_eq, zT0, zT1, zT2, if_true, if_false, r0, s201_26, s201_27, s201_29, s201_32, s201_35, s201_36, s201_39, s201_40, s201_42, s201_45, s201_48, s201_49, s201_52, s201_53, s201_55, s201_58, s201_61, s201_62, s201_65, s201_66, s201_68, s201_71, s201_74, s201_75, s201_78, s201_79, s201_81, s201_84, s201_87, s201_88, s201_91, s201_92, s201_94, s201_97, s201_100, s201_101, s201_104, s201_105, k0, k1, k2, k3, zka, cond_true, cond_false]
        | false =>
          rw [zbi_f] at k3
          cases f4 with
          | true =>
            rw [zbi_t] at k4
            simp (config := {maxSteps := 1000000}) (disch := omega) only [↓reduceIte, Int32.reduceLT, Int32.reduceLE, Int32.reduceToNatClampNeg, Int32.reduceAdd, Int32.reduceSub, Int32.reduceMul, Nat.reduceLeDiff, zEL, zup_ne, zup_eq, zT0, zT1, zT2, if_true, if_false, r0, s201_26, s201_27, s201_29, s201_32, s201_35, s201_36, s201_39, s201_40, s201_42, s201_45, s201_48, s201_49, s201_52, s201_53, s201_55, s201_58, s201_61, s201_62, s201_65, s201_66, s201_68, s201_71, s201_74, s201_75, s201_78, s201_79, s201_81, s201_84, s201_87, s201_88, s201_91, s201_92, s201_94, s201_97, s201_100, s201_101, s201_104, s201_105, k0, k1, k2, k3, k4, zka, cond_true, cond_false]
          | false =>
            rw [zbi_f] at k4
            cases f5 with
            | true =>
              rw [zbi_t] at k5
              simp (config := {maxSteps := 1000000}) (disch := omega) only [↓reduceIte, Int32.reduceLT, Int32.reduceLE, Int32.reduceToNatClampNeg, Int32.reduceAdd, Int32.reduceSub, Int32.reduceMul, Nat.reduceLeDiff, zEL, zup_ne, zup_eq, zT0, zT1, zT2, if_true, if_false, r0, s201_26, s201_27, s201_29, s201_32, s201_35, s201_36, s201_39, s201_40, s201_42, s201_45, s201_48, s201_49, s201_52, s201_53, s201_55, s201_58, s201_61, s201_62, s201_65, s201_66, s201_68, s201_71, s201_74, s201_75, s201_78, s201_79, s201_81, s201_84, s201_87, s201_88, s201_91, s201_92, s201_94, s201_97, s201_100, s201_101, s201_104, s201_105, k0, k1, k2, k3, k4, k5, zka, cond_true, cond_false]
            | false =>
              rw [zbi_f] at k5
              simp (config := {maxSteps := 1000000}) (disch := omega) only [↓reduceIte, Int32.reduceLT, Int32.reduceLE, Int32.reduceToNatClampNeg, Int32.reduceAdd, Int32.reduceSub, Int32.reduceMul, Nat.reduceLeDiff, zEL, zup_ne, zup_eq, zT0, zT1, zT2, if_true, if_false, r0, s201_26, s201_27, s201_29, s201_32, s201_35, s201_36, s201_39, s201_40, s201_42, s201_45, s201_48, s201_49, s201_52, s201_53, s201_55, s201_58, s201_61, s201_62, s201_65, s201_66, s201_68, s201_71, s201_74, s201_75, s201_78, s201_79, s201_81, s201_84, s201_87, s201_88, s201_91, s201_92, s201_94, s201_97, s201_100, s201_101, s201_104, s201_105, k0, k1, k2, k3, k4, k5, zka, cond_true, cond_false]
theorem t56_80 {f0 f1 f2 f3 f4 f5 : Bool} (k0 : zcall 92 [.ref 1, .ref 1000056] zRc S L = some (some (.int (zbi f0)), zRc, S, L)) (k1 : zcall 92 [.ref 1, .ref 1000057] zRc S L = some (some (.int (zbi f1)), zRc, S, L)) (k2 : zcall 92 [.ref 1, .ref 1000058] zRc S L = some (some (.int (zbi f2)), zRc, S, L)) (k3 : zcall 92 [.ref 1, .ref 1000059] zRc S L = some (some (.int (zbi f3)), zRc, S, L)) (k4 : zcall 92 [.ref 1, .ref 1000060] zRc S L = some (some (.int (zbi f4)), zRc, S, L)) (k5 : zcall 92 [.ref 1, .ref 1000061] zRc S L = some (some (.int (zbi f5)), zRc, S, L)) : zcall 56 [.ref 80] zRc S L = some (some (.int (zka f0 f1 f2 f3 f4 f5)), zRc, S, L) := by
  unfold zcall
  cases f0 with
  | true =>
    rw [zbi_t] at k0
    simp (config := {maxSteps := 1000000}) (disch := omega) only [↓reduceIte, Int32.reduceLT, Int32.reduceLE, Int32.reduceToNatClampNeg, Int32.reduceAdd, Int32.reduceSub, Int32.reduceMul, Nat.reduceLeDiff, zEL, zup_ne, zup_eq, zT0, zT1, zT2, if_true, if_false, gR, gX, ze_56, s56_0, s56_1, s56_4, s56_7, s56_10, s56_13, s56_14, s56_15, s56_16, s56_19, s56_22, s56_25, s56_28, s56_29, s56_30, s56_31, s56_34, s56_37, s56_40, s56_43, s56_44, s56_45, s56_46, s56_49, s56_52, s56_55, s56_58, s56_59, s56_60, s56_61, s56_64, s56_67, s56_70, s56_73, s56_74, s56_75, s56_76, s56_79, s56_82, s56_85, s56_88, s56_89, s56_92, s56_93, k0, zka, cond_true, cond_false]
  | false =>
    rw [zbi_f] at k0
    cases f1 with
    | true =>
      rw [zbi_t] at k1
      simp (config := {maxSteps := 1000000}) (disch := omega) only [↓reduceIte, Int32.reduceLT, Int32.reduceLE, Int32.reduceToNatClampNeg, Int32.reduceAdd, Int32.reduceSub, Int32.reduceMul, Nat.reduceLeDiff, zEL, zup_ne, zup_eq, zT0, zT1, zT2, if_true, if_false, gR, gX, ze_56, s56_0, s56_1, s56_4, s56_7, s56_10, s56_13, s56_14, s56_15, s56_16, s56_19, s56_22, s56_25, s56_28, s56_29, s56_30, s56_31, s56_34, s56_37, s56_40, s56_43, s56_44, s56_45, s56_46, s56_49, s56_52, s56_55, s56_58, s56_59, s56_60, s56_61, s56_64, s56_67, s56_70, s56_73, s56_74, s56_75, s56_76, s56_79, s56_82, s56_85, s56_88, s56_89, s56_92, s56_93, k0, k1, zka, cond_true, cond_false]
    | false =>
      rw [zbi_f] at k1
      cases f2 with
      | true =>
        rw [zbi_t] at k2
        simp (config := {maxSteps := 1000000}) (disch := omega) only [↓reduceIte, Int32.reduceLT, Int32.reduceLE, Int32.reduceToNatClampNeg, Int32.reduceAdd, Int32.reduceSub, Int32.reduceMul, Nat.reduceLeDiff, zEL, zup_ne, zup_eq, zT0, zT1, zT2, if_true, if_false, gR, gX, ze_56, s56_0, s56_1, s56_4, s56_7, s56_10, s56_13, s56_14, s56_15, s56_16, s56_19, s56_22, s56_25, s56_28, s56_29, s56_30, s56_31, s56_34, s56_37, s56_40, s56_43, s56_44, s56_45, s56_46, s56_49, s56_52, s56_55, s56_58, s56_59, s56_60, s56_61, s56_64, s56_67, s56_70, s56_73, s56_74, s56_75, s56_76, s56_79, s56_82, s56_85, s56_88, s56_89, s56_92, s56_93, k0, k1, k2, zka, cond_true, cond_false]
      | false =>
        rw [zbi_f] at k2
        cases f3 with
        | true =>
          rw [zbi_t] at k3
          simp (config := {maxSteps := 1000000}) (disch := omega) only [↓reduceIte, Int32.reduceLT, Int32.reduceLE, Int32.reduceToNatClampNeg, Int32.reduceAdd, Int32.reduceSub, Int32.reduceMul, Nat.reduceLeDiff, zEL, zup_ne, zup_eq, zT0, zT1, zT2, if_true, if_false, gR, gX, ze_56, s56_0, s56_1, s56_4, s56_7, s56_10, s56_13, s56_14, s56_15, s56_16, s56_19, s56_22, s56_25, s56_28, s56_29, s56_30, s56_31, s56_34, s56_37, s56_40, s56_43, s56_44, s56_45, s56_46, s56_49, s56_52, s56_55, s56_58, s56_59, s56_60, s56_61, s56_64, s56_67, s56_70, s56_73, s56_74, s56_75, s56_76, s56_79, s56_82, s56_85, s56_88, s56_89, s56_92, s56_93, k0, k1, k2, k3, zka, cond_true, cond_false]
        | false =>
          rw [zbi_f] at k3
          cases f4 with
          | true =>
            rw [zbi_t] at k4
            simp (config := {maxSteps := 1000000}) (disch := omega) only [↓reduceIte, Int32.reduceLT, Int32.reduceLE, Int32.reduceToNatClampNeg, Int32.reduceAdd, Int32.reduceSub, Int32.reduceMul, Nat.reduceLeDiff, zEL, zup_ne, zup_eq, zT0, zT1, zT2, if_true, if_false, gR, gX, ze_56, s56_0, s56_1, s56_4, s56_7, s56_10, s56_13, s56_14, s56_15, s56_16, s56_19, s56_22, s56_25, s56_28, s56_29, s56_30, s56_31, s56_34, s56_37, s56_40, s56_43, s56_44, s56_45, s56_46, s56_49, s56_52, s56_55, s56_58, s56_59, s56_60, s56_61, s56_64, s56_67, s56_70, s56_73, s56_74, s56_75, s56_76, s56_79, s56_82, s56_85, s56_88, s56_89, s56_92, s56_93, k0, k1, k2, k3, k4, zka, cond_true, cond_false]
          | false =>
            rw [zbi_f] at k4
            cases f5 with
            | true =>
              rw [zbi_t] at k5
              simp (config := {maxSteps := 1000000}) (disch := omega) only [↓reduceIte, Int32.reduceLT, Int32.reduceLE, Int32.reduceToNatClampNeg, Int32.reduceAdd, Int32.reduceSub, Int32.reduceMul, Nat.reduceLeDiff, zEL, zup_ne, zup_eq, zT0, zT1, zT2, if_true, if_false, gR, gX, ze_56, s56_0, s56_1, s56_4, s56_7, s56_10, s56_13, s56_14, s56_15, s56_16, s56_19, s56_22, s56_25, s56_28, s56_29, s56_30, s56_31, s56_34, s56_37, s56_40, s56_43, s56_44, s56_45, s56_46, s56_49, s56_52, s56_55, s56_58, s56_59, s56_60, s56_61, s56_64, s56_67, s56_70, s56_73, s56_74, s56_75, s56_76, s56_79, s56_82, s56_85, s56_88, s56_89, s56_92, s56_93, k0, k1, k2, k3, k4, k5, zka, cond_true, cond_false]
            | false =>
              rw [zbi_f] at k5
              simp (config := {maxSteps := 1000000}) (disch := omega) only [↓reduceIte, Int32.reduceLT, Int32.reduceLE, Int32.reduceToNatClampNeg, Int32.reduceAdd, Int32.reduceSub, Int32.reduceMul, Nat.reduceLeDiff, zEL, zup_ne, zup_eq, zT0, zT1, zT2, if_true, if_false, gR, gX, ze_56, s56_0, s56_1, s56_4, s56_7, s56_10, s56_13, s56_14, s56_15, s56_16, s56_19, s56_22, s56_25, s56_28, s56_29, s56_30, s56_31, s56_34, s56_37, s56_40, s56_43, s56_44, s56_45, s56_46, s56_49, s56_52, s56_55, s56_58, s56_59, s56_60, s56_61, s56_64, s56_67, s56_70, s56_73, s56_74, s56_75, s56_76, s56_79, s56_82, s56_85, s56_88, s56_89, s56_92, s56_93, k0, k1, k2, k3, k4, k5, zka, cond_true, cond_false]
/-- from the kind's WORD to what follows it -/
theorem opA_80 {x y x' y' : Int32} (hR : zLT R) (h : zST 80 n b S Sm Lm) : ∃ kd kd' : Int32, ∃ S' Sm' Lm', zgo 55 27 [.ref 80, .int x, .int y, .retAddr 0, .retAddr 0] [] zRc S L = zgo 55 56 [.ref 80, .int x, .int y, .int kd, .retAddr 0] [] zRc S' L ∧ zgo 201 26 [.ref 0, .int x', .int y', .retAddr 0, .retAddr 0, .retAddr 0] [] R Sm Lm = zgo 201 120 [.ref 0, .int x', .int y', .int kd', .retAddr 0, .retAddr 0] [] R Sm' Lm' ∧ zST 80 n b S' Sm' Lm' ∧ zfr 80 S Sm Lm S' Sm' Lm' ∧ (S' 80 6 = 0 → S 80 6 = 0 ∧ kd' = kd ∧ zkk kd) ∧ (¬ S' 80 6 = 0 → kd' = -1 ∧ (kd = -1 ∨ zkk kd)) := by
  have r0 := hR
  unfold zLT at r0
  obtain ⟨p, q, hT, hO⟩ := h
  have e1 : ((-1 : Int32) = -1) = True := eq_true rfl
  rcases hO with hO | hF
  · have h6 := hO.1
    have m95 : (Sm 0 9 = 5) = False := eq_false (zOK_9 hO)
    have hTK : zTK n b p q S Sm Lm := ⟨hT, hO.2.2.1, hO.2.2.2⟩
    have kc := t56_80 (L := L) (cw_flat hT) (cw_high hT) (cw_rolls hT) (cw_makes hT) (cw_goes hT) (cw_ducks hT)
    have km := m56 (x := x') (y := y') hR (mw_flat hR hTK) (mw_high hR hTK) (mw_rolls hR hTK) (mw_makes hR hTK) (mw_goes hR hTK) (mw_ducks hR hTK)
    have hr := zka_r (zW b n p q zw_flat) (zW b n p q zw_high) (zW b n p q zw_rolls) (zW b n p q zw_makes) (zW b n p q zw_goes) (zW b n p q zw_ducks)
    have hk : zka (zW b n p q zw_flat) (zW b n p q zw_high) (zW b n p q zw_rolls) (zW b n p q zw_makes) (zW b n p q zw_goes) (zW b n p q zw_ducks) = -1 ∨ (zkN b n p q = 1 ∧ zkk (zka (zW b n p q zw_flat) (zW b n p q zw_high) (zW b n p q zw_rolls) (zW b n p q zw_makes) (zW b n p q zw_goes) (zW b n p q zw_ducks))) := by
      rcases hr with hr | ⟨h1, h2⟩
      · exact .inl hr
      · refine .inr ⟨?_, h2⟩
        simp only [Bool.or_eq_true] at h1
        rcases h1 with ((((h | h) | h) | h) | h) | h <;> exact zW_1 h
    generalize zka (zW b n p q zw_flat) (zW b n p q zw_high) (zW b n p q zw_rolls) (zW b n p q zw_makes) (zW b n p q zw_goes) (zW b n p q zw_ducks) = v at kc km hk
    rcases hk with rfl | ⟨hk, hv⟩
    · obtain ⟨f1, f2, f3, f4, -⟩ := zFk_80 (f := 1) rfl (by omega) (by omega) hT hO
      have k3 : zcall 58 [.ref 80, .int 1] zRc S L = _ := c58O_80 (L := L) (k := nI 1) h6
      have k4 : zcall 180 [.ref 0, .int 1] R Sm Lm = _ := m180O (Lm := Lm) (k := nI 1) hR (zOK_9 hO)
      have k5 := m179F (Lm := Lm) hR f4
      generalize hS1 : zup (zup S 80 6 (nI 1)) 80 7 (S 1 3) = S1 at f1 f2 f3 k3
      generalize hSm1 : zup (zup (zup Sm 0 13 (nI 1)) 0 14 (Sm 0 8)) 0 9 5 = Sm1 at f1 f2 f4 k4 k5
      refine ⟨-1, -1, S1, Sm1, Lm, ?_, ?_, f1, f2, fun h => absurd h f3, fun _ => ⟨rfl, .inl rfl⟩⟩
      · simp (config := {maxSteps := 1000000}) (disch := omega) only [↓reduceIte, Int32.reduceLT, Int32.reduceLE, Int32.reduceToNatClampNeg, Int32.reduceAdd, Int32.reduceSub, Int32.reduceMul, Nat.reduceLeDiff, zEL, zup_ne, zup_eq, zT0, zT1, zT2, if_true, if_false, gR, gX, s55_27, s55_28, s55_31, s55_32, s55_33, s55_34, s55_37, s55_38, s55_39, s55_42, s55_43, s55_46, s55_49, s55_50, s55_53, kc, e1, k3, f3]
      · rw [km]
        simp (config := {maxSteps := 1000000}) (disch := omega) only [↓reduceIte, Int32.reduceLT, Int32.reduceLE, Int32.reduceToNatClampNeg, Int32.reduceAdd, Int32.reduceSub, Int32.reduceMul, Nat.reduceLeDiff, zEL, zup_ne, zup_eq, zT0, zT1, zT2, if_true, if_false, r0, s201_106, s201_107, s201_108, s201_111, s201_112, s201_113, s201_116, s201_117, e1, k4, k5]
    · obtain ⟨S', Sm', Lm', a1, a2, a3, a4, a5⟩ := zsn_80 (L := L) hR hT hO (by omega) (by omega)
      have e2 : (v = -1) = False := by rcases hv with rfl | rfl | rfl | rfl | rfl | rfl <;> decide
      refine ⟨v, v, S', Sm', Lm', ?_, ?_, a3, a4, fun _ => ⟨h6, rfl, hv⟩, fun h => absurd a5 h⟩
      · simp (config := {maxSteps := 1000000}) (disch := omega) only [↓reduceIte, Int32.reduceLT, Int32.reduceLE, Int32.reduceToNatClampNeg, Int32.reduceAdd, Int32.reduceSub, Int32.reduceMul, Nat.reduceLeDiff, zEL, zup_ne, zup_eq, zT0, zT1, zT2, if_true, if_false, gR, gX, s55_27, s55_28, s55_31, s55_32, s55_33, s55_34, s55_37, s55_38, s55_39, s55_42, s55_43, s55_46, s55_49, s55_50, s55_53, kc, e2, h6, a1]
      · rw [km]
        simp (config := {maxSteps := 1000000}) (disch := omega) only [↓reduceIte, Int32.reduceLT, Int32.reduceLE, Int32.reduceToNatClampNeg, Int32.reduceAdd, Int32.reduceSub, Int32.reduceMul, Nat.reduceLeDiff, zEL, zup_ne, zup_eq, zT0, zT1, zT2, if_true, if_false, r0, s201_106, s201_107, s201_108, s201_111, s201_112, s201_113, s201_116, s201_117, e2, a2]
  · have hne := zFA_ne hF
    have k3 := fun k => c58F_80 (L := L) (k := k) hne
    have m9 : Sm 0 9 = 5 := by obtain ⟨f, pl, -, -, -, -, -, h9, -⟩ := hF; exact h9
    have k4 := fun k => m180F (Lm := Lm) (k := k) hR m9
    have k5 := m179F (Lm := Lm) hR m9
    have mF : ∀ r, zcall 181 [.ref 0, .ref r] R Sm Lm = some (some (.int (zbi false)), R, Sm, Lm) := fun r => m181F hR m9
    have km := m56 (x := x') (y := y') hR (mF _) (mF _) (mF _) (mF _) (mF _) (mF _)
    rw [show zka false false false false false false = -1 from rfl] at km
    have kc := t56_80 (L := L) (cw_flat hT) (cw_high hT) (cw_rolls hT) (cw_makes hT) (cw_goes hT) (cw_ducks hT)
    have hr := zka_r (zW b n p q zw_flat) (zW b n p q zw_high) (zW b n p q zw_rolls) (zW b n p q zw_makes) (zW b n p q zw_goes) (zW b n p q zw_ducks)
    have hk : zka (zW b n p q zw_flat) (zW b n p q zw_high) (zW b n p q zw_rolls) (zW b n p q zw_makes) (zW b n p q zw_goes) (zW b n p q zw_ducks) = -1 ∨ zkk (zka (zW b n p q zw_flat) (zW b n p q zw_high) (zW b n p q zw_rolls) (zW b n p q zw_makes) (zW b n p q zw_goes) (zW b n p q zw_ducks)) := hr.imp_right fun h => h.2
    generalize zka (zW b n p q zw_flat) (zW b n p q zw_high) (zW b n p q zw_rolls) (zW b n p q zw_makes) (zW b n p q zw_goes) (zW b n p q zw_ducks) = v at kc hk
    refine ⟨v, -1, S, Sm, Lm, ?_, ?_, ⟨p, q, hT, .inr hF⟩, zfr_r, fun h => absurd h hne, fun _ => ⟨rfl, hk⟩⟩
    · rcases hk with rfl | hv
      · simp (config := {maxSteps := 1000000}) (disch := omega) only [↓reduceIte, Int32.reduceLT, Int32.reduceLE, Int32.reduceToNatClampNeg, Int32.reduceAdd, Int32.reduceSub, Int32.reduceMul, Nat.reduceLeDiff, zEL, zup_ne, zup_eq, zT0, zT1, zT2, if_true, if_false, gR, gX, s55_27, s55_28, s55_31, s55_32, s55_33, s55_34, s55_37, s55_38, s55_39, s55_42, s55_43, s55_46, s55_49, s55_50, s55_53, kc, e1, k3, hne]
      · have e2 : (v = -1) = False := by rcases hv with rfl | rfl | rfl | rfl | rfl | rfl <;> decide
        simp (config := {maxSteps := 1000000}) (disch := omega) only [↓reduceIte, Int32.reduceLT, Int32.reduceLE, Int32.reduceToNatClampNeg, Int32.reduceAdd, Int32.reduceSub, Int32.reduceMul, Nat.reduceLeDiff, zEL, zup_ne, zup_eq, zT0, zT1, zT2, if_true, if_false, gR, gX, s55_27, s55_28, s55_31, s55_32, s55_33, s55_34, s55_37, s55_38, s55_39, s55_42, s55_43, s55_46, s55_49, s55_50, s55_53, kc, e2, k3, hne]
    · rw [km]
      simp (config := {maxSteps := 1000000}) (disch := omega) only [↓reduceIte, Int32.reduceLT, Int32.reduceLE, Int32.reduceToNatClampNeg, Int32.reduceAdd, Int32.reduceSub, Int32.reduceMul, Nat.reduceLeDiff, zEL, zup_ne, zup_eq, zT0, zT1, zT2, if_true, if_false, r0, s201_106, s201_107, s201_108, s201_111, s201_112, s201_113, s201_116, s201_117, e1, k4, k5]
theorem c65F_80 {k : Nat} (hT : zTKc n b p q S) (hne : ¬ S 80 6 = 0) (hk : k ≤ 26) (h5 : S 80 5 = nI k) : zcall 65 [.ref 80] zRc S L = some (some (.int (-1)), zRc, S, L) := by
  have k1 := t67_80 (L := L) hT
  have k3 := fun k => c58F_80 (L := L) (k := k) hne
  obtain ⟨x, c1, -⟩ := t94 (L := L) hT
  have c3 := c66_80 (S := S) (L := L) (x := x) hk h5
  unfold zcall
  generalize zNm b n p q = vb at k1
  cases ho : zfd (fun i => decide (L 157 i = x)) k with
  | none =>
    rw [ho, zon_n] at c3
    cases vb
    all_goals first | rw [zbi_f] at k1 | rw [zbi_t] at k1
    all_goals simp (config := {maxSteps := 1000000}) (disch := omega) only [↓reduceIte, Int32.reduceLT, Int32.reduceLE, Int32.reduceToNatClampNeg, Int32.reduceAdd, Int32.reduceSub, Int32.reduceMul, Nat.reduceLeDiff, zEL, zup_ne, zup_eq, zT0, zT1, zT2, if_true, if_false, zneq_f, true_and, and_true, false_and, and_false, zKL, eq_self, Nat.reduceEqDiff, zite0, ite_not, zaddr, zaddl, zputr, zsb1, zsb2, zsb0, zsbm, znm1, gR, gX, ze_65, s65_0, s65_1, s65_4, s65_7, s65_8, s65_9, s65_12, s65_13, s65_14, s65_17, s65_20, s65_23, s65_24, s65_25, s65_26, s65_29, s65_30, s65_33, s65_34, s65_37, s65_40, s65_41, s65_42, s65_45, s65_46, s65_49, s65_52, s65_53, s65_54, s65_55, s65_58, s65_61, s65_62, s65_65, s65_66, s65_69, k1, c1, c3, k3, hne]
  | some i =>
    obtain ⟨hi, -⟩ := zfd_lt ho
    rw [ho, zon_s] at c3
    cases vb
    all_goals first | rw [zbi_f] at k1 | rw [zbi_t] at k1
    all_goals by_cases hs0 : S 159 i = 0
    all_goals simp (config := {maxSteps := 1000000}) (disch := omega) only [↓reduceIte, Int32.reduceLT, Int32.reduceLE, Int32.reduceToNatClampNeg, Int32.reduceAdd, Int32.reduceSub, Int32.reduceMul, Nat.reduceLeDiff, zEL, zup_ne, zup_eq, zT0, zT1, zT2, if_true, if_false, zneq_f, true_and, and_true, false_and, and_false, zKL, eq_self, Nat.reduceEqDiff, zite0, ite_not, zaddr, zaddl, zputr, zsb1, zsb2, zsb0, zsbm, znm1, gR, gX, ze_65, s65_0, s65_1, s65_4, s65_7, s65_8, s65_9, s65_12, s65_13, s65_14, s65_17, s65_20, s65_23, s65_24, s65_25, s65_26, s65_29, s65_30, s65_33, s65_34, s65_37, s65_40, s65_41, s65_42, s65_45, s65_46, s65_49, s65_52, s65_53, s65_54, s65_55, s65_58, s65_61, s65_62, s65_65, s65_66, s65_69, k1, c1, c3, k3, hne, hs0]
/-- whom, if anybody -/
theorem opB_80 {x y x' y' kd kd' : Int32} {k m : Nat} (hR : zLT R) (hB : zLB R B) (hB11 : 11 ≤ B) (h : zST 80 n b S Sm Lm) (hk : k ≤ 26) (h5 : S 80 5 = nI k) (h13 : Sm B 13 = nI k) (hN : ∀ i, i < k → L 157 i = Lm (B + 27) i ∧ (S 159 i = 0 ↔ Sm (B + 28) i = 0) ∧ (S 159 i = 0 → ∃ x, x < m ∧ S 161 i = nI x ∧ Sm (B + 29) i = nI x)) (hk1 : S 80 6 = 0 → kd' = kd ∧ zkk kd) (hk2 : ¬ S 80 6 = 0 → kd' = -1 ∧ (kd = -1 ∨ zkk kd)) : ∃ o o' : Int32, ∃ S' Sm' Lm', zgo 55 56 [.ref 80, .int x, .int y, .int kd, .retAddr 0] [] zRc S L = zgo 55 73 [.ref 80, .int x, .int y, .int kd, .int o] [] zRc S' L ∧ zgo 201 120 [.ref 0, .int x', .int y', .int kd', .retAddr 0, .retAddr 0] [] R Sm Lm = zgo 201 139 [.ref 0, .int x', .int y', .int kd', .int o', .retAddr 0] [] R Sm' Lm' ∧ zST 80 n b S' Sm' Lm' ∧ zfr 80 S Sm Lm S' Sm' Lm' ∧ (S' 80 6 = 0 → S 80 6 = 0 ∧ kd' = kd ∧ ((zin kd 2 ∧ ∃ x, x < m ∧ o = nI x ∧ o' = nI x) ∨ kd = 3 ∨ kd = 4 ∨ kd = 5)) := by
  have r0 := hR
  unfold zLT at r0
  rcases zST_9 h with ⟨o1, o2⟩ | ⟨o1, o2⟩
  · obtain ⟨rfl, hv⟩ := hk1 o1
    obtain ⟨v, v', S', Sm', Lm', a1, a2, a3, a4, a5⟩ := op65_80 (L := L) (k := k) (k' := k) (m := m) hR hB hB11 h hk hk h5 h13 (fun _ => ⟨rfl, hN⟩)
    rcases hv with rfl | rfl | rfl | rfl | rfl | rfl
    · refine ⟨v, v', S', Sm', Lm', ?_, ?_, a3, a4, fun h => ⟨(a5 h).1, rfl, .inl ⟨⟨0, by omega, rfl⟩, (a5 h).2⟩⟩⟩
      · simp (config := {maxSteps := 1000000}) (disch := omega) only [↓reduceIte, Int32.reduceLT, Int32.reduceLE, Int32.reduceToNatClampNeg, Int32.reduceAdd, Int32.reduceSub, Int32.reduceMul, Nat.reduceLeDiff, zEL, zup_ne, zup_eq, zT0, zT1, zT2, if_true, if_false, gR, gX, s55_56, s55_57, s55_60, s55_63, s55_64, s55_67, s55_70, s55_71, t1_0, a1]
      · simp (config := {maxSteps := 1000000}) (disch := omega) only [↓reduceIte, Int32.reduceLT, Int32.reduceLE, Int32.reduceToNatClampNeg, Int32.reduceAdd, Int32.reduceSub, Int32.reduceMul, Nat.reduceLeDiff, zEL, zup_ne, zup_eq, zT0, zT1, zT2, if_true, if_false, r0, s201_120, s201_121, s201_122, s201_123, s201_126, s201_129, s201_130, s201_133, s201_136, s201_137, m173_0, a2]
    · refine ⟨v, v', S', Sm', Lm', ?_, ?_, a3, a4, fun h => ⟨(a5 h).1, rfl, .inl ⟨⟨1, by omega, rfl⟩, (a5 h).2⟩⟩⟩
      · simp (config := {maxSteps := 1000000}) (disch := omega) only [↓reduceIte, Int32.reduceLT, Int32.reduceLE, Int32.reduceToNatClampNeg, Int32.reduceAdd, Int32.reduceSub, Int32.reduceMul, Nat.reduceLeDiff, zEL, zup_ne, zup_eq, zT0, zT1, zT2, if_true, if_false, gR, gX, s55_56, s55_57, s55_60, s55_63, s55_64, s55_67, s55_70, s55_71, t1_1, a1]
      · simp (config := {maxSteps := 1000000}) (disch := omega) only [↓reduceIte, Int32.reduceLT, Int32.reduceLE, Int32.reduceToNatClampNeg, Int32.reduceAdd, Int32.reduceSub, Int32.reduceMul, Nat.reduceLeDiff, zEL, zup_ne, zup_eq, zT0, zT1, zT2, if_true, if_false, r0, s201_120, s201_121, s201_122, s201_123, s201_126, s201_129, s201_130, s201_133, s201_136, s201_137, m173_1, a2]
    · refine ⟨v, v', S', Sm', Lm', ?_, ?_, a3, a4, fun h => ⟨(a5 h).1, rfl, .inl ⟨⟨2, by omega, rfl⟩, (a5 h).2⟩⟩⟩
      · simp (config := {maxSteps := 1000000}) (disch := omega) only [↓reduceIte, Int32.reduceLT, Int32.reduceLE, Int32.reduceToNatClampNeg, Int32.reduceAdd, Int32.reduceSub, Int32.reduceMul, Nat.reduceLeDiff, zEL, zup_ne, zup_eq, zT0, zT1, zT2, if_true, if_false, gR, gX, s55_56, s55_57, s55_60, s55_63, s55_64, s55_67, s55_70, s55_71, t1_2, a1]
      · simp (config := {maxSteps := 1000000}) (disch := omega) only [↓reduceIte, Int32.reduceLT, Int32.reduceLE, Int32.reduceToNatClampNeg, Int32.reduceAdd, Int32.reduceSub, Int32.reduceMul, Nat.reduceLeDiff, zEL, zup_ne, zup_eq, zT0, zT1, zT2, if_true, if_false, r0, s201_120, s201_121, s201_122, s201_123, s201_126, s201_129, s201_130, s201_133, s201_136, s201_137, m173_2, a2]
    · refine ⟨-1, 0, S, Sm, Lm, ?_, ?_, h, zfr_r, fun h => ⟨h, rfl, .inr (by decide)⟩⟩
      · simp (config := {maxSteps := 1000000}) (disch := omega) only [↓reduceIte, Int32.reduceLT, Int32.reduceLE, Int32.reduceToNatClampNeg, Int32.reduceAdd, Int32.reduceSub, Int32.reduceMul, Nat.reduceLeDiff, zEL, zup_ne, zup_eq, zT0, zT1, zT2, if_true, if_false, gR, gX, s55_56, s55_57, s55_60, s55_63, s55_64, s55_67, s55_70, s55_71, t1_3]
      · simp (config := {maxSteps := 1000000}) (disch := omega) only [↓reduceIte, Int32.reduceLT, Int32.reduceLE, Int32.reduceToNatClampNeg, Int32.reduceAdd, Int32.reduceSub, Int32.reduceMul, Nat.reduceLeDiff, zEL, zup_ne, zup_eq, zT0, zT1, zT2, if_true, if_false, r0, s201_120, s201_121, s201_122, s201_123, s201_126, s201_129, s201_130, s201_133, s201_136, s201_137, m173_3]
    · refine ⟨-1, 0, S, Sm, Lm, ?_, ?_, h, zfr_r, fun h => ⟨h, rfl, .inr (by decide)⟩⟩
      · simp (config := {maxSteps := 1000000}) (disch := omega) only [↓reduceIte, Int32.reduceLT, Int32.reduceLE, Int32.reduceToNatClampNeg, Int32.reduceAdd, Int32.reduceSub, Int32.reduceMul, Nat.reduceLeDiff, zEL, zup_ne, zup_eq, zT0, zT1, zT2, if_true, if_false, gR, gX, s55_56, s55_57, s55_60, s55_63, s55_64, s55_67, s55_70, s55_71, t1_4]
      · simp (config := {maxSteps := 1000000}) (disch := omega) only [↓reduceIte, Int32.reduceLT, Int32.reduceLE, Int32.reduceToNatClampNeg, Int32.reduceAdd, Int32.reduceSub, Int32.reduceMul, Nat.reduceLeDiff, zEL, zup_ne, zup_eq, zT0, zT1, zT2, if_true, if_false, r0, s201_120, s201_121, s201_122, s201_123, s201_126, s201_129, s201_130, s201_133, s201_136, s201_137, m173_4]
    · refine ⟨-1, 0, S, Sm, Lm, ?_, ?_, h, zfr_r, fun h => ⟨h, rfl, .inr (by decide)⟩⟩
      · simp (config := {maxSteps := 1000000}) (disch := omega) only [↓reduceIte, Int32.reduceLT, Int32.reduceLE, Int32.reduceToNatClampNeg, Int32.reduceAdd, Int32.reduceSub, Int32.reduceMul, Nat.reduceLeDiff, zEL, zup_ne, zup_eq, zT0, zT1, zT2, if_true, if_false, gR, gX, s55_56, s55_57, s55_60, s55_63, s55_64, s55_67, s55_70, s55_71, t1_5]
      · simp (config := {maxSteps := 1000000}) (disch := omega) only [↓reduceIte, Int32.reduceLT, Int32.reduceLE, Int32.reduceToNatClampNeg, Int32.reduceAdd, Int32.reduceSub, Int32.reduceMul, Nat.reduceLeDiff, zEL, zup_ne, zup_eq, zT0, zT1, zT2, if_true, if_false, r0, s201_120, s201_121, s201_122, s201_123, s201_126, s201_129, s201_130, s201_133, s201_136, s201_137, m173_5]
  · obtain ⟨rfl, hv⟩ := hk2 o1
    obtain ⟨p, q, hT, -⟩ := id h
    have c65 := c65F_80 (L := L) hT o1 hk h5
    refine ⟨-1, 0, S, Sm, Lm, ?_, ?_, h, zfr_r, fun h => absurd h o1⟩
    · rcases hv with rfl | rfl | rfl | rfl | rfl | rfl | rfl
      · simp (config := {maxSteps := 1000000}) (disch := omega) only [↓reduceIte, Int32.reduceLT, Int32.reduceLE, Int32.reduceToNatClampNeg, Int32.reduceAdd, Int32.reduceSub, Int32.reduceMul, Nat.reduceLeDiff, zEL, zup_ne, zup_eq, zT0, zT1, zT2, if_true, if_false, gR, gX, s55_56, s55_57, s55_60, s55_63, s55_64, s55_67, s55_70, s55_71, t1_m1, c65]
      · simp (config := {maxSteps := 1000000}) (disch := omega) only [↓reduceIte, Int32.reduceLT, Int32.reduceLE, Int32.reduceToNatClampNeg, Int32.reduceAdd, Int32.reduceSub, Int32.reduceMul, Nat.reduceLeDiff, zEL, zup_ne, zup_eq, zT0, zT1, zT2, if_true, if_false, gR, gX, s55_56, s55_57, s55_60, s55_63, s55_64, s55_67, s55_70, s55_71, t1_0, c65]
      · simp (config := {maxSteps := 1000000}) (disch := omega) only [↓reduceIte, Int32.reduceLT, Int32.reduceLE, Int32.reduceToNatClampNeg, Int32.reduceAdd, Int32.reduceSub, Int32.reduceMul, Nat.reduceLeDiff, zEL, zup_ne, zup_eq, zT0, zT1, zT2, if_true, if_false, gR, gX, s55_56, s55_57, s55_60, s55_63, s55_64, s55_67, s55_70, s55_71, t1_1, c65]
      · simp (config := {maxSteps := 1000000}) (disch := omega) only [↓reduceIte, Int32.reduceLT, Int32.reduceLE, Int32.reduceToNatClampNeg, Int32.reduceAdd, Int32.reduceSub, Int32.reduceMul, Nat.reduceLeDiff, zEL, zup_ne, zup_eq, zT0, zT1, zT2, if_true, if_false, gR, gX, s55_56, s55_57, s55_60, s55_63, s55_64, s55_67, s55_70, s55_71, t1_2, c65]
      · simp (config := {maxSteps := 1000000}) (disch := omega) only [↓reduceIte, Int32.reduceLT, Int32.reduceLE, Int32.reduceToNatClampNeg, Int32.reduceAdd, Int32.reduceSub, Int32.reduceMul, Nat.reduceLeDiff, zEL, zup_ne, zup_eq, zT0, zT1, zT2, if_true, if_false, gR, gX, s55_56, s55_57, s55_60, s55_63, s55_64, s55_67, s55_70, s55_71, t1_3, c65]
      · simp (config := {maxSteps := 1000000}) (disch := omega) only [↓reduceIte, Int32.reduceLT, Int32.reduceLE, Int32.reduceToNatClampNeg, Int32.reduceAdd, Int32.reduceSub, Int32.reduceMul, Nat.reduceLeDiff, zEL, zup_ne, zup_eq, zT0, zT1, zT2, if_true, if_false, gR, gX, s55_56, s55_57, s55_60, s55_63, s55_64, s55_67, s55_70, s55_71, t1_4, c65]
      · simp (config := {maxSteps := 1000000}) (disch := omega) only [↓reduceIte, Int32.reduceLT, Int32.reduceLE, Int32.reduceToNatClampNeg, Int32.reduceAdd, Int32.reduceSub, Int32.reduceMul, Nat.reduceLeDiff, zEL, zup_ne, zup_eq, zT0, zT1, zT2, if_true, if_false, gR, gX, s55_56, s55_57, s55_60, s55_63, s55_64, s55_67, s55_70, s55_71, t1_5, c65]
    · simp (config := {maxSteps := 1000000}) (disch := omega) only [↓reduceIte, Int32.reduceLT, Int32.reduceLE, Int32.reduceToNatClampNeg, Int32.reduceAdd, Int32.reduceSub, Int32.reduceMul, Nat.reduceLeDiff, zEL, zup_ne, zup_eq, zT0, zT1, zT2, if_true, if_false, r0, s201_120, s201_121, s201_122, s201_123, s201_126, s201_129, s201_130, s201_133, s201_136, s201_137, m173_m1]
theorem t56_162 {f0 f1 f2 f3 f4 f5 : Bool} (k0 : zcall 92 [.ref 1, .ref 1000056] zRc S L = some (some (.int (zbi f0)), zRc, S, L)) (k1 : zcall 92 [.ref 1, .ref 1000057] zRc S L = some (some (.int (zbi f1)), zRc, S, L)) (k2 : zcall 92 [.ref 1, .ref 1000058] zRc S L = some (some (.int (zbi f2)), zRc, S, L)) (k3 : zcall 92 [.ref 1, .ref 1000059] zRc S L = some (some (.int (zbi f3)), zRc, S, L)) (k4 : zcall 92 [.ref 1, .ref 1000060] zRc S L = some (some (.int (zbi f4)), zRc, S, L)) (k5 : zcall 92 [.ref 1, .ref 1000061] zRc S L = some (some (.int (zbi f5)), zRc, S, L)) : zcall 56 [.ref 162] zRc S L = some (some (.int (zka f0 f1 f2 f3 f4 f5)), zRc, S, L) := by
  unfold zcall
  cases f0 with
  | true =>
    rw [zbi_t] at k0
    simp (config := {maxSteps := 1000000}) (disch := omega) only [↓reduceIte, Int32.reduceLT, Int32.reduceLE, Int32.reduceToNatClampNeg, Int32.reduceAdd, Int32.reduceSub, Int32.reduceMul, Nat.reduceLeDiff, zEL, zup_ne, zup_eq, zT0, zT1, zT2, if_true, if_false, gR, gX, ze_56, s56_0, s56_1, s56_4, s56_7, s56_10, s56_13, s56_14, s56_15, s56_16, s56_19, s56_22, s56_25, s56_28, s56_29, s56_30, s56_31, s56_34, s56_37, s56_40, s56_43, s56_44, s56_45, s56_46, s56_49, s56_52, s56_55, s56_58, s56_59, s56_60, s56_61, s56_64, s56_67, s56_70, s56_73, s56_74, s56_75, s56_76, s56_79, s56_82, s56_85, s56_88, s56_89, s56_92, s56_93, k0, zka, cond_true, cond_false]
  | false =>
    rw [zbi_f] at k0
    cases f1 with
    | true =>
      rw [zbi_t] at k1
      simp (config := {maxSteps := 1000000}) (disch := omega) only [↓reduceIte, Int32.reduceLT, Int32.reduceLE, Int32.reduceToNatClampNeg, Int32.reduceAdd, Int32.reduceSub, Int32.reduceMul, Nat.reduceLeDiff, zEL, zup_ne, zup_eq, zT0, zT1, zT2, if_true, if_false, gR, gX, ze_56, s56_0, s56_1, s56_4, s56_7, s56_10, s56_13, s56_14, s56_15, s56_16, s56_19, s56_22, s56_25, s56_28, s56_29, s56_30, s56_31, s56_34, s56_37, s56_40, s56_43, s56_44, s56_45, s56_46, s56_49, s56_52, s56_55, s56_58, s56_59, s56_60, s56_61, s56_64, s56_67, s56_70, s56_73, s56_74, s56_75, s56_76, s56_79, s56_82, s56_85, s56_88, s56_89, s56_92, s56_93, k0, k1, zka, cond_true, cond_false]
    | false =>
      rw [zbi_f] at k1
      cases f2 with
      | true =>
        rw [zbi_t] at k2
        simp (config := {maxSteps := 1000000}) (disch := omega) only [↓reduceIte, Int32.reduceLT, Int32.reduceLE, Int32.reduceToNatClampNeg, Int32.reduceAdd, Int32.reduceSub, Int32.reduceMul, Nat.reduceLeDiff, zEL, zup_ne, zup_eq, zT0, zT1, zT2, if_true, if_false, gR, gX, ze_56, s56_0, s56_1, s56_4, s56_7, s56_10, s56_13, s56_14, s56_15, s56_16, s56_19, s56_22, s56_25, s56_28, s56_29, s56_30, s56_31, s56_34, s56_37, s56_40, s56_43, s56_44, s56_45, s56_46, s56_49, s56_52, s56_55, s56_58, s56_59, s56_60, s56_61, s56_64, s56_67, s56_70, s56_73, s56_74, s56_75, s56_76, s56_79, s56_82, s56_85, s56_88, s56_89, s56_92, s56_93, k0, k1, k2, zka, cond_true, cond_false]
      | false =>
        rw [zbi_f] at k2
        cases f3 with
        | true =>
          rw [zbi_t] at k3
          simp (config := {maxSteps := 1000000}) (disch := omega) only [↓reduceIte, Int32.reduceLT, Int32.reduceLE, Int32.reduceToNatClampNeg, Int32.reduceAdd, Int32.reduceSub, Int32.reduceMul, Nat.reduceLeDiff, zEL, zup_ne, zup_eq, zT0, zT1, zT2, if_true, if_false, gR, gX, ze_56, s56_0, s56_1, s56_4, s56_7, s56_10, s56_13, s56_14, s56_15, s56_16, s56_19, s56_22, s56_25, s56_28, s56_29, s56_30, s56_31, s56_34, s56_37, s56_40, s56_43, s56_44, s56_45, s56_46, s56_49, s56_52, s56_55, s56_58, s56_59, s56_60, s56_61, s56_64, s56_67, s56_70, s56_73, s56_74, s56_75, s56_76, s56_79, s56_82, s56_85, s56_88, s56_89, s56_92, s56_93, k0, k1, k2, k3, zka, cond_true, cond_false]
        | false =>
          rw [zbi_f] at k3
          cases f4 with
          | true =>
            rw [zbi_t] at k4
            simp (config := {maxSteps := 1000000}) (disch := omega) only [↓reduceIte, Int32.reduceLT, Int32.reduceLE, Int32.reduceToNatClampNeg, Int32.reduceAdd, Int32.reduceSub, Int32.reduceMul, Nat.reduceLeDiff, zEL, zup_ne, zup_eq, zT0, zT1, zT2, if_true, if_false, gR, gX, ze_56, s56_0, s56_1, s56_4, s56_7, s56_10, s56_13, s56_14, s56_15, s56_16, s56_19, s56_22, s56_25, s56_28, s56_29, s56_30, s56_31, s56_34, s56_37, s56_40, s56_43, s56_44, s56_45, s56_46, s56_49, s56_52, s56_55, s56_58, s56_59, s56_60, s56_61, s56_64, s56_67, s56_70, s56_73, s56_74, s56_75, s56_76, s56_79, s56_82, s56_85, s56_88, s56_89, s56_92, s56_93, k0, k1, k2, k3, k4, zka, cond_true, cond_false]
          | false =>
            rw [zbi_f] at k4
            cases f5 with
            | true =>
              rw [zbi_t] at k5
              simp (config := {maxSteps := 1000000}) (disch := omega) only [↓reduceIte, Int32.reduceLT, Int32.reduceLE, Int32.reduceToNatClampNeg, Int32.reduceAdd, Int32.reduceSub, Int32.reduceMul, Nat.reduceLeDiff, zEL, zup_ne, zup_eq, zT0, zT1, zT2, if_true, if_false, gR, gX, ze_56, s56_0, s56_1, s56_4, s56_7, s56_10, s56_13, s56_14, s56_15, s56_16, s56_19, s56_22, s56_25, s56_28, s56_29, s56_30, s56_31, s56_34, s56_37, s56_40, s56_43, s56_44, s56_45, s56_46, s56_49, s56_52, s56_55, s56_58, s56_59, s56_60, s56_61, s56_64, s56_67, s56_70, s56_73, s56_74, s56_75, s56_76, s56_79, s56_82, s56_85, s56_88, s56_89, s56_92, s56_93, k0, k1, k2, k3, k4, k5, zka, cond_true, cond_false]
            | false =>
              rw [zbi_f] at k5
              simp (config := {maxSteps := 1000000}) (disch := omega) only [↓reduceIte, Int32.reduceLT, Int32.reduceLE, Int32.reduceToNatClampNeg, Int32.reduceAdd, Int32.reduceSub, Int32.reduceMul, Nat.reduceLeDiff, zEL, zup_ne, zup_eq, zT0, zT1, zT2, if_true, if_false, gR, gX, ze_56, s56_0, s56_1, s56_4, s56_7, s56_10, s56_13, s56_14, s56_15, s56_16, s56_19, s56_22, s56_25, s56_28, s56_29, s56_30, s56_31, s56_34, s56_37, s56_40, s56_43, s56_44, s56_45, s56_46, s56_49, s56_52, s56_55, s56_58, s56_59, s56_60, s56_61, s56_64, s56_67, s56_70, s56_73, s56_74, s56_75, s56_76, s56_79, s56_82, s56_85, s56_88, s56_89, s56_92, s56_93, k0, k1, k2, k3, k4, k5, zka, cond_true, cond_false]
/-- from the kind's WORD to what follows it -/
theorem opA_162 {x y x' y' : Int32} (hR : zLT R) (h : zST 162 n b S Sm Lm) : ∃ kd kd' : Int32, ∃ S' Sm' Lm', zgo 55 27 [.ref 162, .int x, .int y, .retAddr 0, .retAddr 0] [] zRc S L = zgo 55 56 [.ref 162, .int x, .int y, .int kd, .retAddr 0] [] zRc S' L ∧ zgo 201 26 [.ref 0, .int x', .int y', .retAddr 0, .retAddr 0, .retAddr 0] [] R Sm Lm = zgo 201 120 [.ref 0, .int x', .int y', .int kd', .retAddr 0, .retAddr 0] [] R Sm' Lm' ∧ zST 162 n b S' Sm' Lm' ∧ zfr 162 S Sm Lm S' Sm' Lm' ∧ (S' 162 6 = 0 → S 162 6 = 0 ∧ kd' = kd ∧ zkk kd) ∧ (¬ S' 162 6 = 0 → kd' = -1 ∧ (kd = -1 ∨ zkk kd)) := by
  have r0 := hR
  unfold zLT at r0
  obtain ⟨p, q, hT, hO⟩ := h
  have e1 : ((-1 : Int32) = -1) = True := eq_true rfl
  rcases hO with hO | hF
  · have h6 := hO.1
    have m95 : (Sm 0 9 = 5) = False := eq_false (zOK_9 hO)
    have hTK : zTK n b p q S Sm Lm := ⟨hT, hO.2.2.1, hO.2.2.2⟩
    have kc := t56_162 (L := L) (cw_flat hT) (cw_high hT) (cw_rolls hT) (cw_makes hT) (cw_goes hT) (cw_ducks hT)
    have km := m56 (x := x') (y := y') hR (mw_flat hR hTK) (mw_high hR hTK) (mw_rolls hR hTK) (mw_makes hR hTK) (mw_goes hR hTK) (mw_ducks hR hTK)
    have hr := zka_r (zW b n p q zw_flat) (zW b n p q zw_high) (zW b n p q zw_rolls) (zW b n p q zw_makes) (zW b n p q zw_goes) (zW b n p q zw_ducks)
    have hk : zka (zW b n p q zw_flat) (zW b n p q zw_high) (zW b n p q zw_rolls) (zW b n p q zw_makes) (zW b n p q zw_goes) (zW b n p q zw_ducks) = -1 ∨ (zkN b n p q = 1 ∧ zkk (zka (zW b n p q zw_flat) (zW b n p q zw_high) (zW b n p q zw_rolls) (zW b n p q zw_makes) (zW b n p q zw_goes) (zW b n p q zw_ducks))) := by
      rcases hr with hr | ⟨h1, h2⟩
      · exact .inl hr
      · refine .inr ⟨?_, h2⟩
        simp only [Bool.or_eq_true] at h1
        rcases h1 with ((((h | h) | h) | h) | h) | h <;> exact zW_1 h
    generalize zka (zW b n p q zw_flat) (zW b n p q zw_high) (zW b n p q zw_rolls) (zW b n p q zw_makes) (zW b n p q zw_goes) (zW b n p q zw_ducks) = v at kc km hk
    rcases hk with rfl | ⟨hk, hv⟩
    · obtain ⟨f1, f2, f3, f4, -⟩ := zFk_162 (f := 1) rfl (by omega) (by omega) hT hO
      have k3 : zcall 58 [.ref 162, .int 1] zRc S L = _ := c58O_162 (L := L) (k := nI 1) h6
      have k4 : zcall 180 [.ref 0, .int 1] R Sm Lm = _ := m180O (Lm := Lm) (k := nI 1) hR (zOK_9 hO)
      have k5 := m179F (Lm := Lm) hR f4
      generalize hS1 : zup (zup S 162 6 (nI 1)) 162 7 (S 1 3) = S1 at f1 f2 f3 k3
      generalize hSm1 : zup (zup (zup Sm 0 13 (nI 1)) 0 14 (Sm 0 8)) 0 9 5 = Sm1 at f1 f2 f4 k4 k5
      refine ⟨-1, -1, S1, Sm1, Lm, ?_, ?_, f1, f2, fun h => absurd h f3, fun _ => ⟨rfl, .inl rfl⟩⟩
      · simp (config := {maxSteps := 1000000}) (disch := omega) only [↓reduceIte, Int32.reduceLT, Int32.reduceLE, Int32.reduceToNatClampNeg, Int32.reduceAdd, Int32.reduceSub, Int32.reduceMul, Nat.reduceLeDiff, zEL, zup_ne, zup_eq, zT0, zT1, zT2, if_true, if_false, gR, gX, s55_27, s55_28, s55_31, s55_32, s55_33, s55_34, s55_37, s55_38, s55_39, s55_42, s55_43, s55_46, s55_49, s55_50, s55_53, kc, e1, k3, f3]
      · rw [km]
        simp (config := {maxSteps := 1000000}) (disch := omega) only [↓reduceIte, Int32.reduceLT, Int32.reduceLE, Int32.reduceToNatClampNeg, Int32.reduceAdd, Int32.reduceSub, Int32.reduceMul, Nat.reduceLeDiff, zEL, zup_ne, zup_eq, zT0, zT1, zT2, if_true, if_false, r0, s201_106, s201_107, s201_108, s201_111, s201_112, s201_113, s201_116, s201_117, e1, k4, k5]
    · obtain ⟨S', Sm', Lm', a1, a2, a3, a4, a5⟩ := zsn_162 (L := L) hR hT hO (by omega) (by omega)
      have e2 : (v = -1) = False := by rcases hv with rfl | rfl | rfl | rfl | rfl | rfl <;> decide
      refine ⟨v, v, S', Sm', Lm', ?_, ?_, a3, a4, fun _ => ⟨h6, rfl, hv⟩, fun h => absurd a5 h⟩
      · simp (config := {maxSteps := 1000000}) (disch := omega) only [↓reduceIte, Int32.reduceLT, Int32.reduceLE, Int32.reduceToNatClampNeg, Int32.reduceAdd, Int32.reduceSub, Int32.reduceMul, Nat.reduceLeDiff, zEL, zup_ne, zup_eq, zT0, zT1, zT2, if_true, if_false, gR, gX, s55_27, s55_28, s55_31, s55_32, s55_33, s55_34, s55_37, s55_38, s55_39, s55_42, s55_43, s55_46, s55_49, s55_50, s55_53, kc, e2, h6, a1]
      · rw [km]
        simp (config := {maxSteps := 1000000}) (disch := omega) only [↓reduceIte, Int32.reduceLT, Int32.reduceLE, Int32.reduceToNatClampNeg, Int32.reduceAdd, Int32.reduceSub, Int32.reduceMul, Nat.reduceLeDiff, zEL, zup_ne, zup_eq, zT0, zT1, zT2, if_true, if_false, r0, s201_106, s201_107, s201_108, s201_111, s201_112, s201_113, s201_116, s201_117, e2, a2]
  · have hne := zFA_ne hF
    have k3 := fun k => c58F_162 (L := L) (k := k) hne
    have m9 : Sm 0 9 = 5 := by obtain ⟨f, pl, -, -, -, -, -, h9, -⟩ := hF; exact h9
    have k4 := fun k => m180F (Lm := Lm) (k := k) hR m9
    have k5 := m179F (Lm := Lm) hR m9
    have mF : ∀ r, zcall 181 [.ref 0, .ref r] R Sm Lm = some (some (.int (zbi false)), R, Sm, Lm) := fun r => m181F hR m9
    have km := m56 (x := x') (y := y') hR (mF _) (mF _) (mF _) (mF _) (mF _) (mF _)
    rw [show zka false false false false false false = -1 from rfl] at km
    have kc := t56_162 (L := L) (cw_flat hT) (cw_high hT) (cw_rolls hT) (cw_makes hT) (cw_goes hT) (cw_ducks hT)
    have hr := zka_r (zW b n p q zw_flat) (zW b n p q zw_high) (zW b n p q zw_rolls) (zW b n p q zw_makes) (zW b n p q zw_goes) (zW b n p q zw_ducks)
    have hk : zka (zW b n p q zw_flat) (zW b n p q zw_high) (zW b n p q zw_rolls) (zW b n p q zw_makes) (zW b n p q zw_goes) (zW b n p q zw_ducks) = -1 ∨ zkk (zka (zW b n p q zw_flat) (zW b n p q zw_high) (zW b n p q zw_rolls) (zW b n p q zw_makes) (zW b n p q zw_goes) (zW b n p q zw_ducks)) := hr.imp_right fun h => h.2
    generalize zka (zW b n p q zw_flat) (zW b n p q zw_high) (zW b n p q zw_rolls) (zW b n p q zw_makes) (zW b n p q zw_goes) (zW b n p q zw_ducks) = v at kc hk
    refine ⟨v, -1, S, Sm, Lm, ?_, ?_, ⟨p, q, hT, .inr hF⟩, zfr_r, fun h => absurd h hne, fun _ => ⟨rfl, hk⟩⟩
    · rcases hk with rfl | hv
      · simp (config := {maxSteps := 1000000}) (disch := omega) only [↓reduceIte, Int32.reduceLT, Int32.reduceLE, Int32.reduceToNatClampNeg, Int32.reduceAdd, Int32.reduceSub, Int32.reduceMul, Nat.reduceLeDiff, zEL, zup_ne, zup_eq, zT0, zT1, zT2, if_true, if_false, gR, gX, s55_27, s55_28, s55_31, s55_32, s55_33, s55_34, s55_37, s55_38, s55_39, s55_42, s55_43, s55_46, s55_49, s55_50, s55_53, kc, e1, k3, hne]
      · have e2 : (v = -1) = False := by rcases hv with rfl | rfl | rfl | rfl | rfl | rfl <;> decide
        simp (config := {maxSteps := 1000000}) (disch := omega) only [↓reduceIte, Int32.reduceLT, Int32.reduceLE, Int32.reduceToNatClampNeg, Int32.reduceAdd, Int32.reduceSub, Int32.reduceMul, Nat.reduceLeDiff, zEL, zup_ne, zup_eq, zT0, zT1, zT2, if_true, if_false, gR, gX, s55_27, s55_28, s55_31, s55_32, s55_33, s55_34, s55_37, s55_38, s55_39, s55_42, s55_43, s55_46, s55_49, s55_50, s55_53, kc, e2, k3, hne]
    · rw [km]
      simp (config := {maxSteps := 1000000}) (disch := omega) only [↓reduceIte, Int32.reduceLT, Int32.reduceLE, Int32.reduceToNatClampNeg, Int32.reduceAdd, Int32.reduceSub, Int32.reduceMul, Nat.reduceLeDiff, zEL, zup_ne, zup_eq, zT0, zT1, zT2, if_true, if_false, r0, s201_106, s201_107, s201_108, s201_111, s201_112, s201_113, s201_116, s201_117, e1, k4, k5]
theorem c65F_162 {k : Nat} (hT : zTKc n b p q S) (hne : ¬ S 162 6 = 0) (hk : k ≤ 26) (h5 : S 162 5 = nI k) : zcall 65 [.ref 162] zRc S L = some (some (.int (-1)), zRc, S, L) := by
  have k1 := t67_162 (L := L) hT
  have k3 := fun k => c58F_162 (L := L) (k := k) hne
  obtain ⟨x, c1, -⟩ := t94 (L := L) hT
  have c3 := c66_162 (S := S) (L := L) (x := x) hk h5
  unfold zcall
  generalize zNm b n p q = vb at k1
  cases ho : zfd (fun i => decide (L 163 i = x)) k with
  | none =>
    rw [ho, zon_n] at c3
    cases vb
    all_goals first | rw [zbi_f] at k1 | rw [zbi_t] at k1
    all_goals simp (config := {maxSteps := 1000000}) (disch := omega) only [↓reduceIte, Int32.reduceLT, Int32.reduceLE, Int32.reduceToNatClampNeg, Int32.reduceAdd, Int32.reduceSub, Int32.reduceMul, Nat.reduceLeDiff, zEL, zup_ne, zup_eq, zT0, zT1, zT2, if_true, if_false, zneq_f, true_and, and_true, false_and, and_false, zKL, eq_self, Nat.reduceEqDiff, zite0, ite_not, zaddr, zaddl, zputr, zsb1, zsb2, zsb0, zsbm, znm1, gR, gX, ze_65, s65_0, s65_1, s65_4, s65_7, s65_8, s65_9, s65_12, s65_13, s65_14, s65_17, s65_20, s65_23, s65_24, s65_25, s65_26, s65_29, s65_30, s65_33, s65_34, s65_37, s65_40, s65_41, s65_42, s65_45, s65_46, s65_49, s65_52, s65_53, s65_54, s65_55, s65_58, s65_61, s65_62, s65_65, s65_66, s65_69, k1, c1, c3, k3, hne]
  | some i =>
    obtain ⟨hi, -⟩ := zfd_lt ho
    rw [ho, zon_s] at c3
    cases vb
    all_goals first | rw [zbi_f] at k1 | rw [zbi_t] at k1
    all_goals by_cases hs0 : S 165 i = 0
    all_goals simp (config := {maxSteps := 1000000}) (disch := omega) only [↓reduceIte, Int32.reduceLT, Int32.reduceLE, Int32.reduceToNatClampNeg, Int32.reduceAdd, Int32.reduceSub, Int32.reduceMul, Nat.reduceLeDiff, zEL, zup_ne, zup_eq, zT0, zT1, zT2, if_true, if_false, zneq_f, true_and, and_true, false_and, and_false, zKL, eq_self, Nat.reduceEqDiff, zite0, ite_not, zaddr, zaddl, zputr, zsb1, zsb2, zsb0, zsbm, znm1, gR, gX, ze_65, s65_0, s65_1, s65_4, s65_7, s65_8, s65_9, s65_12, s65_13, s65_14, s65_17, s65_20, s65_23, s65_24, s65_25, s65_26, s65_29, s65_30, s65_33, s65_34, s65_37, s65_40, s65_41, s65_42, s65_45, s65_46, s65_49, s65_52, s65_53, s65_54, s65_55, s65_58, s65_61, s65_62, s65_65, s65_66, s65_69, k1, c1, c3, k3, hne, hs0]
/-- whom, if anybody -/
theorem opB_162 {x y x' y' kd kd' : Int32} {k m : Nat} (hR : zLT R) (hB : zLB R B) (hB11 : 11 ≤ B) (h : zST 162 n b S Sm Lm) (hk : k ≤ 26) (h5 : S 162 5 = nI k) (h13 : Sm B 13 = nI k) (hN : ∀ i, i < k → L 163 i = Lm (B + 27) i ∧ (S 165 i = 0 ↔ Sm (B + 28) i = 0) ∧ (S 165 i = 0 → ∃ x, x < m ∧ S 167 i = nI x ∧ Sm (B + 29) i = nI x)) (hk1 : S 162 6 = 0 → kd' = kd ∧ zkk kd) (hk2 : ¬ S 162 6 = 0 → kd' = -1 ∧ (kd = -1 ∨ zkk kd)) : ∃ o o' : Int32, ∃ S' Sm' Lm', zgo 55 56 [.ref 162, .int x, .int y, .int kd, .retAddr 0] [] zRc S L = zgo 55 73 [.ref 162, .int x, .int y, .int kd, .int o] [] zRc S' L ∧ zgo 201 120 [.ref 0, .int x', .int y', .int kd', .retAddr 0, .retAddr 0] [] R Sm Lm = zgo 201 139 [.ref 0, .int x', .int y', .int kd', .int o', .retAddr 0] [] R Sm' Lm' ∧ zST 162 n b S' Sm' Lm' ∧ zfr 162 S Sm Lm S' Sm' Lm' ∧ (S' 162 6 = 0 → S 162 6 = 0 ∧ kd' = kd ∧ ((zin kd 2 ∧ ∃ x, x < m ∧ o = nI x ∧ o' = nI x) ∨ kd = 3 ∨ kd = 4 ∨ kd = 5)) := by
  have r0 := hR
  unfold zLT at r0
  rcases zST_9 h with ⟨o1, o2⟩ | ⟨o1, o2⟩
  · obtain ⟨rfl, hv⟩ := hk1 o1
    obtain ⟨v, v', S', Sm', Lm', a1, a2, a3, a4, a5⟩ := op65_162 (L := L) (k := k) (k' := k) (m := m) hR hB hB11 h hk hk h5 h13 (fun _ => ⟨rfl, hN⟩)
    rcases hv with rfl | rfl | rfl | rfl | rfl | rfl
    · refine ⟨v, v', S', Sm', Lm', ?_, ?_, a3, a4, fun h => ⟨(a5 h).1, rfl, .inl ⟨⟨0, by omega, rfl⟩, (a5 h).2⟩⟩⟩
      · simp (config := {maxSteps := 1000000}) (disch := omega) only [↓reduceIte, Int32.reduceLT, Int32.reduceLE, Int32.reduceToNatClampNeg, Int32.reduceAdd, Int32.reduceSub, Int32.reduceMul, Nat.reduceLeDiff, zEL, zup_ne, zup_eq, zT0, zT1, zT2, if_true, if_false, gR, gX, s55_56, s55_57, s55_60, s55_63, s55_64, s55_67, s55_70, s55_71, t1_0, a1]
      · simp (config := {maxSteps := 1000000}) (disch := omega) only [↓reduceIte, Int32.reduceLT, Int32.reduceLE, Int32.reduceToNatClampNeg, Int32.reduceAdd, Int32.reduceSub, Int32.reduceMul, Nat.reduceLeDiff, zEL, zup_ne, zup_eq, zT0, zT1, zT2, if_true, if_false, r0, s201_120, s201_121, s201_122, s201_123, s201_126, s201_129, s201_130, s201_133, s201_136, s201_137, m173_0, a2]
    · refine ⟨v, v', S', Sm', Lm', ?_, ?_, a3, a4, fun h => ⟨(a5 h).1, rfl, .inl ⟨⟨1, by omega, rfl⟩, (a5 h).2⟩⟩⟩
      · simp (config := {maxSteps := 1000000}) (disch := omega) only [↓reduceIte, Int32.reduceLT, Int32.reduceLE, Int32.reduceToNatClampNeg, Int32.reduceAdd, Int32.reduceSub, Int32.reduceMul, Nat.reduceLeDiff, zEL, zup_ne, zup_eq, zT0, zT1, zT2, if_true, if_false, gR, gX, s55_56, s55_57, s55_60, s55_63, s55_64, s55_67, s55_70, s55_71, t1_1, a1]
      · simp (config := {maxSteps := 1000000}) (disch := omega) only [↓reduceIte, Int32.reduceLT, Int32.reduceLE, Int32.reduceToNatClampNeg, Int32.reduceAdd, Int32.reduceSub, Int32.reduceMul, Nat.reduceLeDiff, zEL, zup_ne, zup_eq, zT0, zT1, zT2, if_true, if_false, r0, s201_120, s201_121, s201_122, s201_123, s201_126, s201_129, s201_130, s201_133, s201_136, s201_137, m173_1, a2]
    · refine ⟨v, v', S', Sm', Lm', ?_, ?_, a3, a4, fun h => ⟨(a5 h).1, rfl, .inl ⟨⟨2, by omega, rfl⟩, (a5 h).2⟩⟩⟩
      · simp (config := {maxSteps := 1000000}) (disch := omega) only [↓reduceIte, Int32.reduceLT, Int32.reduceLE, Int32.reduceToNatClampNeg, Int32.reduceAdd, Int32.reduceSub, Int32.reduceMul, Nat.reduceLeDiff, zEL, zup_ne, zup_eq, zT0, zT1, zT2, if_true, if_false, gR, gX, s55_56, s55_57, s55_60, s55_63, s55_64, s55_67, s55_70, s55_71, t1_2, a1]
      · simp (config := {maxSteps := 1000000}) (disch := omega) only [↓reduceIte, Int32.reduceLT, Int32.reduceLE, Int32.reduceToNatClampNeg, Int32.reduceAdd, Int32.reduceSub, Int32.reduceMul, Nat.reduceLeDiff, zEL, zup_ne, zup_eq, zT0, zT1, zT2, if_true, if_false, r0, s201_120, s201_121, s201_122, s201_123, s201_126, s201_129, s201_130, s201_133, s201_136, s201_137, m173_2, a2]
    · refine ⟨-1, 0, S, Sm, Lm, ?_, ?_, h, zfr_r, fun h => ⟨h, rfl, .inr (by decide)⟩⟩
      · simp (config := {maxSteps := 1000000}) (disch := omega) only [↓reduceIte, Int32.reduceLT, Int32.reduceLE, Int32.reduceToNatClampNeg, Int32.reduceAdd, Int32.reduceSub, Int32.reduceMul, Nat.reduceLeDiff, zEL, zup_ne, zup_eq, zT0, zT1, zT2, if_true, if_false, gR, gX, s55_56, s55_57, s55_60, s55_63, s55_64, s55_67, s55_70, s55_71, t1_3]
      · simp (config := {maxSteps := 1000000}) (disch := omega) only [↓reduceIte, Int32.reduceLT, Int32.reduceLE, Int32.reduceToNatClampNeg, Int32.reduceAdd, Int32.reduceSub, Int32.reduceMul, Nat.reduceLeDiff, zEL, zup_ne, zup_eq, zT0, zT1, zT2, if_true, if_false, r0, s201_120, s201_121, s201_122, s201_123, s201_126, s201_129, s201_130, s201_133, s201_136, s201_137, m173_3]
    · refine ⟨-1, 0, S, Sm, Lm, ?_, ?_, h, zfr_r, fun h => ⟨h, rfl, .inr (by decide)⟩⟩
      · simp (config := {maxSteps := 1000000}) (disch := omega) only [↓reduceIte, Int32.reduceLT, Int32.reduceLE, Int32.reduceToNatClampNeg, Int32.reduceAdd, Int32.reduceSub, Int32.reduceMul, Nat.reduceLeDiff, zEL, zup_ne, zup_eq, zT0, zT1, zT2, if_true, if_false, gR, gX, s55_56, s55_57, s55_60, s55_63, s55_64, s55_67, s55_70, s55_71, t1_4]
      · simp (config := {maxSteps := 1000000}) (disch := omega) only [↓reduceIte, Int32.reduceLT, Int32.reduceLE, Int32.reduceToNatClampNeg, Int32.reduceAdd, Int32.reduceSub, Int32.reduceMul, Nat.reduceLeDiff, zEL, zup_ne, zup_eq, zT0, zT1, zT2, if_true, if_false, r0, s201_120, s201_121, s201_122, s201_123, s201_126, s201_129, s201_130, s201_133, s201_136, s201_137, m173_4]
    · refine ⟨-1, 0, S, Sm, Lm, ?_, ?_, h, zfr_r, fun h => ⟨h, rfl, .inr (by decide)⟩⟩
      · simp (config := {maxSteps := 1000000}) (disch := omega) only [↓reduceIte, Int32.reduceLT, Int32.reduceLE, Int32.reduceToNatClampNeg, Int32.reduceAdd, Int32.reduceSub, Int32.reduceMul, Nat.reduceLeDiff, zEL, zup_ne, zup_eq, zT0, zT1, zT2, if_true, if_false, gR, gX, s55_56, s55_57, s55_60, s55_63, s55_64, s55_67, s55_70, s55_71, t1_5]
      · simp (config := {maxSteps := 1000000}) (disch := omega) only [↓reduceIte, Int32.reduceLT, Int32.reduceLE, Int32.reduceToNatClampNeg, Int32.reduceAdd, Int32.reduceSub, Int32.reduceMul, Nat.reduceLeDiff, zEL, zup_ne, zup_eq, zT0, zT1, zT2, if_true, if_false, r0, s201_120, s201_121, s201_122, s201_123, s201_126, s201_129, s201_130, s201_133, s201_136, s201_137, m173_5]
  · obtain ⟨rfl, hv⟩ := hk2 o1
    obtain ⟨p, q, hT, -⟩ := id h
    have c65 := c65F_162 (L := L) hT o1 hk h5
    refine ⟨-1, 0, S, Sm, Lm, ?_, ?_, h, zfr_r, fun h => absurd h o1⟩
    · rcases hv with rfl | rfl | rfl | rfl | rfl | rfl | rfl
      · simp (config := {maxSteps := 1000000}) (disch := omega) only [↓reduceIte, Int32.reduceLT, Int32.reduceLE, Int32.reduceToNatClampNeg, Int32.reduceAdd, Int32.reduceSub, Int32.reduceMul, Nat.reduceLeDiff, zEL, zup_ne, zup_eq, zT0, zT1, zT2, if_true, if_false, gR, gX, s55_56, s55_57, s55_60, s55_63, s55_64, s55_67, s55_70, s55_71, t1_m1, c65]
      · simp (config := {maxSteps := 1000000}) (disch := omega) only [↓reduceIte, Int32.reduceLT, Int32.reduceLE, Int32.reduceToNatClampNeg, Int32.reduceAdd, Int32.reduceSub, Int32.reduceMul, Nat.reduceLeDiff, zEL, zup_ne, zup_eq, zT0, zT1, zT2, if_true, if_false, gR, gX, s55_56, s55_57, s55_60, s55_63, s55_64, s55_67, s55_70, s55_71, t1_0, c65]
      · simp (config := {maxSteps := 1000000}) (disch := omega) only [↓reduceIte, Int32.reduceLT, Int32.reduceLE, Int32.reduceToNatClampNeg, Int32.reduceAdd, Int32.reduceSub, Int32.reduceMul, Nat.reduceLeDiff, zEL, zup_ne, zup_eq, zT0, zT1, zT2, if_true, if_false, gR, gX, s55_56, s55_57, s55_60, s55_63, s55_64, s55_67, s55_70, s55_71, t1_1, c65]
      · simp (config := {maxSteps := 1000000}) (disch := omega) only [↓reduceIte, Int32.reduceLT, Int32.reduceLE, Int32.reduceToNatClampNeg, Int32.reduceAdd, Int32.reduceSub, Int32.reduceMul, Nat.reduceLeDiff, zEL, zup_ne, zup_eq, zT0, zT1, zT2, if_true, if_false, gR, gX, s55_56, s55_57, s55_60, s55_63, s55_64, s55_67, s55_70, s55_71, t1_2, c65]
      · simp (config := {maxSteps := 1000000}) (disch := omega) only [↓reduceIte, Int32.reduceLT, Int32.reduceLE, Int32.reduceToNatClampNeg, Int32.reduceAdd, Int32.reduceSub, Int32.reduceMul, Nat.reduceLeDiff, zEL, zup_ne, zup_eq, zT0, zT1, zT2, if_true, if_false, gR, gX, s55_56, s55_57, s55_60, s55_63, s55_64, s55_67, s55_70, s55_71, t1_3, c65]
      · simp (config := {maxSteps := 1000000}) (disch := omega) only [↓reduceIte, Int32.reduceLT, Int32.reduceLE, Int32.reduceToNatClampNeg, Int32.reduceAdd, Int32.reduceSub, Int32.reduceMul, Nat.reduceLeDiff, zEL, zup_ne, zup_eq, zT0, zT1, zT2, if_true, if_false, gR, gX, s55_56, s55_57, s55_60, s55_63, s55_64, s55_67, s55_70, s55_71, t1_4, c65]
      · simp (config := {maxSteps := 1000000}) (disch := omega) only [↓reduceIte, Int32.reduceLT, Int32.reduceLE, Int32.reduceToNatClampNeg, Int32.reduceAdd, Int32.reduceSub, Int32.reduceMul, Nat.reduceLeDiff, zEL, zup_ne, zup_eq, zT0, zT1, zT2, if_true, if_false, gR, gX, s55_56, s55_57, s55_60, s55_63, s55_64, s55_67, s55_70, s55_71, t1_5, c65]
    · simp (config := {maxSteps := 1000000}) (disch := omega) only [↓reduceIte, Int32.reduceLT, Int32.reduceLE, Int32.reduceToNatClampNeg, Int32.reduceAdd, Int32.reduceSub, Int32.reduceMul, Nat.reduceLeDiff, zEL, zup_ne, zup_eq, zT0, zT1, zT2, if_true, if_false, r0, s201_120, s201_121, s201_122, s201_123, s201_126, s201_129, s201_130, s201_133, s201_136, s201_137, m173_m1]
end ZPF
