/-! THE TEXT: NAMES -/
section ZP7
variable {S Sm S' Sm' : zS} {L Lm L' Lm' : zL} {R : List zE} {n B p q : Nat} {b : Nat → Nat}
theorem zTKc_fr (h : zTKc n b p q S) (h1 : ∀ k, S' 1 k = S 1 k) (h3 : ∀ k, S' 3 k = S 3 k) : zTKc n b p q S' := by
  obtain ⟨a1, a2, a3, a4, a5, a6⟩ := h
  exact ⟨zTC_fr a1 (h1 5) h3, a2, a3, (h1 3).trans a4, (h1 2).trans a5, (h1 4).trans a6⟩
theorem zOKs_fr {rd : Nat} (h : zOKs rd n b p q S Sm Lm) (h1 : S' rd 6 = S rd 6) (h2 : ∀ k, Sm' 0 k = Sm 0 k) (h3 : ∀ k, Sm' 1 k = Sm 1 k) (h4 : Lm' 0 15 = Lm 0 15) : zOKs rd n b p q S' Sm' Lm' := by
  obtain ⟨a1, a2, a3, a4⟩ := h
  refine ⟨h1.trans a1, (h2 13).trans a2, zTN_fr a3 (h2 7) h3, ?_⟩
  unfold zTM1 at a4 ⊢
  rw [h2, h2, h2, h2, h2, h4]
  exact a4
theorem zFA_fr {rd : Nat} (h : zFA rd S Sm) (h1 : S' rd 6 = S rd 6) (h1' : S' rd 7 = S rd 7) (h2 : ∀ k, Sm' 0 k = Sm 0 k) : zFA rd S' Sm' := by
  obtain ⟨f, pl, a1, a2, a3, a4, a5, a6, a7, a8⟩ := h
  exact ⟨f, pl, a1, a2, a3, h1.trans a4, h1'.trans a5, (h2 9).trans a6, (h2 13).trans a7, (h2 14).trans a8⟩
theorem zNm_1 (h : zNm b n p q = true) : zkN b n p q = 1 := by
  unfold zNm at h
  rw [Bool.and_eq_true, decide_eq_true_eq] at h
  exact h.1
theorem zonm {o : Option Nat} (ho : ∀ i, o = some i → i < 1000) : (zon o = -1) = (o = none) := by
  cases o with
  | none => simp [zon_n]
  | some i =>
    rw [zon_s, znm1 (by have := ho i rfl; omega)]
    simp
theorem t67_80 (h : zTKc n b p q S) : zcall 67 [.ref 80] zRc S L = some (some (.int (zbi (zNm b n p q))), zRc, S, L) := by
  have t2 := h.2.2.2.2.1
  have hr := @zkN_r n p q b
  have f1 := And.intro (cw_law (L := L) h) (And.intro (cw_snow (L := L) h) (And.intro (cw_referee (L := L) h) (And.intro (cw_block (L := L) h) (And.intro (cw_player (L := L) h) (And.intro (cw_site (L := L) h) (And.intro (cw_print (L := L) h) (And.intro (cw_at (L := L) h) (cw_guess (L := L) h))))))))
  have f2 := And.intro (cw_left (L := L) h) (cw_right (L := L) h)
  have f3 := And.intro (cw_flat (L := L) h) (And.intro (cw_high (L := L) h) (And.intro (cw_rolls (L := L) h) (And.intro (cw_makes (L := L) h) (And.intro (cw_goes (L := L) h) (cw_ducks (L := L) h)))))
  unfold zNm
  generalize zW b n p q zw_law = w_law at f1 ⊢
  generalize zW b n p q zw_snow = w_snow at f1 ⊢
  generalize zW b n p q zw_referee = w_referee at f1 ⊢
  generalize zW b n p q zw_block = w_block at f1 ⊢
  generalize zW b n p q zw_player = w_player at f1 ⊢
  generalize zW b n p q zw_site = w_site at f1 ⊢
  generalize zW b n p q zw_print = w_print at f1 ⊢
  generalize zW b n p q zw_at = w_at at f1 ⊢
  generalize zW b n p q zw_guess = w_guess at f1 ⊢
  generalize zW b n p q zw_left = w_left at f2 ⊢
  generalize zW b n p q zw_right = w_right at f2 ⊢
  generalize zW b n p q zw_flat = w_flat at f3 ⊢
  generalize zW b n p q zw_high = w_high at f3 ⊢
  generalize zW b n p q zw_rolls = w_rolls at f3 ⊢
  generalize zW b n p q zw_makes = w_makes at f3 ⊢
  generalize zW b n p q zw_goes = w_goes at f3 ⊢
  generalize zW b n p q zw_ducks = w_ducks at f3 ⊢
  have s1 : zgo 67 0 [.ref 80, .retAddr 0, .retAddr 0, .retAddr 0] [] zRc S L = zgo 67 114 [.ref 80, .int (zbi (w_law || w_snow || w_referee || w_block || w_player || w_site || w_print || w_at || w_guess)), .retAddr 0, .retAddr 0] [] zRc S L := by
    clear f2 f3
    by_cases e_law : w_law = true
    · simp only [e_law] at f1 ⊢
      simp (config := {maxSteps := 1000000}) (disch := omega) only [↓reduceIte, Int32.reduceLT, Int32.reduceLE, Int32.reduceToNatClampNeg, Int32.reduceAdd, Int32.reduceSub, Int32.reduceMul, Nat.reduceLeDiff, zEL, zup_ne, zup_eq, zT0, zT1, zT2, if_true, if_false, gR, gX, s67_0, s67_1, s67_4, s67_6, s67_9, s67_12, s67_13, s67_16, s67_18, s67_21, s67_24, s67_25, s67_28, s67_30, s67_33, s67_36, s67_37, s67_40, s67_42, s67_45, s67_48, s67_49, s67_52, s67_54, s67_57, s67_60, s67_61, s67_64, s67_66, s67_69, s67_72, s67_73, s67_76, s67_78, s67_81, s67_84, s67_85, s67_88, s67_90, s67_93, s67_96, s67_97, s67_100, s67_102, s67_105, s67_108, s67_109, s67_112, s67_113, f1, zbi_t, zbi_f, Bool.true_or, Bool.or_true, Bool.false_or, Bool.or_false]
    have e_law := Bool.eq_false_iff.mpr e_law
    simp only [e_law] at f1 ⊢
    by_cases e_snow : w_snow = true
    · simp only [e_snow] at f1 ⊢
      simp (config := {maxSteps := 1000000}) (disch := omega) only [↓reduceIte, Int32.reduceLT, Int32.reduceLE, Int32.reduceToNatClampNeg, Int32.reduceAdd, Int32.reduceSub, Int32.reduceMul, Nat.reduceLeDiff, zEL, zup_ne, zup_eq, zT0, zT1, zT2, if_true, if_false, gR, gX, s67_0, s67_1, s67_4, s67_6, s67_9, s67_12, s67_13, s67_16, s67_18, s67_21, s67_24, s67_25, s67_28, s67_30, s67_33, s67_36, s67_37, s67_40, s67_42, s67_45, s67_48, s67_49, s67_52, s67_54, s67_57, s67_60, s67_61, s67_64, s67_66, s67_69, s67_72, s67_73, s67_76, s67_78, s67_81, s67_84, s67_85, s67_88, s67_90, s67_93, s67_96, s67_97, s67_100, s67_102, s67_105, s67_108, s67_109, s67_112, s67_113, f1, zbi_t, zbi_f, Bool.true_or, Bool.or_true, Bool.false_or, Bool.or_false]
    have e_snow := Bool.eq_false_iff.mpr e_snow
    simp only [e_snow] at f1 ⊢
    by_cases e_referee : w_referee = true
    · simp only [e_referee] at f1 ⊢
      simp (config := {maxSteps := 1000000}) (disch := omega) only [↓reduceIte, Int32.reduceLT, Int32.reduceLE, Int32.reduceToNatClampNeg, Int32.reduceAdd, Int32.reduceSub, Int32.reduceMul, Nat.reduceLeDiff, zEL, zup_ne, zup_eq, zT0, zT1, zT2, if_true, if_false, gR, gX, s67_0, s67_1, s67_4, s67_6, s67_9, s67_12, s67_13, s67_16, s67_18, s67_21, s67_24, s67_25, s67_28, s67_30, s67_33, s67_36, s67_37, s67_40, s67_42, s67_45, s67_48, s67_49, s67_52, s67_54, s67_57, s67_60, s67_61, s67_64, s67_66, s67_69, s67_72, s67_73, s67_76, s67_78, s67_81, s67_84, s67_85, s67_88, s67_90, s67_93, s67_96, s67_97, s67_100, s67_102, s67_105, s67_108, s67_109, s67_112, s67_113, f1, zbi_t, zbi_f, Bool.true_or, Bool.or_true, Bool.false_or, Bool.or_false]
    have e_referee := Bool.eq_false_iff.mpr e_referee
    simp only [e_referee] at f1 ⊢
    by_cases e_block : w_block = true
    · simp only [e_block] at f1 ⊢
      simp (config := {maxSteps := 1000000}) (disch := omega) only [↓reduceIte, Int32.reduceLT, Int32.reduceLE, Int32.reduceToNatClampNeg, Int32.reduceAdd, Int32.reduceSub, Int32.reduceMul, Nat.reduceLeDiff, zEL, zup_ne, zup_eq, zT0, zT1, zT2, if_true, if_false, gR, gX, s67_0, s67_1, s67_4, s67_6, s67_9, s67_12, s67_13, s67_16, s67_18, s67_21, s67_24, s67_25, s67_28, s67_30, s67_33, s67_36, s67_37, s67_40, s67_42, s67_45, s67_48, s67_49, s67_52, s67_54, s67_57, s67_60, s67_61, s67_64, s67_66, s67_69, s67_72, s67_73, s67_76, s67_78, s67_81, s67_84, s67_85, s67_88, s67_90, s67_93, s67_96, s67_97, s67_100, s67_102, s67_105, s67_108, s67_109, s67_112, s67_113, f1, zbi_t, zbi_f, Bool.true_or, Bool.or_true, Bool.false_or, Bool.or_false]
    have e_block := Bool.eq_false_iff.mpr e_block
    simp only [e_block] at f1 ⊢
    by_cases e_player : w_player = true
    · simp only [e_player] at f1 ⊢
      simp (config := {maxSteps := 1000000}) (disch := omega) only [↓reduceIte, Int32.reduceLT, Int32.reduceLE, Int32.reduceToNatClampNeg, Int32.reduceAdd, Int32.reduceSub, Int32.reduceMul, Nat.reduceLeDiff, zEL, zup_ne, zup_eq, zT0, zT1, zT2, if_true, if_false, gR, gX, s67_0, s67_1, s67_4, s67_6, s67_9, s67_12, s67_13, s67_16, s67_18, s67_21, s67_24, s67_25, s67_28, s67_30, s67_33, s67_36, s67_37, s67_40, s67_42, s67_45, s67_48, s67_49, s67_52, s67_54, s67_57, s67_60, s67_61, s67_64, s67_66, s67_69, s67_72, s67_73, s67_76, s67_78, s67_81, s67_84, s67_85, s67_88, s67_90, s67_93, s67_96, s67_97, s67_100, s67_102, s67_105, s67_108, s67_109, s67_112, s67_113, f1, zbi_t, zbi_f, Bool.true_or, Bool.or_true, Bool.false_or, Bool.or_false]
    have e_player := Bool.eq_false_iff.mpr e_player
    simp only [e_player] at f1 ⊢
    by_cases e_site : w_site = true
    · simp only [e_site] at f1 ⊢
      simp (config := {maxSteps := 1000000}) (disch := omega) only [↓reduceIte, Int32.reduceLT, Int32.reduceLE, Int32.reduceToNatClampNeg, Int32.reduceAdd, Int32.reduceSub, Int32.reduceMul, Nat.reduceLeDiff, zEL, zup_ne, zup_eq, zT0, zT1, zT2, if_true, if_false, gR, gX, s67_0, s67_1, s67_4, s67_6, s67_9, s67_12, s67_13, s67_16, s67_18, s67_21, s67_24, s67_25, s67_28, s67_30, s67_33, s67_36, s67_37, s67_40, s67_42, s67_45, s67_48, s67_49, s67_52, s67_54, s67_57, s67_60, s67_61, s67_64, s67_66, s67_69, s67_72, s67_73, s67_76, s67_78, s67_81, s67_84, s67_85, s67_88, s67_90, s67_93, s67_96, s67_97, s67_100, s67_102, s67_105, s67_108, s67_109, s67_112, s67_113, f1, zbi_t, zbi_f, Bool.true_or, Bool.or_true, Bool.false_or, Bool.or_false]
    have e_site := Bool.eq_false_iff.mpr e_site
    simp only [e_site] at f1 ⊢
    by_cases e_print : w_print = true
    · simp only [e_print] at f1 ⊢
      simp (config := {maxSteps := 1000000}) (disch := omega) only [↓reduceIte, Int32.reduceLT, Int32.reduceLE, Int32.reduceToNatClampNeg, Int32.reduceAdd, Int32.reduceSub, Int32.reduceMul, Nat.reduceLeDiff, zEL, zup_ne, zup_eq, zT0, zT1, zT2, if_true, if_false, gR, gX, s67_0, s67_1, s67_4, s67_6, s67_9, s67_12, s67_13, s67_16, s67_18, s67_21, s67_24, s67_25, s67_28, s67_30, s67_33, s67_36, s67_37, s67_40, s67_42, s67_45, s67_48, s67_49, s67_52, s67_54, s67_57, s67_60, s67_61, s67_64, s67_66, s67_69, s67_72, s67_73, s67_76, s67_78, s67_81, s67_84, s67_85, s67_88, s67_90, s67_93, s67_96, s67_97, s67_100, s67_102, s67_105, s67_108, s67_109, s67_112, s67_113, f1, zbi_t, zbi_f, Bool.true_or, Bool.or_true, Bool.false_or, Bool.or_false]
    have e_print := Bool.eq_false_iff.mpr e_print
    simp only [e_print] at f1 ⊢
    by_cases e_at : w_at = true
    · simp only [e_at] at f1 ⊢
      simp (config := {maxSteps := 1000000}) (disch := omega) only [↓reduceIte, Int32.reduceLT, Int32.reduceLE, Int32.reduceToNatClampNeg, Int32.reduceAdd, Int32.reduceSub, Int32.reduceMul, Nat.reduceLeDiff, zEL, zup_ne, zup_eq, zT0, zT1, zT2, if_true, if_false, gR, gX, s67_0, s67_1, s67_4, s67_6, s67_9, s67_12, s67_13, s67_16, s67_18, s67_21, s67_24, s67_25, s67_28, s67_30, s67_33, s67_36, s67_37, s67_40, s67_42, s67_45, s67_48, s67_49, s67_52, s67_54, s67_57, s67_60, s67_61, s67_64, s67_66, s67_69, s67_72, s67_73, s67_76, s67_78, s67_81, s67_84, s67_85, s67_88, s67_90, s67_93, s67_96, s67_97, s67_100, s67_102, s67_105, s67_108, s67_109, s67_112, s67_113, f1, zbi_t, zbi_f, Bool.true_or, Bool.or_true, Bool.false_or, Bool.or_false]
    have e_at := Bool.eq_false_iff.mpr e_at
    simp only [e_at] at f1 ⊢
    by_cases e_guess : w_guess = true
    · simp only [e_guess] at f1 ⊢
      simp (config := {maxSteps := 1000000}) (disch := omega) only [↓reduceIte, Int32.reduceLT, Int32.reduceLE, Int32.reduceToNatClampNeg, Int32.reduceAdd, Int32.reduceSub, Int32.reduceMul, Nat.reduceLeDiff, zEL, zup_ne, zup_eq, zT0, zT1, zT2, if_true, if_false, gR, gX, s67_0, s67_1, s67_4, s67_6, s67_9, s67_12, s67_13, s67_16, s67_18, s67_21, s67_24, s67_25, s67_28, s67_30, s67_33, s67_36, s67_37, s67_40, s67_42, s67_45, s67_48, s67_49, s67_52, s67_54, s67_57, s67_60, s67_61, s67_64, s67_66, s67_69, s67_72, s67_73, s67_76, s67_78, s67_81, s67_84, s67_85, s67_88, s67_90, s67_93, s67_96, s67_97, s67_100, s67_102, s67_105, s67_108, s67_109, s67_112, s67_113, f1, zbi_t, zbi_f, Bool.true_or, Bool.or_true, Bool.false_or, Bool.or_false]
    have e_guess := Bool.eq_false_iff.mpr e_guess
    simp only [e_guess] at f1 ⊢
    simp (config := {maxSteps := 1000000}) (disch := omega) only [↓reduceIte, Int32.reduceLT, Int32.reduceLE, Int32.reduceToNatClampNeg, Int32.reduceAdd, Int32.reduceSub, Int32.reduceMul, Nat.reduceLeDiff, zEL, zup_ne, zup_eq, zT0, zT1, zT2, if_true, if_false, gR, gX, s67_0, s67_1, s67_4, s67_6, s67_9, s67_12, s67_13, s67_16, s67_18, s67_21, s67_24, s67_25, s67_28, s67_30, s67_33, s67_36, s67_37, s67_40, s67_42, s67_45, s67_48, s67_49, s67_52, s67_54, s67_57, s67_60, s67_61, s67_64, s67_66, s67_69, s67_72, s67_73, s67_76, s67_78, s67_81, s67_84, s67_85, s67_88, s67_90, s67_93, s67_96, s67_97, s67_100, s67_102, s67_105, s67_108, s67_109, s67_112, s67_113, f1, zbi_t, zbi_f, Bool.true_or, Bool.or_true, Bool.false_or, Bool.or_false]
  have s2 : ∀ i1, zgo 67 114 [.ref 80, .int i1, .retAddr 0, .retAddr 0] [] zRc S L = zgo 67 144 [.ref 80, .int i1, .int (zbi (w_left || w_right)), .retAddr 0] [] zRc S L := by
    intro i1
    clear f1 f3 s1
    by_cases e_left : w_left = true
    · simp only [e_left] at f2 ⊢
      simp (config := {maxSteps := 1000000}) (disch := omega) only [↓reduceIte, Int32.reduceLT, Int32.reduceLE, Int32.reduceToNatClampNeg, Int32.reduceAdd, Int32.reduceSub, Int32.reduceMul, Nat.reduceLeDiff, zEL, zup_ne, zup_eq, zT0, zT1, zT2, if_true, if_false, gR, gX, s67_114, s67_115, s67_118, s67_120, s67_123, s67_126, s67_127, s67_130, s67_132, s67_135, s67_138, s67_139, s67_142, s67_143, f2, zbi_t, zbi_f, Bool.true_or, Bool.or_true, Bool.false_or, Bool.or_false]
    have e_left := Bool.eq_false_iff.mpr e_left
    simp only [e_left] at f2 ⊢
    by_cases e_right : w_right = true
    · simp only [e_right] at f2 ⊢
      simp (config := {maxSteps := 1000000}) (disch := omega) only [↓reduceIte, Int32.reduceLT, Int32.reduceLE, Int32.reduceToNatClampNeg, Int32.reduceAdd, Int32.reduceSub, Int32.reduceMul, Nat.reduceLeDiff, zEL, zup_ne, zup_eq, zT0, zT1, zT2, if_true, if_false, gR, gX, s67_114, s67_115, s67_118, s67_120, s67_123, s67_126, s67_127, s67_130, s67_132, s67_135, s67_138, s67_139, s67_142, s67_143, f2, zbi_t, zbi_f, Bool.true_or, Bool.or_true, Bool.false_or, Bool.or_false]
    have e_right := Bool.eq_false_iff.mpr e_right
    simp only [e_right] at f2 ⊢
    simp (config := {maxSteps := 1000000}) (disch := omega) only [↓reduceIte, Int32.reduceLT, Int32.reduceLE, Int32.reduceToNatClampNeg, Int32.reduceAdd, Int32.reduceSub, Int32.reduceMul, Nat.reduceLeDiff, zEL, zup_ne, zup_eq, zT0, zT1, zT2, if_true, if_false, gR, gX, s67_114, s67_115, s67_118, s67_120, s67_123, s67_126, s67_127, s67_130, s67_132, s67_135, s67_138, s67_139, s67_142, s67_143, f2, zbi_t, zbi_f, Bool.true_or, Bool.or_true, Bool.false_or, Bool.or_false]
  have s3 : ∀ i1 i2, zgo 67 144 [.ref 80, .int i1, .int i2, .retAddr 0] [] zRc S L = zgo 67 228 [.ref 80, .int i1, .int i2, .int (zbi (w_flat || w_high || w_rolls || w_makes || w_goes || w_ducks))] [] zRc S L := by
    intro i1 i2
    clear f1 f2 s1 s2
    by_cases e_flat : w_flat = true
    · simp only [e_flat] at f3 ⊢
      simp (config := {maxSteps := 1000000}) (disch := omega) only [↓reduceIte, Int32.reduceLT, Int32.reduceLE, Int32.reduceToNatClampNeg, Int32.reduceAdd, Int32.reduceSub, Int32.reduceMul, Nat.reduceLeDiff, zEL, zup_ne, zup_eq, zT0, zT1, zT2, if_true, if_false, gR, gX, s67_144, s67_145, s67_148, s67_151, s67_154, s67_157, s67_158, s67_161, s67_164, s67_167, s67_170, s67_171, s67_174, s67_177, s67_180, s67_183, s67_184, s67_187, s67_190, s67_193, s67_196, s67_197, s67_200, s67_203, s67_206, s67_209, s67_210, s67_213, s67_216, s67_219, s67_222, s67_223, s67_226, s67_227, f3, zbi_t, zbi_f, Bool.true_or, Bool.or_true, Bool.false_or, Bool.or_false]
    have e_flat := Bool.eq_false_iff.mpr e_flat
    simp only [e_flat] at f3 ⊢
    by_cases e_high : w_high = true
    · simp only [e_high] at f3 ⊢
      simp (config := {maxSteps := 1000000}) (disch := omega) only [↓reduceIte, Int32.reduceLT, Int32.reduceLE, Int32.reduceToNatClampNeg, Int32.reduceAdd, Int32.reduceSub, Int32.reduceMul, Nat.reduceLeDiff, zEL, zup_ne, zup_eq, zT0, zT1, zT2, if_true, if_false, gR, gX, s67_144, s67_145, s67_148, s67_151, s67_154, s67_157, s67_158, s67_161, s67_164, s67_167, s67_170, s67_171, s67_174, s67_177, s67_180, s67_183, s67_184, s67_187, s67_190, s67_193, s67_196, s67_197, s67_200, s67_203, s67_206, s67_209, s67_210, s67_213, s67_216, s67_219, s67_222, s67_223, s67_226, s67_227, f3, zbi_t, zbi_f, Bool.true_or, Bool.or_true, Bool.false_or, Bool.or_false]
    have e_high := Bool.eq_false_iff.mpr e_high
    simp only [e_high] at f3 ⊢
    by_cases e_rolls : w_rolls = true
    · simp only [e_rolls] at f3 ⊢
      simp (config := {maxSteps := 1000000}) (disch := omega) only [↓reduceIte, Int32.reduceLT, Int32.reduceLE, Int32.reduceToNatClampNeg, Int32.reduceAdd, Int32.reduceSub, Int32.reduceMul, Nat.reduceLeDiff, zEL, zup_ne, zup_eq, zT0, zT1, zT2, if_true, if_false, gR, gX, s67_144, s67_145, s67_148, s67_151, s67_154, s67_157, s67_158, s67_161, s67_164, s67_167, s67_170, s67_171, s67_174, s67_177, s67_180, s67_183, s67_184, s67_187, s67_190, s67_193, s67_196, s67_197, s67_200, s67_203, s67_206, s67_209, s67_210, s67_213, s67_216, s67_219, s67_222, s67_223, s67_226, s67_227, f3, zbi_t, zbi_f, Bool.true_or, Bool.or_true, Bool.false_or, Bool.or_false]
    have e_rolls := Bool.eq_false_iff.mpr e_rolls
    simp only [e_rolls] at f3 ⊢
    by_cases e_makes : w_makes = true
    · simp only [e_makes] at f3 ⊢
      simp (config := {maxSteps := 1000000}) (disch := omega) only [↓reduceIte, Int32.reduceLT, Int32.reduceLE, Int32.reduceToNatClampNeg, Int32.reduceAdd, Int32.reduceSub, Int32.reduceMul, Nat.reduceLeDiff, zEL, zup_ne, zup_eq, zT0, zT1, zT2, if_true, if_false, gR, gX, s67_144, s67_145, s67_148, s67_151, s67_154, s67_157, s67_158, s67_161, s67_164, s67_167, s67_170, s67_171, s67_174, s67_177, s67_180, s67_183, s67_184, s67_187, s67_190, s67_193, s67_196, s67_197, s67_200, s67_203, s67_206, s67_209, s67_210, s67_213, s67_216, s67_219, s67_222, s67_223, s67_226, s67_227, f3, zbi_t, zbi_f, Bool.true_or, Bool.or_true, Bool.false_or, Bool.or_false]
    have e_makes := Bool.eq_false_iff.mpr e_makes
    simp only [e_makes] at f3 ⊢
    by_cases e_goes : w_goes = true
    · simp only [e_goes] at f3 ⊢
      simp (config := {maxSteps := 1000000}) (disch := omega) only [↓reduceIte, Int32.reduceLT, Int32.reduceLE, Int32.reduceToNatClampNeg, Int32.reduceAdd, Int32.reduceSub, Int32.reduceMul, Nat.reduceLeDiff, zEL, zup_ne, zup_eq, zT0, zT1, zT2, if_true, if_false, gR, gX, s67_144, s67_145, s67_148, s67_151, s67_154, s67_157, s67_158, s67_161, s67_164, s67_167, s67_170, s67_171, s67_174, s67_177, s67_180, s67_183, s67_184, s67_187, s67_190, s67_193, s67_196, s67_197, s67_200, s67_203, s67_206, s67_209, s67_210, s67_213, s67_216, s67_219, s67_222, s67_223, s67_226, s67_227, f3, zbi_t, zbi_f, Bool.true_or, Bool.or_true, Bool.false_or, Bool.or_false]
    have e_goes := Bool.eq_false_iff.mpr e_goes
    simp only [e_goes] at f3 ⊢
    by_cases e_ducks : w_ducks = true
    · simp only [e_ducks] at f3 ⊢
      simp (config := {maxSteps := 1000000}) (disch := omega) only [↓reduceIte, Int32.reduceLT, Int32.reduceLE, Int32.reduceToNatClampNeg, Int32.reduceAdd, Int32.reduceSub, Int32.reduceMul, Nat.reduceLeDiff, zEL, zup_ne, zup_eq, zT0, zT1, zT2, if_true, if_false, gR, gX, s67_144, s67_145, s67_148, s67_151, s67_154, s67_157, s67_158, s67_161, s67_164, s67_167, s67_170, s67_171, s67_174, s67_177, s67_180, s67_183, s67_184, s67_187, s67_190, s67_193, s67_196, s67_197, s67_200, s67_203, s67_206, s67_209, s67_210, s67_213, s67_216, s67_219, s67_222, s67_223, s67_226, s67_227, f3, zbi_t, zbi_f, Bool.true_or, Bool.or_true, Bool.false_or, Bool.or_false]
    have e_ducks := Bool.eq_false_iff.mpr e_ducks
    simp only [e_ducks] at f3 ⊢
    simp (config := {maxSteps := 1000000}) (disch := omega) only [↓reduceIte, Int32.reduceLT, Int32.reduceLE, Int32.reduceToNatClampNeg, Int32.reduceAdd, Int32.reduceSub, Int32.reduceMul, Nat.reduceLeDiff, zEL, zup_ne, zup_eq, zT0, zT1, zT2, if_true, if_false, gR, gX, s67_144, s67_145, s67_148, s67_151, s67_154, s67_157, s67_158, s67_161, s67_164, s67_167, s67_170, s67_171, s67_174, s67_177, s67_180, s67_183, s67_184, s67_187, s67_190, s67_193, s67_196, s67_197, s67_200, s67_203, s67_206, s67_209, s67_210, s67_213, s67_216, s67_219, s67_222, s67_223, s67_226, s67_227, f3, zbi_t, zbi_f, Bool.true_or, Bool.or_true, Bool.false_or, Bool.or_false]
  unfold zcall
  rw [ze_67, s1, s2, s3]
  generalize (w_law || w_snow || w_referee || w_block || w_player || w_site || w_print || w_at || w_guess) = g1
  generalize (w_left || w_right) = g2
  generalize (w_flat || w_high || w_rolls || w_makes || w_goes || w_ducks) = g3
  clear f1 f2 f3 s1 s2 s3
  by_cases hk : zkN b n p q = 1
  · rw [decide_eq_true hk, Bool.true_and]
    rw [hk] at t2
    have t2 : S 1 2 = 1 := t2
    cases g1 <;> cases g2 <;> cases g3 <;> simp (config := {maxSteps := 1000000}) (disch := omega) only [↓reduceIte, Int32.reduceLT, Int32.reduceLE, Int32.reduceToNatClampNeg, Int32.reduceAdd, Int32.reduceSub, Int32.reduceMul, Nat.reduceLeDiff, zEL, zup_ne, zup_eq, zT0, zT1, zT2, if_true, if_false, gR, gX, s67_228, s67_229, s67_232, s67_235, s67_236, s67_239, s67_240, s67_243, s67_244, s67_247, s67_248, s67_251, s67_252, s67_255, s67_256, t2, zbi_t, zbi_f] <;> rfl
  · rw [decide_eq_false hk, Bool.false_and]
    have t3 : (S 1 2 = 1) = False := eq_false (by rw [t2]; intro h9; exact hk ((znI_inj (b := 1) (by omega) (by omega)).mp h9))
    simp (config := {maxSteps := 1000000}) (disch := omega) only [↓reduceIte, Int32.reduceLT, Int32.reduceLE, Int32.reduceToNatClampNeg, Int32.reduceAdd, Int32.reduceSub, Int32.reduceMul, Nat.reduceLeDiff, zEL, zup_ne, zup_eq, zT0, zT1, zT2, if_true, if_false, gR, gX, s67_228, s67_229, s67_232, s67_235, s67_236, s67_239, s67_240, s67_243, s67_244, s67_247, s67_248, s67_251, s67_252, s67_255, s67_256, t3]
    all_goals rfl
theorem op65_80 {k k' m : Nat} (hR : zLT R) (hB : zLB R B) (hB11 : 11 ≤ B) (h : zST 80 n b S Sm Lm) (hk : k ≤ 26) (hk' : k' ≤ 26) (h5 : S 80 5 = nI k) (h13 : Sm B 13 = nI k') (hN : S 80 6 = 0 → k = k' ∧ ∀ i, i < k → L 157 i = Lm (B + 27) i ∧ (S 159 i = 0 ↔ Sm (B + 28) i = 0) ∧ (S 159 i = 0 → ∃ x, x < m ∧ S 161 i = nI x ∧ Sm (B + 29) i = nI x)) : ∃ v v' : Int32, ∃ S' Sm' Lm', zcall 65 [.ref 80] zRc S L = some (some (.int v), zRc, S', L) ∧ zcall 190 [.ref 0] R Sm Lm = some (some (.int v'), R, Sm', Lm') ∧ zST 80 n b S' Sm' Lm' ∧ zfr 80 S Sm Lm S' Sm' Lm' ∧ (S' 80 6 = 0 → S 80 6 = 0 ∧ ∃ x, x < m ∧ v = nI x ∧ v' = nI x) := by
  have r0 := hR
  unfold zLT at r0
  have rB := hB
  unfold zLB at rB
  obtain ⟨p, q, hT, hO⟩ := h
  have k1 := t67_80 (L := L) hT
  rcases hO with hO | hF
  · have h6 := hO.1
    obtain ⟨hkk, hN2⟩ := hN h6
    clear hN
    subst hkk
    have k2 := m187 hR ⟨hT, hO.2.2.1, hO.2.2.2⟩
    obtain ⟨m8, m9, m10, m11, m12, m15, mn⟩ := hO.2.2.2
    cases hn : zNm b n p q with
    | true =>
      rw [hn, zbi_t] at k1 k2
      have hk1 := zNm_1 hn
      obtain ⟨x, c1, c2⟩ := t94 (L := L) hT
      have c2 := c2 hk1
      have m15 := m15 hk1
      subst c2
      generalize lN (zco b p (q - p)) = x at c1 m15
      have c3 := c66_80 (S := S) (L := L) (x := x) hk h5
      have c4 := m166 (Sm := Sm) (Lm := Lm) (x := x) hB hk h13
      rw [← zfd_c (ok := fun i => decide (L 157 i = x)) (fun i hi => by rw [(hN2 i hi).1])] at c4
      cases ho : zfd (fun i => decide (L 157 i = x)) k with
      | none =>
        rw [ho, zon_n] at c3 c4
        obtain ⟨f1, f2, f3, f4, -⟩ := zFk_80 (f := 2) rfl (by omega) (by omega) hT hO
        have k3 : zcall 58 [.ref 80, .int 2] zRc S L = _ := c58O_80 (L := L) (k := nI 2) h6
        have k4 : zcall 180 [.ref 0, .int 2] R Sm Lm = _ := m180O (Lm := Lm) (k := nI 2) hR (zOK_9 hO)
        have k5 := m179F (Lm := Lm) hR f4
        refine ⟨-1, 0, _, _, Lm, ?_, ?_, f1, f2, fun h => absurd h f3⟩ <;> unfold zcall
        · simp (config := {maxSteps := 1000000}) (disch := omega) only [↓reduceIte, Int32.reduceLT, Int32.reduceLE, Int32.reduceToNatClampNeg, Int32.reduceAdd, Int32.reduceSub, Int32.reduceMul, Nat.reduceLeDiff, zEL, zup_ne, zup_eq, zT0, zT1, zT2, if_true, if_false, zneq_f, true_and, and_true, false_and, and_false, zKL, eq_self, Nat.reduceEqDiff, zite0, ite_not, zaddr, zaddl, zputr, zsb1, zsb2, zsb0, zsbm, znm1, gR, gX, ze_65, s65_0, s65_1, s65_4, s65_7, s65_8, s65_9, s65_12, s65_13, s65_14, s65_17, s65_20, s65_23, s65_24, s65_25, s65_26, s65_29, s65_30, s65_33, s65_34, s65_37, s65_40, s65_41, s65_42, s65_45, s65_46, s65_49, s65_52, s65_53, s65_54, s65_55, s65_58, s65_61, s65_62, s65_65, s65_66, s65_69, k1, c1, c3, k3]
        · simp (config := {maxSteps := 1000000}) (disch := omega) only [↓reduceIte, Int32.reduceLT, Int32.reduceLE, Int32.reduceToNatClampNeg, Int32.reduceAdd, Int32.reduceSub, Int32.reduceMul, Nat.reduceLeDiff, zEL, zup_ne, zup_eq, zT0, zT1, zT2, if_true, if_false, r0, rB, ze_190, s190_0, s190_1, s190_4, s190_7, s190_8, s190_9, s190_12, s190_13, s190_16, s190_17, s190_20, s190_23, s190_24, s190_25, s190_26, s190_29, s190_30, s190_33, s190_36, s190_37, s190_38, s190_41, s190_42, s190_43, s190_46, s190_47, s190_50, s190_51, s190_54, s190_55, s190_58, s190_59, s190_62, s190_65, s190_66, s190_67, s190_68, s190_69, s190_72, s190_73, k2, m15, c4, k4, k5, f4]
      | some i =>
        obtain ⟨hi, -⟩ := zfd_lt ho
        rw [ho, zon_s] at c3 c4
        obtain ⟨-, hs, hx⟩ := hN2 i hi
        by_cases hs0 : S 159 i = 0
        · obtain ⟨y, hy, e1, e2⟩ := hx hs0
          have hs2 := hs.mp hs0
          obtain ⟨S', Sm', Lm', a1, a2, a3, a4, a5⟩ := zsn_80 (L := L) hR hT hO (by omega) (by omega)
          have e3 : S' 161 i = nI y := (a4.1 _ _ (by omega) (by omega)).trans e1
          have m95 : (Sm 0 9 = 5) = False := eq_false (zOK_9 hO)
          refine ⟨nI y, nI y, S', Sm', Lm', ?_, ?_, a3, a4, fun _ => ⟨h6, y, hy, rfl, rfl⟩⟩ <;> unfold zcall
          · simp (config := {maxSteps := 1000000}) (disch := omega) only [↓reduceIte, Int32.reduceLT, Int32.reduceLE, Int32.reduceToNatClampNeg, Int32.reduceAdd, Int32.reduceSub, Int32.reduceMul, Nat.reduceLeDiff, zEL, zup_ne, zup_eq, zT0, zT1, zT2, if_true, if_false, zneq_f, true_and, and_true, false_and, and_false, zKL, eq_self, Nat.reduceEqDiff, zite0, ite_not, zaddr, zaddl, zputr, zsb1, zsb2, zsb0, zsbm, znm1, gR, gX, ze_65, s65_0, s65_1, s65_4, s65_7, s65_8, s65_9, s65_12, s65_13, s65_14, s65_17, s65_20, s65_23, s65_24, s65_25, s65_26, s65_29, s65_30, s65_33, s65_34, s65_37, s65_40, s65_41, s65_42, s65_45, s65_46, s65_49, s65_52, s65_53, s65_54, s65_55, s65_58, s65_61, s65_62, s65_65, s65_66, s65_69, k1, c1, c3, hs0, h6, a1, e3]
          · simp (config := {maxSteps := 1000000}) (disch := omega) only [↓reduceIte, Int32.reduceLT, Int32.reduceLE, Int32.reduceToNatClampNeg, Int32.reduceAdd, Int32.reduceSub, Int32.reduceMul, Nat.reduceLeDiff, zEL, zup_ne, zup_eq, zT0, zT1, zT2, if_true, if_false, zneq_f, true_and, and_true, false_and, and_false, zKL, eq_self, Nat.reduceEqDiff, zite0, ite_not, zaddr, zaddl, zputr, zsb1, zsb2, zsb0, zsbm, znm1, r0, rB, ze_190, s190_0, s190_1, s190_4, s190_7, s190_8, s190_9, s190_12, s190_13, s190_16, s190_17, s190_20, s190_23, s190_24, s190_25, s190_26, s190_29, s190_30, s190_33, s190_36, s190_37, s190_38, s190_41, s190_42, s190_43, s190_46, s190_47, s190_50, s190_51, s190_54, s190_55, s190_58, s190_59, s190_62, s190_65, s190_66, s190_67, s190_68, s190_69, s190_72, s190_73, k2, m15, c4, hs2, m95, e2, a2]
        · have hs2 : ¬ Sm (B + 28) i = 0 := fun h9 => hs0 (hs.mpr h9)
          obtain ⟨f1, f2, f3, f4, -⟩ := zFk_80 (f := 2) rfl (by omega) (by omega) hT hO
          have k3 : zcall 58 [.ref 80, .int 2] zRc S L = _ := c58O_80 (L := L) (k := nI 2) h6
          have k4 : zcall 180 [.ref 0, .int 2] R Sm Lm = _ := m180O (Lm := Lm) (k := nI 2) hR (zOK_9 hO)
          have k5 := m179F (Lm := Lm) hR f4
          refine ⟨-1, 0, _, _, Lm, ?_, ?_, f1, f2, fun h => absurd h f3⟩ <;> unfold zcall
          · simp (config := {maxSteps := 1000000}) (disch := omega) only [↓reduceIte, Int32.reduceLT, Int32.reduceLE, Int32.reduceToNatClampNeg, Int32.reduceAdd, Int32.reduceSub, Int32.reduceMul, Nat.reduceLeDiff, zEL, zup_ne, zup_eq, zT0, zT1, zT2, if_true, if_false, zneq_f, true_and, and_true, false_and, and_false, zKL, eq_self, Nat.reduceEqDiff, zite0, ite_not, zaddr, zaddl, zputr, zsb1, zsb2, zsb0, zsbm, znm1, gR, gX, ze_65, s65_0, s65_1, s65_4, s65_7, s65_8, s65_9, s65_12, s65_13, s65_14, s65_17, s65_20, s65_23, s65_24, s65_25, s65_26, s65_29, s65_30, s65_33, s65_34, s65_37, s65_40, s65_41, s65_42, s65_45, s65_46, s65_49, s65_52, s65_53, s65_54, s65_55, s65_58, s65_61, s65_62, s65_65, s65_66, s65_69, k1, c1, c3, hs0, k3]
          · simp (config := {maxSteps := 1000000}) (disch := omega) only [↓reduceIte, Int32.reduceLT, Int32.reduceLE, Int32.reduceToNatClampNeg, Int32.reduceAdd, Int32.reduceSub, Int32.reduceMul, Nat.reduceLeDiff, zEL, zup_ne, zup_eq, zT0, zT1, zT2, if_true, if_false, zneq_f, true_and, and_true, false_and, and_false, zKL, eq_self, Nat.reduceEqDiff, zite0, ite_not, zaddr, zaddl, zputr, zsb1, zsb2, zsb0, zsbm, znm1, r0, rB, ze_190, s190_0, s190_1, s190_4, s190_7, s190_8, s190_9, s190_12, s190_13, s190_16, s190_17, s190_20, s190_23, s190_24, s190_25, s190_26, s190_29, s190_30, s190_33, s190_36, s190_37, s190_38, s190_41, s190_42, s190_43, s190_46, s190_47, s190_50, s190_51, s190_54, s190_55, s190_58, s190_59, s190_62, s190_65, s190_66, s190_67, s190_68, s190_69, s190_72, s190_73, k2, m15, c4, hs2, k4, k5, f4]
    | false =>
      rw [hn, zbi_f] at k1 k2
      obtain ⟨f1, f2, f3, f4, f5⟩ := zFk_80 (f := 1) rfl (by omega) (by omega) hT hO
      have k3 : zcall 58 [.ref 80, .int 1] zRc S L = _ := c58O_80 (L := L) (k := nI 1) h6
      have k4 : zcall 180 [.ref 0, .int 1] R Sm Lm = _ := m180O (Lm := Lm) (k := nI 1) hR (zOK_9 hO)
      have k5 := m179F (Lm := Lm) hR f4
      have k6 := fun k => c58F_80 (L := L) (k := k) f3
      have k7 := fun k => m180F (Lm := Lm) (k := k) hR f4
      obtain ⟨x, c1, -⟩ := t94 (L := L) f5
      have c3 := c66_80 (L := L) (x := x) hk ((f2.1 80 5 (by omega) (by omega)).trans h5)
      have c4 := m166 (Lm := Lm) (x := Lm 0 15) hB hk ((f2.2.1 B 13 (by omega)).trans h13)
      generalize hS1 : zup (zup S 80 6 (nI 1)) 80 7 (S 1 3) = S1 at f1 f2 f3 k3 k6 c1 c3
      generalize hSm1 : zup (zup (zup Sm 0 13 (nI 1)) 0 14 (Sm 0 8)) 0 9 5 = Sm1 at f1 f2 f4 k4 k5 k7 c4
      refine ⟨-1, 0, S1, Sm1, Lm, ?_, ?_, f1, f2, fun h => absurd h f3⟩ <;> unfold zcall
      · cases ho : zfd (fun i => decide (L 157 i = x)) k with
        | none =>
          rw [ho, zon_n] at c3
          simp (config := {maxSteps := 1000000}) (disch := omega) only [↓reduceIte, Int32.reduceLT, Int32.reduceLE, Int32.reduceToNatClampNeg, Int32.reduceAdd, Int32.reduceSub, Int32.reduceMul, Nat.reduceLeDiff, zEL, zup_ne, zup_eq, zT0, zT1, zT2, if_true, if_false, zneq_f, true_and, and_true, false_and, and_false, zKL, eq_self, Nat.reduceEqDiff, zite0, ite_not, zaddr, zaddl, zputr, zsb1, zsb2, zsb0, zsbm, znm1, gR, gX, ze_65, s65_0, s65_1, s65_4, s65_7, s65_8, s65_9, s65_12, s65_13, s65_14, s65_17, s65_20, s65_23, s65_24, s65_25, s65_26, s65_29, s65_30, s65_33, s65_34, s65_37, s65_40, s65_41, s65_42, s65_45, s65_46, s65_49, s65_52, s65_53, s65_54, s65_55, s65_58, s65_61, s65_62, s65_65, s65_66, s65_69, k1, k3, c1, c3, k6, f3]
        | some i =>
          obtain ⟨hi, -⟩ := zfd_lt ho
          rw [ho, zon_s] at c3
          simp (config := {maxSteps := 1000000}) (disch := omega) only [↓reduceIte, Int32.reduceLT, Int32.reduceLE, Int32.reduceToNatClampNeg, Int32.reduceAdd, Int32.reduceSub, Int32.reduceMul, Nat.reduceLeDiff, zEL, zup_ne, zup_eq, zT0, zT1, zT2, if_true, if_false, zneq_f, true_and, and_true, false_and, and_false, zKL, eq_self, Nat.reduceEqDiff, zite0, ite_not, zaddr, zaddl, zputr, zsb1, zsb2, zsb0, zsbm, znm1, gR, gX, ze_65, s65_0, s65_1, s65_4, s65_7, s65_8, s65_9, s65_12, s65_13, s65_14, s65_17, s65_20, s65_23, s65_24, s65_25, s65_26, s65_29, s65_30, s65_33, s65_34, s65_37, s65_40, s65_41, s65_42, s65_45, s65_46, s65_49, s65_52, s65_53, s65_54, s65_55, s65_58, s65_61, s65_62, s65_65, s65_66, s65_69, k1, k3, c1, c3, k6, f3]
          all_goals (repeat' split)
          all_goals rfl
      · cases ho : zfd (fun i => decide (Lm (B + 27) i = Lm 0 15)) k with
        | none =>
          rw [ho, zon_n] at c4
          simp (config := {maxSteps := 1000000}) (disch := omega) only [↓reduceIte, Int32.reduceLT, Int32.reduceLE, Int32.reduceToNatClampNeg, Int32.reduceAdd, Int32.reduceSub, Int32.reduceMul, Nat.reduceLeDiff, zEL, zup_ne, zup_eq, zT0, zT1, zT2, if_true, if_false, zneq_f, true_and, and_true, false_and, and_false, zKL, eq_self, Nat.reduceEqDiff, zite0, ite_not, zaddr, zaddl, zputr, zsb1, zsb2, zsb0, zsbm, znm1, r0, rB, ze_190, s190_0, s190_1, s190_4, s190_7, s190_8, s190_9, s190_12, s190_13, s190_16, s190_17, s190_20, s190_23, s190_24, s190_25, s190_26, s190_29, s190_30, s190_33, s190_36, s190_37, s190_38, s190_41, s190_42, s190_43, s190_46, s190_47, s190_50, s190_51, s190_54, s190_55, s190_58, s190_59, s190_62, s190_65, s190_66, s190_67, s190_68, s190_69, s190_72, s190_73, k2, k4, c4, k7, k5, f4]
        | some i =>
          obtain ⟨hi, -⟩ := zfd_lt ho
          rw [ho, zon_s] at c4
          simp (config := {maxSteps := 1000000}) (disch := omega) only [↓reduceIte, Int32.reduceLT, Int32.reduceLE, Int32.reduceToNatClampNeg, Int32.reduceAdd, Int32.reduceSub, Int32.reduceMul, Nat.reduceLeDiff, zEL, zup_ne, zup_eq, zT0, zT1, zT2, if_true, if_false, zneq_f, true_and, and_true, false_and, and_false, zKL, eq_self, Nat.reduceEqDiff, zite0, ite_not, zaddr, zaddl, zputr, zsb1, zsb2, zsb0, zsbm, znm1, r0, rB, ze_190, s190_0, s190_1, s190_4, s190_7, s190_8, s190_9, s190_12, s190_13, s190_16, s190_17, s190_20, s190_23, s190_24, s190_25, s190_26, s190_29, s190_30, s190_33, s190_36, s190_37, s190_38, s190_41, s190_42, s190_43, s190_46, s190_47, s190_50, s190_51, s190_54, s190_55, s190_58, s190_59, s190_62, s190_65, s190_66, s190_67, s190_68, s190_69, s190_72, s190_73, k2, k4, c4, k7, k5, f4]
          all_goals (repeat' split)
          all_goals rfl
  · have hne := zFA_ne hF
    have k3 := fun k => c58F_80 (L := L) (k := k) hne
    have m9 : Sm 0 9 = 5 := by obtain ⟨f, pl, -, -, -, -, -, h9, -⟩ := hF; exact h9
    have k4 := fun k => m180F (Lm := Lm) (k := k) hR m9
    have k5 := m179F (Lm := Lm) hR m9
    have k2 := m187F (Lm := Lm) hR m9
    obtain ⟨x, c1, -⟩ := t94 (L := L) hT
    have c3 := c66_80 (S := S) (L := L) (x := x) hk h5
    have c4 := m166 (Sm := Sm) (Lm := Lm) (x := Lm 0 15) hB hk' h13
    refine ⟨-1, 0, S, Sm, Lm, ?_, ?_, ⟨p, q, hT, .inr hF⟩, zfr_r, fun h => absurd h hne⟩ <;> unfold zcall
    · generalize zbi (zNm b n p q) = vb at k1
      cases ho : zfd (fun i => decide (L 157 i = x)) k with
      | none =>
        rw [ho, zon_n] at c3
        simp (config := {maxSteps := 1000000}) (disch := omega) only [↓reduceIte, Int32.reduceLT, Int32.reduceLE, Int32.reduceToNatClampNeg, Int32.reduceAdd, Int32.reduceSub, Int32.reduceMul, Nat.reduceLeDiff, zEL, zup_ne, zup_eq, zT0, zT1, zT2, if_true, if_false, zneq_f, true_and, and_true, false_and, and_false, zKL, eq_self, Nat.reduceEqDiff, zite0, ite_not, zaddr, zaddl, zputr, zsb1, zsb2, zsb0, zsbm, znm1, gR, gX, ze_65, s65_0, s65_1, s65_4, s65_7, s65_8, s65_9, s65_12, s65_13, s65_14, s65_17, s65_20, s65_23, s65_24, s65_25, s65_26, s65_29, s65_30, s65_33, s65_34, s65_37, s65_40, s65_41, s65_42, s65_45, s65_46, s65_49, s65_52, s65_53, s65_54, s65_55, s65_58, s65_61, s65_62, s65_65, s65_66, s65_69, k1, c1, c3, k3, hne]
        all_goals (repeat' split)
        all_goals rfl
      | some i =>
        obtain ⟨hi, -⟩ := zfd_lt ho
        rw [ho, zon_s] at c3
        simp (config := {maxSteps := 1000000}) (disch := omega) only [↓reduceIte, Int32.reduceLT, Int32.reduceLE, Int32.reduceToNatClampNeg, Int32.reduceAdd, Int32.reduceSub, Int32.reduceMul, Nat.reduceLeDiff, zEL, zup_ne, zup_eq, zT0, zT1, zT2, if_true, if_false, zneq_f, true_and, and_true, false_and, and_false, zKL, eq_self, Nat.reduceEqDiff, zite0, ite_not, zaddr, zaddl, zputr, zsb1, zsb2, zsb0, zsbm, znm1, gR, gX, ze_65, s65_0, s65_1, s65_4, s65_7, s65_8, s65_9, s65_12, s65_13, s65_14, s65_17, s65_20, s65_23, s65_24, s65_25, s65_26, s65_29, s65_30, s65_33, s65_34, s65_37, s65_40, s65_41, s65_42, s65_45, s65_46, s65_49, s65_52, s65_53, s65_54, s65_55, s65_58, s65_61, s65_62, s65_65, s65_66, s65_69, k1, c1, c3, k3, hne]
        all_goals (repeat' split)
        all_goals rfl
    · cases ho : zfd (fun i => decide (Lm (B + 27) i = Lm 0 15)) k' with
      | none =>
        rw [ho, zon_n] at c4
        simp (config := {maxSteps := 1000000}) (disch := omega) only [↓reduceIte, Int32.reduceLT, Int32.reduceLE, Int32.reduceToNatClampNeg, Int32.reduceAdd, Int32.reduceSub, Int32.reduceMul, Nat.reduceLeDiff, zEL, zup_ne, zup_eq, zT0, zT1, zT2, if_true, if_false, zneq_f, true_and, and_true, false_and, and_false, zKL, eq_self, Nat.reduceEqDiff, zite0, ite_not, zaddr, zaddl, zputr, zsb1, zsb2, zsb0, zsbm, znm1, r0, rB, ze_190, s190_0, s190_1, s190_4, s190_7, s190_8, s190_9, s190_12, s190_13, s190_16, s190_17, s190_20, s190_23, s190_24, s190_25, s190_26, s190_29, s190_30, s190_33, s190_36, s190_37, s190_38, s190_41, s190_42, s190_43, s190_46, s190_47, s190_50, s190_51, s190_54, s190_55, s190_58, s190_59, s190_62, s190_65, s190_66, s190_67, s190_68, s190_69, s190_72, s190_73, k2, c4, k4, k5, m9]
      | some i =>
        obtain ⟨hi, -⟩ := zfd_lt ho
        rw [ho, zon_s] at c4
        simp (config := {maxSteps := 1000000}) (disch := omega) only [↓reduceIte, Int32.reduceLT, Int32.reduceLE, Int32.reduceToNatClampNeg, Int32.reduceAdd, Int32.reduceSub, Int32.reduceMul, Nat.reduceLeDiff, zEL, zup_ne, zup_eq, zT0, zT1, zT2, if_true, if_false, zneq_f, true_and, and_true, false_and, and_false, zKL, eq_self, Nat.reduceEqDiff, zite0, ite_not, zaddr, zaddl, zputr, zsb1, zsb2, zsb0, zsbm, znm1, r0, rB, ze_190, s190_0, s190_1, s190_4, s190_7, s190_8, s190_9, s190_12, s190_13, s190_16, s190_17, s190_20, s190_23, s190_24, s190_25, s190_26, s190_29, s190_30, s190_33, s190_36, s190_37, s190_38, s190_41, s190_42, s190_43, s190_46, s190_47, s190_50, s190_51, s190_54, s190_55, s190_58, s190_59, s190_62, s190_65, s190_66, s190_67, s190_68, s190_69, s190_72, s190_73, k2, c4, k4, k5, m9]
        all_goals (repeat' split)
        all_goals rfl
theorem t67_162 (h : zTKc n b p q S) : zcall 67 [.ref 162] zRc S L = some (some (.int (zbi (zNm b n p q))), zRc, S, L) := by
  have t2 := h.2.2.2.2.1
  have hr := @zkN_r n p q b
  have f1 := And.intro (cw_law (L := L) h) (And.intro (cw_snow (L := L) h) (And.intro (cw_referee (L := L) h) (And.intro (cw_block (L := L) h) (And.intro (cw_player (L := L) h) (And.intro (cw_site (L := L) h) (And.intro (cw_print (L := L) h) (And.intro (cw_at (L := L) h) (cw_guess (L := L) h))))))))
  have f2 := And.intro (cw_left (L := L) h) (cw_right (L := L) h)
  have f3 := And.intro (cw_flat (L := L) h) (And.intro (cw_high (L := L) h) (And.intro (cw_rolls (L := L) h) (And.intro (cw_makes (L := L) h) (And.intro (cw_goes (L := L) h) (cw_ducks (L := L) h)))))
  unfold zNm
  generalize zW b n p q zw_law = w_law at f1 ⊢
  generalize zW b n p q zw_snow = w_snow at f1 ⊢
  generalize zW b n p q zw_referee = w_referee at f1 ⊢
  generalize zW b n p q zw_block = w_block at f1 ⊢
  generalize zW b n p q zw_player = w_player at f1 ⊢
  generalize zW b n p q zw_site = w_site at f1 ⊢
  generalize zW b n p q zw_print = w_print at f1 ⊢
  generalize zW b n p q zw_at = w_at at f1 ⊢
  generalize zW b n p q zw_guess = w_guess at f1 ⊢
  generalize zW b n p q zw_left = w_left at f2 ⊢
  generalize zW b n p q zw_right = w_right at f2 ⊢
  generalize zW b n p q zw_flat = w_flat at f3 ⊢
  generalize zW b n p q zw_high = w_high at f3 ⊢
  generalize zW b n p q zw_rolls = w_rolls at f3 ⊢
  generalize zW b n p q zw_makes = w_makes at f3 ⊢
  generalize zW b n p q zw_goes = w_goes at f3 ⊢
  generalize zW b n p q zw_ducks = w_ducks at f3 ⊢
  have s1 : zgo 67 0 [.ref 162, .retAddr 0, .retAddr 0, .retAddr 0] [] zRc S L = zgo 67 114 [.ref 162, .int (zbi (w_law || w_snow || w_referee || w_block || w_player || w_site || w_print || w_at || w_guess)), .retAddr 0, .retAddr 0] [] zRc S L := by
    clear f2 f3
    by_cases e_law : w_law = true
    · simp only [e_law] at f1 ⊢
      simp (config := {maxSteps := 1000000}) (disch := omega) only [↓reduceIte, Int32.reduceLT, Int32.reduceLE, Int32.reduceToNatClampNeg, Int32.reduceAdd, Int32.reduceSub, Int32.reduceMul, Nat.reduceLeDiff, zEL, zup_ne, zup_eq, zT0, zT1, zT2, if_true, if_false, gR, gX, s67_0, s67_1, s67_4, s67_6, s67_9, s67_12, s67_13, s67_16, s67_18, s67_21, s67_24, s67_25, s67_28, s67_30, s67_33, s67_36, s67_37, s67_40, s67_42, s67_45, s67_48, s67_49, s67_52, s67_54, s67_57, s67_60, s67_61, s67_64, s67_66, s67_69, s67_72, s67_73, s67_76, s67_78, s67_81, s67_84, s67_85, s67_88, s67_90, s67_93, s67_96, s67_97, s67_100, s67_102, s67_105, s67_108, s67_109, s67_112, s67_113, f1, zbi_t, zbi_f, Bool.true_or, Bool.or_true, Bool.false_or, Bool.or_false]
    have e_law := Bool.eq_false_iff.mpr e_law
    simp only [e_law] at f1 ⊢
    by_cases e_snow : w_snow = true
    · simp only [e_snow] at f1 ⊢
      simp (config := {maxSteps := 1000000}) (disch := omega) only [↓reduceIte, Int32.reduceLT, Int32.reduceLE, Int32.reduceToNatClampNeg, Int32.reduceAdd, Int32.reduceSub, Int32.reduceMul, Nat.reduceLeDiff, zEL, zup_ne, zup_eq, zT0, zT1, zT2, if_true, if_false, gR, gX, s67_0, s67_1, s67_4, s67_6, s67_9, s67_12, s67_13, s67_16, s67_18, s67_21, s67_24, s67_25, s67_28, s67_30, s67_33, s67_36, s67_37, s67_40, s67_42, s67_45, s67_48, s67_49, s67_52, s67_54, s67_57, s67_60, s67_61, s67_64, s67_66, s67_69, s67_72, s67_73, s67_76, s67_78, s67_81, s67_84, s67_85, s67_88, s67_90, s67_93, s67_96, s67_97, s67_100, s67_102, s67_105, s67_108, s67_109, s67_112, s67_113, f1, zbi_t, zbi_f, Bool.true_or, Bool.or_true, Bool.false_or, Bool.or_false]
    have e_snow := Bool.eq_false_iff.mpr e_snow
    simp only [e_snow] at f1 ⊢
    by_cases e_referee : w_referee = true
    · simp only [e_referee] at f1 ⊢
      simp (config := {maxSteps := 1000000}) (disch := omega) only [↓reduceIte, Int32.reduceLT, Int32.reduceLE, Int32.reduceToNatClampNeg, Int32.reduceAdd, Int32.reduceSub, Int32.reduceMul, Nat.reduceLeDiff, zEL, zup_ne, zup_eq, zT0, zT1, zT2, if_true, if_false, gR, gX, s67_0, s67_1, s67_4, s67_6, s67_9, s67_12, s67_13, s67_16, s67_18, s67_21, s67_24, s67_25, s67_28, s67_30, s67_33, s67_36, s67_37, s67_40, s67_42, s67_45, s67_48, s67_49, s67_52, s67_54, s67_57, s67_60, s67_61, s67_64, s67_66, s67_69, s67_72, s67_73, s67_76, s67_78, s67_81, s67_84, s67_85, s67_88, s67_90, s67_93, s67_96, s67_97, s67_100, s67_102, s67_105, s67_108, s67_109, s67_112, s67_113, f1, zbi_t, zbi_f, Bool.true_or, Bool.or_true, Bool.false_or, Bool.or_false]
    have e_referee := Bool.eq_false_iff.mpr e_referee
    simp only [e_referee] at f1 ⊢
    by_cases e_block : w_block = true
    · simp only [e_block] at f1 ⊢
      simp (config := {maxSteps := 1000000}) (disch := omega) only [↓reduceIte, Int32.reduceLT, Int32.reduceLE, Int32.reduceToNatClampNeg, Int32.reduceAdd, Int32.reduceSub, Int32.reduceMul, Nat.reduceLeDiff, zEL, zup_ne, zup_eq, zT0, zT1, zT2, if_true, if_false, gR, gX, s67_0, s67_1, s67_4, s67_6, s67_9, s67_12, s67_13, s67_16, s67_18, s67_21, s67_24, s67_25, s67_28, s67_30, s67_33, s67_36, s67_37, s67_40, s67_42, s67_45, s67_48, s67_49, s67_52, s67_54, s67_57, s67_60, s67_61, s67_64, s67_66, s67_69, s67_72, s67_73, s67_76, s67_78, s67_81, s67_84, s67_85, s67_88, s67_90, s67_93, s67_96, s67_97, s67_100, s67_102, s67_105, s67_108, s67_109, s67_112, s67_113, f1, zbi_t, zbi_f, Bool.true_or, Bool.or_true, Bool.false_or, Bool.or_false]
    have e_block := Bool.eq_false_iff.mpr e_block
    simp only [e_block] at f1 ⊢
    by_cases e_player : w_player = true
    · simp only [e_player] at f1 ⊢
      simp (config := {maxSteps := 1000000}) (disch := omega) only [↓reduceIte, Int32.reduceLT, Int32.reduceLE, Int32.reduceToNatClampNeg, Int32.reduceAdd, Int32.reduceSub, Int32.reduceMul, Nat.reduceLeDiff, zEL, zup_ne, zup_eq, zT0, zT1, zT2, if_true, if_false, gR, gX, s67_0, s67_1, s67_4, s67_6, s67_9, s67_12, s67_13, s67_16, s67_18, s67_21, s67_24, s67_25, s67_28, s67_30, s67_33, s67_36, s67_37, s67_40, s67_42, s67_45, s67_48, s67_49, s67_52, s67_54, s67_57, s67_60, s67_61, s67_64, s67_66, s67_69, s67_72, s67_73, s67_76, s67_78, s67_81, s67_84, s67_85, s67_88, s67_90, s67_93, s67_96, s67_97, s67_100, s67_102, s67_105, s67_108, s67_109, s67_112, s67_113, f1, zbi_t, zbi_f, Bool.true_or, Bool.or_true, Bool.false_or, Bool.or_false]
    have e_player := Bool.eq_false_iff.mpr e_player
    simp only [e_player] at f1 ⊢
    by_cases e_site : w_site = true
    · simp only [e_site] at f1 ⊢
      simp (config := {maxSteps := 1000000}) (disch := omega) only [↓reduceIte, Int32.reduceLT, Int32.reduceLE, Int32.reduceToNatClampNeg, Int32.reduceAdd, Int32.reduceSub, Int32.reduceMul, Nat.reduceLeDiff, zEL, zup_ne, zup_eq, zT0, zT1, zT2, if_true, if_false, gR, gX, s67_0, s67_1, s67_4, s67_6, s67_9, s67_12, s67_13, s67_16, s67_18, s67_21, s67_24, s67_25, s67_28, s67_30, s67_33, s67_36, s67_37, s67_40, s67_42, s67_45, s67_48, s67_49, s67_52, s67_54, s67_57, s67_60, s67_61, s67_64, s67_66, s67_69, s67_72, s67_73, s67_76, s67_78, s67_81, s67_84, s67_85, s67_88, s67_90, s67_93, s67_96, s67_97, s67_100, s67_102, s67_105, s67_108, s67_109, s67_112, s67_113, f1, zbi_t, zbi_f, Bool.true_or, Bool.or_true, Bool.false_or, Bool.or_false]
    have e_site := Bool.eq_false_iff.mpr e_site
    simp only [e_site] at f1 ⊢
    by_cases e_print : w_print = true
    · simp only [e_print] at f1 ⊢
      simp (config := {maxSteps := 1000000}) (disch := omega) only [↓reduceIte, Int32.reduceLT, Int32.reduceLE, Int32.reduceToNatClampNeg, Int32.reduceAdd, Int32.reduceSub, Int32.reduceMul, Nat.reduceLeDiff, zEL, zup_ne, zup_eq, zT0, zT1, zT2, if_true, if_false, gR, gX, s67_0, s67_1, s67_4, s67_6, s67_9, s67_12, s67_13, s67_16, s67_18, s67_21, s67_24, s67_25, s67_28, s67_30, s67_33, s67_36, s67_37, s67_40, s67_42, s67_45, s67_48, s67_49, s67_52, s67_54, s67_57, s67_60, s67_61, s67_64, s67_66, s67_69, s67_72, s67_73, s67_76, s67_78, s67_81, s67_84, s67_85, s67_88, s67_90, s67_93, s67_96, s67_97, s67_100, s67_102, s67_105, s67_108, s67_109, s67_112, s67_113, f1, zbi_t, zbi_f, Bool.true_or, Bool.or_true, Bool.false_or, Bool.or_false]
    have e_print := Bool.eq_false_iff.mpr e_print
    simp only [e_print] at f1 ⊢
    by_cases e_at : w_at = true
    · simp only [e_at] at f1 ⊢
      simp (config := {maxSteps := 1000000}) (disch := omega) only [↓reduceIte, Int32.reduceLT, Int32.reduceLE, Int32.reduceToNatClampNeg, Int32.reduceAdd, Int32.reduceSub, Int32.reduceMul, Nat.reduceLeDiff, zEL, zup_ne, zup_eq, zT0, zT1, zT2, if_true, if_false, gR, gX, s67_0, s67_1, s67_4, s67_6, s67_9, s67_12, s67_13, s67_16, s67_18, s67_21, s67_24, s67_25, s67_28, s67_30, s67_33, s67_36, s67_37, s67_40, s67_42, s67_45, s67_48, s67_49, s67_52, s67_54, s67_57, s67_60, s67_61, s67_64, s67_66, s67_69, s67_72, s67_73, s67_76, s67_78, s67_81, s67_84, s67_85, s67_88, s67_90, s67_93, s67_96, s67_97, s67_100, s67_102, s67_105, s67_108, s67_109, s67_112, s67_113, f1, zbi_t, zbi_f, Bool.true_or, Bool.or_true, Bool.false_or, Bool.or_false]
    have e_at := Bool.eq_false_iff.mpr e_at
    simp only [e_at] at f1 ⊢
    by_cases e_guess : w_guess = true
    · simp only [e_guess] at f1 ⊢
      simp (config := {maxSteps := 1000000}) (disch := omega) only [↓reduceIte, Int32.reduceLT, Int32.reduceLE, Int32.reduceToNatClampNeg, Int32.reduceAdd, Int32.reduceSub, Int32.reduceMul, Nat.reduceLeDiff, zEL, zup_ne, zup_eq, zT0, zT1, zT2, if_true, if_false, gR, gX, s67_0, s67_1, s67_4, s67_6, s67_9, s67_12, s67_13, s67_16, s67_18, s67_21, s67_24, s67_25, s67_28, s67_30, s67_33, s67_36, s67_37, s67_40, s67_42, s67_45, s67_48, s67_49, s67_52, s67_54, s67_57, s67_60, s67_61, s67_64, s67_66, s67_69, s67_72, s67_73, s67_76, s67_78, s67_81, s67_84, s67_85, s67_88, s67_90, s67_93, s67_96, s67_97, s67_100, s67_102, s67_105, s67_108, s67_109, s67_112, s67_113, f1, zbi_t, zbi_f, Bool.true_or, Bool.or_true, Bool.false_or, Bool.or_false]
    have e_guess := Bool.eq_false_iff.mpr e_guess
    simp only [e_guess] at f1 ⊢
    simp (config := {maxSteps := 1000000}) (disch := omega) only [↓reduceIte, Int32.reduceLT, Int32.reduceLE, Int32.reduceToNatClampNeg, Int32.reduceAdd, Int32.reduceSub, Int32.reduceMul, Nat.reduceLeDiff, zEL, zup_ne, zup_eq, zT0, zT1, zT2, if_true, if_false, gR, gX, s67_0, s67_1, s67_4, s67_6, s67_9, s67_12, s67_13, s67_16, s67_18, s67_21, s67_24, s67_25, s67_28, s67_30, s67_33, s67_36, s67_37, s67_40, s67_42, s67_45, s67_48, s67_49, s67_52, s67_54, s67_57, s67_60, s67_61, s67_64, s67_66, s67_69, s67_72, s67_73, s67_76, s67_78, s67_81, s67_84, s67_85, s67_88, s67_90, s67_93, s67_96, s67_97, s67_100, s67_102, s67_105, s67_108, s67_109, s67_112, s67_113, f1, zbi_t, zbi_f, Bool.true_or, Bool.or_true, Bool.false_or, Bool.or_false]
  have s2 : ∀ i1, zgo 67 114 [.ref 162, .int i1, .retAddr 0, .retAddr 0] [] zRc S L = zgo 67 144 [.ref 162, .int i1, .int (zbi (w_left || w_right)), .retAddr 0] [] zRc S L := by
    intro i1
    clear f1 f3 s1
    by_cases e_left : w_left = true
    · simp only [e_left] at f2 ⊢
      simp (config := {maxSteps := 1000000}) (disch := omega) only [↓reduceIte, Int32.reduceLT, Int32.reduceLE, Int32.reduceToNatClampNeg, Int32.reduceAdd, Int32.reduceSub, Int32.reduceMul, Nat.reduceLeDiff, zEL, zup_ne, zup_eq, zT0, zT1, zT2, if_true, if_false, gR, gX, s67_114, s67_115, s67_118, s67_120, s67_123, s67_126, s67_127, s67_130, s67_132, s67_135, s67_138, s67_139, s67_142, s67_143, f2, zbi_t, zbi_f, Bool.true_or, Bool.or_true, Bool.false_or, Bool.or_false]
    have e_left := Bool.eq_false_iff.mpr e_left
    simp only [e_left] at f2 ⊢
    by_cases e_right : w_right = true
    · simp only [e_right] at f2 ⊢
      simp (config := {maxSteps := 1000000}) (disch := omega) only [↓reduceIte, Int32.reduceLT, Int32.reduceLE, Int32.reduceToNatClampNeg, Int32.reduceAdd, Int32.reduceSub, Int32.reduceMul, Nat.reduceLeDiff, zEL, zup_ne, zup_eq, zT0, zT1, zT2, if_true, if_false, gR, gX, s67_114, s67_115, s67_118, s67_120, s67_123, s67_126, s67_127, s67_130, s67_132, s67_135, s67_138, s67_139, s67_142, s67_143, f2, zbi_t, zbi_f, Bool.true_or, Bool.or_true, Bool.false_or, Bool.or_false]
    have e_right := Bool.eq_false_iff.mpr e_right
    simp only [e_right] at f2 ⊢
    simp (config := {maxSteps := 1000000}) (disch := omega) only [↓reduceIte, Int32.reduceLT, Int32.reduceLE, Int32.reduceToNatClampNeg, Int32.reduceAdd, Int32.reduceSub, Int32.reduceMul, Nat.reduceLeDiff, zEL, zup_ne, zup_eq, zT0, zT1, zT2, if_true, if_false, gR, gX, s67_114, s67_115, s67_118, s67_120, s67_123, s67_126, s67_127, s67_130, s67_132, s67_135, s67_138, s67_139, s67_142, s67_143, f2, zbi_t, zbi_f, Bool.true_or, Bool.or_true, Bool.false_or, Bool.or_false]
  have s3 : ∀ i1 i2, zgo 67 144 [.ref 162, .int i1, .int i2, .retAddr 0] [] zRc S L = zgo 67 228 [.ref 162, .int i1, .int i2, .int (zbi (w_flat || w_high || w_rolls || w_makes || w_goes || w_ducks))] [] zRc S L := by
    intro i1 i2
    clear f1 f2 s1 s2
    by_cases e_flat : w_flat = true
    · simp only [e_flat] at f3 ⊢
      simp (config := {maxSteps := 1000000}) (disch := omega) only [↓reduceIte, Int32.reduceLT, Int32.reduceLE, Int32.reduceToNatClampNeg, Int32.reduceAdd, Int32.reduceSub, Int32.reduceMul, Nat.reduceLeDiff, zEL, zup_ne, zup_eq, zT0, zT1, zT2, if_true, if_false, gR, gX, s67_144, s67_145, s67_148, s67_151, s67_154, s67_157, s67_158, s67_161, s67_164, s67_167, s67_170, s67_171, s67_174, s67_177, s67_180, s67_183, s67_184, s67_187, s67_190, s67_193, s67_196, s67_197, s67_200, s67_203, s67_206, s67_209, s67_210, s67_213, s67_216, s67_219, s67_222, s67_223, s67_226, s67_227, f3, zbi_t, zbi_f, Bool.true_or, Bool.or_true, Bool.false_or, Bool.or_false]
    have e_flat := Bool.eq_false_iff.mpr e_flat
    simp only [e_flat] at f3 ⊢
    by_cases e_high : w_high = true
    · simp only [e_high] at f3 ⊢
      simp (config := {maxSteps := 1000000}) (disch := omega) only [↓reduceIte, Int32.reduceLT, Int32.reduceLE, Int32.reduceToNatClampNeg, Int32.reduceAdd, Int32.reduceSub, Int32.reduceMul, Nat.reduceLeDiff, zEL, zup_ne, zup_eq, zT0, zT1, zT2, if_true, if_false, gR, gX, s67_144, s67_145, s67_148, s67_151, s67_154, s67_157, s67_158, s67_161, s67_164, s67_167, s67_170, s67_171, s67_174, s67_177, s67_180, s67_183, s67_184, s67_187, s67_190, s67_193, s67_196, s67_197, s67_200, s67_203, s67_206, s67_209, s67_210, s67_213, s67_216, s67_219, s67_222, s67_223, s67_226, s67_227, f3, zbi_t, zbi_f, Bool.true_or, Bool.or_true, Bool.false_or, Bool.or_false]
    have e_high := Bool.eq_false_iff.mpr e_high
    simp only [e_high] at f3 ⊢
    by_cases e_rolls : w_rolls = true
    · simp only [e_rolls] at f3 ⊢
      simp (config := {maxSteps := 1000000}) (disch := omega) only [↓reduceIte, Int32.reduceLT, Int32.reduceLE, Int32.reduceToNatClampNeg, Int32.reduceAdd, Int32.reduceSub, Int32.reduceMul, Nat.reduceLeDiff, zEL, zup_ne, zup_eq, zT0, zT1, zT2, if_true, if_false, gR, gX, s67_144, s67_145, s67_148, s67_151, s67_154, s67_157, s67_158, s67_161, s67_164, s67_167, s67_170, s67_171, s67_174, s67_177, s67_180, s67_183, s67_184, s67_187, s67_190, s67_193, s67_196, s67_197, s67_200, s67_203, s67_206, s67_209, s67_210, s67_213, s67_216, s67_219, s67_222, s67_223, s67_226, s67_227, f3, zbi_t, zbi_f, Bool.true_or, Bool.or_true, Bool.false_or, Bool.or_false]
    have e_rolls := Bool.eq_false_iff.mpr e_rolls
    simp only [e_rolls] at f3 ⊢
    by_cases e_makes : w_makes = true
    · simp only [e_makes] at f3 ⊢
      simp (config := {maxSteps := 1000000}) (disch := omega) only [↓reduceIte, Int32.reduceLT, Int32.reduceLE, Int32.reduceToNatClampNeg, Int32.reduceAdd, Int32.reduceSub, Int32.reduceMul, Nat.reduceLeDiff, zEL, zup_ne, zup_eq, zT0, zT1, zT2, if_true, if_false, gR, gX, s67_144, s67_145, s67_148, s67_151, s67_154, s67_157, s67_158, s67_161, s67_164, s67_167, s67_170, s67_171, s67_174, s67_177, s67_180, s67_183, s67_184, s67_187, s67_190, s67_193, s67_196, s67_197, s67_200, s67_203, s67_206, s67_209, s67_210, s67_213, s67_216, s67_219, s67_222, s67_223, s67_226, s67_227, f3, zbi_t, zbi_f, Bool.true_or, Bool.or_true, Bool.false_or, Bool.or_false]
    have e_makes := Bool.eq_false_iff.mpr e_makes
    simp only [e_makes] at f3 ⊢
    by_cases e_goes : w_goes = true
    · simp only [e_goes] at f3 ⊢
      simp (config := {maxSteps := 1000000}) (disch := omega) only [↓reduceIte, Int32.reduceLT, Int32.reduceLE, Int32.reduceToNatClampNeg, Int32.reduceAdd, Int32.reduceSub, Int32.reduceMul, Nat.reduceLeDiff, zEL, zup_ne, zup_eq, zT0, zT1, zT2, if_true, if_false, gR, gX, s67_144, s67_145, s67_148, s67_151, s67_154, s67_157, s67_158, s67_161, s67_164, s67_167, s67_170, s67_171, s67_174, s67_177, s67_180, s67_183, s67_184, s67_187, s67_190, s67_193, s67_196, s67_197, s67_200, s67_203, s67_206, s67_209, s67_210, s67_213, s67_216, s67_219, s67_222, s67_223, s67_226, s67_227, f3, zbi_t, zbi_f, Bool.true_or, Bool.or_true, Bool.false_or, Bool.or_false]
    have e_goes := Bool.eq_false_iff.mpr e_goes
    simp only [e_goes] at f3 ⊢
    by_cases e_ducks : w_ducks = true
    · simp only [e_ducks] at f3 ⊢
      simp (config := {maxSteps := 1000000}) (disch := omega) only [↓reduceIte, Int32.reduceLT, Int32.reduceLE, Int32.reduceToNatClampNeg, Int32.reduceAdd, Int32.reduceSub, Int32.reduceMul, Nat.reduceLeDiff, zEL, zup_ne, zup_eq, zT0, zT1, zT2, if_true, if_false, gR, gX, s67_144, s67_145, s67_148, s67_151, s67_154, s67_157, s67_158, s67_161, s67_164, s67_167, s67_170, s67_171, s67_174, s67_177, s67_180, s67_183, s67_184, s67_187, s67_190, s67_193, s67_196, s67_197, s67_200, s67_203, s67_206, s67_209, s67_210, s67_213, s67_216, s67_219, s67_222, s67_223, s67_226, s67_227, f3, zbi_t, zbi_f, Bool.true_or, Bool.or_true, Bool.false_or, Bool.or_false]
    have e_ducks := Bool.eq_false_iff.mpr e_ducks
    simp only [e_ducks] at f3 ⊢
    simp (config := {maxSteps := 1000000}) (disch := omega) only [↓reduceIte, Int32.reduceLT, Int32.reduceLE, Int32.reduceToNatClampNeg, Int32.reduceAdd, Int32.reduceSub, Int32.reduceMul, Nat.reduceLeDiff, zEL, zup_ne, zup_eq, zT0, zT1, zT2, if_true, if_false, gR, gX, s67_144, s67_145, s67_148, s67_151, s67_154, s67_157, s67_158, s67_161, s67_164, s67_167, s67_170, s67_171, s67_174, s67_177, s67_180, s67_183, s67_184, s67_187, s67_190, s67_193, s67_196, s67_197, s67_200, s67_203, s67_206, s67_209, s67_210, s67_213, s67_216, s67_219, s67_222, s67_223, s67_226, s67_227, f3, zbi_t, zbi_f, Bool.true_or, Bool.or_true, Bool.false_or, Bool.or_false]
  unfold zcall
  rw [ze_67, s1, s2, s3]
  generalize (w_law || w_snow || w_referee || w_block || w_player || w_site || w_print || w_at || w_guess) = g1
  generalize (w_left || w_right) = g2
  generalize (w_flat || w_high || w_rolls || w_makes || w_goes || w_ducks) = g3
  clear f1 f2 f3 s1 s2 s3
  by_cases hk : zkN b n p q = 1
  · rw [decide_eq_true hk, Bool.true_and]
    rw [hk] at t2
    have t2 : S 1 2 = 1 := t2
    cases g1 <;> cases g2 <;> cases g3 <;> simp (config := {maxSteps := 1000000}) (disch := omega) only [↓reduceIte, Int32.reduceLT, Int32.reduceLE, Int32.reduceToNatClampNeg, Int32.reduceAdd, Int32.reduceSub, Int32.reduceMul, Nat.reduceLeDiff, zEL, zup_ne, zup_eq, zT0, zT1, zT2, if_true, if_false, gR, gX, s67_228, s67_229, s67_232, s67_235, s67_236, s67_239, s67_240, s67_243, s67_244, s67_247, s67_248, s67_251, s67_252, s67_255, s67_256, t2, zbi_t, zbi_f] <;> rfl
  · rw [decide_eq_false hk, Bool.false_and]
    have t3 : (S 1 2 = 1) = False := eq_false (by rw [t2]; intro h9; exact hk ((znI_inj (b := 1) (by omega) (by omega)).mp h9))
    simp (config := {maxSteps := 1000000}) (disch := omega) only [↓reduceIte, Int32.reduceLT, Int32.reduceLE, Int32.reduceToNatClampNeg, Int32.reduceAdd, Int32.reduceSub, Int32.reduceMul, Nat.reduceLeDiff, zEL, zup_ne, zup_eq, zT0, zT1, zT2, if_true, if_false, gR, gX, s67_228, s67_229, s67_232, s67_235, s67_236, s67_239, s67_240, s67_243, s67_244, s67_247, s67_248, s67_251, s67_252, s67_255, s67_256, t3]
    all_goals rfl
theorem op65_162 {k k' m : Nat} (hR : zLT R) (hB : zLB R B) (hB11 : 11 ≤ B) (h : zST 162 n b S Sm Lm) (hk : k ≤ 26) (hk' : k' ≤ 26) (h5 : S 162 5 = nI k) (h13 : Sm B 13 = nI k') (hN : S 162 6 = 0 → k = k' ∧ ∀ i, i < k → L 163 i = Lm (B + 27) i ∧ (S 165 i = 0 ↔ Sm (B + 28) i = 0) ∧ (S 165 i = 0 → ∃ x, x < m ∧ S 167 i = nI x ∧ Sm (B + 29) i = nI x)) : ∃ v v' : Int32, ∃ S' Sm' Lm', zcall 65 [.ref 162] zRc S L = some (some (.int v), zRc, S', L) ∧ zcall 190 [.ref 0] R Sm Lm = some (some (.int v'), R, Sm', Lm') ∧ zST 162 n b S' Sm' Lm' ∧ zfr 162 S Sm Lm S' Sm' Lm' ∧ (S' 162 6 = 0 → S 162 6 = 0 ∧ ∃ x, x < m ∧ v = nI x ∧ v' = nI x) := by
  have r0 := hR
  unfold zLT at r0
  have rB := hB
  unfold zLB at rB
  obtain ⟨p, q, hT, hO⟩ := h
  have k1 := t67_162 (L := L) hT
  rcases hO with hO | hF
  · have h6 := hO.1
    obtain ⟨hkk, hN2⟩ := hN h6
    clear hN
    subst hkk
    have k2 := m187 hR ⟨hT, hO.2.2.1, hO.2.2.2⟩
    obtain ⟨m8, m9, m10, m11, m12, m15, mn⟩ := hO.2.2.2
    cases hn : zNm b n p q with
    | true =>
      rw [hn, zbi_t] at k1 k2
      have hk1 := zNm_1 hn
      obtain ⟨x, c1, c2⟩ := t94 (L := L) hT
      have c2 := c2 hk1
      have m15 := m15 hk1
      subst c2
      generalize lN (zco b p (q - p)) = x at c1 m15
      have c3 := c66_162 (S := S) (L := L) (x := x) hk h5
      have c4 := m166 (Sm := Sm) (Lm := Lm) (x := x) hB hk h13
      rw [← zfd_c (ok := fun i => decide (L 163 i = x)) (fun i hi => by rw [(hN2 i hi).1])] at c4
      cases ho : zfd (fun i => decide (L 163 i = x)) k with
      | none =>
        rw [ho, zon_n] at c3 c4
        obtain ⟨f1, f2, f3, f4, -⟩ := zFk_162 (f := 2) rfl (by omega) (by omega) hT hO
        have k3 : zcall 58 [.ref 162, .int 2] zRc S L = _ := c58O_162 (L := L) (k := nI 2) h6
        have k4 : zcall 180 [.ref 0, .int 2] R Sm Lm = _ := m180O (Lm := Lm) (k := nI 2) hR (zOK_9 hO)
        have k5 := m179F (Lm := Lm) hR f4
        refine ⟨-1, 0, _, _, Lm, ?_, ?_, f1, f2, fun h => absurd h f3⟩ <;> unfold zcall
        · simp (config := {maxSteps := 1000000}) (disch := omega) only [↓reduceIte, Int32.reduceLT, Int32.reduceLE, Int32.reduceToNatClampNeg, Int32.reduceAdd, Int32.reduceSub, Int32.reduceMul, Nat.reduceLeDiff, zEL, zup_ne, zup_eq, zT0, zT1, zT2, if_true, if_false, zneq_f, true_and, and_true, false_and, and_false, zKL, eq_self, Nat.reduceEqDiff, zite0, ite_not, zaddr, zaddl, zputr, zsb1, zsb2, zsb0, zsbm, znm1, gR, gX, ze_65, s65_0, s65_1, s65_4, s65_7, s65_8, s65_9, s65_12, s65_13, s65_14, s65_17, s65_20, s65_23, s65_24, s65_25, s65_26, s65_29, s65_30, s65_33, s65_34, s65_37, s65_40, s65_41, s65_42, s65_45, s65_46, s65_49, s65_52, s65_53, s65_54, s65_55, s65_58, s65_61, s65_62, s65_65, s65_66, s65_69, k1, c1, c3, k3]
        · simp (config := {maxSteps := 1000000}) (disch := omega) only [↓reduceIte, Int32.reduceLT, Int32.reduceLE, Int32.reduceToNatClampNeg, Int32.reduceAdd, Int32.reduceSub, Int32.reduceMul, Nat.reduceLeDiff, zEL, zup_ne, zup_eq, zT0, zT1, zT2, if_true, if_false, r0, rB, ze_190, s190_0, s190_1, s190_4, s190_7, s190_8, s190_9, s190_12, s190_13, s190_16, s190_17, s190_20, s190_23, s190_24, s190_25, s190_26, s190_29, s190_30, s190_33, s190_36, s190_37, s190_38, s190_41, s190_42, s190_43, s190_46, s190_47, s190_50, s190_51, s190_54, s190_55, s190_58, s190_59, s190_62, s190_65, s190_66, s190_67, s190_68, s190_69, s190_72, s190_73, k2, m15, c4, k4, k5, f4]
      | some i =>
        obtain ⟨hi, -⟩ := zfd_lt ho
        rw [ho, zon_s] at c3 c4
        obtain ⟨-, hs, hx⟩ := hN2 i hi
        by_cases hs0 : S 165 i = 0
        · obtain ⟨y, hy, e1, e2⟩ := hx hs0
          have hs2 := hs.mp hs0
          obtain ⟨S', Sm', Lm', a1, a2, a3, a4, a5⟩ := zsn_162 (L := L) hR hT hO (by omega) (by omega)
          have e3 : S' 167 i = nI y := (a4.1 _ _ (by omega) (by omega)).trans e1
          have m95 : (Sm 0 9 = 5) = False := eq_false (zOK_9 hO)
          refine ⟨nI y, nI y, S', Sm', Lm', ?_, ?_, a3, a4, fun _ => ⟨h6, y, hy, rfl, rfl⟩⟩ <;> unfold zcall
          · simp (config := {maxSteps := 1000000}) (disch := omega) only [↓reduceIte, Int32.reduceLT, Int32.reduceLE, Int32.reduceToNatClampNeg, Int32.reduceAdd, Int32.reduceSub, Int32.reduceMul, Nat.reduceLeDiff, zEL, zup_ne, zup_eq, zT0, zT1, zT2, if_true, if_false, zneq_f, true_and, and_true, false_and, and_false, zKL, eq_self, Nat.reduceEqDiff, zite0, ite_not, zaddr, zaddl, zputr, zsb1, zsb2, zsb0, zsbm, znm1, gR, gX, ze_65, s65_0, s65_1, s65_4, s65_7, s65_8, s65_9, s65_12, s65_13, s65_14, s65_17, s65_20, s65_23, s65_24, s65_25, s65_26, s65_29, s65_30, s65_33, s65_34, s65_37, s65_40, s65_41, s65_42, s65_45, s65_46, s65_49, s65_52, s65_53, s65_54, s65_55, s65_58, s65_61, s65_62, s65_65, s65_66, s65_69, k1, c1, c3, hs0, h6, a1, e3]
          · simp (config := {maxSteps := 1000000}) (disch := omega) only [↓reduceIte, Int32.reduceLT, Int32.reduceLE, Int32.reduceToNatClampNeg, Int32.reduceAdd, Int32.reduceSub, Int32.reduceMul, Nat.reduceLeDiff, zEL, zup_ne, zup_eq, zT0, zT1, zT2, if_true, if_false, zneq_f, true_and, and_true, false_and, and_false, zKL, eq_self, Nat.reduceEqDiff, zite0, ite_not, zaddr, zaddl, zputr, zsb1, zsb2, zsb0, zsbm, znm1, r0, rB, ze_190, s190_0, s190_1, s190_4, s190_7, s190_8, s190_9, s190_12, s190_13, s190_16, s190_17, s190_20, s190_23, s190_24, s190_25, s190_26, s190_29, s190_30, s190_33, s190_36, s190_37, s190_38, s190_41, s190_42, s190_43, s190_46, s190_47, s190_50, s190_51, s190_54, s190_55, s190_58, s190_59, s190_62, s190_65, s190_66, s190_67, s190_68, s190_69, s190_72, s190_73, k2, m15, c4, hs2, m95, e2, a2]
        · have hs2 : ¬ Sm (B + 28) i = 0 := fun h9 => hs0 (hs.mpr h9)
          obtain ⟨f1, f2, f3, f4, -⟩ := zFk_162 (f := 2) rfl (by omega) (by omega) hT hO
          have k3 : zcall 58 [.ref 162, .int 2] zRc S L = _ := c58O_162 (L := L) (k := nI 2) h6
          have k4 : zcall 180 [.ref 0, .int 2] R Sm Lm = _ := m180O (Lm := Lm) (k := nI 2) hR (zOK_9 hO)
          have k5 := m179F (Lm := Lm) hR f4
          refine ⟨-1, 0, _, _, Lm, ?_, ?_, f1, f2, fun h => absurd h f3⟩ <;> unfold zcall
          · simp (config := {maxSteps := 1000000}) (disch := omega) only [↓reduceIte, Int32.reduceLT, Int32.reduceLE, Int32.reduceToNatClampNeg, Int32.reduceAdd, Int32.reduceSub, Int32.reduceMul, Nat.reduceLeDiff, zEL, zup_ne, zup_eq, zT0, zT1, zT2, if_true, if_false, zneq_f, true_and, and_true, false_and, and_false, zKL, eq_self, Nat.reduceEqDiff, zite0, ite_not, zaddr, zaddl, zputr, zsb1, zsb2, zsb0, zsbm, znm1, gR, gX, ze_65, s65_0, s65_1, s65_4, s65_7, s65_8, s65_9, s65_12, s65_13, s65_14, s65_17, s65_20, s65_23, s65_24, s65_25, s65_26, s65_29, s65_30, s65_33, s65_34, s65_37, s65_40, s65_41, s65_42, s65_45, s65_46, s65_49, s65_52, s65_53, s65_54, s65_55, s65_58, s65_61, s65_62, s65_65, s65_66, s65_69, k1, c1, c3, hs0, k3]
          · simp (config := {maxSteps := 1000000}) (disch := omega) only [↓reduceIte, Int32.reduceLT, Int32.reduceLE, Int32.reduceToNatClampNeg, Int32.reduceAdd, Int32.reduceSub, Int32.reduceMul, Nat.reduceLeDiff, zEL, zup_ne, zup_eq, zT0, zT1, zT2, if_true, if_false, zneq_f, true_and, and_true, false_and, and_false, zKL, eq_self, Nat.reduceEqDiff, zite0, ite_not, zaddr, zaddl, zputr, zsb1, zsb2, zsb0, zsbm, znm1, r0, rB, ze_190, s190_0, s190_1, s190_4, s190_7, s190_8, s190_9, s190_12, s190_13, s190_16, s190_17, s190_20, s190_23, s190_24, s190_25, s190_26, s190_29, s190_30, s190_33, s190_36, s190_37, s190_38, s190_41, s190_42, s190_43, s190_46, s190_47, s190_50, s190_51, s190_54, s190_55, s190_58, s190_59, s190_62, s190_65, s190_66, s190_67, s190_68, s190_69, s190_72, s190_73, k2, m15, c4, hs2, k4, k5, f4]
    | false =>
      rw [hn, zbi_f] at k1 k2
      obtain ⟨f1, f2, f3, f4, f5⟩ := zFk_162 (f := 1) rfl (by omega) (by omega) hT hO
      have k3 : zcall 58 [.ref 162, .int 1] zRc S L = _ := c58O_162 (L := L) (k := nI 1) h6
      have k4 : zcall 180 [.ref 0, .int 1] R Sm Lm = _ := m180O (Lm := Lm) (k := nI 1) hR (zOK_9 hO)
      have k5 := m179F (Lm := Lm) hR f4
      have k6 := fun k => c58F_162 (L := L) (k := k) f3
      have k7 := fun k => m180F (Lm := Lm) (k := k) hR f4
      obtain ⟨x, c1, -⟩ := t94 (L := L) f5
      have c3 := c66_162 (L := L) (x := x) hk ((f2.1 162 5 (by omega) (by omega)).trans h5)
      have c4 := m166 (Lm := Lm) (x := Lm 0 15) hB hk ((f2.2.1 B 13 (by omega)).trans h13)
      generalize hS1 : zup (zup S 162 6 (nI 1)) 162 7 (S 1 3) = S1 at f1 f2 f3 k3 k6 c1 c3
      generalize hSm1 : zup (zup (zup Sm 0 13 (nI 1)) 0 14 (Sm 0 8)) 0 9 5 = Sm1 at f1 f2 f4 k4 k5 k7 c4
      refine ⟨-1, 0, S1, Sm1, Lm, ?_, ?_, f1, f2, fun h => absurd h f3⟩ <;> unfold zcall
      · cases ho : zfd (fun i => decide (L 163 i = x)) k with
        | none =>
          rw [ho, zon_n] at c3
          simp (config := {maxSteps := 1000000}) (disch := omega) only [↓reduceIte, Int32.reduceLT, Int32.reduceLE, Int32.reduceToNatClampNeg, Int32.reduceAdd, Int32.reduceSub, Int32.reduceMul, Nat.reduceLeDiff, zEL, zup_ne, zup_eq, zT0, zT1, zT2, if_true, if_false, zneq_f, true_and, and_true, false_and, and_false, zKL, eq_self, Nat.reduceEqDiff, zite0, ite_not, zaddr, zaddl, zputr, zsb1, zsb2, zsb0, zsbm, znm1, gR, gX, ze_65, s65_0, s65_1, s65_4, s65_7, s65_8, s65_9, s65_12, s65_13, s65_14, s65_17, s65_20, s65_23, s65_24, s65_25, s65_26, s65_29, s65_30, s65_33, s65_34, s65_37, s65_40, s65_41, s65_42, s65_45, s65_46, s65_49, s65_52, s65_53, s65_54, s65_55, s65_58, s65_61, s65_62, s65_65, s65_66, s65_69, k1, k3, c1, c3, k6, f3]
        | some i =>
          obtain ⟨hi, -⟩ := zfd_lt ho
          rw [ho, zon_s] at c3
          simp (config := {maxSteps := 1000000}) (disch := omega) only [↓reduceIte, Int32.reduceLT, Int32.reduceLE, Int32.reduceToNatClampNeg, Int32.reduceAdd, Int32.reduceSub, Int32.reduceMul, Nat.reduceLeDiff, zEL, zup_ne, zup_eq, zT0, zT1, zT2, if_true, if_false, zneq_f, true_and, and_true, false_and, and_false, zKL, eq_self, Nat.reduceEqDiff, zite0, ite_not, zaddr, zaddl, zputr, zsb1, zsb2, zsb0, zsbm, znm1, gR, gX, ze_65, s65_0, s65_1, s65_4, s65_7, s65_8, s65_9, s65_12, s65_13, s65_14, s65_17, s65_20, s65_23, s65_24, s65_25, s65_26, s65_29, s65_30, s65_33, s65_34, s65_37, s65_40, s65_41, s65_42, s65_45, s65_46, s65_49, s65_52, s65_53, s65_54, s65_55, s65_58, s65_61, s65_62, s65_65, s65_66, s65_69, k1, k3, c1, c3, k6, f3]
          all_goals (repeat' split)
          all_goals rfl
      · cases ho : zfd (fun i => decide (Lm (B + 27) i = Lm 0 15)) k with
        | none =>
          rw [ho, zon_n] at c4
          simp (config := {maxSteps := 1000000}) (disch := omega) only [↓reduceIte, Int32.reduceLT, Int32.reduceLE, Int32.reduceToNatClampNeg, Int32.reduceAdd, Int32.reduceSub, Int32.reduceMul, Nat.reduceLeDiff, zEL, zup_ne, zup_eq, zT0, zT1, zT2, if_true, if_false, zneq_f, true_and, and_true, false_and, and_false, zKL, eq_self, Nat.reduceEqDiff, zite0, ite_not, zaddr, zaddl, zputr, zsb1, zsb2, zsb0, zsbm, znm1, r0, rB, ze_190, s190_0, s190_1, s190_4, s190_7, s190_8, s190_9, s190_12, s190_13, s190_16, s190_17, s190_20, s190_23, s190_24, s190_25, s190_26, s190_29, s190_30, s190_33, s190_36, s190_37, s190_38, s190_41, s190_42, s190_43, s190_46, s190_47, s190_50, s190_51, s190_54, s190_55, s190_58, s190_59, s190_62, s190_65, s190_66, s190_67, s190_68, s190_69, s190_72, s190_73, k2, k4, c4, k7, k5, f4]
        | some i =>
          obtain ⟨hi, -⟩ := zfd_lt ho
          rw [ho, zon_s] at c4
          simp (config := {maxSteps := 1000000}) (disch := omega) only [↓reduceIte, Int32.reduceLT, Int32.reduceLE, Int32.reduceToNatClampNeg, Int32.reduceAdd, Int32.reduceSub, Int32.reduceMul, Nat.reduceLeDiff, zEL, zup_ne, zup_eq, zT0, zT1, zT2, if_true, if_false, zneq_f, true_and, and_true, false_and, and_false, zKL, eq_self, Nat.reduceEqDiff, zite0, ite_not, zaddr, zaddl, zputr, zsb1, zsb2, zsb0, zsbm, znm1, r0, rB, ze_190, s190_0, s190_1, s190_4, s190_7, s190_8, s190_9, s190_12, s190_13, s190_16, s190_17, s190_20, s190_23, s190_24, s190_25, s190_26, s190_29, s190_30, s190_33, s190_36, s190_37, s190_38, s190_41, s190_42, s190_43, s190_46, s190_47, s190_50, s190_51, s190_54, s190_55, s190_58, s190_59, s190_62, s190_65, s190_66, s190_67, s190_68, s190_69, s190_72, s190_73, k2, k4, c4, k7, k5, f4]
          all_goals (repeat' split)
          all_goals rfl
  · have hne := zFA_ne hF
    have k3 := fun k => c58F_162 (L := L) (k := k) hne
    have m9 : Sm 0 9 = 5 := by obtain ⟨f, pl, -, -, -, -, -, h9, -⟩ := hF; exact h9
    have k4 := fun k => m180F (Lm := Lm) (k := k) hR m9
    have k5 := m179F (Lm := Lm) hR m9
    have k2 := m187F (Lm := Lm) hR m9
    obtain ⟨x, c1, -⟩ := t94 (L := L) hT
    have c3 := c66_162 (S := S) (L := L) (x := x) hk h5
    have c4 := m166 (Sm := Sm) (Lm := Lm) (x := Lm 0 15) hB hk' h13
    refine ⟨-1, 0, S, Sm, Lm, ?_, ?_, ⟨p, q, hT, .inr hF⟩, zfr_r, fun h => absurd h hne⟩ <;> unfold zcall
    · generalize zbi (zNm b n p q) = vb at k1
      cases ho : zfd (fun i => decide (L 163 i = x)) k with
      | none =>
        rw [ho, zon_n] at c3
        simp (config := {maxSteps := 1000000}) (disch := omega) only [↓reduceIte, Int32.reduceLT, Int32.reduceLE, Int32.reduceToNatClampNeg, Int32.reduceAdd, Int32.reduceSub, Int32.reduceMul, Nat.reduceLeDiff, zEL, zup_ne, zup_eq, zT0, zT1, zT2, if_true, if_false, zneq_f, true_and, and_true, false_and, and_false, zKL, eq_self, Nat.reduceEqDiff, zite0, ite_not, zaddr, zaddl, zputr, zsb1, zsb2, zsb0, zsbm, znm1, gR, gX, ze_65, s65_0, s65_1, s65_4, s65_7, s65_8, s65_9, s65_12, s65_13, s65_14, s65_17, s65_20, s65_23, s65_24, s65_25, s65_26, s65_29, s65_30, s65_33, s65_34, s65_37, s65_40, s65_41, s65_42, s65_45, s65_46, s65_49, s65_52, s65_53, s65_54, s65_55, s65_58, s65_61, s65_62, s65_65, s65_66, s65_69, k1, c1, c3, k3, hne]
        all_goals (repeat' split)
        all_goals rfl
      | some i =>
        obtain ⟨hi, -⟩ := zfd_lt ho
        rw [ho, zon_s] at c3
        simp (config := {maxSteps := 1000000}) (disch := omega) only [↓reduceIte, Int32.reduceLT, Int32.reduceLE, Int32.reduceToNatClampNeg, Int32.reduceAdd, Int32.reduceSub, Int32.reduceMul, Nat.reduceLeDiff, zEL, zup_ne, zup_eq, zT0, zT1, zT2, if_true, if_false, zneq_f, true_and, and_true, false_and, and_false, zKL, eq_self, Nat.reduceEqDiff, zite0, ite_not, zaddr, zaddl, zputr, zsb1, zsb2, zsb0, zsbm, znm1, gR, gX, ze_65, s65_0, s65_1, s65_4, s65_7, s65_8, s65_9, s65_12, s65_13, s65_14, s65_17, s65_20, s65_23, s65_24, s65_25, s65_26, s65_29, s65_30, s65_33, s65_34, s65_37, s65_40, s65_41, s65_42, s65_45, s65_46, s65_49, s65_52, s65_53, s65_54, s65_55, s65_58, s65_61, s65_62, s65_65, s65_66, s65_69, k1, c1, c3, k3, hne]
        all_goals (repeat' split)
        all_goals rfl
    · cases ho : zfd (fun i => decide (Lm (B + 27) i = Lm 0 15)) k' with
      | none =>
        rw [ho, zon_n] at c4
        simp (config := {maxSteps := 1000000}) (disch := omega) only [↓reduceIte, Int32.reduceLT, Int32.reduceLE, Int32.reduceToNatClampNeg, Int32.reduceAdd, Int32.reduceSub, Int32.reduceMul, Nat.reduceLeDiff, zEL, zup_ne, zup_eq, zT0, zT1, zT2, if_true, if_false, zneq_f, true_and, and_true, false_and, and_false, zKL, eq_self, Nat.reduceEqDiff, zite0, ite_not, zaddr, zaddl, zputr, zsb1, zsb2, zsb0, zsbm, znm1, r0, rB, ze_190, s190_0, s190_1, s190_4, s190_7, s190_8, s190_9, s190_12, s190_13, s190_16, s190_17, s190_20, s190_23, s190_24, s190_25, s190_26, s190_29, s190_30, s190_33, s190_36, s190_37, s190_38, s190_41, s190_42, s190_43, s190_46, s190_47, s190_50, s190_51, s190_54, s190_55, s190_58, s190_59, s190_62, s190_65, s190_66, s190_67, s190_68, s190_69, s190_72, s190_73, k2, c4, k4, k5, m9]
      | some i =>
        obtain ⟨hi, -⟩ := zfd_lt ho
        rw [ho, zon_s] at c4
        simp (config := {maxSteps := 1000000}) (disch := omega) only [↓reduceIte, Int32.reduceLT, Int32.reduceLE, Int32.reduceToNatClampNeg, Int32.reduceAdd, Int32.reduceSub, Int32.reduceMul, Nat.reduceLeDiff, zEL, zup_ne, zup_eq, zT0, zT1, zT2, if_true, if_false, zneq_f, true_and, and_true, false_and, and_false, zKL, eq_self, Nat.reduceEqDiff, zite0, ite_not, zaddr, zaddl, zputr, zsb1, zsb2, zsb0, zsbm, znm1, r0, rB, ze_190, s190_0, s190_1, s190_4, s190_7, s190_8, s190_9, s190_12, s190_13, s190_16, s190_17, s190_20, s190_23, s190_24, s190_25, s190_26, s190_29, s190_30, s190_33, s190_36, s190_37, s190_38, s190_41, s190_42, s190_43, s190_46, s190_47, s190_50, s190_51, s190_54, s190_55, s190_58, s190_59, s190_62, s190_65, s190_66, s190_67, s190_68, s190_69, s190_72, s190_73, k2, c4, k4, k5, m9]
        all_goals (repeat' split)
        all_goals rfl
end ZP7
