/-! THE TEXT: LINES: snow -/
section ZP9
variable {S Sm S' Sm' : zS} {L Lm L' Lm' : zL} {R : List zE} {n B p q : Nat} {b : Nat → Nat}
theorem zput_ne {a m j k : Nat} {i v : Int32} (h : j ≠ a) : zput S a m i v j k = S j k := by
  unfold zput
  split
  · rfl
  · exact zup_ne (by omega)
theorem zput_at {a m i k : Nat} {v : Int32} (hi : i < m) (hm : m < 1000) : zput S a m (nI i) v a k = if k = i then v else S a k := by
  rw [zputr hi (by omega)]
  by_cases e : k = i
  · rw [zup_eq rfl e, if_pos e]
  · rw [zup_ne (by omega), if_neg e]
theorem zST_fr {rd : Nat} (h : zST rd n b S Sm Lm) (h1 : ∀ k, S' 1 k = S 1 k) (h3 : ∀ k, S' 3 k = S 3 k) (h6 : S' rd 6 = S rd 6) (h7 : S' rd 7 = S rd 7) (m0 : ∀ k, k ≤ 15 → Sm' 0 k = Sm 0 k) (m1 : ∀ k, Sm' 1 k = Sm 1 k) (l0 : Lm' 0 15 = Lm 0 15) : zST rd n b S' Sm' Lm' := by
  obtain ⟨p, q, hT, hO⟩ := h
  refine ⟨p, q, zTKc_fr hT h1 h3, ?_⟩
  rcases hO with hO | hF
  · left
    obtain ⟨a1, a2, a3, a4⟩ := hO
    refine ⟨h6.trans a1, (m0 13 (by omega)).trans a2, zTN_fr a3 (m0 7 (by omega)) m1, ?_⟩
    unfold zTM1 at a4 ⊢
    rw [m0 8 (by omega), m0 9 (by omega), m0 10 (by omega), m0 11 (by omega), m0 12 (by omega), l0]
    exact a4
  · right
    obtain ⟨f, pl, a1, a2, a3, a4, a5, a6, a7, a8⟩ := hF
    exact ⟨f, pl, a1, a2, a3, h6.trans a4, h7.trans a5, (m0 9 (by omega)).trans a6, (m0 13 (by omega)).trans a7, (m0 14 (by omega)).trans a8⟩
/-- is a FAULT told: of both -/
theorem zST_9 {rd : Nat} (h : zST rd n b S Sm Lm) : (S rd 6 = 0 ∧ ¬ Sm 0 9 = 5) ∨ (¬ S rd 6 = 0 ∧ Sm 0 9 = 5) := by
  obtain ⟨p, q, hT, hO | hF⟩ := h
  · exact .inl ⟨hO.1, zOK_9 hO⟩
  · refine .inr ⟨zFA_ne hF, ?_⟩
    obtain ⟨f, pl, -, -, -, -, -, h9, -⟩ := hF
    exact h9
/-- the snows -/
def zPsn_80 (B c5 : Nat) (S Sm : zS) : Prop :=
  c5 ≤ 5 ∧ S 82 3 = nI c5 ∧ Sm B 6 = nI c5 ∧ (∀ i, i < c5 → (∃ h, h < 24 ∧ S 84 i = nI h) ∧ zin (S 86 i) 9 ∧ zin (S 88 i) 9) ∧ (∀ h, h < 24 → (Sm (B + 1) h = 0 ∧ ∀ i, i < c5 → S 84 i ≠ nI h) ∨ (∃ i, i < c5 ∧ S 84 i = nI h ∧ (∀ j, i < j → j < c5 → S 84 j ≠ nI h) ∧ Sm (B + 1) h = S 86 i + 1 ∧ Sm (B + 2) h = S 88 i)) ∧ (1 ≤ c5 → Sm B 14 = S 84 0)
theorem zPsn_fr_80 {c5 : Nat} (h : zPsn_80 B c5 S Sm) (h1 : ∀ j k, (j = 82 ∧ k = 3) ∨ j = 84 ∨ j = 86 ∨ j = 88 → S' j k = S j k) (h2 : ∀ j k, (j = B ∧ (k = 6 ∨ k = 14)) ∨ j = B + 1 ∨ j = B + 2 → Sm' j k = Sm j k) : zPsn_80 B c5 S' Sm' := by
  unfold zPsn_80 at h ⊢
  have e3 : S' 84 = S 84 := funext fun k => h1 _ k (by omega)
  have e5 : S' 86 = S 86 := funext fun k => h1 _ k (by omega)
  have e7 : S' 88 = S 88 := funext fun k => h1 _ k (by omega)
  have m1 : Sm' (B + 1) = Sm (B + 1) := funext fun k => h2 _ k (by omega)
  have m2 : Sm' (B + 2) = Sm (B + 2) := funext fun k => h2 _ k (by omega)
  rw [e3, e5, e7, m1, m2, h1 _ 3 (by omega), h2 B 6 (by omega), h2 B 14 (by omega)]
  exact h
theorem t75_80 {c5 : Nat} (h5 : c5 ≤ 5) (h : S 82 3 = nI c5) : zcall 75 [.ref 82] zRc S L = some (some (.int (if c5 = 5 then 1 else 0)), zRc, S, L) := by
  unfold zcall
  by_cases e : c5 = 5
  · subst e
    have e5 : (nI 5 < 5) = False := by decide
    simp (config := {maxSteps := 1000000}) (disch := omega) only [↓reduceIte, Int32.reduceLT, Int32.reduceLE, Int32.reduceToNatClampNeg, Int32.reduceAdd, Int32.reduceSub, Int32.reduceMul, Nat.reduceLeDiff, zEL, zup_ne, zup_eq, zT0, zT1, zT2, if_true, if_false, gT, ze_75, s75_0, s75_1, s75_4, s75_5, s75_8, s75_9, s75_12, s75_13, h, e5]
    all_goals rfl
  · rw [if_neg e]
    simp (config := {maxSteps := 1000000}) (disch := omega) only [↓reduceIte, Int32.reduceLT, Int32.reduceLE, Int32.reduceToNatClampNeg, Int32.reduceAdd, Int32.reduceSub, Int32.reduceMul, Nat.reduceLeDiff, zEL, zup_ne, zup_eq, zT0, zT1, zT2, if_true, if_false, zneq_f, true_and, and_true, false_and, and_false, zKL, eq_self, Nat.reduceEqDiff, zite0, ite_not, zaddr, zaddl, zputr, zsb1, zsb2, zsb0, zsbm, znm1, gT, ze_75, s75_0, s75_1, s75_4, s75_5, s75_8, s75_9, s75_12, s75_13, h]
theorem t76_80 {k : Nat} {x y z : Int32} (h : S 82 3 = nI k) : zcall 76 [.ref 82, .int x, .int y, .int z] zRc S L = some (none, zRc, zup (zput (zput (zput S 84 5 (nI k) x) 86 5 (nI k) y) 88 5 (nI k) z) 82 3 (nI (k + 1)), L) := by
  have e1 : ∀ a m (i v : Int32) X, a ≠ 82 → zput X a m i v 82 3 = X 82 3 := fun a m i v X ha => zput_ne (by omega)
  have u1 : zput S 84 5 (nI k) x 82 3 = nI k := by rw [zput_ne (by omega), h]
  have u2 : zput (zput S 84 5 (nI k) x) 86 5 (nI k) y 82 3 = nI k := by rw [zput_ne (by omega)]; exact u1
  have u3 : zput (zput (zput S 84 5 (nI k) x) 86 5 (nI k) y) 88 5 (nI k) z 82 3 = nI k := by rw [zput_ne (by omega)]; exact u2
  unfold zcall
  simp (config := {maxSteps := 1000000}) (disch := omega) only [↓reduceIte, Int32.reduceLT, Int32.reduceLE, Int32.reduceToNatClampNeg, Int32.reduceAdd, Int32.reduceSub, Int32.reduceMul, Nat.reduceLeDiff, zEL, zup_ne, zup_eq, zT0, zT1, zT2, if_true, if_false, gT, ze_76, s76_0, s76_1, s76_4, s76_5, s76_8, s76_9, s76_12, s76_13, s76_16, s76_17, s76_20, s76_21, s76_24, s76_25, s76_28, s76_29, s76_32, s76_33, s76_36, s76_37, s76_38, s76_41, s76_42, s76_43, s76_46, h, u1, u2, u3]
theorem l49_80 {c5 : Nat} (hR : zLT R) (hB : zLB R B) (hB11 : 11 ≤ B) (hT : zTKc n b p q S) (hO : zOKs 80 n b p q S Sm Lm) (hk : zkN b n p q = 1) (hP : zPsn_80 B c5 S Sm) : ∃ S' Sm' Lm', zcall 49 [.ref 80] zRc S L = some (none, zRc, S', L) ∧ zcall 195 [.ref 0] R Sm Lm = some (none, R, Sm', Lm') ∧ zST 80 n b S' Sm' Lm' ∧ (∀ j k, (j ≠ 1 ∨ (k ≠ 2 ∧ k ≠ 3 ∧ k ≠ 4)) → (j ≠ 80 ∨ (k ≠ 6 ∧ k ≠ 7)) → (j ≠ 82 ∨ k ≠ 3) → j ≠ 84 → j ≠ 86 → j ≠ 88 → S' j k = S j k) ∧ (∀ j k, (j ≠ 0 ∨ k < 8 ∨ 14 < k) → (j ≠ B ∨ (k ≠ 6 ∧ k ≠ 14)) → j ≠ B + 1 → j ≠ B + 2 → Sm' j k = Sm j k) ∧ (∀ j k, (j ≠ 0 ∨ k ≠ 15) → Lm' j k = Lm j k) ∧ (S' 80 6 = 0 → zPsn_80 B (c5 + 1) S' Sm') := by
  have r0 := hR
  unfold zLT at r0
  have rB := hB
  unfold zLB at rB
  have hP0 := hP
  obtain ⟨hc5, p1, p2, p3, p4, p5⟩ := hP
  have k75 := t75_80 (L := L) hc5 p1
  obtain ⟨S1, Sm1, Lm1, a1, a2, a3, a4, a5⟩ := op59_80 (L := L) (fl := if c5 = 5 then 1 else 0) (many := nI c5) (most := 5) hR hT hO hk (by
    by_cases e : c5 = 5
    · subst e
      exact .inl ⟨if_pos rfl, rfl⟩
    · exact .inr ⟨if_neg e, fun h => e ((znI_inj (b := 5) (by omega) (by omega)).mp h)⟩)
  obtain ⟨v1, w1, S2, Sm2, Lm2, b1, b2, b3, b4, b5⟩ := op63_80 (L := L) (l := 0) (u := 23) (lo := 0) (hi := 23) (lo' := 0) (hi' := 23) hR a3 (by omega) (by omega) (fun _ => ⟨rfl, rfl, rfl, rfl⟩)
  obtain ⟨v2, w2, S3, Sm3, Lm3, c1, c2, c3, c4, c5'⟩ := op62_80 (L := L) (l := 0) (u := 9) (lo := 0) (hi := 9) (lo' := 0) (hi' := 9) hR (fun p q S L h => cw_wet h) (fun p q S Sm Lm h => mw_wet hR h) b3 (by omega) (by omega) (fun _ => ⟨rfl, rfl, rfl, rfl⟩)
  obtain ⟨v3, w3, S4, Sm4, Lm4, d1, d2, d3, d4, d5⟩ := op62_80 (L := L) (l := 0) (u := 9) (lo := 0) (hi := 9) (lo' := 0) (hi' := 9) hR (fun p q S L h => cw_deep h) (fun p q S Sm Lm h => mw_deep hR h) c3 (by omega) (by omega) (fun _ => ⟨rfl, rfl, rfl, rfl⟩)
  have fr := zfr_t (zfr_t (zfr_t a4 b4) c4) d4
  have q1 : S4 82 3 = nI c5 := (fr.1 _ _ (by omega) (by omega)).trans p1
  have q2 : Sm4 B 6 = nI c5 := (fr.2.1 _ _ (by omega)).trans p2
  have k76 := t76_80 (L := L) (x := v1) (y := v2) (z := v3) q1
  have cl : zcall 49 [.ref 80] zRc S L = some (none, zRc, zup (zput (zput (zput S4 84 5 (nI c5) v1) 86 5 (nI c5) v2) 88 5 (nI c5) v3) 82 3 (nI (c5 + 1)), L) := by
    unfold zcall
    simp (config := {maxSteps := 1000000}) (disch := omega) only [↓reduceIte, Int32.reduceLT, Int32.reduceLE, Int32.reduceToNatClampNeg, Int32.reduceAdd, Int32.reduceSub, Int32.reduceMul, Nat.reduceLeDiff, zEL, zup_ne, zup_eq, zT0, zT1, zT2, if_true, if_false, gR, gT, ze_49, s49_0, s49_1, s49_2, s49_5, s49_8, s49_11, s49_14, s49_15, s49_16, s49_18, s49_21, s49_22, s49_23, s49_25, s49_26, s49_28, s49_31, s49_32, s49_33, s49_35, s49_36, s49_38, s49_41, s49_42, s49_43, s49_46, s49_49, s49_50, s49_51, s49_52, s49_55, k75, a1, b1, c1, d1, k76]
  obtain ⟨S5, hS5⟩ : ∃ S5, S5 = zup (zput (zput (zput S4 84 5 (nI c5) v1) 86 5 (nI c5) v2) 88 5 (nI c5) v3) 82 3 (nI (c5 + 1)) := ⟨_, rfl⟩
  rw [← hS5] at cl
  have e5 : ∀ j k, (j ≠ 82 ∨ k ≠ 3) → j ≠ 84 → j ≠ 86 → j ≠ 88 → S5 j k = S4 j k := fun j k a c d e => by rw [hS5, zup_ne (by omega), zput_ne (by omega), zput_ne (by omega), zput_ne (by omega)]
  have frC : ∀ j k, (j ≠ 1 ∨ (k ≠ 2 ∧ k ≠ 3 ∧ k ≠ 4)) → (j ≠ 80 ∨ (k ≠ 6 ∧ k ≠ 7)) → (j ≠ 82 ∨ k ≠ 3) → j ≠ 84 → j ≠ 86 → j ≠ 88 → S5 j k = S j k := fun j k a c d e f g => (e5 j k d e f g).trans (fr.1 j k a c)
  have model0 : zcall 195 [.ref 0] R Sm Lm = zgo 195 42 [.ref 0, .int w1, .int w2, .int w3] [] R Sm4 Lm4 := by
    unfold zcall
    simp (config := {maxSteps := 1000000}) (disch := omega) only [↓reduceIte, Int32.reduceLT, Int32.reduceLE, Int32.reduceToNatClampNeg, Int32.reduceAdd, Int32.reduceSub, Int32.reduceMul, Nat.reduceLeDiff, zEL, zup_ne, zup_eq, zT0, zT1, zT2, if_true, if_false, r0, rB, ze_195, s195_0, s195_1, s195_2, s195_5, s195_8, s195_9, s195_12, s195_13, s195_14, s195_16, s195_19, s195_20, s195_21, s195_24, s195_25, s195_27, s195_30, s195_31, s195_32, s195_35, s195_36, s195_38, s195_41, p2, a2, b2, c2, d2]
  rcases zST_9 d3 with ⟨o1, o2⟩ | ⟨o1, o2⟩
  · have o2 : (Sm4 0 9 = 5) = False := eq_false o2
    obtain ⟨g3, x3, -, x3l, rfl, rfl⟩ := d5 o1
    obtain ⟨g2, x2, -, x2l, rfl, rfl⟩ := c5' g3
    obtain ⟨g1, x1, -, x1l, rfl, rfl⟩ := b5 g2
    have g0 := a5 g1
    have hc54 : c5 ≠ 5 := fun e => by rw [if_pos e] at g0; exact absurd g0 (by decide)
    have h3 : ∀ i, S5 84 i = if i = c5 then nI x1 else S 84 i := fun i => by
      rw [hS5, zup_ne (by omega), zput_ne (by omega), zput_ne (by omega), zput_at (by omega) (by omega), fr.1 _ _ (by omega) (by omega)]
    have h5 : ∀ i, S5 86 i = if i = c5 then nI x2 else S 86 i := fun i => by
      rw [hS5, zup_ne (by omega), zput_ne (by omega), zput_at (by omega) (by omega), zput_ne (by omega), fr.1 _ _ (by omega) (by omega)]
    have h7 : ∀ i, S5 88 i = if i = c5 then nI x3 else S 88 i := fun i => by
      rw [hS5, zup_ne (by omega), zput_at (by omega) (by omega), zput_ne (by omega), zput_ne (by omega), fr.1 _ _ (by omega) (by omega)]
    obtain ⟨Sm5, model1, s14, s6, sw, sd, sf⟩ : ∃ Sm5, zgo 195 42 [.ref 0, .int (nI x1), .int (nI x2), .int (nI x3)] [] R Sm4 Lm4 = some (none, R, Sm5, Lm4) ∧ Sm5 B 14 = (if c5 = 0 then nI x1 else Sm B 14) ∧ Sm5 B 6 = nI (c5 + 1) ∧ (∀ h, Sm5 (B + 1) h = if h = x1 then nI (x2 + 1) else Sm (B + 1) h) ∧ (∀ h, Sm5 (B + 2) h = if h = x1 then nI x3 else Sm (B + 2) h) ∧ (∀ j k, (j ≠ B ∨ (k ≠ 6 ∧ k ≠ 14)) → j ≠ B + 1 → j ≠ B + 2 → Sm5 j k = Sm4 j k) := by
      have fm : ∀ k, Sm4 B k = Sm B k := fun k => fr.2.1 B k (by omega)
      have fm1 : ∀ k, Sm4 (B + 1) k = Sm (B + 1) k := fun k => fr.2.1 _ k (by omega)
      have fm2 : ∀ k, Sm4 (B + 2) k = Sm (B + 2) k := fun k => fr.2.1 _ k (by omega)
      by_cases e0 : c5 = 0
      · subst e0
        refine ⟨zup (zup (zup (zup Sm4 B 14 (nI x1)) (B + 1) x1 (nI (x2 + 1))) (B + 2) x1 (nI x3)) B 6 (nI (0 + 1)), ?_, ?_, ?_, fun h => ?_, fun h => ?_, fun j k a c d => ?_⟩
        · simp (config := {maxSteps := 1000000}) (disch := omega) only [↓reduceIte, Int32.reduceLT, Int32.reduceLE, Int32.reduceToNatClampNeg, Int32.reduceAdd, Int32.reduceSub, Int32.reduceMul, Nat.reduceLeDiff, zEL, zup_ne, zup_eq, zT0, zT1, zT2, if_true, if_false, zneq_f, true_and, and_true, false_and, and_false, zKL, eq_self, Nat.reduceEqDiff, zite0, ite_not, zaddr, zaddl, zputr, zsb1, zsb2, zsb0, zsbm, znm1, r0, rB, s195_42, s195_43, s195_46, s195_47, s195_50, s195_51, s195_52, s195_55, s195_58, s195_61, s195_62, s195_65, s195_66, s195_69, s195_70, s195_73, s195_76, s195_77, s195_78, s195_79, s195_80, s195_81, s195_82, s195_85, s195_88, s195_89, s195_90, s195_91, s195_92, s195_95, s195_96, s195_99, s195_100, s195_101, s195_104, o2, q2]
        · rw [zup_ne (by omega), zup_ne (by omega), zup_ne (by omega), zup_eq rfl rfl, if_pos rfl]
        · exact zup_eq rfl rfl
        · rw [zup_ne (by omega), zup_ne (by omega)]
          by_cases e : h = x1
          · rw [zup_eq rfl e, if_pos e]
          · rw [zup_ne (by omega), zup_ne (by omega), if_neg e, fm1]
        · rw [zup_ne (by omega)]
          by_cases e : h = x1
          · rw [zup_eq rfl e, if_pos e]
          · rw [zup_ne (by omega), zup_ne (by omega), zup_ne (by omega), if_neg e, fm2]
        · rw [zup_ne (by omega), zup_ne (by omega), zup_ne (by omega), zup_ne (by omega)]
      · refine ⟨zup (zup (zup Sm4 (B + 1) x1 (nI (x2 + 1))) (B + 2) x1 (nI x3)) B 6 (nI (c5 + 1)), ?_, ?_, ?_, fun h => ?_, fun h => ?_, fun j k a c d => ?_⟩
        · simp (config := {maxSteps := 1000000}) (disch := omega) only [↓reduceIte, Int32.reduceLT, Int32.reduceLE, Int32.reduceToNatClampNeg, Int32.reduceAdd, Int32.reduceSub, Int32.reduceMul, Nat.reduceLeDiff, zEL, zup_ne, zup_eq, zT0, zT1, zT2, if_true, if_false, zneq_f, true_and, and_true, false_and, and_false, zKL, eq_self, Nat.reduceEqDiff, zite0, ite_not, zaddr, zaddl, zputr, zsb1, zsb2, zsb0, zsbm, znm1, r0, rB, s195_42, s195_43, s195_46, s195_47, s195_50, s195_51, s195_52, s195_55, s195_58, s195_61, s195_62, s195_65, s195_66, s195_69, s195_70, s195_73, s195_76, s195_77, s195_78, s195_79, s195_80, s195_81, s195_82, s195_85, s195_88, s195_89, s195_90, s195_91, s195_92, s195_95, s195_96, s195_99, s195_100, s195_101, s195_104, o2, q2]
        · rw [zup_ne (by omega), zup_ne (by omega), zup_ne (by omega), if_neg e0, fm]
        · exact zup_eq rfl rfl
        · rw [zup_ne (by omega), zup_ne (by omega)]
          by_cases e : h = x1
          · rw [zup_eq rfl e, if_pos e]
          · rw [zup_ne (by omega), if_neg e, fm1]
        · rw [zup_ne (by omega)]
          by_cases e : h = x1
          · rw [zup_eq rfl e, if_pos e]
          · rw [zup_ne (by omega), zup_ne (by omega), if_neg e, fm2]
        · rw [zup_ne (by omega), zup_ne (by omega), zup_ne (by omega)]
    refine ⟨S5, Sm5, Lm4, cl, model0.trans model1, zST_fr d3 (fun k => e5 1 k (by omega) (by decide) (by decide) (by decide)) (fun k => e5 3 k (by omega) (by decide) (by decide) (by decide)) (e5 _ _ (by omega) (by decide) (by decide) (by decide)) (e5 _ _ (by omega) (by decide) (by decide) (by decide)) (fun k _ => sf 0 k (by omega) (by omega) (by omega)) (fun k => sf 1 k (by omega) (by omega) (by omega)) rfl, frC, fun j k a c d e => (sf j k c d e).trans (fr.2.1 j k a), fr.2.2, fun _ => ⟨by omega, by rw [hS5]; exact zup_eq rfl rfl, s6, fun i hi => ?_, fun h hh => ?_, fun _ => ?_⟩⟩
    · rw [h3, h5, h7]
      by_cases e : i = c5
      · rw [if_pos e, if_pos e, if_pos e]
        exact ⟨⟨x1, by omega, rfl⟩, ⟨x2, x2l, rfl⟩, ⟨x3, x3l, rfl⟩⟩
      · rw [if_neg e, if_neg e, if_neg e]
        exact p3 i (by omega)
    · rw [sw, sd]
      by_cases e : h = x1
      · subst e
        refine .inr ⟨c5, by omega, by rw [h3, if_pos rfl], fun j h8 h9 => by omega, ?_, ?_⟩
        · rw [if_pos rfl, h5, if_pos rfl, zad1]
        · rw [if_pos rfl, h7, if_pos rfl]
      · rw [if_neg e, if_neg e]
        have hne : ¬ nI x1 = nI h := fun h9 => e ((znI_inj (by omega) (by omega)).mp h9).symm
        rcases p4 h hh with ⟨y1, y2⟩ | ⟨i, i1, i2, i3, i4, i5⟩
        · refine .inl ⟨y1, fun i hi => ?_⟩
          rw [h3]
          by_cases e2 : i = c5
          · rw [if_pos e2]
            exact hne
          · rw [if_neg e2]
            exact y2 i (by omega)
        · refine .inr ⟨i, by omega, by rw [h3, if_neg (by omega)]; exact i2, fun j h8 h9 => ?_, by rw [h5, if_neg (by omega)]; exact i4, by rw [h7, if_neg (by omega)]; exact i5⟩
          rw [h3]
          by_cases e2 : j = c5
          · rw [if_pos e2]
            exact hne
          · rw [if_neg e2]
            exact i3 j h8 (by omega)
    · rw [s14, h3]
      by_cases e0 : c5 = 0
      · rw [if_pos e0, if_pos e0.symm]
      · rw [if_neg e0, if_neg (by omega)]
        exact p5 (by omega)
  · have model1 : zgo 195 42 [.ref 0, .int w1, .int w2, .int w3] [] R Sm4 Lm4 = some (none, R, Sm4, Lm4) := by
      simp (config := {maxSteps := 1000000}) (disch := omega) only [↓reduceIte, Int32.reduceLT, Int32.reduceLE, Int32.reduceToNatClampNeg, Int32.reduceAdd, Int32.reduceSub, Int32.reduceMul, Nat.reduceLeDiff, zEL, zup_ne, zup_eq, zT0, zT1, zT2, if_true, if_false, r0, rB, s195_42, s195_43, s195_46, s195_47, s195_50, s195_51, s195_52, s195_55, s195_58, s195_61, s195_62, s195_65, s195_66, s195_69, s195_70, s195_73, s195_76, s195_77, s195_78, s195_79, s195_80, s195_81, s195_82, s195_85, s195_88, s195_89, s195_90, s195_91, s195_92, s195_95, s195_96, s195_99, s195_100, s195_101, s195_104, o2]
    refine ⟨S5, Sm4, Lm4, cl, model0.trans model1, zST_fr d3 (fun k => e5 1 k (by omega) (by decide) (by decide) (by decide)) (fun k => e5 3 k (by omega) (by decide) (by decide) (by decide)) (e5 _ _ (by omega) (by decide) (by decide) (by decide)) (e5 _ _ (by omega) (by decide) (by decide) (by decide)) (fun _ _ => rfl) (fun _ => rfl) rfl, frC, fun j k a c d e => fr.2.1 j k a, fr.2.2, fun h => ?_⟩
    rw [e5 _ _ (by omega) (by decide) (by decide) (by decide)] at h
    exact absurd h o1
/-- the snows -/
def zPsn_162 (B c5 : Nat) (S Sm : zS) : Prop :=
  c5 ≤ 5 ∧ S 5 3 = nI c5 ∧ Sm B 6 = nI c5 ∧ (∀ i, i < c5 → (∃ h, h < 24 ∧ S 7 i = nI h) ∧ zin (S 9 i) 9 ∧ zin (S 11 i) 9) ∧ (∀ h, h < 24 → (Sm (B + 1) h = 0 ∧ ∀ i, i < c5 → S 7 i ≠ nI h) ∨ (∃ i, i < c5 ∧ S 7 i = nI h ∧ (∀ j, i < j → j < c5 → S 7 j ≠ nI h) ∧ Sm (B + 1) h = S 9 i + 1 ∧ Sm (B + 2) h = S 11 i)) ∧ (1 ≤ c5 → Sm B 14 = S 7 0)
theorem zPsn_fr_162 {c5 : Nat} (h : zPsn_162 B c5 S Sm) (h1 : ∀ j k, (j = 5 ∧ k = 3) ∨ j = 7 ∨ j = 9 ∨ j = 11 → S' j k = S j k) (h2 : ∀ j k, (j = B ∧ (k = 6 ∨ k = 14)) ∨ j = B + 1 ∨ j = B + 2 → Sm' j k = Sm j k) : zPsn_162 B c5 S' Sm' := by
  unfold zPsn_162 at h ⊢
  have e3 : S' 7 = S 7 := funext fun k => h1 _ k (by omega)
  have e5 : S' 9 = S 9 := funext fun k => h1 _ k (by omega)
  have e7 : S' 11 = S 11 := funext fun k => h1 _ k (by omega)
  have m1 : Sm' (B + 1) = Sm (B + 1) := funext fun k => h2 _ k (by omega)
  have m2 : Sm' (B + 2) = Sm (B + 2) := funext fun k => h2 _ k (by omega)
  rw [e3, e5, e7, m1, m2, h1 _ 3 (by omega), h2 B 6 (by omega), h2 B 14 (by omega)]
  exact h
theorem t75_162 {c5 : Nat} (h5 : c5 ≤ 5) (h : S 5 3 = nI c5) : zcall 75 [.ref 5] zRc S L = some (some (.int (if c5 = 5 then 1 else 0)), zRc, S, L) := by
  unfold zcall
  by_cases e : c5 = 5
  · subst e
    have e5 : (nI 5 < 5) = False := by decide
    simp (config := {maxSteps := 1000000}) (disch := omega) only [↓reduceIte, Int32.reduceLT, Int32.reduceLE, Int32.reduceToNatClampNeg, Int32.reduceAdd, Int32.reduceSub, Int32.reduceMul, Nat.reduceLeDiff, zEL, zup_ne, zup_eq, zT0, zT1, zT2, if_true, if_false, gM, ze_75, s75_0, s75_1, s75_4, s75_5, s75_8, s75_9, s75_12, s75_13, h, e5]
    all_goals rfl
  · rw [if_neg e]
    simp (config := {maxSteps := 1000000}) (disch := omega) only [↓reduceIte, Int32.reduceLT, Int32.reduceLE, Int32.reduceToNatClampNeg, Int32.reduceAdd, Int32.reduceSub, Int32.reduceMul, Nat.reduceLeDiff, zEL, zup_ne, zup_eq, zT0, zT1, zT2, if_true, if_false, zneq_f, true_and, and_true, false_and, and_false, zKL, eq_self, Nat.reduceEqDiff, zite0, ite_not, zaddr, zaddl, zputr, zsb1, zsb2, zsb0, zsbm, znm1, gM, ze_75, s75_0, s75_1, s75_4, s75_5, s75_8, s75_9, s75_12, s75_13, h]
theorem t76_162 {k : Nat} {x y z : Int32} (h : S 5 3 = nI k) : zcall 76 [.ref 5, .int x, .int y, .int z] zRc S L = some (none, zRc, zup (zput (zput (zput S 7 5 (nI k) x) 9 5 (nI k) y) 11 5 (nI k) z) 5 3 (nI (k + 1)), L) := by
  have e1 : ∀ a m (i v : Int32) X, a ≠ 5 → zput X a m i v 5 3 = X 5 3 := fun a m i v X ha => zput_ne (by omega)
  have u1 : zput S 7 5 (nI k) x 5 3 = nI k := by rw [zput_ne (by omega), h]
  have u2 : zput (zput S 7 5 (nI k) x) 9 5 (nI k) y 5 3 = nI k := by rw [zput_ne (by omega)]; exact u1
  have u3 : zput (zput (zput S 7 5 (nI k) x) 9 5 (nI k) y) 11 5 (nI k) z 5 3 = nI k := by rw [zput_ne (by omega)]; exact u2
  unfold zcall
  simp (config := {maxSteps := 1000000}) (disch := omega) only [↓reduceIte, Int32.reduceLT, Int32.reduceLE, Int32.reduceToNatClampNeg, Int32.reduceAdd, Int32.reduceSub, Int32.reduceMul, Nat.reduceLeDiff, zEL, zup_ne, zup_eq, zT0, zT1, zT2, if_true, if_false, gM, ze_76, s76_0, s76_1, s76_4, s76_5, s76_8, s76_9, s76_12, s76_13, s76_16, s76_17, s76_20, s76_21, s76_24, s76_25, s76_28, s76_29, s76_32, s76_33, s76_36, s76_37, s76_38, s76_41, s76_42, s76_43, s76_46, h, u1, u2, u3]
theorem l49_162 {c5 : Nat} (hR : zLT R) (hB : zLB R B) (hB11 : 11 ≤ B) (hT : zTKc n b p q S) (hO : zOKs 162 n b p q S Sm Lm) (hk : zkN b n p q = 1) (hP : zPsn_162 B c5 S Sm) : ∃ S' Sm' Lm', zcall 49 [.ref 162] zRc S L = some (none, zRc, S', L) ∧ zcall 195 [.ref 0] R Sm Lm = some (none, R, Sm', Lm') ∧ zST 162 n b S' Sm' Lm' ∧ (∀ j k, (j ≠ 1 ∨ (k ≠ 2 ∧ k ≠ 3 ∧ k ≠ 4)) → (j ≠ 162 ∨ (k ≠ 6 ∧ k ≠ 7)) → (j ≠ 5 ∨ k ≠ 3) → j ≠ 7 → j ≠ 9 → j ≠ 11 → S' j k = S j k) ∧ (∀ j k, (j ≠ 0 ∨ k < 8 ∨ 14 < k) → (j ≠ B ∨ (k ≠ 6 ∧ k ≠ 14)) → j ≠ B + 1 → j ≠ B + 2 → Sm' j k = Sm j k) ∧ (∀ j k, (j ≠ 0 ∨ k ≠ 15) → Lm' j k = Lm j k) ∧ (S' 162 6 = 0 → zPsn_162 B (c5 + 1) S' Sm') := by
  have r0 := hR
  unfold zLT at r0
  have rB := hB
  unfold zLB at rB
  have hP0 := hP
  obtain ⟨hc5, p1, p2, p3, p4, p5⟩ := hP
  have k75 := t75_162 (L := L) hc5 p1
  obtain ⟨S1, Sm1, Lm1, a1, a2, a3, a4, a5⟩ := op59_162 (L := L) (fl := if c5 = 5 then 1 else 0) (many := nI c5) (most := 5) hR hT hO hk (by
    by_cases e : c5 = 5
    · subst e
      exact .inl ⟨if_pos rfl, rfl⟩
    · exact .inr ⟨if_neg e, fun h => e ((znI_inj (b := 5) (by omega) (by omega)).mp h)⟩)
  obtain ⟨v1, w1, S2, Sm2, Lm2, b1, b2, b3, b4, b5⟩ := op63_162 (L := L) (l := 0) (u := 23) (lo := 0) (hi := 23) (lo' := 0) (hi' := 23) hR a3 (by omega) (by omega) (fun _ => ⟨rfl, rfl, rfl, rfl⟩)
  obtain ⟨v2, w2, S3, Sm3, Lm3, c1, c2, c3, c4, c5'⟩ := op62_162 (L := L) (l := 0) (u := 9) (lo := 0) (hi := 9) (lo' := 0) (hi' := 9) hR (fun p q S L h => cw_wet h) (fun p q S Sm Lm h => mw_wet hR h) b3 (by omega) (by omega) (fun _ => ⟨rfl, rfl, rfl, rfl⟩)
  obtain ⟨v3, w3, S4, Sm4, Lm4, d1, d2, d3, d4, d5⟩ := op62_162 (L := L) (l := 0) (u := 9) (lo := 0) (hi := 9) (lo' := 0) (hi' := 9) hR (fun p q S L h => cw_deep h) (fun p q S Sm Lm h => mw_deep hR h) c3 (by omega) (by omega) (fun _ => ⟨rfl, rfl, rfl, rfl⟩)
  have fr := zfr_t (zfr_t (zfr_t a4 b4) c4) d4
  have q1 : S4 5 3 = nI c5 := (fr.1 _ _ (by omega) (by omega)).trans p1
  have q2 : Sm4 B 6 = nI c5 := (fr.2.1 _ _ (by omega)).trans p2
  have k76 := t76_162 (L := L) (x := v1) (y := v2) (z := v3) q1
  have cl : zcall 49 [.ref 162] zRc S L = some (none, zRc, zup (zput (zput (zput S4 7 5 (nI c5) v1) 9 5 (nI c5) v2) 11 5 (nI c5) v3) 5 3 (nI (c5 + 1)), L) := by
    unfold zcall
    simp (config := {maxSteps := 1000000}) (disch := omega) only [↓reduceIte, Int32.reduceLT, Int32.reduceLE, Int32.reduceToNatClampNeg, Int32.reduceAdd, Int32.reduceSub, Int32.reduceMul, Nat.reduceLeDiff, zEL, zup_ne, zup_eq, zT0, zT1, zT2, if_true, if_false, gR, gM, ze_49, s49_0, s49_1, s49_2, s49_5, s49_8, s49_11, s49_14, s49_15, s49_16, s49_18, s49_21, s49_22, s49_23, s49_25, s49_26, s49_28, s49_31, s49_32, s49_33, s49_35, s49_36, s49_38, s49_41, s49_42, s49_43, s49_46, s49_49, s49_50, s49_51, s49_52, s49_55, k75, a1, b1, c1, d1, k76]
  obtain ⟨S5, hS5⟩ : ∃ S5, S5 = zup (zput (zput (zput S4 7 5 (nI c5) v1) 9 5 (nI c5) v2) 11 5 (nI c5) v3) 5 3 (nI (c5 + 1)) := ⟨_, rfl⟩
  rw [← hS5] at cl
  have e5 : ∀ j k, (j ≠ 5 ∨ k ≠ 3) → j ≠ 7 → j ≠ 9 → j ≠ 11 → S5 j k = S4 j k := fun j k a c d e => by rw [hS5, zup_ne (by omega), zput_ne (by omega), zput_ne (by omega), zput_ne (by omega)]
  have frC : ∀ j k, (j ≠ 1 ∨ (k ≠ 2 ∧ k ≠ 3 ∧ k ≠ 4)) → (j ≠ 162 ∨ (k ≠ 6 ∧ k ≠ 7)) → (j ≠ 5 ∨ k ≠ 3) → j ≠ 7 → j ≠ 9 → j ≠ 11 → S5 j k = S j k := fun j k a c d e f g => (e5 j k d e f g).trans (fr.1 j k a c)
  have model0 : zcall 195 [.ref 0] R Sm Lm = zgo 195 42 [.ref 0, .int w1, .int w2, .int w3] [] R Sm4 Lm4 := by
    unfold zcall
    simp (config := {maxSteps := 1000000}) (disch := omega) only [↓reduceIte, Int32.reduceLT, Int32.reduceLE, Int32.reduceToNatClampNeg, Int32.reduceAdd, Int32.reduceSub, Int32.reduceMul, Nat.reduceLeDiff, zEL, zup_ne, zup_eq, zT0, zT1, zT2, if_true, if_false, r0, rB, ze_195, s195_0, s195_1, s195_2, s195_5, s195_8, s195_9, s195_12, s195_13, s195_14, s195_16, s195_19, s195_20, s195_21, s195_24, s195_25, s195_27, s195_30, s195_31, s195_32, s195_35, s195_36, s195_38, s195_41, p2, a2, b2, c2, d2]
  rcases zST_9 d3 with ⟨o1, o2⟩ | ⟨o1, o2⟩
  · have o2 : (Sm4 0 9 = 5) = False := eq_false o2
    obtain ⟨g3, x3, -, x3l, rfl, rfl⟩ := d5 o1
    obtain ⟨g2, x2, -, x2l, rfl, rfl⟩ := c5' g3
    obtain ⟨g1, x1, -, x1l, rfl, rfl⟩ := b5 g2
    have g0 := a5 g1
    have hc54 : c5 ≠ 5 := fun e => by rw [if_pos e] at g0; exact absurd g0 (by decide)
    have h3 : ∀ i, S5 7 i = if i = c5 then nI x1 else S 7 i := fun i => by
      rw [hS5, zup_ne (by omega), zput_ne (by omega), zput_ne (by omega), zput_at (by omega) (by omega), fr.1 _ _ (by omega) (by omega)]
    have h5 : ∀ i, S5 9 i = if i = c5 then nI x2 else S 9 i := fun i => by
      rw [hS5, zup_ne (by omega), zput_ne (by omega), zput_at (by omega) (by omega), zput_ne (by omega), fr.1 _ _ (by omega) (by omega)]
    have h7 : ∀ i, S5 11 i = if i = c5 then nI x3 else S 11 i := fun i => by
      rw [hS5, zup_ne (by omega), zput_at (by omega) (by omega), zput_ne (by omega), zput_ne (by omega), fr.1 _ _ (by omega) (by omega)]
    obtain ⟨Sm5, model1, s14, s6, sw, sd, sf⟩ : ∃ Sm5, zgo 195 42 [.ref 0, .int (nI x1), .int (nI x2), .int (nI x3)] [] R Sm4 Lm4 = some (none, R, Sm5, Lm4) ∧ Sm5 B 14 = (if c5 = 0 then nI x1 else Sm B 14) ∧ Sm5 B 6 = nI (c5 + 1) ∧ (∀ h, Sm5 (B + 1) h = if h = x1 then nI (x2 + 1) else Sm (B + 1) h) ∧ (∀ h, Sm5 (B + 2) h = if h = x1 then nI x3 else Sm (B + 2) h) ∧ (∀ j k, (j ≠ B ∨ (k ≠ 6 ∧ k ≠ 14)) → j ≠ B + 1 → j ≠ B + 2 → Sm5 j k = Sm4 j k) := by
      have fm : ∀ k, Sm4 B k = Sm B k := fun k => fr.2.1 B k (by omega)
      have fm1 : ∀ k, Sm4 (B + 1) k = Sm (B + 1) k := fun k => fr.2.1 _ k (by omega)
      have fm2 : ∀ k, Sm4 (B + 2) k = Sm (B + 2) k := fun k => fr.2.1 _ k (by omega)
      by_cases e0 : c5 = 0
      · subst e0
        refine ⟨zup (zup (zup (zup Sm4 B 14 (nI x1)) (B + 1) x1 (nI (x2 + 1))) (B + 2) x1 (nI x3)) B 6 (nI (0 + 1)), ?_, ?_, ?_, fun h => ?_, fun h => ?_, fun j k a c d => ?_⟩
        · simp (config := {maxSteps := 1000000}) (disch := omega) only [↓reduceIte, Int32.reduceLT, Int32.reduceLE, Int32.reduceToNatClampNeg, Int32.reduceAdd, Int32.reduceSub, Int32.reduceMul, Nat.reduceLeDiff, zEL, zup_ne, zup_eq, zT0, zT1, zT2, if_true, if_false, zneq_f, true_and, and_true, false_and, and_false, zKL, eq_self, Nat.reduceEqDiff, zite0, ite_not, zaddr, zaddl, zputr, zsb1, zsb2, zsb0, zsbm, znm1, r0, rB, s195_42, s195_43, s195_46, s195_47, s195_50, s195_51, s195_52, s195_55, s195_58, s195_61, s195_62, s195_65, s195_66, s195_69, s195_70, s195_73, s195_76, s195_77, s195_78, s195_79, s195_80, s195_81, s195_82, s195_85, s195_88, s195_89, s195_90, s195_91, s195_92, s195_95, s195_96, s195_99, s195_100, s195_101, s195_104, o2, q2]
        · rw [zup_ne (by omega), zup_ne (by omega), zup_ne (by omega), zup_eq rfl rfl, if_pos rfl]
        · exact zup_eq rfl rfl
        · rw [zup_ne (by omega), zup_ne (by omega)]
          by_cases e : h = x1
          · rw [zup_eq rfl e, if_pos e]
          · rw [zup_ne (by omega), zup_ne (by omega), if_neg e, fm1]
        · rw [zup_ne (by omega)]
          by_cases e : h = x1
          · rw [zup_eq rfl e, if_pos e]
          · rw [zup_ne (by omega), zup_ne (by omega), zup_ne (by omega), if_neg e, fm2]
        · rw [zup_ne (by omega), zup_ne (by omega), zup_ne (by omega), zup_ne (by omega)]
      · refine ⟨zup (zup (zup Sm4 (B + 1) x1 (nI (x2 + 1))) (B + 2) x1 (nI x3)) B 6 (nI (c5 + 1)), ?_, ?_, ?_, fun h => ?_, fun h => ?_, fun j k a c d => ?_⟩
        · simp (config := {maxSteps := 1000000}) (disch := omega) only [↓reduceIte, Int32.reduceLT, Int32.reduceLE, Int32.reduceToNatClampNeg, Int32.reduceAdd, Int32.reduceSub, Int32.reduceMul, Nat.reduceLeDiff, zEL, zup_ne, zup_eq, zT0, zT1, zT2, if_true, if_false, zneq_f, true_and, and_true, false_and, and_false, zKL, eq_self, Nat.reduceEqDiff, zite0, ite_not, zaddr, zaddl, zputr, zsb1, zsb2, zsb0, zsbm, znm1, r0, rB, s195_42, s195_43, s195_46, s195_47, s195_50, s195_51, s195_52, s195_55, s195_58, s195_61, s195_62, s195_65, s195_66, s195_69, s195_70, s195_73, s195_76, s195_77, s195_78, s195_79, s195_80, s195_81, s195_82, s195_85, s195_88, s195_89, s195_90, s195_91, s195_92, s195_95, s195_96, s195_99, s195_100, s195_101, s195_104, o2, q2]
        · rw [zup_ne (by omega), zup_ne (by omega), zup_ne (by omega), if_neg e0, fm]
        · exact zup_eq rfl rfl
        · rw [zup_ne (by omega), zup_ne (by omega)]
          by_cases e : h = x1
          · rw [zup_eq rfl e, if_pos e]
          · rw [zup_ne (by omega), if_neg e, fm1]
        · rw [zup_ne (by omega)]
          by_cases e : h = x1
          · rw [zup_eq rfl e, if_pos e]
          · rw [zup_ne (by omega), zup_ne (by omega), if_neg e, fm2]
        · rw [zup_ne (by omega), zup_ne (by omega), zup_ne (by omega)]
    refine ⟨S5, Sm5, Lm4, cl, model0.trans model1, zST_fr d3 (fun k => e5 1 k (by omega) (by decide) (by decide) (by decide)) (fun k => e5 3 k (by omega) (by decide) (by decide) (by decide)) (e5 _ _ (by omega) (by decide) (by decide) (by decide)) (e5 _ _ (by omega) (by decide) (by decide) (by decide)) (fun k _ => sf 0 k (by omega) (by omega) (by omega)) (fun k => sf 1 k (by omega) (by omega) (by omega)) rfl, frC, fun j k a c d e => (sf j k c d e).trans (fr.2.1 j k a), fr.2.2, fun _ => ⟨by omega, by rw [hS5]; exact zup_eq rfl rfl, s6, fun i hi => ?_, fun h hh => ?_, fun _ => ?_⟩⟩
    · rw [h3, h5, h7]
      by_cases e : i = c5
      · rw [if_pos e, if_pos e, if_pos e]
        exact ⟨⟨x1, by omega, rfl⟩, ⟨x2, x2l, rfl⟩, ⟨x3, x3l, rfl⟩⟩
      · rw [if_neg e, if_neg e, if_neg e]
        exact p3 i (by omega)
    · rw [sw, sd]
      by_cases e : h = x1
      · subst e
        refine .inr ⟨c5, by omega, by rw [h3, if_pos rfl], fun j h8 h9 => by omega, ?_, ?_⟩
        · rw [if_pos rfl, h5, if_pos rfl, zad1]
        · rw [if_pos rfl, h7, if_pos rfl]
      · rw [if_neg e, if_neg e]
        have hne : ¬ nI x1 = nI h := fun h9 => e ((znI_inj (by omega) (by omega)).mp h9).symm
        rcases p4 h hh with ⟨y1, y2⟩ | ⟨i, i1, i2, i3, i4, i5⟩
        · refine .inl ⟨y1, fun i hi => ?_⟩
          rw [h3]
          by_cases e2 : i = c5
          · rw [if_pos e2]
            exact hne
          · rw [if_neg e2]
            exact y2 i (by omega)
        · refine .inr ⟨i, by omega, by rw [h3, if_neg (by omega)]; exact i2, fun j h8 h9 => ?_, by rw [h5, if_neg (by omega)]; exact i4, by rw [h7, if_neg (by omega)]; exact i5⟩
          rw [h3]
          by_cases e2 : j = c5
          · rw [if_pos e2]
            exact hne
          · rw [if_neg e2]
            exact i3 j h8 (by omega)
    · rw [s14, h3]
      by_cases e0 : c5 = 0
      · rw [if_pos e0, if_pos e0.symm]
      · rw [if_neg e0, if_neg (by omega)]
        exact p5 (by omega)
  · have model1 : zgo 195 42 [.ref 0, .int w1, .int w2, .int w3] [] R Sm4 Lm4 = some (none, R, Sm4, Lm4) := by
      simp (config := {maxSteps := 1000000}) (disch := omega) only [↓reduceIte, Int32.reduceLT, Int32.reduceLE, Int32.reduceToNatClampNeg, Int32.reduceAdd, Int32.reduceSub, Int32.reduceMul, Nat.reduceLeDiff, zEL, zup_ne, zup_eq, zT0, zT1, zT2, if_true, if_false, r0, rB, s195_42, s195_43, s195_46, s195_47, s195_50, s195_51, s195_52, s195_55, s195_58, s195_61, s195_62, s195_65, s195_66, s195_69, s195_70, s195_73, s195_76, s195_77, s195_78, s195_79, s195_80, s195_81, s195_82, s195_85, s195_88, s195_89, s195_90, s195_91, s195_92, s195_95, s195_96, s195_99, s195_100, s195_101, s195_104, o2]
    refine ⟨S5, Sm4, Lm4, cl, model0.trans model1, zST_fr d3 (fun k => e5 1 k (by omega) (by decide) (by decide) (by decide)) (fun k => e5 3 k (by omega) (by decide) (by decide) (by decide)) (e5 _ _ (by omega) (by decide) (by decide) (by decide)) (e5 _ _ (by omega) (by decide) (by decide) (by decide)) (fun _ _ => rfl) (fun _ => rfl) rfl, frC, fun j k a c d e => fr.2.1 j k a, fr.2.2, fun h => ?_⟩
    rw [e5 _ _ (by omega) (by decide) (by decide) (by decide)] at h
    exact absurd h o1
end ZP9
