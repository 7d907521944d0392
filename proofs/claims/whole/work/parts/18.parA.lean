/-! THE TEXT: LINES: law, referee -/
section ZPA
variable {S Sm S' Sm' : zS} {L Lm L' Lm' : zL} {R : List zE} {n B p q : Nat} {b : Nat → Nat}
/-- the law; the referee -/
def zPlw_80 (B : Nat) (S Sm : zS) : Prop :=
  (S 81 0 = 0 ∧ Sm B 0 = 0) ∨ (S 81 0 = 1 ∧ S 81 1 = Sm B 0 ∧ S 81 2 = Sm B 1 ∧ S 81 3 = Sm B 2 ∧ S 81 4 = Sm B 3 ∧ zin1 (Sm B 0) 9 ∧ zin (Sm B 1) 10 ∧ zin1 (Sm B 2) 99 ∧ zin (Sm B 3) 20)
def zPrf_80 (B : Nat) (S Sm : zS) : Prop :=
  (S 81 5 = 0 ∧ Sm B 4 = -1) ∨ (S 81 5 = 1 ∧ S 81 6 = Sm B 4 ∧ S 81 7 = Sm B 5 ∧ zin (Sm B 4) 19 ∧ zin (Sm B 5) 9)
theorem zPlw_fr_80 (h : zPlw_80 B S Sm) (h1 : ∀ k, k ≤ 4 → S' 81 k = S 81 k) (h2 : ∀ k, k ≤ 3 → Sm' B k = Sm B k) : zPlw_80 B S' Sm' := by
  unfold zPlw_80 at h ⊢
  rw [h1 0 (by omega), h1 1 (by omega), h1 2 (by omega), h1 3 (by omega), h1 4 (by omega), h2 0 (by omega), h2 1 (by omega), h2 2 (by omega), h2 3 (by omega)]
  exact h
theorem zPrf_fr_80 (h : zPrf_80 B S Sm) (h1 : ∀ k, 5 ≤ k → k ≤ 7 → S' 81 k = S 81 k) (h2 : ∀ k, k = 4 ∨ k = 5 → Sm' B k = Sm B k) : zPrf_80 B S' Sm' := by
  unfold zPrf_80 at h ⊢
  rw [h1 5 (by omega) (by omega), h1 6 (by omega) (by omega), h1 7 (by omega) (by omega), h2 4 (by omega), h2 5 (by omega)]
  exact h
theorem l48_80 (hR : zLT R) (hB : zLB R B) (hB11 : 11 ≤ B) (hT : zTKc n b p q S) (hO : zOKs 80 n b p q S Sm Lm) (hk : zkN b n p q = 1) (hP : zPlw_80 B S Sm) : ∃ S' Sm' Lm', zcall 48 [.ref 80] zRc S L = some (none, zRc, S', L) ∧ zcall 194 [.ref 0] R Sm Lm = some (none, R, Sm', Lm') ∧ zST 80 n b S' Sm' Lm' ∧ (∀ j k, (j ≠ 1 ∨ (k ≠ 2 ∧ k ≠ 3 ∧ k ≠ 4)) → (j ≠ 80 ∨ (k ≠ 6 ∧ k ≠ 7)) → (j ≠ 81 ∨ 5 ≤ k) → S' j k = S j k) ∧ (∀ j k, (j ≠ 0 ∨ k < 8 ∨ 14 < k) → (j ≠ B ∨ 4 ≤ k) → Sm' j k = Sm j k) ∧ (∀ j k, (j ≠ 0 ∨ k ≠ 15) → Lm' j k = Lm j k) ∧ (S' 80 6 = 0 → zPlw_80 B S' Sm' ∧ Sm B 0 = 0 ∧ ¬ Sm' B 0 = 0) := by
  have r0 := hR
  unfold zLT at r0
  have rB := hB
  unfold zLB at rB
  have hk1 : S 1 2 = 1 := by rw [hT.2.2.2.2.1, hk]; rfl
  have h6 := hO.1
  -- told again?
  obtain ⟨S1, Sm1, a1, a2, a3, a4, a5⟩ : ∃ S1 Sm1, zcall 48 [.ref 80] zRc S L = zgo 48 15 [.ref 80] [] zRc S1 L ∧ zcall 194 [.ref 0] R Sm Lm = zgo 194 15 [.ref 0, .retAddr 0] [] R Sm1 Lm ∧ zST 80 n b S1 Sm1 Lm ∧ zfr 80 S Sm Lm S1 Sm1 Lm ∧ (S1 80 6 = 0 → S1 1 2 = 1 ∧ Sm B 0 = 0) := by
    rcases hP with ⟨h1, h2⟩ | ⟨h1, -, -, -, -, ⟨cc, c1, c2, ec⟩, -⟩
    · refine ⟨S, Sm, ?_, ?_, ⟨p, q, hT, .inl hO⟩, zfr_r, fun _ => ⟨hk1, h2⟩⟩ <;> unfold zcall
      · simp (config := {maxSteps := 1000000}) (disch := omega) only [↓reduceIte, Int32.reduceLT, Int32.reduceLE, Int32.reduceToNatClampNeg, Int32.reduceAdd, Int32.reduceSub, Int32.reduceMul, Nat.reduceLeDiff, zEL, zup_ne, zup_eq, zT0, zT1, zT2, if_true, if_false, gR, gT, ze_48, s48_0, s48_1, s48_4, s48_7, s48_10, s48_11, s48_12, h1]
      · simp (config := {maxSteps := 1000000}) (disch := omega) only [↓reduceIte, Int32.reduceLT, Int32.reduceLE, Int32.reduceToNatClampNeg, Int32.reduceAdd, Int32.reduceSub, Int32.reduceMul, Nat.reduceLeDiff, zEL, zup_ne, zup_eq, zT0, zT1, zT2, if_true, if_false, r0, rB, ze_194, s194_0, s194_1, s194_4, s194_7, s194_10, s194_11, s194_12, h2]
    · obtain ⟨f1, f2, f3, f4, -⟩ := zFk_80 (f := 3) rfl (by omega) (by omega) hT hO
      have k3 : zcall 58 [.ref 80, .int 3] zRc S L = _ := c58O_80 (L := L) (k := nI 3) h6
      have k4 : zcall 180 [.ref 0, .int 3] R Sm Lm = _ := m180O (Lm := Lm) (k := nI 3) hR (zOK_9 hO)
      refine ⟨_, _, ?_, ?_, f1, f2, fun h => absurd h f3⟩ <;> unfold zcall
      · simp (config := {maxSteps := 1000000}) (disch := omega) only [↓reduceIte, Int32.reduceLT, Int32.reduceLE, Int32.reduceToNatClampNeg, Int32.reduceAdd, Int32.reduceSub, Int32.reduceMul, Nat.reduceLeDiff, zEL, zup_ne, zup_eq, zT0, zT1, zT2, if_true, if_false, gR, gT, ze_48, s48_0, s48_1, s48_4, s48_7, s48_10, s48_11, s48_12, h1, k3]
      · have c0 : (nI cc ≤ 0) = False := eq_false (fun h9 => by rw [znI_0, znI_le (by omega) (by omega)] at h9; omega)
        simp (config := {maxSteps := 1000000}) (disch := omega) only [↓reduceIte, Int32.reduceLT, Int32.reduceLE, Int32.reduceToNatClampNeg, Int32.reduceAdd, Int32.reduceSub, Int32.reduceMul, Nat.reduceLeDiff, zEL, zup_ne, zup_eq, zT0, zT1, zT2, if_true, if_false, r0, rB, ze_194, s194_0, s194_1, s194_4, s194_7, s194_10, s194_11, s194_12, ec, c0, k4]
  obtain ⟨S2, Sm2, Lm2, b1, b2, b3, b4, b5⟩ := op59g_80 (L := L) hR a3 (fun h => (a5 h).1)
  have g2 : zST 80 n b (zup S2 81 0 1) Sm2 Lm2 := zST_fr b3 (fun k => zup_ne (by omega)) (fun k => zup_ne (by omega)) (zup_ne (by omega)) (zup_ne (by omega)) (fun _ _ => rfl) (fun _ => rfl) rfl
  obtain ⟨v1, w1, S3, Sm3, Lm3, c1, c2, c3, c4, c5⟩ := op62_80 (L := L) (l := 1) (u := 9) (lo := 1) (hi := 9) (lo' := 1) (hi' := 9) hR (fun p q S L h => cw_carry h) (fun p q S Sm Lm h => mw_carry hR h) g2 (by omega) (by omega) (fun _ => ⟨rfl, rfl, rfl, rfl⟩)
  have g3 : zST 80 n b (zup S3 81 1 v1) Sm3 Lm3 := zST_fr c3 (fun k => zup_ne (by omega)) (fun k => zup_ne (by omega)) (zup_ne (by omega)) (zup_ne (by omega)) (fun _ _ => rfl) (fun _ => rfl) rfl
  obtain ⟨v2, w2, S4, Sm4, Lm4, d1, d2, d3, d4, d5⟩ := op62_80 (L := L) (l := 0) (u := 10) (lo := 0) (hi := 10) (lo' := 0) (hi' := 10) hR (fun p q S L h => cw_line h) (fun p q S Sm Lm h => mw_line hR h) g3 (by omega) (by omega) (fun _ => ⟨rfl, rfl, rfl, rfl⟩)
  have g4 : zST 80 n b (zup S4 81 2 v2) (zup Sm4 B 1 w2) Lm4 := zST_fr d3 (fun k => zup_ne (by omega)) (fun k => zup_ne (by omega)) (zup_ne (by omega)) (zup_ne (by omega)) (fun _ _ => zup_ne (by omega)) (fun _ => zup_ne (by omega)) rfl
  obtain ⟨v3, w3, S5, Sm5, Lm5, e1, e2, e3, e4, e5⟩ := op62_80 (L := L) (l := 1) (u := 99) (lo := 1) (hi := 99) (lo' := 1) (hi' := 99) hR (fun p q S L h => cw_tenths h) (fun p q S Sm Lm h => mw_tenths hR h) g4 (by omega) (by omega) (fun _ => ⟨rfl, rfl, rfl, rfl⟩)
  have g5 : zST 80 n b (zup S5 81 3 v3) (zup Sm5 B 2 w3) Lm5 := zST_fr e3 (fun k => zup_ne (by omega)) (fun k => zup_ne (by omega)) (zup_ne (by omega)) (zup_ne (by omega)) (fun _ _ => zup_ne (by omega)) (fun _ => zup_ne (by omega)) rfl
  obtain ⟨v4, w4, S6, Sm6, Lm6, f1, f2, f3, f4, f5⟩ := op62_80 (L := L) (l := 0) (u := 20) (lo := 0) (hi := 20) (lo' := 0) (hi' := 20) hR (fun p q S L h => cw_thaws h) (fun p q S Sm Lm h => mw_thaws hR h) g5 (by omega) (by omega) (fun _ => ⟨rfl, rfl, rfl, rfl⟩)
  have g6 : ∀ Sm7, (∀ j k, j ≠ B → Sm7 j k = Sm6 j k) → zST 80 n b (zup S6 81 4 v4) Sm7 Lm6 := fun Sm7 h => zST_fr f3 (fun k => zup_ne (by omega)) (fun k => zup_ne (by omega)) (zup_ne (by omega)) (zup_ne (by omega)) (fun k _ => h 0 k (by omega)) (fun k => h 1 k (by omega)) rfl
  have cl : zcall 48 [.ref 80] zRc S L = some (none, zRc, zup S6 81 4 v4, L) := by
    rw [a1]
    simp (config := {maxSteps := 1000000}) (disch := omega) only [↓reduceIte, Int32.reduceLT, Int32.reduceLE, Int32.reduceToNatClampNeg, Int32.reduceAdd, Int32.reduceSub, Int32.reduceMul, Nat.reduceLeDiff, zEL, zup_ne, zup_eq, zT0, zT1, zT2, if_true, if_false, gR, gT, s48_15, s48_16, s48_17, s48_20, s48_21, s48_24, s48_25, s48_28, s48_29, s48_32, s48_33, s48_35, s48_36, s48_38, s48_41, s48_44, s48_45, s48_48, s48_49, s48_51, s48_52, s48_54, s48_57, s48_60, s48_61, s48_64, s48_65, s48_67, s48_68, s48_70, s48_73, s48_76, s48_77, s48_80, s48_81, s48_83, s48_84, s48_86, s48_89, s48_92, b1, c1, d1, e1, f1]
  have mo : zcall 194 [.ref 0] R Sm Lm = zgo 194 81 [.ref 0, .int w1] [] R (zup Sm6 B 3 w4) Lm6 := by
    rw [a2]
    simp (config := {maxSteps := 1000000}) (disch := omega) only [↓reduceIte, Int32.reduceLT, Int32.reduceLE, Int32.reduceToNatClampNeg, Int32.reduceAdd, Int32.reduceSub, Int32.reduceMul, Nat.reduceLeDiff, zEL, zup_ne, zup_eq, zT0, zT1, zT2, if_true, if_false, r0, rB, s194_15, s194_16, s194_19, s194_20, s194_23, s194_24, s194_26, s194_29, s194_30, s194_31, s194_34, s194_35, s194_38, s194_39, s194_41, s194_44, s194_47, s194_48, s194_51, s194_52, s194_55, s194_56, s194_58, s194_61, s194_64, s194_65, s194_68, s194_69, s194_72, s194_73, s194_75, s194_78, b2, c2, d2, e2, f2]
  have fC : ∀ j k, (j ≠ 1 ∨ (k ≠ 2 ∧ k ≠ 3 ∧ k ≠ 4)) → (j ≠ 80 ∨ (k ≠ 6 ∧ k ≠ 7)) → (j ≠ 81 ∨ 5 ≤ k) → zup S6 81 4 v4 j k = S j k := fun j k x y z => by
    rw [zup_ne (by omega), f4.1 j k x y, zup_ne (by omega), e4.1 j k x y, zup_ne (by omega), d4.1 j k x y, zup_ne (by omega), c4.1 j k x y, zup_ne (by omega), b4.1 j k x y, a4.1 j k x y]
  have fM : ∀ j k, (j ≠ 0 ∨ k < 8 ∨ 14 < k) → (j ≠ B ∨ (k ≠ 1 ∧ k ≠ 2 ∧ k ≠ 3)) → zup Sm6 B 3 w4 j k = Sm j k := fun j k x z => by
    rw [zup_ne (by omega), f4.2.1 j k x, zup_ne (by omega), e4.2.1 j k x, zup_ne (by omega), d4.2.1 j k x, c4.2.1 j k x, b4.2.1 j k x, a4.2.1 j k x]
  have fL : ∀ j k, (j ≠ 0 ∨ k ≠ 15) → Lm6 j k = Lm j k := fun j k x => ((((f4.2.2 j k x).trans (e4.2.2 j k x)).trans (d4.2.2 j k x)).trans (c4.2.2 j k x)).trans (b4.2.2 j k x)
  rcases zST_9 f3 with ⟨o1, o2⟩ | ⟨o1, o2⟩
  · have o2 : (Sm6 0 9 = 5) = False := eq_false o2
    obtain ⟨y4, x4, -, z4, rfl, rfl⟩ := f5 o1
    rw [zup_ne (by omega)] at y4
    obtain ⟨y3, x3, z3l, z3, rfl, rfl⟩ := e5 y4
    rw [zup_ne (by omega)] at y3
    obtain ⟨y2, x2, -, z2, rfl, rfl⟩ := d5 y3
    rw [zup_ne (by omega)] at y2
    obtain ⟨y1, x1, z1l, z1, rfl, rfl⟩ := c5 y2
    refine ⟨_, zup (zup Sm6 B 3 (nI x4)) B 0 (nI x1), Lm6, cl, mo.trans ?_, g6 _ (fun j k h => by rw [zup_ne (by omega), zup_ne (by omega)]), fC, fun j k x z => by rw [zup_ne (by omega)]; exact fM j k x (by omega), fL, fun _ => ⟨.inr ⟨?_, ?_, ?_, ?_, ?_, ?_, ?_, ?_, ?_⟩, (a5 (b5 y1)).2, ?_⟩⟩
    · simp (config := {maxSteps := 1000000}) (disch := omega) only [↓reduceIte, Int32.reduceLT, Int32.reduceLE, Int32.reduceToNatClampNeg, Int32.reduceAdd, Int32.reduceSub, Int32.reduceMul, Nat.reduceLeDiff, zEL, zup_ne, zup_eq, zT0, zT1, zT2, if_true, if_false, r0, rB, s194_81, s194_82, s194_85, s194_86, s194_89, s194_90, s194_93, s194_94, s194_97, o2]
    · rw [zup_ne (by omega), f4.1 _ _ (by omega) (by omega), zup_ne (by omega), e4.1 _ _ (by omega) (by omega), zup_ne (by omega), d4.1 _ _ (by omega) (by omega), zup_ne (by omega), c4.1 _ _ (by omega) (by omega), zup_eq rfl rfl]
    · rw [zup_ne (by omega), f4.1 _ _ (by omega) (by omega), zup_ne (by omega), e4.1 _ _ (by omega) (by omega), zup_ne (by omega), d4.1 _ _ (by omega) (by omega), zup_eq rfl rfl, zup_eq rfl rfl]
    · rw [zup_ne (by omega), f4.1 _ _ (by omega) (by omega), zup_ne (by omega), e4.1 _ _ (by omega) (by omega), zup_eq rfl rfl, zup_ne (by omega), zup_ne (by omega), f4.2.1 _ _ (by omega), zup_ne (by omega), e4.2.1 _ _ (by omega), zup_eq rfl rfl]
    · rw [zup_ne (by omega), f4.1 _ _ (by omega) (by omega), zup_eq rfl rfl, zup_ne (by omega), zup_ne (by omega), f4.2.1 _ _ (by omega), zup_eq rfl rfl]
    · rw [zup_eq rfl rfl, zup_ne (by omega), zup_eq rfl rfl]
    · rw [zup_eq rfl rfl]
      exact ⟨x1, z1l, z1, rfl⟩
    · rw [zup_ne (by omega), zup_ne (by omega), f4.2.1 _ _ (by omega), zup_ne (by omega), e4.2.1 _ _ (by omega), zup_eq rfl rfl]
      exact ⟨x2, z2, rfl⟩
    · rw [zup_ne (by omega), zup_ne (by omega), f4.2.1 _ _ (by omega), zup_eq rfl rfl]
      exact ⟨x3, z3l, z3, rfl⟩
    · rw [zup_ne (by omega), zup_eq rfl rfl]
      exact ⟨x4, z4, rfl⟩
    · rw [zup_eq rfl rfl]
      exact fun h => by rw [znI_0, znI_inj (by omega) (by omega)] at h; omega
  · refine ⟨_, zup Sm6 B 3 w4, Lm6, cl, mo.trans ?_, g6 _ (fun j k h => zup_ne (by omega)), fC, fun j k x z => fM j k x (by omega), fL, fun h => ?_⟩
    · simp (config := {maxSteps := 1000000}) (disch := omega) only [↓reduceIte, Int32.reduceLT, Int32.reduceLE, Int32.reduceToNatClampNeg, Int32.reduceAdd, Int32.reduceSub, Int32.reduceMul, Nat.reduceLeDiff, zEL, zup_ne, zup_eq, zT0, zT1, zT2, if_true, if_false, r0, rB, s194_81, s194_82, s194_85, s194_86, s194_89, s194_90, s194_93, s194_94, s194_97, o2]
    · rw [zup_ne (by omega)] at h
      exact absurd h o1
theorem l50_80 (hR : zLT R) (hB : zLB R B) (hB11 : 11 ≤ B) (hT : zTKc n b p q S) (hO : zOKs 80 n b p q S Sm Lm) (hk : zkN b n p q = 1) (hP : zPrf_80 B S Sm) : ∃ S' Sm' Lm', zcall 50 [.ref 80] zRc S L = some (none, zRc, S', L) ∧ zcall 196 [.ref 0] R Sm Lm = some (none, R, Sm', Lm') ∧ zST 80 n b S' Sm' Lm' ∧ (∀ j k, (j ≠ 1 ∨ (k ≠ 2 ∧ k ≠ 3 ∧ k ≠ 4)) → (j ≠ 80 ∨ (k ≠ 6 ∧ k ≠ 7)) → (j ≠ 81 ∨ (k ≠ 5 ∧ k ≠ 6 ∧ k ≠ 7)) → S' j k = S j k) ∧ (∀ j k, (j ≠ 0 ∨ k < 8 ∨ 14 < k) → (j ≠ B ∨ (k ≠ 4 ∧ k ≠ 5)) → Sm' j k = Sm j k) ∧ (∀ j k, (j ≠ 0 ∨ k ≠ 15) → Lm' j k = Lm j k) ∧ (S' 80 6 = 0 → zPrf_80 B S' Sm' ∧ Sm B 4 = -1 ∧ ¬ Sm' B 4 = -1) := by
  have r0 := hR
  unfold zLT at r0
  have rB := hB
  unfold zLB at rB
  have hk1 : S 1 2 = 1 := by rw [hT.2.2.2.2.1, hk]; rfl
  have h6 := hO.1
  obtain ⟨S1, Sm1, a1, a2, a3, a4, a5⟩ : ∃ S1 Sm1, zcall 50 [.ref 80] zRc S L = zgo 50 15 [.ref 80] [] zRc S1 L ∧ zcall 196 [.ref 0] R Sm Lm = zgo 196 16 [.ref 0, .retAddr 0, .retAddr 0] [] R Sm1 Lm ∧ zST 80 n b S1 Sm1 Lm ∧ zfr 80 S Sm Lm S1 Sm1 Lm ∧ (S1 80 6 = 0 → S1 1 2 = 1 ∧ Sm B 4 = -1) := by
    rcases hP with ⟨h1, h2⟩ | ⟨h1, -, -, ⟨cc, c2, ec⟩, -⟩
    · refine ⟨S, Sm, ?_, ?_, ⟨p, q, hT, .inl hO⟩, zfr_r, fun _ => ⟨hk1, h2⟩⟩ <;> unfold zcall
      · simp (config := {maxSteps := 1000000}) (disch := omega) only [↓reduceIte, Int32.reduceLT, Int32.reduceLE, Int32.reduceToNatClampNeg, Int32.reduceAdd, Int32.reduceSub, Int32.reduceMul, Nat.reduceLeDiff, zEL, zup_ne, zup_eq, zT0, zT1, zT2, if_true, if_false, gR, gT, ze_50, s50_0, s50_1, s50_4, s50_7, s50_10, s50_11, s50_12, h1]
      · simp (config := {maxSteps := 1000000}) (disch := omega) only [↓reduceIte, Int32.reduceLT, Int32.reduceLE, Int32.reduceToNatClampNeg, Int32.reduceAdd, Int32.reduceSub, Int32.reduceMul, Nat.reduceLeDiff, zEL, zup_ne, zup_eq, zT0, zT1, zT2, if_true, if_false, r0, rB, ze_196, s196_0, s196_1, s196_4, s196_7, s196_8, s196_11, s196_12, s196_13, h2]
    · obtain ⟨f1, f2, f3, f4, -⟩ := zFk_80 (f := 3) rfl (by omega) (by omega) hT hO
      have k3 : zcall 58 [.ref 80, .int 3] zRc S L = _ := c58O_80 (L := L) (k := nI 3) h6
      have k4 : zcall 180 [.ref 0, .int 3] R Sm Lm = _ := m180O (Lm := Lm) (k := nI 3) hR (zOK_9 hO)
      refine ⟨_, _, ?_, ?_, f1, f2, fun h => absurd h f3⟩ <;> unfold zcall
      · simp (config := {maxSteps := 1000000}) (disch := omega) only [↓reduceIte, Int32.reduceLT, Int32.reduceLE, Int32.reduceToNatClampNeg, Int32.reduceAdd, Int32.reduceSub, Int32.reduceMul, Nat.reduceLeDiff, zEL, zup_ne, zup_eq, zT0, zT1, zT2, if_true, if_false, gR, gT, ze_50, s50_0, s50_1, s50_4, s50_7, s50_10, s50_11, s50_12, h1, k3]
      · have c0 : (nI cc = -1) = False := znm1 (by omega)
        simp (config := {maxSteps := 1000000}) (disch := omega) only [↓reduceIte, Int32.reduceLT, Int32.reduceLE, Int32.reduceToNatClampNeg, Int32.reduceAdd, Int32.reduceSub, Int32.reduceMul, Nat.reduceLeDiff, zEL, zup_ne, zup_eq, zT0, zT1, zT2, if_true, if_false, r0, rB, ze_196, s196_0, s196_1, s196_4, s196_7, s196_8, s196_11, s196_12, s196_13, ec, c0, k4]
  obtain ⟨S2, Sm2, Lm2, b1, b2, b3, b4, b5⟩ := op59g_80 (L := L) hR a3 (fun h => (a5 h).1)
  have g2 : zST 80 n b (zup S2 81 5 1) Sm2 Lm2 := zST_fr b3 (fun k => zup_ne (by omega)) (fun k => zup_ne (by omega)) (zup_ne (by omega)) (zup_ne (by omega)) (fun _ _ => rfl) (fun _ => rfl) rfl
  obtain ⟨v1, w1, S3, Sm3, Lm3, c1, c2, c3, c4, c5⟩ := op63_80 (L := L) (l := 0) (u := 19) (lo := 0) (hi := 19) (lo' := 0) (hi' := 19) hR g2 (by omega) (by omega) (fun _ => ⟨rfl, rfl, rfl, rfl⟩)
  have g3 : zST 80 n b (zup S3 81 6 v1) Sm3 Lm3 := zST_fr c3 (fun k => zup_ne (by omega)) (fun k => zup_ne (by omega)) (zup_ne (by omega)) (zup_ne (by omega)) (fun _ _ => rfl) (fun _ => rfl) rfl
  obtain ⟨v2, w2, S4, Sm4, Lm4, d1, d2, d3, d4, d5⟩ := op62_80 (L := L) (l := 0) (u := 9) (lo := 0) (hi := 9) (lo' := 0) (hi' := 9) hR (fun p q S L h => cw_sees h) (fun p q S Sm Lm h => mw_sees hR h) g3 (by omega) (by omega) (fun _ => ⟨rfl, rfl, rfl, rfl⟩)
  have g4 : ∀ Sm7, (∀ j k, j ≠ B → Sm7 j k = Sm4 j k) → zST 80 n b (zup S4 81 7 v2) Sm7 Lm4 := fun Sm7 h => zST_fr d3 (fun k => zup_ne (by omega)) (fun k => zup_ne (by omega)) (zup_ne (by omega)) (zup_ne (by omega)) (fun k _ => h 0 k (by omega)) (fun k => h 1 k (by omega)) rfl
  have cl : zcall 50 [.ref 80] zRc S L = some (none, zRc, zup S4 81 7 v2, L) := by
    rw [a1]
    simp (config := {maxSteps := 1000000}) (disch := omega) only [↓reduceIte, Int32.reduceLT, Int32.reduceLE, Int32.reduceToNatClampNeg, Int32.reduceAdd, Int32.reduceSub, Int32.reduceMul, Nat.reduceLeDiff, zEL, zup_ne, zup_eq, zT0, zT1, zT2, if_true, if_false, gR, gT, s50_15, s50_16, s50_17, s50_20, s50_21, s50_24, s50_25, s50_28, s50_29, s50_32, s50_33, s50_34, s50_36, s50_39, s50_42, s50_43, s50_46, s50_47, s50_49, s50_50, s50_52, s50_55, s50_58, b1, c1, d1]
  have mo : zcall 196 [.ref 0] R Sm Lm = zgo 196 39 [.ref 0, .int w1, .int w2] [] R Sm4 Lm4 := by
    rw [a2]
    simp (config := {maxSteps := 1000000}) (disch := omega) only [↓reduceIte, Int32.reduceLT, Int32.reduceLE, Int32.reduceToNatClampNeg, Int32.reduceAdd, Int32.reduceSub, Int32.reduceMul, Nat.reduceLeDiff, zEL, zup_ne, zup_eq, zT0, zT1, zT2, if_true, if_false, r0, rB, s196_16, s196_17, s196_20, s196_21, s196_22, s196_24, s196_27, s196_28, s196_29, s196_32, s196_33, s196_35, s196_38, b2, c2, d2]
  have fC : ∀ j k, (j ≠ 1 ∨ (k ≠ 2 ∧ k ≠ 3 ∧ k ≠ 4)) → (j ≠ 80 ∨ (k ≠ 6 ∧ k ≠ 7)) → (j ≠ 81 ∨ (k ≠ 5 ∧ k ≠ 6 ∧ k ≠ 7)) → zup S4 81 7 v2 j k = S j k := fun j k x y z => by
    rw [zup_ne (by omega), d4.1 j k x y, zup_ne (by omega), c4.1 j k x y, zup_ne (by omega), b4.1 j k x y, a4.1 j k x y]
  have fM : ∀ j k, (j ≠ 0 ∨ k < 8 ∨ 14 < k) → Sm4 j k = Sm j k := fun j k x => by
    rw [d4.2.1 j k x, c4.2.1 j k x, b4.2.1 j k x, a4.2.1 j k x]
  have fL : ∀ j k, (j ≠ 0 ∨ k ≠ 15) → Lm4 j k = Lm j k := fun j k x => ((d4.2.2 j k x).trans (c4.2.2 j k x)).trans (b4.2.2 j k x)
  rcases zST_9 d3 with ⟨o1, o2⟩ | ⟨o1, o2⟩
  · have o2 : (Sm4 0 9 = 5) = False := eq_false o2
    obtain ⟨y2, x2, -, z2, rfl, rfl⟩ := d5 o1
    rw [zup_ne (by omega)] at y2
    obtain ⟨y1, x1, -, z1, rfl, rfl⟩ := c5 y2
    refine ⟨_, zup (zup Sm4 B 4 (nI x1)) B 5 (nI x2), Lm4, cl, mo.trans ?_, g4 _ (fun j k h => by rw [zup_ne (by omega), zup_ne (by omega)]), fC, fun j k x z => by rw [zup_ne (by omega), zup_ne (by omega)]; exact fM j k x, fL, fun _ => ⟨.inr ⟨?_, ?_, ?_, ?_, ?_⟩, (a5 (b5 y1)).2, ?_⟩⟩
    · simp (config := {maxSteps := 1000000}) (disch := omega) only [↓reduceIte, Int32.reduceLT, Int32.reduceLE, Int32.reduceToNatClampNeg, Int32.reduceAdd, Int32.reduceSub, Int32.reduceMul, Nat.reduceLeDiff, zEL, zup_ne, zup_eq, zT0, zT1, zT2, if_true, if_false, r0, rB, s196_39, s196_40, s196_43, s196_44, s196_47, s196_48, s196_49, s196_52, s196_53, s196_56, s196_57, s196_60, s196_61, s196_64, o2]
    · rw [zup_ne (by omega), d4.1 _ _ (by omega) (by omega), zup_ne (by omega), c4.1 _ _ (by omega) (by omega), zup_eq rfl rfl]
    · rw [zup_ne (by omega), d4.1 _ _ (by omega) (by omega), zup_eq rfl rfl, zup_ne (by omega), zup_eq rfl rfl]
    · rw [zup_eq rfl rfl, zup_eq rfl rfl]
    · rw [zup_ne (by omega), zup_eq rfl rfl]
      exact ⟨x1, z1, rfl⟩
    · rw [zup_eq rfl rfl]
      exact ⟨x2, z2, rfl⟩
    · rw [zup_ne (by omega), zup_eq rfl rfl]
      exact fun h => by rw [znm1 (by omega)] at h; exact h
  · refine ⟨_, Sm4, Lm4, cl, mo.trans ?_, g4 _ (fun _ _ _ => rfl), fC, fun j k x z => fM j k x, fL, fun h => ?_⟩
    · simp (config := {maxSteps := 1000000}) (disch := omega) only [↓reduceIte, Int32.reduceLT, Int32.reduceLE, Int32.reduceToNatClampNeg, Int32.reduceAdd, Int32.reduceSub, Int32.reduceMul, Nat.reduceLeDiff, zEL, zup_ne, zup_eq, zT0, zT1, zT2, if_true, if_false, r0, rB, s196_39, s196_40, s196_43, s196_44, s196_47, s196_48, s196_49, s196_52, s196_53, s196_56, s196_57, s196_60, s196_61, s196_64, o2]
    · rw [zup_ne (by omega)] at h
      exact absurd h o1
/-- the law; the referee -/
def zPlw_162 (B : Nat) (S Sm : zS) : Prop :=
  (S 4 0 = 0 ∧ Sm B 0 = 0) ∨ (S 4 0 = 1 ∧ S 4 1 = Sm B 0 ∧ S 4 2 = Sm B 1 ∧ S 4 3 = Sm B 2 ∧ S 4 4 = Sm B 3 ∧ zin1 (Sm B 0) 9 ∧ zin (Sm B 1) 10 ∧ zin1 (Sm B 2) 99 ∧ zin (Sm B 3) 20)
def zPrf_162 (B : Nat) (S Sm : zS) : Prop :=
  (S 4 5 = 0 ∧ Sm B 4 = -1) ∨ (S 4 5 = 1 ∧ S 4 6 = Sm B 4 ∧ S 4 7 = Sm B 5 ∧ zin (Sm B 4) 19 ∧ zin (Sm B 5) 9)
theorem zPlw_fr_162 (h : zPlw_162 B S Sm) (h1 : ∀ k, k ≤ 4 → S' 4 k = S 4 k) (h2 : ∀ k, k ≤ 3 → Sm' B k = Sm B k) : zPlw_162 B S' Sm' := by
  unfold zPlw_162 at h ⊢
  rw [h1 0 (by omega), h1 1 (by omega), h1 2 (by omega), h1 3 (by omega), h1 4 (by omega), h2 0 (by omega), h2 1 (by omega), h2 2 (by omega), h2 3 (by omega)]
  exact h
theorem zPrf_fr_162 (h : zPrf_162 B S Sm) (h1 : ∀ k, 5 ≤ k → k ≤ 7 → S' 4 k = S 4 k) (h2 : ∀ k, k = 4 ∨ k = 5 → Sm' B k = Sm B k) : zPrf_162 B S' Sm' := by
  unfold zPrf_162 at h ⊢
  rw [h1 5 (by omega) (by omega), h1 6 (by omega) (by omega), h1 7 (by omega) (by omega), h2 4 (by omega), h2 5 (by omega)]
  exact h
theorem l48_162 (hR : zLT R) (hB : zLB R B) (hB11 : 11 ≤ B) (hT : zTKc n b p q S) (hO : zOKs 162 n b p q S Sm Lm) (hk : zkN b n p q = 1) (hP : zPlw_162 B S Sm) : ∃ S' Sm' Lm', zcall 48 [.ref 162] zRc S L = some (none, zRc, S', L) ∧ zcall 194 [.ref 0] R Sm Lm = some (none, R, Sm', Lm') ∧ zST 162 n b S' Sm' Lm' ∧ (∀ j k, (j ≠ 1 ∨ (k ≠ 2 ∧ k ≠ 3 ∧ k ≠ 4)) → (j ≠ 162 ∨ (k ≠ 6 ∧ k ≠ 7)) → (j ≠ 4 ∨ 5 ≤ k) → S' j k = S j k) ∧ (∀ j k, (j ≠ 0 ∨ k < 8 ∨ 14 < k) → (j ≠ B ∨ 4 ≤ k) → Sm' j k = Sm j k) ∧ (∀ j k, (j ≠ 0 ∨ k ≠ 15) → Lm' j k = Lm j k) ∧ (S' 162 6 = 0 → zPlw_162 B S' Sm' ∧ Sm B 0 = 0 ∧ ¬ Sm' B 0 = 0) := by
  have r0 := hR
  unfold zLT at r0
  have rB := hB
  unfold zLB at rB
  have hk1 : S 1 2 = 1 := by rw [hT.2.2.2.2.1, hk]; rfl
  have h6 := hO.1
  -- told again?
  obtain ⟨S1, Sm1, a1, a2, a3, a4, a5⟩ : ∃ S1 Sm1, zcall 48 [.ref 162] zRc S L = zgo 48 15 [.ref 162] [] zRc S1 L ∧ zcall 194 [.ref 0] R Sm Lm = zgo 194 15 [.ref 0, .retAddr 0] [] R Sm1 Lm ∧ zST 162 n b S1 Sm1 Lm ∧ zfr 162 S Sm Lm S1 Sm1 Lm ∧ (S1 162 6 = 0 → S1 1 2 = 1 ∧ Sm B 0 = 0) := by
    rcases hP with ⟨h1, h2⟩ | ⟨h1, -, -, -, -, ⟨cc, c1, c2, ec⟩, -⟩
    · refine ⟨S, Sm, ?_, ?_, ⟨p, q, hT, .inl hO⟩, zfr_r, fun _ => ⟨hk1, h2⟩⟩ <;> unfold zcall
      · simp (config := {maxSteps := 1000000}) (disch := omega) only [↓reduceIte, Int32.reduceLT, Int32.reduceLE, Int32.reduceToNatClampNeg, Int32.reduceAdd, Int32.reduceSub, Int32.reduceMul, Nat.reduceLeDiff, zEL, zup_ne, zup_eq, zT0, zT1, zT2, if_true, if_false, gR, gM, ze_48, s48_0, s48_1, s48_4, s48_7, s48_10, s48_11, s48_12, h1]
      · simp (config := {maxSteps := 1000000}) (disch := omega) only [↓reduceIte, Int32.reduceLT, Int32.reduceLE, Int32.reduceToNatClampNeg, Int32.reduceAdd, Int32.reduceSub, Int32.reduceMul, Nat.reduceLeDiff, zEL, zup_ne, zup_eq, zT0, zT1, zT2, if_true, if_false, r0, rB, ze_194, s194_0, s194_1, s194_4, s194_7, s194_10, s194_11, s194_12, h2]
    · obtain ⟨f1, f2, f3, f4, -⟩ := zFk_162 (f := 3) rfl (by omega) (by omega) hT hO
      have k3 : zcall 58 [.ref 162, .int 3] zRc S L = _ := c58O_162 (L := L) (k := nI 3) h6
      have k4 : zcall 180 [.ref 0, .int 3] R Sm Lm = _ := m180O (Lm := Lm) (k := nI 3) hR (zOK_9 hO)
      refine ⟨_, _, ?_, ?_, f1, f2, fun h => absurd h f3⟩ <;> unfold zcall
      · simp (config := {maxSteps := 1000000}) (disch := omega) only [↓reduceIte, Int32.reduceLT, Int32.reduceLE, Int32.reduceToNatClampNeg, Int32.reduceAdd, Int32.reduceSub, Int32.reduceMul, Nat.reduceLeDiff, zEL, zup_ne, zup_eq, zT0, zT1, zT2, if_true, if_false, gR, gM, ze_48, s48_0, s48_1, s48_4, s48_7, s48_10, s48_11, s48_12, h1, k3]
      · have c0 : (nI cc ≤ 0) = False := eq_false (fun h9 => by rw [znI_0, znI_le (by omega) (by omega)] at h9; omega)
        simp (config := {maxSteps := 1000000}) (disch := omega) only [↓reduceIte, Int32.reduceLT, Int32.reduceLE, Int32.reduceToNatClampNeg, Int32.reduceAdd, Int32.reduceSub, Int32.reduceMul, Nat.reduceLeDiff, zEL, zup_ne, zup_eq, zT0, zT1, zT2, if_true, if_false, r0, rB, ze_194, s194_0, s194_1, s194_4, s194_7, s194_10, s194_11, s194_12, ec, c0, k4]
  obtain ⟨S2, Sm2, Lm2, b1, b2, b3, b4, b5⟩ := op59g_162 (L := L) hR a3 (fun h => (a5 h).1)
  have g2 : zST 162 n b (zup S2 4 0 1) Sm2 Lm2 := zST_fr b3 (fun k => zup_ne (by omega)) (fun k => zup_ne (by omega)) (zup_ne (by omega)) (zup_ne (by omega)) (fun _ _ => rfl) (fun _ => rfl) rfl
  obtain ⟨v1, w1, S3, Sm3, Lm3, c1, c2, c3, c4, c5⟩ := op62_162 (L := L) (l := 1) (u := 9) (lo := 1) (hi := 9) (lo' := 1) (hi' := 9) hR (fun p q S L h => cw_carry h) (fun p q S Sm Lm h => mw_carry hR h) g2 (by omega) (by omega) (fun _ => ⟨rfl, rfl, rfl, rfl⟩)
  have g3 : zST 162 n b (zup S3 4 1 v1) Sm3 Lm3 := zST_fr c3 (fun k => zup_ne (by omega)) (fun k => zup_ne (by omega)) (zup_ne (by omega)) (zup_ne (by omega)) (fun _ _ => rfl) (fun _ => rfl) rfl
  obtain ⟨v2, w2, S4, Sm4, Lm4, d1, d2, d3, d4, d5⟩ := op62_162 (L := L) (l := 0) (u := 10) (lo := 0) (hi := 10) (lo' := 0) (hi' := 10) hR (fun p q S L h => cw_line h) (fun p q S Sm Lm h => mw_line hR h) g3 (by omega) (by omega) (fun _ => ⟨rfl, rfl, rfl, rfl⟩)
  have g4 : zST 162 n b (zup S4 4 2 v2) (zup Sm4 B 1 w2) Lm4 := zST_fr d3 (fun k => zup_ne (by omega)) (fun k => zup_ne (by omega)) (zup_ne (by omega)) (zup_ne (by omega)) (fun _ _ => zup_ne (by omega)) (fun _ => zup_ne (by omega)) rfl
  obtain ⟨v3, w3, S5, Sm5, Lm5, e1, e2, e3, e4, e5⟩ := op62_162 (L := L) (l := 1) (u := 99) (lo := 1) (hi := 99) (lo' := 1) (hi' := 99) hR (fun p q S L h => cw_tenths h) (fun p q S Sm Lm h => mw_tenths hR h) g4 (by omega) (by omega) (fun _ => ⟨rfl, rfl, rfl, rfl⟩)
  have g5 : zST 162 n b (zup S5 4 3 v3) (zup Sm5 B 2 w3) Lm5 := zST_fr e3 (fun k => zup_ne (by omega)) (fun k => zup_ne (by omega)) (zup_ne (by omega)) (zup_ne (by omega)) (fun _ _ => zup_ne (by omega)) (fun _ => zup_ne (by omega)) rfl
  obtain ⟨v4, w4, S6, Sm6, Lm6, f1, f2, f3, f4, f5⟩ := op62_162 (L := L) (l := 0) (u := 20) (lo := 0) (hi := 20) (lo' := 0) (hi' := 20) hR (fun p q S L h => cw_thaws h) (fun p q S Sm Lm h => mw_thaws hR h) g5 (by omega) (by omega) (fun _ => ⟨rfl, rfl, rfl, rfl⟩)
  have g6 : ∀ Sm7, (∀ j k, j ≠ B → Sm7 j k = Sm6 j k) → zST 162 n b (zup S6 4 4 v4) Sm7 Lm6 := fun Sm7 h => zST_fr f3 (fun k => zup_ne (by omega)) (fun k => zup_ne (by omega)) (zup_ne (by omega)) (zup_ne (by omega)) (fun k _ => h 0 k (by omega)) (fun k => h 1 k (by omega)) rfl
  have cl : zcall 48 [.ref 162] zRc S L = some (none, zRc, zup S6 4 4 v4, L) := by
    rw [a1]
    simp (config := {maxSteps := 1000000}) (disch := omega) only [↓reduceIte, Int32.reduceLT, Int32.reduceLE, Int32.reduceToNatClampNeg, Int32.reduceAdd, Int32.reduceSub, Int32.reduceMul, Nat.reduceLeDiff, zEL, zup_ne, zup_eq, zT0, zT1, zT2, if_true, if_false, gR, gM, s48_15, s48_16, s48_17, s48_20, s48_21, s48_24, s48_25, s48_28, s48_29, s48_32, s48_33, s48_35, s48_36, s48_38, s48_41, s48_44, s48_45, s48_48, s48_49, s48_51, s48_52, s48_54, s48_57, s48_60, s48_61, s48_64, s48_65, s48_67, s48_68, s48_70, s48_73, s48_76, s48_77, s48_80, s48_81, s48_83, s48_84, s48_86, s48_89, s48_92, b1, c1, d1, e1, f1]
  have mo : zcall 194 [.ref 0] R Sm Lm = zgo 194 81 [.ref 0, .int w1] [] R (zup Sm6 B 3 w4) Lm6 := by
    rw [a2]
    simp (config := {maxSteps := 1000000}) (disch := omega) only [↓reduceIte, Int32.reduceLT, Int32.reduceLE, Int32.reduceToNatClampNeg, Int32.reduceAdd, Int32.reduceSub, Int32.reduceMul, Nat.reduceLeDiff, zEL, zup_ne, zup_eq, zT0, zT1, zT2, if_true, if_false, r0, rB, s194_15, s194_16, s194_19, s194_20, s194_23, s194_24, s194_26, s194_29, s194_30, s194_31, s194_34, s194_35, s194_38, s194_39, s194_41, s194_44, s194_47, s194_48, s194_51, s194_52, s194_55, s194_56, s194_58, s194_61, s194_64, s194_65, s194_68, s194_69, s194_72, s194_73, s194_75, s194_78, b2, c2, d2, e2, f2]
  have fC : ∀ j k, (j ≠ 1 ∨ (k ≠ 2 ∧ k ≠ 3 ∧ k ≠ 4)) → (j ≠ 162 ∨ (k ≠ 6 ∧ k ≠ 7)) → (j ≠ 4 ∨ 5 ≤ k) → zup S6 4 4 v4 j k = S j k := fun j k x y z => by
    rw [zup_ne (by omega), f4.1 j k x y, zup_ne (by omega), e4.1 j k x y, zup_ne (by omega), d4.1 j k x y, zup_ne (by omega), c4.1 j k x y, zup_ne (by omega), b4.1 j k x y, a4.1 j k x y]
  have fM : ∀ j k, (j ≠ 0 ∨ k < 8 ∨ 14 < k) → (j ≠ B ∨ (k ≠ 1 ∧ k ≠ 2 ∧ k ≠ 3)) → zup Sm6 B 3 w4 j k = Sm j k := fun j k x z => by
    rw [zup_ne (by omega), f4.2.1 j k x, zup_ne (by omega), e4.2.1 j k x, zup_ne (by omega), d4.2.1 j k x, c4.2.1 j k x, b4.2.1 j k x, a4.2.1 j k x]
  have fL : ∀ j k, (j ≠ 0 ∨ k ≠ 15) → Lm6 j k = Lm j k := fun j k x => ((((f4.2.2 j k x).trans (e4.2.2 j k x)).trans (d4.2.2 j k x)).trans (c4.2.2 j k x)).trans (b4.2.2 j k x)
  rcases zST_9 f3 with ⟨o1, o2⟩ | ⟨o1, o2⟩
  · have o2 : (Sm6 0 9 = 5) = False := eq_false o2
    obtain ⟨y4, x4, -, z4, rfl, rfl⟩ := f5 o1
    rw [zup_ne (by omega)] at y4
    obtain ⟨y3, x3, z3l, z3, rfl, rfl⟩ := e5 y4
    rw [zup_ne (by omega)] at y3
    obtain ⟨y2, x2, -, z2, rfl, rfl⟩ := d5 y3
    rw [zup_ne (by omega)] at y2
    obtain ⟨y1, x1, z1l, z1, rfl, rfl⟩ := c5 y2
    refine ⟨_, zup (zup Sm6 B 3 (nI x4)) B 0 (nI x1), Lm6, cl, mo.trans ?_, g6 _ (fun j k h => by rw [zup_ne (by omega), zup_ne (by omega)]), fC, fun j k x z => by rw [zup_ne (by omega)]; exact fM j k x (by omega), fL, fun _ => ⟨.inr ⟨?_, ?_, ?_, ?_, ?_, ?_, ?_, ?_, ?_⟩, (a5 (b5 y1)).2, ?_⟩⟩
    · simp (config := {maxSteps := 1000000}) (disch := omega) only [↓reduceIte, Int32.reduceLT, Int32.reduceLE, Int32.reduceToNatClampNeg, Int32.reduceAdd, Int32.reduceSub, Int32.reduceMul, Nat.reduceLeDiff, zEL, zup_ne, zup_eq, zT0, zT1, zT2, if_true, if_false, r0, rB, s194_81, s194_82, s194_85, s194_86, s194_89, s194_90, s194_93, s194_94, s194_97, o2]
    · rw [zup_ne (by omega), f4.1 _ _ (by omega) (by omega), zup_ne (by omega), e4.1 _ _ (by omega) (by omega), zup_ne (by omega), d4.1 _ _ (by omega) (by omega), zup_ne (by omega), c4.1 _ _ (by omega) (by omega), zup_eq rfl rfl]
    · rw [zup_ne (by omega), f4.1 _ _ (by omega) (by omega), zup_ne (by omega), e4.1 _ _ (by omega) (by omega), zup_ne (by omega), d4.1 _ _ (by omega) (by omega), zup_eq rfl rfl, zup_eq rfl rfl]
    · rw [zup_ne (by omega), f4.1 _ _ (by omega) (by omega), zup_ne (by omega), e4.1 _ _ (by omega) (by omega), zup_eq rfl rfl, zup_ne (by omega), zup_ne (by omega), f4.2.1 _ _ (by omega), zup_ne (by omega), e4.2.1 _ _ (by omega), zup_eq rfl rfl]
    · rw [zup_ne (by omega), f4.1 _ _ (by omega) (by omega), zup_eq rfl rfl, zup_ne (by omega), zup_ne (by omega), f4.2.1 _ _ (by omega), zup_eq rfl rfl]
    · rw [zup_eq rfl rfl, zup_ne (by omega), zup_eq rfl rfl]
    · rw [zup_eq rfl rfl]
      exact ⟨x1, z1l, z1, rfl⟩
    · rw [zup_ne (by omega), zup_ne (by omega), f4.2.1 _ _ (by omega), zup_ne (by omega), e4.2.1 _ _ (by omega), zup_eq rfl rfl]
      exact ⟨x2, z2, rfl⟩
    · rw [zup_ne (by omega), zup_ne (by omega), f4.2.1 _ _ (by omega), zup_eq rfl rfl]
      exact ⟨x3, z3l, z3, rfl⟩
    · rw [zup_ne (by omega), zup_eq rfl rfl]
      exact ⟨x4, z4, rfl⟩
    · rw [zup_eq rfl rfl]
      exact fun h => by rw [znI_0, znI_inj (by omega) (by omega)] at h; omega
  · refine ⟨_, zup Sm6 B 3 w4, Lm6, cl, mo.trans ?_, g6 _ (fun j k h => zup_ne (by omega)), fC, fun j k x z => fM j k x (by omega), fL, fun h => ?_⟩
    · simp (config := {maxSteps := 1000000}) (disch := omega) only [↓reduceIte, Int32.reduceLT, Int32.reduceLE, Int32.reduceToNatClampNeg, Int32.reduceAdd, Int32.reduceSub, Int32.reduceMul, Nat.reduceLeDiff, zEL, zup_ne, zup_eq, zT0, zT1, zT2, if_true, if_false, r0, rB, s194_81, s194_82, s194_85, s194_86, s194_89, s194_90, s194_93, s194_94, s194_97, o2]
    · rw [zup_ne (by omega)] at h
      exact absurd h o1
theorem l50_162 (hR : zLT R) (hB : zLB R B) (hB11 : 11 ≤ B) (hT : zTKc n b p q S) (hO : zOKs 162 n b p q S Sm Lm) (hk : zkN b n p q = 1) (hP : zPrf_162 B S Sm) : ∃ S' Sm' Lm', zcall 50 [.ref 162] zRc S L = some (none, zRc, S', L) ∧ zcall 196 [.ref 0] R Sm Lm = some (none, R, Sm', Lm') ∧ zST 162 n b S' Sm' Lm' ∧ (∀ j k, (j ≠ 1 ∨ (k ≠ 2 ∧ k ≠ 3 ∧ k ≠ 4)) → (j ≠ 162 ∨ (k ≠ 6 ∧ k ≠ 7)) → (j ≠ 4 ∨ (k ≠ 5 ∧ k ≠ 6 ∧ k ≠ 7)) → S' j k = S j k) ∧ (∀ j k, (j ≠ 0 ∨ k < 8 ∨ 14 < k) → (j ≠ B ∨ (k ≠ 4 ∧ k ≠ 5)) → Sm' j k = Sm j k) ∧ (∀ j k, (j ≠ 0 ∨ k ≠ 15) → Lm' j k = Lm j k) ∧ (S' 162 6 = 0 → zPrf_162 B S' Sm' ∧ Sm B 4 = -1 ∧ ¬ Sm' B 4 = -1) := by
  have r0 := hR
  unfold zLT at r0
  have rB := hB
  unfold zLB at rB
  have hk1 : S 1 2 = 1 := by rw [hT.2.2.2.2.1, hk]; rfl
  have h6 := hO.1
  obtain ⟨S1, Sm1, a1, a2, a3, a4, a5⟩ : ∃ S1 Sm1, zcall 50 [.ref 162] zRc S L = zgo 50 15 [.ref 162] [] zRc S1 L ∧ zcall 196 [.ref 0] R Sm Lm = zgo 196 16 [.ref 0, .retAddr 0, .retAddr 0] [] R Sm1 Lm ∧ zST 162 n b S1 Sm1 Lm ∧ zfr 162 S Sm Lm S1 Sm1 Lm ∧ (S1 162 6 = 0 → S1 1 2 = 1 ∧ Sm B 4 = -1) := by
    rcases hP with ⟨h1, h2⟩ | ⟨h1, -, -, ⟨cc, c2, ec⟩, -⟩
    · refine ⟨S, Sm, ?_, ?_, ⟨p, q, hT, .inl hO⟩, zfr_r, fun _ => ⟨hk1, h2⟩⟩ <;> unfold zcall
      · simp (config := {maxSteps := 1000000}) (disch := omega) only [↓reduceIte, Int32.reduceLT, Int32.reduceLE, Int32.reduceToNatClampNeg, Int32.reduceAdd, Int32.reduceSub, Int32.reduceMul, Nat.reduceLeDiff, zEL, zup_ne, zup_eq, zT0, zT1, zT2, if_true, if_false, gR, gM, ze_50, s50_0, s50_1, s50_4, s50_7, s50_10, s50_11, s50_12, h1]
      · simp (config := {maxSteps := 1000000}) (disch := omega) only [↓reduceIte, Int32.reduceLT, Int32.reduceLE, Int32.reduceToNatClampNeg, Int32.reduceAdd, Int32.reduceSub, Int32.reduceMul, Nat.reduceLeDiff, zEL, zup_ne, zup_eq, zT0, zT1, zT2, if_true, if_false, r0, rB, ze_196, s196_0, s196_1, s196_4, s196_7, s196_8, s196_11, s196_12, s196_13, h2]
    · obtain ⟨f1, f2, f3, f4, -⟩ := zFk_162 (f := 3) rfl (by omega) (by omega) hT hO
      have k3 : zcall 58 [.ref 162, .int 3] zRc S L = _ := c58O_162 (L := L) (k := nI 3) h6
      have k4 : zcall 180 [.ref 0, .int 3] R Sm Lm = _ := m180O (Lm := Lm) (k := nI 3) hR (zOK_9 hO)
      refine ⟨_, _, ?_, ?_, f1, f2, fun h => absurd h f3⟩ <;> unfold zcall
      · simp (config := {maxSteps := 1000000}) (disch := omega) only [↓reduceIte, Int32.reduceLT, Int32.reduceLE, Int32.reduceToNatClampNeg, Int32.reduceAdd, Int32.reduceSub, Int32.reduceMul, Nat.reduceLeDiff, zEL, zup_ne, zup_eq, zT0, zT1, zT2, if_true, if_false, gR, gM, ze_50, s50_0, s50_1, s50_4, s50_7, s50_10, s50_11, s50_12, h1, k3]
      · have c0 : (nI cc = -1) = False := znm1 (by omega)
        simp (config := {maxSteps := 1000000}) (disch := omega) only [↓reduceIte, Int32.reduceLT, Int32.reduceLE, Int32.reduceToNatClampNeg, Int32.reduceAdd, Int32.reduceSub, Int32.reduceMul, Nat.reduceLeDiff, zEL, zup_ne, zup_eq, zT0, zT1, zT2, if_true, if_false, r0, rB, ze_196, s196_0, s196_1, s196_4, s196_7, s196_8, s196_11, s196_12, s196_13, ec, c0, k4]
  obtain ⟨S2, Sm2, Lm2, b1, b2, b3, b4, b5⟩ := op59g_162 (L := L) hR a3 (fun h => (a5 h).1)
  have g2 : zST 162 n b (zup S2 4 5 1) Sm2 Lm2 := zST_fr b3 (fun k => zup_ne (by omega)) (fun k => zup_ne (by omega)) (zup_ne (by omega)) (zup_ne (by omega)) (fun _ _ => rfl) (fun _ => rfl) rfl
  obtain ⟨v1, w1, S3, Sm3, Lm3, c1, c2, c3, c4, c5⟩ := op63_162 (L := L) (l := 0) (u := 19) (lo := 0) (hi := 19) (lo' := 0) (hi' := 19) hR g2 (by omega) (by omega) (fun _ => ⟨rfl, rfl, rfl, rfl⟩)
  have g3 : zST 162 n b (zup S3 4 6 v1) Sm3 Lm3 := zST_fr c3 (fun k => zup_ne (by omega)) (fun k => zup_ne (by omega)) (zup_ne (by omega)) (zup_ne (by omega)) (fun _ _ => rfl) (fun _ => rfl) rfl
  obtain ⟨v2, w2, S4, Sm4, Lm4, d1, d2, d3, d4, d5⟩ := op62_162 (L := L) (l := 0) (u := 9) (lo := 0) (hi := 9) (lo' := 0) (hi' := 9) hR (fun p q S L h => cw_sees h) (fun p q S Sm Lm h => mw_sees hR h) g3 (by omega) (by omega) (fun _ => ⟨rfl, rfl, rfl, rfl⟩)
  have g4 : ∀ Sm7, (∀ j k, j ≠ B → Sm7 j k = Sm4 j k) → zST 162 n b (zup S4 4 7 v2) Sm7 Lm4 := fun Sm7 h => zST_fr d3 (fun k => zup_ne (by omega)) (fun k => zup_ne (by omega)) (zup_ne (by omega)) (zup_ne (by omega)) (fun k _ => h 0 k (by omega)) (fun k => h 1 k (by omega)) rfl
  have cl : zcall 50 [.ref 162] zRc S L = some (none, zRc, zup S4 4 7 v2, L) := by
    rw [a1]
    simp (config := {maxSteps := 1000000}) (disch := omega) only [↓reduceIte, Int32.reduceLT, Int32.reduceLE, Int32.reduceToNatClampNeg, Int32.reduceAdd, Int32.reduceSub, Int32.reduceMul, Nat.reduceLeDiff, zEL, zup_ne, zup_eq, zT0, zT1, zT2, if_true, if_false, gR, gM, s50_15, s50_16, s50_17, s50_20, s50_21, s50_24, s50_25, s50_28, s50_29, s50_32, s50_33, s50_34, s50_36, s50_39, s50_42, s50_43, s50_46, s50_47, s50_49, s50_50, s50_52, s50_55, s50_58, b1, c1, d1]
  have mo : zcall 196 [.ref 0] R Sm Lm = zgo 196 39 [.ref 0, .int w1, .int w2] [] R Sm4 Lm4 := by
    rw [a2]
    simp (config := {maxSteps := 1000000}) (disch := omega) only [↓reduceIte, Int32.reduceLT, Int32.reduceLE, Int32.reduceToNatClampNeg, Int32.reduceAdd, Int32.reduceSub, Int32.reduceMul, Nat.reduceLeDiff, zEL, zup_ne, zup_eq, zT0, zT1, zT2, if_true, if_false, r0, rB, s196_16, s196_17, s196_20, s196_21, s196_22, s196_24, s196_27, s196_28, s196_29, s196_32, s196_33, s196_35, s196_38, b2, c2, d2]
  have fC : ∀ j k, (j ≠ 1 ∨ (k ≠ 2 ∧ k ≠ 3 ∧ k ≠ 4)) → (j ≠ 162 ∨ (k ≠ 6 ∧ k ≠ 7)) → (j ≠ 4 ∨ (k ≠ 5 ∧ k ≠ 6 ∧ k ≠ 7)) → zup S4 4 7 v2 j k = S j k := fun j k x y z => by
    rw [zup_ne (by omega), d4.1 j k x y, zup_ne (by omega), c4.1 j k x y, zup_ne (by omega), b4.1 j k x y, a4.1 j k x y]
  have fM : ∀ j k, (j ≠ 0 ∨ k < 8 ∨ 14 < k) → Sm4 j k = Sm j k := fun j k x => by
    rw [d4.2.1 j k x, c4.2.1 j k x, b4.2.1 j k x, a4.2.1 j k x]
  have fL : ∀ j k, (j ≠ 0 ∨ k ≠ 15) → Lm4 j k = Lm j k := fun j k x => ((d4.2.2 j k x).trans (c4.2.2 j k x)).trans (b4.2.2 j k x)
  rcases zST_9 d3 with ⟨o1, o2⟩ | ⟨o1, o2⟩
  · have o2 : (Sm4 0 9 = 5) = False := eq_false o2
    obtain ⟨y2, x2, -, z2, rfl, rfl⟩ := d5 o1
    rw [zup_ne (by omega)] at y2
    obtain ⟨y1, x1, -, z1, rfl, rfl⟩ := c5 y2
    refine ⟨_, zup (zup Sm4 B 4 (nI x1)) B 5 (nI x2), Lm4, cl, mo.trans ?_, g4 _ (fun j k h => by rw [zup_ne (by omega), zup_ne (by omega)]), fC, fun j k x z => by rw [zup_ne (by omega), zup_ne (by omega)]; exact fM j k x, fL, fun _ => ⟨.inr ⟨?_, ?_, ?_, ?_, ?_⟩, (a5 (b5 y1)).2, ?_⟩⟩
    · simp (config := {maxSteps := 1000000}) (disch := omega) only [↓reduceIte, Int32.reduceLT, Int32.reduceLE, Int32.reduceToNatClampNeg, Int32.reduceAdd, Int32.reduceSub, Int32.reduceMul, Nat.reduceLeDiff, zEL, zup_ne, zup_eq, zT0, zT1, zT2, if_true, if_false, r0, rB, s196_39, s196_40, s196_43, s196_44, s196_47, s196_48, s196_49, s196_52, s196_53, s196_56, s196_57, s196_60, s196_61, s196_64, o2]
    · rw [zup_ne (by omega), d4.1 _ _ (by omega) (by omega), zup_ne (by omega), c4.1 _ _ (by omega) (by omega), zup_eq rfl rfl]
    · rw [zup_ne (by omega), d4.1 _ _ (by omega) (by omega), zup_eq rfl rfl, zup_ne (by omega), zup_eq rfl rfl]
    · rw [zup_eq rfl rfl, zup_eq rfl rfl]
    · rw [zup_ne (by omega), zup_eq rfl rfl]
      exact ⟨x1, z1, rfl⟩
    · rw [zup_eq rfl rfl]
      exact ⟨x2, z2, rfl⟩
    · rw [zup_ne (by omega), zup_eq rfl rfl]
      exact fun h => by rw [znm1 (by omega)] at h; exact h
  · refine ⟨_, Sm4, Lm4, cl, mo.trans ?_, g4 _ (fun _ _ _ => rfl), fC, fun j k x z => fM j k x, fL, fun h => ?_⟩
    · simp (config := {maxSteps := 1000000}) (disch := omega) only [↓reduceIte, Int32.reduceLT, Int32.reduceLE, Int32.reduceToNatClampNeg, Int32.reduceAdd, Int32.reduceSub, Int32.reduceMul, Nat.reduceLeDiff, zEL, zup_ne, zup_eq, zT0, zT1, zT2, if_true, if_false, r0, rB, s196_39, s196_40, s196_43, s196_44, s196_47, s196_48, s196_49, s196_52, s196_53, s196_56, s196_57, s196_60, s196_61, s196_64, o2]
    · rw [zup_ne (by omega)] at h
      exact absurd h o1
end ZPA
