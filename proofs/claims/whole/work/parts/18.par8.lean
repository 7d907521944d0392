/-! THE TEXT: a new NAME -/
section ZP8
variable {S Sm S' Sm' : zS} {L Lm L' Lm' : zL} {R : List zE} {n B p q : Nat} {b : Nat → Nat}
/-- what a new NAME changes -/
def zfn_80 (B : Nat) (S Sm : zS) (L Lm : zL) (S' Sm' : zS) (L' Lm' : zL) : Prop :=
  (∀ j k, (j ≠ 1 ∨ (k ≠ 2 ∧ k ≠ 3 ∧ k ≠ 4)) → (j ≠ 80 ∨ (k ≠ 5 ∧ k ≠ 6 ∧ k ≠ 7)) → j ≠ 159 → j ≠ 161 → S' j k = S j k) ∧ (∀ j k, (j ≠ 0 ∨ k < 8 ∨ 14 < k) → (j ≠ B ∨ k ≠ 13) → j ≠ B + 28 → j ≠ B + 29 → Sm' j k = Sm j k) ∧ (∀ j k, j ≠ 157 → L' j k = L j k) ∧ (∀ j k, (j ≠ 0 ∨ k ≠ 15) → j ≠ B + 27 → Lm' j k = Lm j k)
theorem op64_80 {k k' : Nat} {s s' num num' : Int32} (hR : zLT R) (hB : zLB R B) (hB11 : 11 ≤ B) (h : zST 80 n b S Sm Lm) (hk : k ≤ 26) (hk' : k' ≤ 26) (h5 : S 80 5 = nI k) (h13 : Sm B 13 = nI k') (hN : S 80 6 = 0 → k = k' ∧ k ≤ 25 ∧ ∀ i, i < k → L 157 i = Lm (B + 27) i) : ∃ S' Sm' L' Lm', zcall 64 [.ref 80, .int s, .int num] zRc S L = some (none, zRc, S', L') ∧ zcall 189 [.ref 0, .int s', .int num'] R Sm Lm = some (none, R, Sm', Lm') ∧ zST 80 n b S' Sm' Lm' ∧ zfn_80 B S Sm L Lm S' Sm' L' Lm' ∧ (S' 80 6 = 0 → S 80 6 = 0 ∧ S' 80 5 = nI (k + 1) ∧ Sm' B 13 = nI (k + 1) ∧ (∀ i, i ≤ k → L' 157 i = Lm' (B + 27) i) ∧ (∀ i, S' 159 i = if i = k then s else S 159 i) ∧ (∀ i, S' 161 i = if i = k then num else S 161 i) ∧ (∀ i, Sm' (B + 28) i = if i = k then s' else Sm (B + 28) i) ∧ (∀ i, Sm' (B + 29) i = if i = k then num' else Sm (B + 29) i)) ∧ (¬ S' 80 6 = 0 → S' 80 5 = nI k ∧ Sm' B 13 = nI k') := by
  have r0 := hR
  unfold zLT at r0
  have rB := hB
  unfold zLB at rB
  obtain ⟨p, q, hT, hO⟩ := h
  have k1 := t67_80 (L := L) hT
  have toN : ∀ {S1 Sm1 : zS} {Lm1 : zL}, zfr 80 S Sm Lm S1 Sm1 Lm1 → zfn_80 B S Sm L Lm S1 Sm1 L Lm1 := fun h => ⟨fun j k a c d e => h.1 j k a (by omega), fun j k a c d e => h.2.1 j k a, fun _ _ _ => rfl, fun j k a c => h.2.2 j k a⟩
  rcases hO with hO | hF
  · have h6 := hO.1
    obtain ⟨hkk, hk25, hN2⟩ := hN h6
    clear hN
    subst hkk
    have k2 := m187 hR ⟨hT, hO.2.2.1, hO.2.2.2⟩
    obtain ⟨m8, m9, m10, m11, m12, m15, mn⟩ := hO.2.2.2
    cases hn : zNm b n p q with
    | true =>
      rw [hn, zbi_t] at k1 k2
      have hk1 := zNm_1 hn
      obtain ⟨x, c1, c2⟩ := t94 (L := L) hT
      have c2 := c2 hk1
      have m15 := m15 hk1
      subst c2
      generalize lN (zco b p (q - p)) = x at c1 m15
      have c3 := c66_80 (S := S) (L := L) (x := x) hk h5
      have c4 := m166 (Sm := Sm) (Lm := Lm) (x := x) hB hk h13
      rw [← zfd_c (ok := fun i => decide (L 157 i = x)) (fun i hi => by rw [(hN2 i hi)])] at c4
      cases ho : zfd (fun i => decide (L 157 i = x)) k with
      | some i =>
        obtain ⟨hi, -⟩ := zfd_lt ho
        rw [ho, zon_s] at c3 c4
        obtain ⟨f1, f2, f3, f4, -⟩ := zFk_80 (f := 3) rfl (by omega) (by omega) hT hO
        have k3 : zcall 58 [.ref 80, .int 3] zRc S L = _ := c58O_80 (L := L) (k := nI 3) h6
        have k4 : zcall 180 [.ref 0, .int 3] R Sm Lm = _ := m180O (Lm := Lm) (k := nI 3) hR (zOK_9 hO)
        refine ⟨_, _, L, Lm, ?_, ?_, f1, toN f2, fun h => absurd h f3, fun _ => ⟨(f2.1 _ _ (by omega) (by omega)).trans h5, (f2.2.1 _ _ (by omega)).trans h13⟩⟩ <;> unfold zcall
        · simp (config := {maxSteps := 1000000}) (disch := omega) only [↓reduceIte, Int32.reduceLT, Int32.reduceLE, Int32.reduceToNatClampNeg, Int32.reduceAdd, Int32.reduceSub, Int32.reduceMul, Nat.reduceLeDiff, zEL, zup_ne, zup_eq, zT0, zT1, zT2, if_true, if_false, zneq_f, true_and, and_true, false_and, and_false, zKL, eq_self, Nat.reduceEqDiff, zite0, ite_not, zaddr, zaddl, zputr, zsb1, zsb2, zsb0, zsbm, znm1, gR, gX, ze_64, s64_0, s64_1, s64_4, s64_7, s64_8, s64_9, s64_12, s64_13, s64_16, s64_19, s64_20, s64_21, s64_22, s64_25, s64_26, s64_29, s64_30, s64_31, s64_34, s64_35, s64_38, s64_41, s64_42, s64_45, s64_48, s64_49, s64_52, s64_53, s64_56, s64_57, s64_60, s64_61, s64_64, s64_65, s64_68, s64_69, s64_70, s64_71, s64_74, s64_75, s64_78, s64_79, s64_82, s64_83, s64_86, s64_87, s64_90, s64_91, s64_94, s64_95, s64_96, s64_99, s64_100, s64_101, s64_104, s64_105, s64_108, s64_111, k1, c1, c3, k3]
        · simp (config := {maxSteps := 1000000}) (disch := omega) only [↓reduceIte, Int32.reduceLT, Int32.reduceLE, Int32.reduceToNatClampNeg, Int32.reduceAdd, Int32.reduceSub, Int32.reduceMul, Nat.reduceLeDiff, zEL, zup_ne, zup_eq, zT0, zT1, zT2, if_true, if_false, zneq_f, true_and, and_true, false_and, and_false, zKL, eq_self, Nat.reduceEqDiff, zite0, ite_not, zaddr, zaddl, zputr, zsb1, zsb2, zsb0, zsbm, znm1, r0, rB, ze_189, s189_0, s189_1, s189_4, s189_7, s189_8, s189_9, s189_12, s189_13, s189_16, s189_17, s189_20, s189_23, s189_24, s189_27, s189_28, s189_29, s189_32, s189_33, s189_36, s189_37, s189_40, s189_41, s189_42, s189_45, s189_48, s189_49, s189_52, s189_55, s189_56, s189_59, s189_60, s189_61, s189_64, s189_67, s189_68, s189_71, s189_74, s189_75, s189_76, s189_77, s189_80, s189_83, s189_84, s189_87, s189_90, s189_91, s189_92, s189_93, s189_96, s189_97, s189_100, s189_101, s189_102, s189_105, s189_106, s189_109, k2, m15, c4, k4, f4]
      | none =>
        rw [ho, zon_n] at c3 c4
        have m95 : (Sm 0 9 = 5) = False := eq_false (zOK_9 hO)
        obtain ⟨S1, hS1⟩ : ∃ S1, S1 = zup (zup (zup S 159 k s) 161 k num) 80 5 (nI (k + 1)) := ⟨_, rfl⟩
        obtain ⟨Sm1, hSm1⟩ : ∃ Sm1, Sm1 = zup (zup (zup Sm (B + 28) k s') (B + 29) k num') B 13 (nI (k + 1)) := ⟨_, rfl⟩
        have e1 : ∀ j i, j ≠ 159 → j ≠ 161 → (j ≠ 80 ∨ i ≠ 5) → S1 j i = S j i := fun j i a c d => by rw [hS1, zup_ne (by omega), zup_ne (by omega), zup_ne (by omega)]
        have e2 : ∀ j i, j ≠ B + 28 → j ≠ B + 29 → (j ≠ B ∨ i ≠ 13) → Sm1 j i = Sm j i := fun j i a c d => by rw [hSm1, zup_ne (by omega), zup_ne (by omega), zup_ne (by omega)]
        have hT1 : zTKc n b p q S1 := zTKc_fr hT (fun i => e1 1 i (by decide) (by decide) (by omega)) (fun i => e1 3 i (by decide) (by decide) (by omega))
        have hO1 : zOKs 80 n b p q S1 Sm1 (zup Lm (B + 27) k x) := zOKs_fr hO (e1 _ _ (by decide) (by decide) (by omega)) (fun i => e2 0 i (by omega) (by omega) (by omega)) (fun i => e2 1 i (by omega) (by omega) (by omega)) (zup_ne (by omega))
        obtain ⟨S', Sm', Lm', a1, a2, a3, a4, a5⟩ := zsn_80 (L := zup L 157 k x) hR hT1 hO1 (by omega) (by omega)
        refine ⟨S', Sm', zup L 157 k x, Lm', ?_, ?_, a3, ⟨fun j i a c d e => (a4.1 j i a (by omega)).trans (e1 j i d e (by omega)), fun j i a c d e => (a4.2.1 j i a).trans (e2 j i d e c), fun j i a => zup_ne (by omega), fun j i a c => (a4.2.2 j i a).trans (zup_ne (by omega))⟩, fun _ => ⟨h6, ?_, ?_, fun i hi => ?_, fun i => ?_, fun i => ?_, fun i => ?_, fun i => ?_⟩, fun h => absurd a5 h⟩
        · unfold zcall
          rw [hS1] at a1
          simp (config := {maxSteps := 1000000}) (disch := omega) only [↓reduceIte, Int32.reduceLT, Int32.reduceLE, Int32.reduceToNatClampNeg, Int32.reduceAdd, Int32.reduceSub, Int32.reduceMul, Nat.reduceLeDiff, zEL, zup_ne, zup_eq, zT0, zT1, zT2, if_true, if_false, zneq_f, true_and, and_true, false_and, and_false, zKL, eq_self, Nat.reduceEqDiff, zite0, ite_not, zaddr, zaddl, zputr, zsb1, zsb2, zsb0, zsbm, znm1, gR, gX, lcl_157, lca_157, ze_64, s64_0, s64_1, s64_4, s64_7, s64_8, s64_9, s64_12, s64_13, s64_16, s64_19, s64_20, s64_21, s64_22, s64_25, s64_26, s64_29, s64_30, s64_31, s64_34, s64_35, s64_38, s64_41, s64_42, s64_45, s64_48, s64_49, s64_52, s64_53, s64_56, s64_57, s64_60, s64_61, s64_64, s64_65, s64_68, s64_69, s64_70, s64_71, s64_74, s64_75, s64_78, s64_79, s64_82, s64_83, s64_86, s64_87, s64_90, s64_91, s64_94, s64_95, s64_96, s64_99, s64_100, s64_101, s64_104, s64_105, s64_108, s64_111, k1, c1, c3, h6, h5, a1]
        · unfold zcall
          rw [hSm1] at a2
          simp (config := {maxSteps := 1000000}) (disch := omega) only [↓reduceIte, Int32.reduceLT, Int32.reduceLE, Int32.reduceToNatClampNeg, Int32.reduceAdd, Int32.reduceSub, Int32.reduceMul, Nat.reduceLeDiff, zEL, zup_ne, zup_eq, zT0, zT1, zT2, if_true, if_false, zneq_f, true_and, and_true, false_and, and_false, zKL, eq_self, Nat.reduceEqDiff, zite0, ite_not, zaddr, zaddl, zputr, zsb1, zsb2, zsb0, zsbm, znm1, r0, rB, ze_189, s189_0, s189_1, s189_4, s189_7, s189_8, s189_9, s189_12, s189_13, s189_16, s189_17, s189_20, s189_23, s189_24, s189_27, s189_28, s189_29, s189_32, s189_33, s189_36, s189_37, s189_40, s189_41, s189_42, s189_45, s189_48, s189_49, s189_52, s189_55, s189_56, s189_59, s189_60, s189_61, s189_64, s189_67, s189_68, s189_71, s189_74, s189_75, s189_76, s189_77, s189_80, s189_83, s189_84, s189_87, s189_90, s189_91, s189_92, s189_93, s189_96, s189_97, s189_100, s189_101, s189_102, s189_105, s189_106, s189_109, k2, m15, c4, m95, h13, a2]
        · rw [a4.1 _ _ (by omega) (by omega), hS1, zup_eq rfl rfl]
        · rw [a4.2.1 _ _ (by omega), hSm1, zup_eq rfl rfl]
        · rw [a4.2.2 _ _ (by omega)]
          by_cases e : i = k
          · rw [zup_eq rfl e, zup_eq rfl e]
          · rw [zup_ne (by omega), zup_ne (by omega)]
            exact hN2 i (by omega)
        · rw [a4.1 _ _ (by omega) (by omega), hS1, zup_ne (by omega), zup_ne (by omega)]
          by_cases e : i = k
          · rw [zup_eq rfl e, if_pos e]
          · rw [zup_ne (by omega), if_neg e]
        · rw [a4.1 _ _ (by omega) (by omega), hS1, zup_ne (by omega)]
          by_cases e : i = k
          · rw [zup_eq rfl e, if_pos e]
          · rw [zup_ne (by omega), zup_ne (by omega), if_neg e]
        · rw [a4.2.1 _ _ (by omega), hSm1, zup_ne (by omega), zup_ne (by omega)]
          by_cases e : i = k
          · rw [zup_eq rfl e, if_pos e]
          · rw [zup_ne (by omega), if_neg e]
        · rw [a4.2.1 _ _ (by omega), hSm1, zup_ne (by omega)]
          by_cases e : i = k
          · rw [zup_eq rfl e, if_pos e]
          · rw [zup_ne (by omega), zup_ne (by omega), if_neg e]
    | false =>
      rw [hn, zbi_f] at k1 k2
      obtain ⟨f1, f2, f3, f4, f5⟩ := zFk_80 (f := 1) rfl (by omega) (by omega) hT hO
      have k3 : zcall 58 [.ref 80, .int 1] zRc S L = _ := c58O_80 (L := L) (k := nI 1) h6
      have k4 : zcall 180 [.ref 0, .int 1] R Sm Lm = _ := m180O (Lm := Lm) (k := nI 1) hR (zOK_9 hO)
      have k6 := fun k => c58F_80 (L := L) (k := k) f3
      have k7 := fun k => m180F (Lm := Lm) (k := k) hR f4
      obtain ⟨x, c1, -⟩ := t94 (L := L) f5
      have c3 := c66_80 (L := L) (x := x) hk ((f2.1 80 5 (by omega) (by omega)).trans h5)
      have c4 := m166 (Lm := Lm) (x := Lm 0 15) hB hk ((f2.2.1 B 13 (by omega)).trans h13)
      generalize hS1 : zup (zup S 80 6 (nI 1)) 80 7 (S 1 3) = S1 at f1 f2 f3 k3 k6 c1 c3
      generalize hSm1 : zup (zup (zup Sm 0 13 (nI 1)) 0 14 (Sm 0 8)) 0 9 5 = Sm1 at f1 f2 f4 k4 k7 c4
      refine ⟨S1, Sm1, L, Lm, ?_, ?_, f1, toN f2, fun h => absurd h f3, fun _ => ⟨(f2.1 _ _ (by omega) (by omega)).trans h5, (f2.2.1 _ _ (by omega)).trans h13⟩⟩ <;> unfold zcall
      · cases ho : zfd (fun i => decide (L 157 i = x)) k with
        | none =>
          rw [ho, zon_n] at c3
          simp (config := {maxSteps := 1000000}) (disch := omega) only [↓reduceIte, Int32.reduceLT, Int32.reduceLE, Int32.reduceToNatClampNeg, Int32.reduceAdd, Int32.reduceSub, Int32.reduceMul, Nat.reduceLeDiff, zEL, zup_ne, zup_eq, zT0, zT1, zT2, if_true, if_false, zneq_f, true_and, and_true, false_and, and_false, zKL, eq_self, Nat.reduceEqDiff, zite0, ite_not, zaddr, zaddl, zputr, zsb1, zsb2, zsb0, zsbm, znm1, gR, gX, ze_64, s64_0, s64_1, s64_4, s64_7, s64_8, s64_9, s64_12, s64_13, s64_16, s64_19, s64_20, s64_21, s64_22, s64_25, s64_26, s64_29, s64_30, s64_31, s64_34, s64_35, s64_38, s64_41, s64_42, s64_45, s64_48, s64_49, s64_52, s64_53, s64_56, s64_57, s64_60, s64_61, s64_64, s64_65, s64_68, s64_69, s64_70, s64_71, s64_74, s64_75, s64_78, s64_79, s64_82, s64_83, s64_86, s64_87, s64_90, s64_91, s64_94, s64_95, s64_96, s64_99, s64_100, s64_101, s64_104, s64_105, s64_108, s64_111, k1, k3, c1, c3, k6, f3]
        | some i =>
          obtain ⟨hi, -⟩ := zfd_lt ho
          rw [ho, zon_s] at c3
          simp (config := {maxSteps := 1000000}) (disch := omega) only [↓reduceIte, Int32.reduceLT, Int32.reduceLE, Int32.reduceToNatClampNeg, Int32.reduceAdd, Int32.reduceSub, Int32.reduceMul, Nat.reduceLeDiff, zEL, zup_ne, zup_eq, zT0, zT1, zT2, if_true, if_false, zneq_f, true_and, and_true, false_and, and_false, zKL, eq_self, Nat.reduceEqDiff, zite0, ite_not, zaddr, zaddl, zputr, zsb1, zsb2, zsb0, zsbm, znm1, gR, gX, ze_64, s64_0, s64_1, s64_4, s64_7, s64_8, s64_9, s64_12, s64_13, s64_16, s64_19, s64_20, s64_21, s64_22, s64_25, s64_26, s64_29, s64_30, s64_31, s64_34, s64_35, s64_38, s64_41, s64_42, s64_45, s64_48, s64_49, s64_52, s64_53, s64_56, s64_57, s64_60, s64_61, s64_64, s64_65, s64_68, s64_69, s64_70, s64_71, s64_74, s64_75, s64_78, s64_79, s64_82, s64_83, s64_86, s64_87, s64_90, s64_91, s64_94, s64_95, s64_96, s64_99, s64_100, s64_101, s64_104, s64_105, s64_108, s64_111, k1, k3, c1, c3, k6, f3]
      · cases ho : zfd (fun i => decide (Lm (B + 27) i = Lm 0 15)) k with
        | none =>
          rw [ho, zon_n] at c4
          simp (config := {maxSteps := 1000000}) (disch := omega) only [↓reduceIte, Int32.reduceLT, Int32.reduceLE, Int32.reduceToNatClampNeg, Int32.reduceAdd, Int32.reduceSub, Int32.reduceMul, Nat.reduceLeDiff, zEL, zup_ne, zup_eq, zT0, zT1, zT2, if_true, if_false, zneq_f, true_and, and_true, false_and, and_false, zKL, eq_self, Nat.reduceEqDiff, zite0, ite_not, zaddr, zaddl, zputr, zsb1, zsb2, zsb0, zsbm, znm1, r0, rB, ze_189, s189_0, s189_1, s189_4, s189_7, s189_8, s189_9, s189_12, s189_13, s189_16, s189_17, s189_20, s189_23, s189_24, s189_27, s189_28, s189_29, s189_32, s189_33, s189_36, s189_37, s189_40, s189_41, s189_42, s189_45, s189_48, s189_49, s189_52, s189_55, s189_56, s189_59, s189_60, s189_61, s189_64, s189_67, s189_68, s189_71, s189_74, s189_75, s189_76, s189_77, s189_80, s189_83, s189_84, s189_87, s189_90, s189_91, s189_92, s189_93, s189_96, s189_97, s189_100, s189_101, s189_102, s189_105, s189_106, s189_109, k2, k4, c4, k7, f4]
        | some i =>
          obtain ⟨hi, -⟩ := zfd_lt ho
          rw [ho, zon_s] at c4
          simp (config := {maxSteps := 1000000}) (disch := omega) only [↓reduceIte, Int32.reduceLT, Int32.reduceLE, Int32.reduceToNatClampNeg, Int32.reduceAdd, Int32.reduceSub, Int32.reduceMul, Nat.reduceLeDiff, zEL, zup_ne, zup_eq, zT0, zT1, zT2, if_true, if_false, zneq_f, true_and, and_true, false_and, and_false, zKL, eq_self, Nat.reduceEqDiff, zite0, ite_not, zaddr, zaddl, zputr, zsb1, zsb2, zsb0, zsbm, znm1, r0, rB, ze_189, s189_0, s189_1, s189_4, s189_7, s189_8, s189_9, s189_12, s189_13, s189_16, s189_17, s189_20, s189_23, s189_24, s189_27, s189_28, s189_29, s189_32, s189_33, s189_36, s189_37, s189_40, s189_41, s189_42, s189_45, s189_48, s189_49, s189_52, s189_55, s189_56, s189_59, s189_60, s189_61, s189_64, s189_67, s189_68, s189_71, s189_74, s189_75, s189_76, s189_77, s189_80, s189_83, s189_84, s189_87, s189_90, s189_91, s189_92, s189_93, s189_96, s189_97, s189_100, s189_101, s189_102, s189_105, s189_106, s189_109, k2, k4, c4, k7, f4]
  · have hne := zFA_ne hF
    have k3 := fun k => c58F_80 (L := L) (k := k) hne
    have m9 : Sm 0 9 = 5 := by obtain ⟨f, pl, -, -, -, -, -, h9, -⟩ := hF; exact h9
    have k4 := fun k => m180F (Lm := Lm) (k := k) hR m9
    have k2 := m187F (Lm := Lm) hR m9
    obtain ⟨x, c1, -⟩ := t94 (L := L) hT
    have c3 := c66_80 (S := S) (L := L) (x := x) hk h5
    have c4 := m166 (Sm := Sm) (Lm := Lm) (x := Lm 0 15) hB hk' h13
    refine ⟨S, Sm, L, Lm, ?_, ?_, ⟨p, q, hT, .inr hF⟩, toN zfr_r, fun h => absurd h hne, fun _ => ⟨h5, h13⟩⟩ <;> unfold zcall
    · generalize zbi (zNm b n p q) = vb at k1
      cases ho : zfd (fun i => decide (L 157 i = x)) k with
      | none =>
        rw [ho, zon_n] at c3
        simp (config := {maxSteps := 1000000}) (disch := omega) only [↓reduceIte, Int32.reduceLT, Int32.reduceLE, Int32.reduceToNatClampNeg, Int32.reduceAdd, Int32.reduceSub, Int32.reduceMul, Nat.reduceLeDiff, zEL, zup_ne, zup_eq, zT0, zT1, zT2, if_true, if_false, zneq_f, true_and, and_true, false_and, and_false, zKL, eq_self, Nat.reduceEqDiff, zite0, ite_not, zaddr, zaddl, zputr, zsb1, zsb2, zsb0, zsbm, znm1, gR, gX, ze_64, s64_0, s64_1, s64_4, s64_7, s64_8, s64_9, s64_12, s64_13, s64_16, s64_19, s64_20, s64_21, s64_22, s64_25, s64_26, s64_29, s64_30, s64_31, s64_34, s64_35, s64_38, s64_41, s64_42, s64_45, s64_48, s64_49, s64_52, s64_53, s64_56, s64_57, s64_60, s64_61, s64_64, s64_65, s64_68, s64_69, s64_70, s64_71, s64_74, s64_75, s64_78, s64_79, s64_82, s64_83, s64_86, s64_87, s64_90, s64_91, s64_94, s64_95, s64_96, s64_99, s64_100, s64_101, s64_104, s64_105, s64_108, s64_111, k1, c1, c3, k3, hne]
        all_goals (repeat' split)
        all_goals rfl
      | some i =>
        obtain ⟨hi, -⟩ := zfd_lt ho
        rw [ho, zon_s] at c3
        simp (config := {maxSteps := 1000000}) (disch := omega) only [↓reduceIte, Int32.reduceLT, Int32.reduceLE, Int32.reduceToNatClampNeg, Int32.reduceAdd, Int32.reduceSub, Int32.reduceMul, Nat.reduceLeDiff, zEL, zup_ne, zup_eq, zT0, zT1, zT2, if_true, if_false, zneq_f, true_and, and_true, false_and, and_false, zKL, eq_self, Nat.reduceEqDiff, zite0, ite_not, zaddr, zaddl, zputr, zsb1, zsb2, zsb0, zsbm, znm1, gR, gX, ze_64, s64_0, s64_1, s64_4, s64_7, s64_8, s64_9, s64_12, s64_13, s64_16, s64_19, s64_20, s64_21, s64_22, s64_25, s64_26, s64_29, s64_30, s64_31, s64_34, s64_35, s64_38, s64_41, s64_42, s64_45, s64_48, s64_49, s64_52, s64_53, s64_56, s64_57, s64_60, s64_61, s64_64, s64_65, s64_68, s64_69, s64_70, s64_71, s64_74, s64_75, s64_78, s64_79, s64_82, s64_83, s64_86, s64_87, s64_90, s64_91, s64_94, s64_95, s64_96, s64_99, s64_100, s64_101, s64_104, s64_105, s64_108, s64_111, k1, c1, c3, k3, hne]
        all_goals (repeat' split)
        all_goals rfl
    · cases ho : zfd (fun i => decide (Lm (B + 27) i = Lm 0 15)) k' with
      | none =>
        rw [ho, zon_n] at c4
        simp (config := {maxSteps := 1000000}) (disch := omega) only [↓reduceIte, Int32.reduceLT, Int32.reduceLE, Int32.reduceToNatClampNeg, Int32.reduceAdd, Int32.reduceSub, Int32.reduceMul, Nat.reduceLeDiff, zEL, zup_ne, zup_eq, zT0, zT1, zT2, if_true, if_false, zneq_f, true_and, and_true, false_and, and_false, zKL, eq_self, Nat.reduceEqDiff, zite0, ite_not, zaddr, zaddl, zputr, zsb1, zsb2, zsb0, zsbm, znm1, r0, rB, ze_189, s189_0, s189_1, s189_4, s189_7, s189_8, s189_9, s189_12, s189_13, s189_16, s189_17, s189_20, s189_23, s189_24, s189_27, s189_28, s189_29, s189_32, s189_33, s189_36, s189_37, s189_40, s189_41, s189_42, s189_45, s189_48, s189_49, s189_52, s189_55, s189_56, s189_59, s189_60, s189_61, s189_64, s189_67, s189_68, s189_71, s189_74, s189_75, s189_76, s189_77, s189_80, s189_83, s189_84, s189_87, s189_90, s189_91, s189_92, s189_93, s189_96, s189_97, s189_100, s189_101, s189_102, s189_105, s189_106, s189_109, k2, c4, k4, m9]
      | some i =>
        obtain ⟨hi, -⟩ := zfd_lt ho
        rw [ho, zon_s] at c4
        simp (config := {maxSteps := 1000000}) (disch := omega) only [↓reduceIte, Int32.reduceLT, Int32.reduceLE, Int32.reduceToNatClampNeg, Int32.reduceAdd, Int32.reduceSub, Int32.reduceMul, Nat.reduceLeDiff, zEL, zup_ne, zup_eq, zT0, zT1, zT2, if_true, if_false, zneq_f, true_and, and_true, false_and, and_false, zKL, eq_self, Nat.reduceEqDiff, zite0, ite_not, zaddr, zaddl, zputr, zsb1, zsb2, zsb0, zsbm, znm1, r0, rB, ze_189, s189_0, s189_1, s189_4, s189_7, s189_8, s189_9, s189_12, s189_13, s189_16, s189_17, s189_20, s189_23, s189_24, s189_27, s189_28, s189_29, s189_32, s189_33, s189_36, s189_37, s189_40, s189_41, s189_42, s189_45, s189_48, s189_49, s189_52, s189_55, s189_56, s189_59, s189_60, s189_61, s189_64, s189_67, s189_68, s189_71, s189_74, s189_75, s189_76, s189_77, s189_80, s189_83, s189_84, s189_87, s189_90, s189_91, s189_92, s189_93, s189_96, s189_97, s189_100, s189_101, s189_102, s189_105, s189_106, s189_109, k2, c4, k4, m9]
/-- what a new NAME changes -/
def zfn_162 (B : Nat) (S Sm : zS) (L Lm : zL) (S' Sm' : zS) (L' Lm' : zL) : Prop :=
  (∀ j k, (j ≠ 1 ∨ (k ≠ 2 ∧ k ≠ 3 ∧ k ≠ 4)) → (j ≠ 162 ∨ (k ≠ 5 ∧ k ≠ 6 ∧ k ≠ 7)) → j ≠ 165 → j ≠ 167 → S' j k = S j k) ∧ (∀ j k, (j ≠ 0 ∨ k < 8 ∨ 14 < k) → (j ≠ B ∨ k ≠ 13) → j ≠ B + 28 → j ≠ B + 29 → Sm' j k = Sm j k) ∧ (∀ j k, j ≠ 163 → L' j k = L j k) ∧ (∀ j k, (j ≠ 0 ∨ k ≠ 15) → j ≠ B + 27 → Lm' j k = Lm j k)
theorem op64_162 {k k' : Nat} {s s' num num' : Int32} (hR : zLT R) (hB : zLB R B) (hB11 : 11 ≤ B) (h : zST 162 n b S Sm Lm) (hk : k ≤ 26) (hk' : k' ≤ 26) (h5 : S 162 5 = nI k) (h13 : Sm B 13 = nI k') (hN : S 162 6 = 0 → k = k' ∧ k ≤ 25 ∧ ∀ i, i < k → L 163 i = Lm (B + 27) i) : ∃ S' Sm' L' Lm', zcall 64 [.ref 162, .int s, .int num] zRc S L = some (none, zRc, S', L') ∧ zcall 189 [.ref 0, .int s', .int num'] R Sm Lm = some (none, R, Sm', Lm') ∧ zST 162 n b S' Sm' Lm' ∧ zfn_162 B S Sm L Lm S' Sm' L' Lm' ∧ (S' 162 6 = 0 → S 162 6 = 0 ∧ S' 162 5 = nI (k + 1) ∧ Sm' B 13 = nI (k + 1) ∧ (∀ i, i ≤ k → L' 163 i = Lm' (B + 27) i) ∧ (∀ i, S' 165 i = if i = k then s else S 165 i) ∧ (∀ i, S' 167 i = if i = k then num else S 167 i) ∧ (∀ i, Sm' (B + 28) i = if i = k then s' else Sm (B + 28) i) ∧ (∀ i, Sm' (B + 29) i = if i = k then num' else Sm (B + 29) i)) ∧ (¬ S' 162 6 = 0 → S' 162 5 = nI k ∧ Sm' B 13 = nI k') := by
  have r0 := hR
  unfold zLT at r0
  have rB := hB
  unfold zLB at rB
  obtain ⟨p, q, hT, hO⟩ := h
  have k1 := t67_162 (L := L) hT
  have toN : ∀ {S1 Sm1 : zS} {Lm1 : zL}, zfr 162 S Sm Lm S1 Sm1 Lm1 → zfn_162 B S Sm L Lm S1 Sm1 L Lm1 := fun h => ⟨fun j k a c d e => h.1 j k a (by omega), fun j k a c d e => h.2.1 j k a, fun _ _ _ => rfl, fun j k a c => h.2.2 j k a⟩
  rcases hO with hO | hF
  · have h6 := hO.1
    obtain ⟨hkk, hk25, hN2⟩ := hN h6
    clear hN
    subst hkk
    have k2 := m187 hR ⟨hT, hO.2.2.1, hO.2.2.2⟩
    obtain ⟨m8, m9, m10, m11, m12, m15, mn⟩ := hO.2.2.2
    cases hn : zNm b n p q with
    | true =>
      rw [hn, zbi_t] at k1 k2
      have hk1 := zNm_1 hn
      obtain ⟨x, c1, c2⟩ := t94 (L := L) hT
      have c2 := c2 hk1
      have m15 := m15 hk1
      subst c2
      generalize lN (zco b p (q - p)) = x at c1 m15
      have c3 := c66_162 (S := S) (L := L) (x := x) hk h5
      have c4 := m166 (Sm := Sm) (Lm := Lm) (x := x) hB hk h13
      rw [← zfd_c (ok := fun i => decide (L 163 i = x)) (fun i hi => by rw [(hN2 i hi)])] at c4
      cases ho : zfd (fun i => decide (L 163 i = x)) k with
      | some i =>
        obtain ⟨hi, -⟩ := zfd_lt ho
        rw [ho, zon_s] at c3 c4
        obtain ⟨f1, f2, f3, f4, -⟩ := zFk_162 (f := 3) rfl (by omega) (by omega) hT hO
        have k3 : zcall 58 [.ref 162, .int 3] zRc S L = _ := c58O_162 (L := L) (k := nI 3) h6
        have k4 : zcall 180 [.ref 0, .int 3] R Sm Lm = _ := m180O (Lm := Lm) (k := nI 3) hR (zOK_9 hO)
        refine ⟨_, _, L, Lm, ?_, ?_, f1, toN f2, fun h => absurd h f3, fun _ => ⟨(f2.1 _ _ (by omega) (by omega)).trans h5, (f2.2.1 _ _ (by omega)).trans h13⟩⟩ <;> unfold zcall
        · simp (config := {maxSteps := 1000000}) (disch := omega) only [↓reduceIte, Int32.reduceLT, Int32.reduceLE, Int32.reduceToNatClampNeg, Int32.reduceAdd, Int32.reduceSub, Int32.reduceMul, Nat.reduceLeDiff, zEL, zup_ne, zup_eq, zT0, zT1, zT2, if_true, if_false, zneq_f, true_and, and_true, false_and, and_false, zKL, eq_self, Nat.reduceEqDiff, zite0, ite_not, zaddr, zaddl, zputr, zsb1, zsb2, zsb0, zsbm, znm1, gR, gX, ze_64, s64_0, s64_1, s64_4, s64_7, s64_8, s64_9, s64_12, s64_13, s64_16, s64_19, s64_20, s64_21, s64_22, s64_25, s64_26, s64_29, s64_30, s64_31, s64_34, s64_35, s64_38, s64_41, s64_42, s64_45, s64_48, s64_49, s64_52, s64_53, s64_56, s64_57, s64_60, s64_61, s64_64, s64_65, s64_68, s64_69, s64_70, s64_71, s64_74, s64_75, s64_78, s64_79, s64_82, s64_83, s64_86, s64_87, s64_90, s64_91, s64_94, s64_95, s64_96, s64_99, s64_100, s64_101, s64_104, s64_105, s64_108, s64_111, k1, c1, c3, k3]
        · simp (config := {maxSteps := 1000000}) (disch := omega) only [↓reduceIte, Int32.reduceLT, Int32.reduceLE, Int32.reduceToNatClampNeg, Int32.reduceAdd, Int32.reduceSub, Int32.reduceMul, Nat.reduceLeDiff, zEL, zup_ne, zup_eq, zT0, zT1, zT2, if_true, if_false, zneq_f, true_and, and_true, false_and, and_false, zKL, eq_self, Nat.reduceEqDiff, zite0, ite_not, zaddr, zaddl, zputr, zsb1, zsb2, zsb0, zsbm, znm1, r0, rB, ze_189, s189_0, s189_1, s189_4, s189_7, s189_8, s189_9, s189_12, s189_13, s189_16, s189_17, s189_20, s189_23, s189_24, s189_27, s189_28, s189_29, s189_32, s189_33, s189_36, s189_37, s189_40, s189_41, s189_42, s189_45, s189_48, s189_49, s189_52, s189_55, s189_56, s189_59, s189_60, s189_61, s189_64, s189_67, s189_68, s189_71, s189_74, s189_75, s189_76, s189_77, s189_80, s189_83, s189_84, s189_87, s189_90, s189_91, s189_92, s189_93, s189_96, s189_97, s189_100, s189_101, s189_102, s189_105, s189_106, s189_109, k2, m15, c4, k4, f4]
      | none =>
        rw [ho, zon_n] at c3 c4
        have m95 : (Sm 0 9 = 5) = False := eq_false (zOK_9 hO)
        obtain ⟨S1, hS1⟩ : ∃ S1, S1 = zup (zup (zup S 165 k s) 167 k num) 162 5 (nI (k + 1)) := ⟨_, rfl⟩
        obtain ⟨Sm1, hSm1⟩ : ∃ Sm1, Sm1 = zup (zup (zup Sm (B + 28) k s') (B + 29) k num') B 13 (nI (k + 1)) := ⟨_, rfl⟩
        have e1 : ∀ j i, j ≠ 165 → j ≠ 167 → (j ≠ 162 ∨ i ≠ 5) → S1 j i = S j i := fun j i a c d => by rw [hS1, zup_ne (by omega), zup_ne (by omega), zup_ne (by omega)]
        have e2 : ∀ j i, j ≠ B + 28 → j ≠ B + 29 → (j ≠ B ∨ i ≠ 13) → Sm1 j i = Sm j i := fun j i a c d => by rw [hSm1, zup_ne (by omega), zup_ne (by omega), zup_ne (by omega)]
        have hT1 : zTKc n b p q S1 := zTKc_fr hT (fun i => e1 1 i (by decide) (by decide) (by omega)) (fun i => e1 3 i (by decide) (by decide) (by omega))
        have hO1 : zOKs 162 n b p q S1 Sm1 (zup Lm (B + 27) k x) := zOKs_fr hO (e1 _ _ (by decide) (by decide) (by omega)) (fun i => e2 0 i (by omega) (by omega) (by omega)) (fun i => e2 1 i (by omega) (by omega) (by omega)) (zup_ne (by omega))
        obtain ⟨S', Sm', Lm', a1, a2, a3, a4, a5⟩ := zsn_162 (L := zup L 163 k x) hR hT1 hO1 (by omega) (by omega)
        refine ⟨S', Sm', zup L 163 k x, Lm', ?_, ?_, a3, ⟨fun j i a c d e => (a4.1 j i a (by omega)).trans (e1 j i d e (by omega)), fun j i a c d e => (a4.2.1 j i a).trans (e2 j i d e c), fun j i a => zup_ne (by omega), fun j i a c => (a4.2.2 j i a).trans (zup_ne (by omega))⟩, fun _ => ⟨h6, ?_, ?_, fun i hi => ?_, fun i => ?_, fun i => ?_, fun i => ?_, fun i => ?_⟩, fun h => absurd a5 h⟩
        · unfold zcall
          rw [hS1] at a1
          simp (config := {maxSteps := 1000000}) (disch := omega) only [↓reduceIte, Int32.reduceLT, Int32.reduceLE, Int32.reduceToNatClampNeg, Int32.reduceAdd, Int32.reduceSub, Int32.reduceMul, Nat.reduceLeDiff, zEL, zup_ne, zup_eq, zT0, zT1, zT2, if_true, if_false, zneq_f, true_and, and_true, false_and, and_false, zKL, eq_self, Nat.reduceEqDiff, zite0, ite_not, zaddr, zaddl, zputr, zsb1, zsb2, zsb0, zsbm, znm1, gR, gX, lcl_163, lca_163, ze_64, s64_0, s64_1, s64_4, s64_7, s64_8, s64_9, s64_12, s64_13, s64_16, s64_19, s64_20, s64_21, s64_22, s64_25, s64_26, s64_29, s64_30, s64_31, s64_34, s64_35, s64_38, s64_41, s64_42, s64_45, s64_48, s64_49, s64_52, s64_53, s64_56, s64_57, s64_60, s64_61, s64_64, s64_65, s64_68, s64_69, s64_70, s64_71, s64_74, s64_75, s64_78, s64_79, s64_82, s64_83, s64_86, s64_87, s64_90, s64_91, s64_94, s64_95, s64_96, s64_99, s64_100, s64_101, s64_104, s64_105, s64_108, s64_111, k1, c1, c3, h6, h5, a1]
        · unfold zcall
          rw [hSm1] at a2
          simp (config := {maxSteps := 1000000}) (disch := omega) only [↓reduceIte, Int32.reduceLT, Int32.reduceLE, Int32.reduceToNatClampNeg, Int32.reduceAdd, Int32.reduceSub, Int32.reduceMul, Nat.reduceLeDiff, zEL, zup_ne, zup_eq, zT0, zT1, zT2, if_true, if_false, zneq_f, true_and, and_true, false_and, and_false, zKL, eq_self, Nat.reduceEqDiff, zite0, ite_not, zaddr, zaddl, zputr, zsb1, zsb2, zsb0, zsbm, znm1, r0, rB, ze_189, s189_0, s189_1, s189_4, s189_7, s189_8, s189_9, s189_12, s189_13, s189_16, s189_17, s189_20, s189_23, s189_24, s189_27, s189_28, s189_29, s189_32, s189_33, s189_36, s189_37, s189_40, s189_41, s189_42, s189_45, s189_48, s189_49, s189_52, s189_55, s189_56, s189_59, s189_60, s189_61, s189_64, s189_67, s189_68, s189_71, s189_74, s189_75, s189_76, s189_77, s189_80, s189_83, s189_84, s189_87, s189_90, s189_91, s189_92, s189_93, s189_96, s189_97, s189_100, s189_101, s189_102, s189_105, s189_106, s189_109, k2, m15, c4, m95, h13, a2]
        · rw [a4.1 _ _ (by omega) (by omega), hS1, zup_eq rfl rfl]
        · rw [a4.2.1 _ _ (by omega), hSm1, zup_eq rfl rfl]
        · rw [a4.2.2 _ _ (by omega)]
          by_cases e : i = k
          · rw [zup_eq rfl e, zup_eq rfl e]
          · rw [zup_ne (by omega), zup_ne (by omega)]
            exact hN2 i (by omega)
        · rw [a4.1 _ _ (by omega) (by omega), hS1, zup_ne (by omega), zup_ne (by omega)]
          by_cases e : i = k
          · rw [zup_eq rfl e, if_pos e]
          · rw [zup_ne (by omega), if_neg e]
        · rw [a4.1 _ _ (by omega) (by omega), hS1, zup_ne (by omega)]
          by_cases e : i = k
          · rw [zup_eq rfl e, if_pos e]
          · rw [zup_ne (by omega), zup_ne (by omega), if_neg e]
        · rw [a4.2.1 _ _ (by omega), hSm1, zup_ne (by omega), zup_ne (by omega)]
          by_cases e : i = k
          · rw [zup_eq rfl e, if_pos e]
          · rw [zup_ne (by omega), if_neg e]
        · rw [a4.2.1 _ _ (by omega), hSm1, zup_ne (by omega)]
          by_cases e : i = k
          · rw [zup_eq rfl e, if_pos e]
          · rw [zup_ne (by omega), zup_ne (by omega), if_neg e]
    | false =>
      rw [hn, zbi_f] at k1 k2
      obtain ⟨f1, f2, f3, f4, f5⟩ := zFk_162 (f := 1) rfl (by omega) (by omega) hT hO
      have k3 : zcall 58 [.ref 162, .int 1] zRc S L = _ := c58O_162 (L := L) (k := nI 1) h6
      have k4 : zcall 180 [.ref 0, .int 1] R Sm Lm = _ := m180O (Lm := Lm) (k := nI 1) hR (zOK_9 hO)
      have k6 := fun k => c58F_162 (L := L) (k := k) f3
      have k7 := fun k => m180F (Lm := Lm) (k := k) hR f4
      obtain ⟨x, c1, -⟩ := t94 (L := L) f5
      have c3 := c66_162 (L := L) (x := x) hk ((f2.1 162 5 (by omega) (by omega)).trans h5)
      have c4 := m166 (Lm := Lm) (x := Lm 0 15) hB hk ((f2.2.1 B 13 (by omega)).trans h13)
      generalize hS1 : zup (zup S 162 6 (nI 1)) 162 7 (S 1 3) = S1 at f1 f2 f3 k3 k6 c1 c3
      generalize hSm1 : zup (zup (zup Sm 0 13 (nI 1)) 0 14 (Sm 0 8)) 0 9 5 = Sm1 at f1 f2 f4 k4 k7 c4
      refine ⟨S1, Sm1, L, Lm, ?_, ?_, f1, toN f2, fun h => absurd h f3, fun _ => ⟨(f2.1 _ _ (by omega) (by omega)).trans h5, (f2.2.1 _ _ (by omega)).trans h13⟩⟩ <;> unfold zcall
      · cases ho : zfd (fun i => decide (L 163 i = x)) k with
        | none =>
          rw [ho, zon_n] at c3
          simp (config := {maxSteps := 1000000}) (disch := omega) only [↓reduceIte, Int32.reduceLT, Int32.reduceLE, Int32.reduceToNatClampNeg, Int32.reduceAdd, Int32.reduceSub, Int32.reduceMul, Nat.reduceLeDiff, zEL, zup_ne, zup_eq, zT0, zT1, zT2, if_true, if_false, zneq_f, true_and, and_true, false_and, and_false, zKL, eq_self, Nat.reduceEqDiff, zite0, ite_not, zaddr, zaddl, zputr, zsb1, zsb2, zsb0, zsbm, znm1, gR, gX, ze_64, s64_0, s64_1, s64_4, s64_7, s64_8, s64_9, s64_12, s64_13, s64_16, s64_19, s64_20, s64_21, s64_22, s64_25, s64_26, s64_29, s64_30, s64_31, s64_34, s64_35, s64_38, s64_41, s64_42, s64_45, s64_48, s64_49, s64_52, s64_53, s64_56, s64_57, s64_60, s64_61, s64_64, s64_65, s64_68, s64_69, s64_70, s64_71, s64_74, s64_75, s64_78, s64_79, s64_82, s64_83, s64_86, s64_87, s64_90, s64_91, s64_94, s64_95, s64_96, s64_99, s64_100, s64_101, s64_104, s64_105, s64_108, s64_111, k1, k3, c1, c3, k6, f3]
        | some i =>
          obtain ⟨hi, -⟩ := zfd_lt ho
          rw [ho, zon_s] at c3
          simp (config := {maxSteps := 1000000}) (disch := omega) only [↓reduceIte, Int32.reduceLT, Int32.reduceLE, Int32.reduceToNatClampNeg, Int32.reduceAdd, Int32.reduceSub, Int32.reduceMul, Nat.reduceLeDiff, zEL, zup_ne, zup_eq, zT0, zT1, zT2, if_true, if_false, zneq_f, true_and, and_true, false_and, and_false, zKL, eq_self, Nat.reduceEqDiff, zite0, ite_not, zaddr, zaddl, zputr, zsb1, zsb2, zsb0, zsbm, znm1, gR, gX, ze_64, s64_0, s64_1, s64_4, s64_7, s64_8, s64_9, s64_12, s64_13, s64_16, s64_19, s64_20, s64_21, s64_22, s64_25, s64_26, s64_29, s64_30, s64_31, s64_34, s64_35, s64_38, s64_41, s64_42, s64_45, s64_48, s64_49, s64_52, s64_53, s64_56, s64_57, s64_60, s64_61, s64_64, s64_65, s64_68, s64_69, s64_70, s64_71, s64_74, s64_75, s64_78, s64_79, s64_82, s64_83, s64_86, s64_87, s64_90, s64_91, s64_94, s64_95, s64_96, s64_99, s64_100, s64_101, s64_104, s64_105, s64_108, s64_111, k1, k3, c1, c3, k6, f3]
      · cases ho : zfd (fun i => decide (Lm (B + 27) i = Lm 0 15)) k with
        | none =>
          rw [ho, zon_n] at c4
          simp (config := {maxSteps := 1000000}) (disch := omega) only [↓reduceIte, Int32.reduceLT, Int32.reduceLE, Int32.reduceToNatClampNeg, Int32.reduceAdd, Int32.reduceSub, Int32.reduceMul, Nat.reduceLeDiff, zEL, zup_ne, zup_eq, zT0, zT1, zT2, if_true, if_false, zneq_f, true_and, and_true, false_and, and_false, zKL, eq_self, Nat.reduceEqDiff, zite0, ite_not, zaddr, zaddl, zputr, zsb1, zsb2, zsb0, zsbm, znm1, r0, rB, ze_189, s189_0, s189_1, s189_4, s189_7, s189_8, s189_9, s189_12, s189_13, s189_16, s189_17, s189_20, s189_23, s189_24, s189_27, s189_28, s189_29, s189_32, s189_33, s189_36, s189_37, s189_40, s189_41, s189_42, s189_45, s189_48, s189_49, s189_52, s189_55, s189_56, s189_59, s189_60, s189_61, s189_64, s189_67, s189_68, s189_71, s189_74, s189_75, s189_76, s189_77, s189_80, s189_83, s189_84, s189_87, s189_90, s189_91, s189_92, s189_93, s189_96, s189_97, s189_100, s189_101, s189_102, s189_105, s189_106, s189_109, k2, k4, c4, k7, f4]
        | some i =>
          obtain ⟨hi, -⟩ := zfd_lt ho
          rw [ho, zon_s] at c4
          simp (config := {maxSteps := 1000000}) (disch := omega) only [↓reduceIte, Int32.reduceLT, Int32.reduceLE, Int32.reduceToNatClampNeg, Int32.reduceAdd, Int32.reduceSub, Int32.reduceMul, Nat.reduceLeDiff, zEL, zup_ne, zup_eq, zT0, zT1, zT2, if_true, if_false, zneq_f, true_and, and_true, false_and, and_false, zKL, eq_self, Nat.reduceEqDiff, zite0, ite_not, zaddr, zaddl, zputr, zsb1, zsb2, zsb0, zsbm, znm1, r0, rB, ze_189, s189_0, s189_1, s189_4, s189_7, s189_8, s189_9, s189_12, s189_13, s189_16, s189_17, s189_20, s189_23, s189_24, s189_27, s189_28, s189_29, s189_32, s189_33, s189_36, s189_37, s189_40, s189_41, s189_42, s189_45, s189_48, s189_49, s189_52, s189_55, s189_56, s189_59, s189_60, s189_61, s189_64, s189_67, s189_68, s189_71, s189_74, s189_75, s189_76, s189_77, s189_80, s189_83, s189_84, s189_87, s189_90, s189_91, s189_92, s189_93, s189_96, s189_97, s189_100, s189_101, s189_102, s189_105, s189_106, s189_109, k2, k4, c4, k7, f4]
  · have hne := zFA_ne hF
    have k3 := fun k => c58F_162 (L := L) (k := k) hne
    have m9 : Sm 0 9 = 5 := by obtain ⟨f, pl, -, -, -, -, -, h9, -⟩ := hF; exact h9
    have k4 := fun k => m180F (Lm := Lm) (k := k) hR m9
    have k2 := m187F (Lm := Lm) hR m9
    obtain ⟨x, c1, -⟩ := t94 (L := L) hT
    have c3 := c66_162 (S := S) (L := L) (x := x) hk h5
    have c4 := m166 (Sm := Sm) (Lm := Lm) (x := Lm 0 15) hB hk' h13
    refine ⟨S, Sm, L, Lm, ?_, ?_, ⟨p, q, hT, .inr hF⟩, toN zfr_r, fun h => absurd h hne, fun _ => ⟨h5, h13⟩⟩ <;> unfold zcall
    · generalize zbi (zNm b n p q) = vb at k1
      cases ho : zfd (fun i => decide (L 163 i = x)) k with
      | none =>
        rw [ho, zon_n] at c3
        simp (config := {maxSteps := 1000000}) (disch := omega) only [↓reduceIte, Int32.reduceLT, Int32.reduceLE, Int32.reduceToNatClampNeg, Int32.reduceAdd, Int32.reduceSub, Int32.reduceMul, Nat.reduceLeDiff, zEL, zup_ne, zup_eq, zT0, zT1, zT2, if_true, if_false, zneq_f, true_and, and_true, false_and, and_false, zKL, eq_self, Nat.reduceEqDiff, zite0, ite_not, zaddr, zaddl, zputr, zsb1, zsb2, zsb0, zsbm, znm1, gR, gX, ze_64, s64_0, s64_1, s64_4, s64_7, s64_8, s64_9, s64_12, s64_13, s64_16, s64_19, s64_20, s64_21, s64_22, s64_25, s64_26, s64_29, s64_30, s64_31, s64_34, s64_35, s64_38, s64_41, s64_42, s64_45, s64_48, s64_49, s64_52, s64_53, s64_56, s64_57, s64_60, s64_61, s64_64, s64_65, s64_68, s64_69, s64_70, s64_71, s64_74, s64_75, s64_78, s64_79, s64_82, s64_83, s64_86, s64_87, s64_90, s64_91, s64_94, s64_95, s64_96, s64_99, s64_100, s64_101, s64_104, s64_105, s64_108, s64_111, k1, c1, c3, k3, hne]
        all_goals (repeat' split)
        all_goals rfl
      | some i =>
        obtain ⟨hi, -⟩ := zfd_lt ho
        rw [ho, zon_s] at c3
        simp (config := {maxSteps := 1000000}) (disch := omega) only [↓reduceIte, Int32.reduceLT, Int32.reduceLE, Int32.reduceToNatClampNeg, Int32.reduceAdd, Int32.reduceSub, Int32.reduceMul, Nat.reduceLeDiff, zEL, zup_ne, zup_eq, zT0, zT1, zT2, if_true, if_false, zneq_f, true_and, and_true, false_and, and_false, zKL, eq_self, Nat.reduceEqDiff, zite0, ite_not, zaddr, zaddl, zputr, zsb1, zsb2, zsb0, zsbm, znm1, gR, gX, ze_64, s64_0, s64_1, s64_4, s64_7, s64_8, s64_9, s64_12, s64_13, s64_16, s64_19, s64_20, s64_21, s64_22, s64_25, s64_26, s64_29, s64_30, s64_31, s64_34, s64_35, s64_38, s64_41, s64_42, s64_45, s64_48, s64_49, s64_52, s64_53, s64_56, s64_57, s64_60, s64_61, s64_64, s64_65, s64_68, s64_69, s64_70, s64_71, s64_74, s64_75, s64_78, s64_79, s64_82, s64_83, s64_86, s64_87, s64_90, s64_91, s64_94, s64_95, s64_96, s64_99, s64_100, s64_101, s64_104, s64_105, s64_108, s64_111, k1, c1, c3, k3, hne]
        all_goals (repeat' split)
        all_goals rfl
    · cases ho : zfd (fun i => decide (Lm (B + 27) i = Lm 0 15)) k' with
      | none =>
        rw [ho, zon_n] at c4
        simp (config := {maxSteps := 1000000}) (disch := omega) only [↓reduceIte, Int32.reduceLT, Int32.reduceLE, Int32.reduceToNatClampNeg, Int32.reduceAdd, Int32.reduceSub, Int32.reduceMul, Nat.reduceLeDiff, zEL, zup_ne, zup_eq, zT0, zT1, zT2, if_true, if_false, zneq_f, true_and, and_true, false_and, and_false, zKL, eq_self, Nat.reduceEqDiff, zite0, ite_not, zaddr, zaddl, zputr, zsb1, zsb2, zsb0, zsbm, znm1, r0, rB, ze_189, s189_0, s189_1, s189_4, s189_7, s189_8, s189_9, s189_12, s189_13, s189_16, s189_17, s189_20, s189_23, s189_24, s189_27, s189_28, s189_29, s189_32, s189_33, s189_36, s189_37, s189_40, s189_41, s189_42, s189_45, s189_48, s189_49, s189_52, s189_55, s189_56, s189_59, s189_60, s189_61, s189_64, s189_67, s189_68, s189_71, s189_74, s189_75, s189_76, s189_77, s189_80, s189_83, s189_84, s189_87, s189_90, s189_91, s189_92, s189_93, s189_96, s189_97, s189_100, s189_101, s189_102, s189_105, s189_106, s189_109, k2, c4, k4, m9]
      | some i =>
        obtain ⟨hi, -⟩ := zfd_lt ho
        rw [ho, zon_s] at c4
        simp (config := {maxSteps := 1000000}) (disch := omega) only [↓reduceIte, Int32.reduceLT, Int32.reduceLE, Int32.reduceToNatClampNeg, Int32.reduceAdd, Int32.reduceSub, Int32.reduceMul, Nat.reduceLeDiff, zEL, zup_ne, zup_eq, zT0, zT1, zT2, if_true, if_false, zneq_f, true_and, and_true, false_and, and_false, zKL, eq_self, Nat.reduceEqDiff, zite0, ite_not, zaddr, zaddl, zputr, zsb1, zsb2, zsb0, zsbm, znm1, r0, rB, ze_189, s189_0, s189_1, s189_4, s189_7, s189_8, s189_9, s189_12, s189_13, s189_16, s189_17, s189_20, s189_23, s189_24, s189_27, s189_28, s189_29, s189_32, s189_33, s189_36, s189_37, s189_40, s189_41, s189_42, s189_45, s189_48, s189_49, s189_52, s189_55, s189_56, s189_59, s189_60, s189_61, s189_64, s189_67, s189_68, s189_71, s189_74, s189_75, s189_76, s189_77, s189_80, s189_83, s189_84, s189_87, s189_90, s189_91, s189_92, s189_93, s189_96, s189_97, s189_100, s189_101, s189_102, s189_105, s189_106, s189_109, k2, c4, k4, m9]
end ZP8
