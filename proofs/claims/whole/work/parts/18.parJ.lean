/-! THE TEXT: its end -/
section ZPJ
variable {S Sm S' Sm' : zS} {L Lm L' Lm' : zL} {R : List zE} {n B p q : Nat} {b : Nat → Nat}
theorem m192t {Sm2 : zS} (hR : zLT R) (hB : zLB R B) (k4 : zcall 180 [.ref 0, .int 6] R Sm Lm = some (none, R, Sm2, Lm)) (hg : Sm B 0 = 0 ∨ Sm B 6 = 0 ∨ Sm B 8 = 0) : zgo 192 33 [.ref 0, .int 0] [] R Sm Lm = some (none, R, Sm2, Lm) := by
  have r0 := hR
  unfold zLT at r0
  have rB := hB
  unfold zLB at rB
  by_cases h1 : Sm B 0 = 0
  · simp (config := {maxSteps := 1000000}) (disch := omega) only [↓reduceIte, Int32.reduceLT, Int32.reduceLE, Int32.reduceToNatClampNeg, Int32.reduceAdd, Int32.reduceSub, Int32.reduceMul, Nat.reduceLeDiff, zEL, zup_ne, zup_eq, zT0, zT1, zT2, if_true, if_false, r0, rB, s192_33, s192_34, s192_37, s192_40, s192_43, s192_44, s192_47, s192_50, s192_53, s192_54, s192_57, s192_60, s192_63, s192_64, s192_66, s192_69, h1, k4]
  · by_cases h2 : Sm B 6 = 0
    · simp (config := {maxSteps := 1000000}) (disch := omega) only [↓reduceIte, Int32.reduceLT, Int32.reduceLE, Int32.reduceToNatClampNeg, Int32.reduceAdd, Int32.reduceSub, Int32.reduceMul, Nat.reduceLeDiff, zEL, zup_ne, zup_eq, zT0, zT1, zT2, if_true, if_false, r0, rB, s192_33, s192_34, s192_37, s192_40, s192_43, s192_44, s192_47, s192_50, s192_53, s192_54, s192_57, s192_60, s192_63, s192_64, s192_66, s192_69, h1, h2, k4]
    · have h3 : Sm B 8 = 0 := (hg.resolve_left h1).resolve_left h2
      simp (config := {maxSteps := 1000000}) (disch := omega) only [↓reduceIte, Int32.reduceLT, Int32.reduceLE, Int32.reduceToNatClampNeg, Int32.reduceAdd, Int32.reduceSub, Int32.reduceMul, Nat.reduceLeDiff, zEL, zup_ne, zup_eq, zT0, zT1, zT2, if_true, if_false, r0, rB, s192_33, s192_34, s192_37, s192_40, s192_43, s192_44, s192_47, s192_50, s192_53, s192_54, s192_57, s192_60, s192_63, s192_64, s192_66, s192_69, h1, h2, h3, k4]
theorem m192f (hR : zLT R) (hB : zLB R B) (h1 : ¬ Sm B 0 = 0) (h2 : ¬ Sm B 6 = 0) (h3 : ¬ Sm B 8 = 0) : zgo 192 33 [.ref 0, .int 0] [] R Sm Lm = some (none, R, Sm, Lm) := by
  have r0 := hR
  unfold zLT at r0
  have rB := hB
  unfold zLB at rB
  simp (config := {maxSteps := 1000000}) (disch := omega) only [↓reduceIte, Int32.reduceLT, Int32.reduceLE, Int32.reduceToNatClampNeg, Int32.reduceAdd, Int32.reduceSub, Int32.reduceMul, Nat.reduceLeDiff, zEL, zup_ne, zup_eq, zT0, zT1, zT2, if_true, if_false, r0, rB, s192_33, s192_34, s192_37, s192_40, s192_43, s192_44, s192_47, s192_50, s192_53, s192_54, s192_57, s192_60, s192_63, s192_64, s192_66, s192_69, h1, h2, h3]
theorem t45t_80 (hg : S 81 0 = 0 ∨ S 82 3 = 0 ∨ S 89 7 = 0) : zcall 45 [.ref 81] zRc S L = some (some (.int 1), zRc, S, L) := by
  unfold zcall
  by_cases h1 : S 81 0 = 0
  · simp (config := {maxSteps := 1000000}) (disch := omega) only [↓reduceIte, Int32.reduceLT, Int32.reduceLE, Int32.reduceToNatClampNeg, Int32.reduceAdd, Int32.reduceSub, Int32.reduceMul, Nat.reduceLeDiff, zEL, zup_ne, zup_eq, zT0, zT1, zT2, if_true, if_false, gT, ze_45, s45_0, s45_1, s45_4, s45_7, s45_8, s45_11, s45_14, s45_17, s45_18, s45_21, s45_24, s45_27, s45_28, s45_31, s45_32, h1]
  · by_cases h2 : S 82 3 = 0
    · simp (config := {maxSteps := 1000000}) (disch := omega) only [↓reduceIte, Int32.reduceLT, Int32.reduceLE, Int32.reduceToNatClampNeg, Int32.reduceAdd, Int32.reduceSub, Int32.reduceMul, Nat.reduceLeDiff, zEL, zup_ne, zup_eq, zT0, zT1, zT2, if_true, if_false, gT, ze_45, s45_0, s45_1, s45_4, s45_7, s45_8, s45_11, s45_14, s45_17, s45_18, s45_21, s45_24, s45_27, s45_28, s45_31, s45_32, h1, h2]
    · have h3 : S 89 7 = 0 := (hg.resolve_left h1).resolve_left h2
      simp (config := {maxSteps := 1000000}) (disch := omega) only [↓reduceIte, Int32.reduceLT, Int32.reduceLE, Int32.reduceToNatClampNeg, Int32.reduceAdd, Int32.reduceSub, Int32.reduceMul, Nat.reduceLeDiff, zEL, zup_ne, zup_eq, zT0, zT1, zT2, if_true, if_false, gT, ze_45, s45_0, s45_1, s45_4, s45_7, s45_8, s45_11, s45_14, s45_17, s45_18, s45_21, s45_24, s45_27, s45_28, s45_31, s45_32, h1, h2, h3]
theorem t45f_80 (h1 : ¬ S 81 0 = 0) (h2 : ¬ S 82 3 = 0) (h3 : ¬ S 89 7 = 0) : zcall 45 [.ref 81] zRc S L = some (some (.int 0), zRc, S, L) := by
  unfold zcall
  simp (config := {maxSteps := 1000000}) (disch := omega) only [↓reduceIte, Int32.reduceLT, Int32.reduceLE, Int32.reduceToNatClampNeg, Int32.reduceAdd, Int32.reduceSub, Int32.reduceMul, Nat.reduceLeDiff, zEL, zup_ne, zup_eq, zT0, zT1, zT2, if_true, if_false, gT, ze_45, s45_0, s45_1, s45_4, s45_7, s45_8, s45_11, s45_14, s45_17, s45_18, s45_21, s45_24, s45_27, s45_28, s45_31, s45_32, h1, h2, h3]
theorem end1_80 {x i : Int32} (hR : zLT R) (h : zST 80 n b S Sm Lm) : ∃ S' Sm', zgo 47 286 [.ref 80, .int x, .int 0, .int i] [] zRc S L = zgo 47 301 [.ref 80, .int x, .int 0, .int i] [] zRc S' L ∧ zgo 192 20 [.ref 0, .int 0] [] R Sm Lm = zgo 192 33 [.ref 0, .int 0] [] R Sm' Lm ∧ zST 80 n b S' Sm' Lm ∧ zfr 80 S Sm Lm S' Sm' Lm ∧ (S' 80 6 = 0 → S 80 6 = 0) := by
  have r0 := hR
  unfold zLT at r0
  obtain ⟨p, q, hT, hO⟩ := h
  have t2 := hT.2.2.2.2.1
  have hr := @zkN_r n p q b
  rcases hO with hO | hF
  · have h6 := hO.1
    obtain ⟨m8, m9, -⟩ := hO.2.2.2
    by_cases hk : zkN b n p q = 0
    · rw [hk] at t2 m9
      have t2 : S 1 2 = 0 := t2
      have m9 : Sm 0 9 = 1 := m9
      refine ⟨S, Sm, ?_, ?_, ⟨p, q, hT, .inl hO⟩, zfr_r, fun h => h⟩
      · simp (config := {maxSteps := 1000000}) (disch := omega) only [↓reduceIte, Int32.reduceLT, Int32.reduceLE, Int32.reduceToNatClampNeg, Int32.reduceAdd, Int32.reduceSub, Int32.reduceMul, Nat.reduceLeDiff, zEL, zup_ne, zup_eq, zT0, zT1, zT2, if_true, if_false, gR, gX, s47_286, s47_287, s47_290, s47_293, s47_296, s47_297, s47_298, t2]
      · simp (config := {maxSteps := 1000000}) (disch := omega) only [↓reduceIte, Int32.reduceLT, Int32.reduceLE, Int32.reduceToNatClampNeg, Int32.reduceAdd, Int32.reduceSub, Int32.reduceMul, Nat.reduceLeDiff, zEL, zup_ne, zup_eq, zT0, zT1, zT2, if_true, if_false, r0, s192_20, s192_21, s192_24, s192_25, s192_28, s192_29, s192_30, m9]
    · obtain ⟨f1, f2, f3, f4, -⟩ := zFk_80 (f := 1) rfl (by omega) (by omega) hT hO
      have k3 : zcall 58 [.ref 80, .int 1] zRc S L = _ := c58O_80 (L := L) (k := nI 1) h6
      have k4 : zcall 180 [.ref 0, .int 1] R Sm Lm = _ := m180O (Lm := Lm) (k := nI 1) hR (zOK_9 hO)
      have t3 : (S 1 2 = 0) = False := eq_false (by rw [t2]; intro h9; exact hk ((znI_inj (b := 0) (by omega) (by omega)).mp h9))
      have m92 : (nI (zst (zkN b n p q)) = 1) = False := by
        unfold zst
        rcases (show zkN b n p q = 1 ∨ zkN b n p q = 2 ∨ zkN b n p q = 3 ∨ zkN b n p q = 4 ∨ zkN b n p q = 5 by omega) with e | e | e | e | e <;> rw [e] <;> decide
      refine ⟨_, _, ?_, ?_, f1, f2, fun h => absurd h f3⟩
      · simp (config := {maxSteps := 1000000}) (disch := omega) only [↓reduceIte, Int32.reduceLT, Int32.reduceLE, Int32.reduceToNatClampNeg, Int32.reduceAdd, Int32.reduceSub, Int32.reduceMul, Nat.reduceLeDiff, zEL, zup_ne, zup_eq, zT0, zT1, zT2, if_true, if_false, gR, gX, s47_286, s47_287, s47_290, s47_293, s47_296, s47_297, s47_298, t3, k3]
      · simp (config := {maxSteps := 1000000}) (disch := omega) only [↓reduceIte, Int32.reduceLT, Int32.reduceLE, Int32.reduceToNatClampNeg, Int32.reduceAdd, Int32.reduceSub, Int32.reduceMul, Nat.reduceLeDiff, zEL, zup_ne, zup_eq, zT0, zT1, zT2, if_true, if_false, r0, s192_20, s192_21, s192_24, s192_25, s192_28, s192_29, s192_30, m9, m92, k4]
  · have hne := zFA_ne hF
    have k3 := fun k => c58F_80 (L := L) (k := k) hne
    have m9 : Sm 0 9 = 5 := by obtain ⟨f, pl, -, -, -, -, -, h9, -⟩ := hF; exact h9
    have k4 := fun k => m180F (Lm := Lm) (k := k) hR m9
    have c1 : ((5 : Int32) = 1) = False := by decide
    refine ⟨S, Sm, ?_, ?_, ⟨p, q, hT, .inr hF⟩, zfr_r, fun h => h⟩
    · by_cases h2 : S 1 2 = 0
      · simp (config := {maxSteps := 1000000}) (disch := omega) only [↓reduceIte, Int32.reduceLT, Int32.reduceLE, Int32.reduceToNatClampNeg, Int32.reduceAdd, Int32.reduceSub, Int32.reduceMul, Nat.reduceLeDiff, zEL, zup_ne, zup_eq, zT0, zT1, zT2, if_true, if_false, gR, gX, s47_286, s47_287, s47_290, s47_293, s47_296, s47_297, s47_298, h2]
      · simp (config := {maxSteps := 1000000}) (disch := omega) only [↓reduceIte, Int32.reduceLT, Int32.reduceLE, Int32.reduceToNatClampNeg, Int32.reduceAdd, Int32.reduceSub, Int32.reduceMul, Nat.reduceLeDiff, zEL, zup_ne, zup_eq, zT0, zT1, zT2, if_true, if_false, gR, gX, s47_286, s47_287, s47_290, s47_293, s47_296, s47_297, s47_298, h2, k3]
    · simp (config := {maxSteps := 1000000}) (disch := omega) only [↓reduceIte, Int32.reduceLT, Int32.reduceLE, Int32.reduceToNatClampNeg, Int32.reduceAdd, Int32.reduceSub, Int32.reduceMul, Nat.reduceLeDiff, zEL, zup_ne, zup_eq, zT0, zT1, zT2, if_true, if_false, r0, s192_20, s192_21, s192_24, s192_25, s192_28, s192_29, s192_30, m9, c1, k4]
theorem end_80 {x i : Int32} (hR : zLT R) (hB : zLB R B) (hB11 : 11 ≤ B) (h : zST 80 n b S Sm Lm) (hA : S 80 6 = 0 → ∃ N, zPA_80 B N S Sm L Lm) : ∃ S' Sm', zgo 47 286 [.ref 80, .int x, .int 0, .int i] [] zRc S L = some (some (.int (S' 80 6)), zRc, S', L) ∧ zgo 192 20 [.ref 0, .int 0] [] R Sm Lm = some (none, R, Sm', Lm) ∧ zST 80 n b S' Sm' Lm ∧ zfr 80 S Sm Lm S' Sm' Lm ∧ (S' 80 6 = 0 → S 80 6 = 0 ∧ ¬ S 81 0 = 0 ∧ ¬ S 82 3 = 0 ∧ ¬ S 89 7 = 0) := by
  obtain ⟨S1, Sm1, a1, a2, a3, a4, a5⟩ := end1_80 (L := L) (x := x) (i := i) hR h
  rw [a1, a2]
  have cM : ∀ j k, 81 ≤ j → j ≤ 156 → S1 j k = S j k := fun j k h1 h2 => a4.1 j k (by omega) (by omega)
  have mB : ∀ k, Sm1 B k = Sm B k := fun k => a4.2.1 B k (by omega)
  obtain ⟨p, q, hT, hO⟩ := a3
  rcases hO with hO | hF
  · have h6 := hO.1
    obtain ⟨N, c0, c1, c2, c3, c4, c5, c6, k, eN, hlw, hrf, hpl, hbl, hsi, hpr, hac, hsn, hgu, hnm, ek⟩ := hA (a5 h6)
    have g1 : S1 81 0 = 0 ↔ Sm1 B 0 = 0 := by
      rw [cM _ _ (by omega) (by omega), mB]
      rcases hlw with ⟨e1, e2⟩ | ⟨e1, -, -, -, -, ⟨cc, d1, d2, e2⟩, -⟩
      · rw [e1, e2]
      · rw [e1, e2]
        refine ⟨fun h => absurd h (by decide), fun h => ?_⟩
        have := (znI_inj (b := 0) (by omega) (by omega)).mp h
        omega
    have g2 : S1 82 3 = Sm1 B 6 := by
      rw [cM _ _ (by omega) (by omega), mB, hsn.2.1, hsn.2.2.1]
    have g3 : S1 89 7 = Sm1 B 8 := by
      rw [cM _ _ (by omega) (by omega), mB, hpl.2.1, hpl.2.2.1]
    by_cases hg : S1 81 0 = 0 ∨ S1 82 3 = 0 ∨ S1 89 7 = 0
    · have k1 := t45t_80 (L := L) hg
      rw [g1, g2, g3] at hg
      obtain ⟨f1, f2, f3, f4, -⟩ := zFk_80 (f := 6) rfl (by omega) (by omega) hT hO
      have k3 : zcall 58 [.ref 80, .int 6] zRc S1 L = _ := c58O_80 (L := L) (k := nI 6) h6
      have k4 : zcall 180 [.ref 0, .int 6] R Sm1 Lm = _ := m180O (Lm := Lm) (k := nI 6) hR (zOK_9 hO)
      refine ⟨_, _, ?_, m192t hR hB k4 hg, f1, zfr_t a4 f2, fun h => absurd h f3⟩
      simp (config := {maxSteps := 1000000}) (disch := omega) only [↓reduceIte, Int32.reduceLT, Int32.reduceLE, Int32.reduceToNatClampNeg, Int32.reduceAdd, Int32.reduceSub, Int32.reduceMul, Nat.reduceLeDiff, zEL, zup_ne, zup_eq, zT0, zT1, zT2, if_true, if_false, gR, gX, gT, s47_301, s47_302, s47_305, s47_308, s47_311, s47_312, s47_314, s47_317, s47_318, s47_321, k1, k3]
    · have h1 : ¬ S1 81 0 = 0 := fun h => hg (.inl h)
      have h2 : ¬ S1 82 3 = 0 := fun h => hg (.inr (.inl h))
      have h3 : ¬ S1 89 7 = 0 := fun h => hg (.inr (.inr h))
      have k1 := t45f_80 (L := L) h1 h2 h3
      refine ⟨S1, Sm1, ?_, m192f hR hB (fun h => h1 (g1.mpr h)) (g2 ▸ h2) (g3 ▸ h3), ⟨p, q, hT, .inl hO⟩, a4, fun h => ⟨a5 h, cM 81 0 (by omega) (by omega) ▸ h1, cM 82 3 (by omega) (by omega) ▸ h2, cM 89 7 (by omega) (by omega) ▸ h3⟩⟩
      simp (config := {maxSteps := 1000000}) (disch := omega) only [↓reduceIte, Int32.reduceLT, Int32.reduceLE, Int32.reduceToNatClampNeg, Int32.reduceAdd, Int32.reduceSub, Int32.reduceMul, Nat.reduceLeDiff, zEL, zup_ne, zup_eq, zT0, zT1, zT2, if_true, if_false, gR, gX, gT, s47_301, s47_302, s47_305, s47_308, s47_311, s47_312, s47_314, s47_317, s47_318, s47_321, k1]
  · have hne := zFA_ne hF
    have k3 := c58F_80 (L := L) (k := 6) hne
    have m9 : Sm1 0 9 = 5 := by obtain ⟨f, pl, -, -, -, -, -, h9, -⟩ := hF; exact h9
    have k4 := m180F (Lm := Lm) (k := 6) hR m9
    refine ⟨S1, Sm1, ?_, ?_, ⟨p, q, hT, .inr hF⟩, a4, fun h => absurd h hne⟩
    · by_cases hg : S1 81 0 = 0 ∨ S1 82 3 = 0 ∨ S1 89 7 = 0
      · have k1 := t45t_80 (L := L) hg
        simp (config := {maxSteps := 1000000}) (disch := omega) only [↓reduceIte, Int32.reduceLT, Int32.reduceLE, Int32.reduceToNatClampNeg, Int32.reduceAdd, Int32.reduceSub, Int32.reduceMul, Nat.reduceLeDiff, zEL, zup_ne, zup_eq, zT0, zT1, zT2, if_true, if_false, gR, gX, gT, s47_301, s47_302, s47_305, s47_308, s47_311, s47_312, s47_314, s47_317, s47_318, s47_321, k1, k3]
      · have k1 := t45f_80 (L := L) (fun h => hg (.inl h)) (fun h => hg (.inr (.inl h))) (fun h => hg (.inr (.inr h)))
        simp (config := {maxSteps := 1000000}) (disch := omega) only [↓reduceIte, Int32.reduceLT, Int32.reduceLE, Int32.reduceToNatClampNeg, Int32.reduceAdd, Int32.reduceSub, Int32.reduceMul, Nat.reduceLeDiff, zEL, zup_ne, zup_eq, zT0, zT1, zT2, if_true, if_false, gR, gX, gT, s47_301, s47_302, s47_305, s47_308, s47_311, s47_312, s47_314, s47_317, s47_318, s47_321, k1]
    · by_cases hg : Sm1 B 0 = 0 ∨ Sm1 B 6 = 0 ∨ Sm1 B 8 = 0
      · exact m192t hR hB k4 hg
      · exact m192f hR hB (fun h => hg (.inl h)) (fun h => hg (.inr (.inl h))) (fun h => hg (.inr (.inr h)))
theorem t45t_162 (hg : S 4 0 = 0 ∨ S 5 3 = 0 ∨ S 12 7 = 0) : zcall 45 [.ref 4] zRc S L = some (some (.int 1), zRc, S, L) := by
  unfold zcall
  by_cases h1 : S 4 0 = 0
  · simp (config := {maxSteps := 1000000}) (disch := omega) only [↓reduceIte, Int32.reduceLT, Int32.reduceLE, Int32.reduceToNatClampNeg, Int32.reduceAdd, Int32.reduceSub, Int32.reduceMul, Nat.reduceLeDiff, zEL, zup_ne, zup_eq, zT0, zT1, zT2, if_true, if_false, gM, ze_45, s45_0, s45_1, s45_4, s45_7, s45_8, s45_11, s45_14, s45_17, s45_18, s45_21, s45_24, s45_27, s45_28, s45_31, s45_32, h1]
  · by_cases h2 : S 5 3 = 0
    · simp (config := {maxSteps := 1000000}) (disch := omega) only [↓reduceIte, Int32.reduceLT, Int32.reduceLE, Int32.reduceToNatClampNeg, Int32.reduceAdd, Int32.reduceSub, Int32.reduceMul, Nat.reduceLeDiff, zEL, zup_ne, zup_eq, zT0, zT1, zT2, if_true, if_false, gM, ze_45, s45_0, s45_1, s45_4, s45_7, s45_8, s45_11, s45_14, s45_17, s45_18, s45_21, s45_24, s45_27, s45_28, s45_31, s45_32, h1, h2]
    · have h3 : S 12 7 = 0 := (hg.resolve_left h1).resolve_left h2
      simp (config := {maxSteps := 1000000}) (disch := omega) only [↓reduceIte, Int32.reduceLT, Int32.reduceLE, Int32.reduceToNatClampNeg, Int32.reduceAdd, Int32.reduceSub, Int32.reduceMul, Nat.reduceLeDiff, zEL, zup_ne, zup_eq, zT0, zT1, zT2, if_true, if_false, gM, ze_45, s45_0, s45_1, s45_4, s45_7, s45_8, s45_11, s45_14, s45_17, s45_18, s45_21, s45_24, s45_27, s45_28, s45_31, s45_32, h1, h2, h3]
theorem t45f_162 (h1 : ¬ S 4 0 = 0) (h2 : ¬ S 5 3 = 0) (h3 : ¬ S 12 7 = 0) : zcall 45 [.ref 4] zRc S L = some (some (.int 0), zRc, S, L) := by
  unfold zcall
  simp (config := {maxSteps := 1000000}) (disch := omega) only [↓reduceIte, Int32.reduceLT, Int32.reduceLE, Int32.reduceToNatClampNeg, Int32.reduceAdd, Int32.reduceSub, Int32.reduceMul, Nat.reduceLeDiff, zEL, zup_ne, zup_eq, zT0, zT1, zT2, if_true, if_false, gM, ze_45, s45_0, s45_1, s45_4, s45_7, s45_8, s45_11, s45_14, s45_17, s45_18, s45_21, s45_24, s45_27, s45_28, s45_31, s45_32, h1, h2, h3]
theorem end1_162 {x i : Int32} (hR : zLT R) (h : zST 162 n b S Sm Lm) : ∃ S' Sm', zgo 47 286 [.ref 162, .int x, .int 0, .int i] [] zRc S L = zgo 47 301 [.ref 162, .int x, .int 0, .int i] [] zRc S' L ∧ zgo 192 20 [.ref 0, .int 0] [] R Sm Lm = zgo 192 33 [.ref 0, .int 0] [] R Sm' Lm ∧ zST 162 n b S' Sm' Lm ∧ zfr 162 S Sm Lm S' Sm' Lm ∧ (S' 162 6 = 0 → S 162 6 = 0) := by
  have r0 := hR
  unfold zLT at r0
  obtain ⟨p, q, hT, hO⟩ := h
  have t2 := hT.2.2.2.2.1
  have hr := @zkN_r n p q b
  rcases hO with hO | hF
  · have h6 := hO.1
    obtain ⟨m8, m9, -⟩ := hO.2.2.2
    by_cases hk : zkN b n p q = 0
    · rw [hk] at t2 m9
      have t2 : S 1 2 = 0 := t2
      have m9 : Sm 0 9 = 1 := m9
      refine ⟨S, Sm, ?_, ?_, ⟨p, q, hT, .inl hO⟩, zfr_r, fun h => h⟩
      · simp (config := {maxSteps := 1000000}) (disch := omega) only [↓reduceIte, Int32.reduceLT, Int32.reduceLE, Int32.reduceToNatClampNeg, Int32.reduceAdd, Int32.reduceSub, Int32.reduceMul, Nat.reduceLeDiff, zEL, zup_ne, zup_eq, zT0, zT1, zT2, if_true, if_false, gR, gX, s47_286, s47_287, s47_290, s47_293, s47_296, s47_297, s47_298, t2]
      · simp (config := {maxSteps := 1000000}) (disch := omega) only [↓reduceIte, Int32.reduceLT, Int32.reduceLE, Int32.reduceToNatClampNeg, Int32.reduceAdd, Int32.reduceSub, Int32.reduceMul, Nat.reduceLeDiff, zEL, zup_ne, zup_eq, zT0, zT1, zT2, if_true, if_false, r0, s192_20, s192_21, s192_24, s192_25, s192_28, s192_29, s192_30, m9]
    · obtain ⟨f1, f2, f3, f4, -⟩ := zFk_162 (f := 1) rfl (by omega) (by omega) hT hO
      have k3 : zcall 58 [.ref 162, .int 1] zRc S L = _ := c58O_162 (L := L) (k := nI 1) h6
      have k4 : zcall 180 [.ref 0, .int 1] R Sm Lm = _ := m180O (Lm := Lm) (k := nI 1) hR (zOK_9 hO)
      have t3 : (S 1 2 = 0) = False := eq_false (by rw [t2]; intro h9; exact hk ((znI_inj (b := 0) (by omega) (by omega)).mp h9))
      have m92 : (nI (zst (zkN b n p q)) = 1) = False := by
        unfold zst
        rcases (show zkN b n p q = 1 ∨ zkN b n p q = 2 ∨ zkN b n p q = 3 ∨ zkN b n p q = 4 ∨ zkN b n p q = 5 by omega) with e | e | e | e | e <;> rw [e] <;> decide
      refine ⟨_, _, ?_, ?_, f1, f2, fun h => absurd h f3⟩
      · simp (config := {maxSteps := 1000000}) (disch := omega) only [↓reduceIte, Int32.reduceLT, Int32.reduceLE, Int32.reduceToNatClampNeg, Int32.reduceAdd, Int32.reduceSub, Int32.reduceMul, Nat.reduceLeDiff, zEL, zup_ne, zup_eq, zT0, zT1, zT2, if_true, if_false, gR, gX, s47_286, s47_287, s47_290, s47_293, s47_296, s47_297, s47_298, t3, k3]
      · simp (config := {maxSteps := 1000000}) (disch := omega) only [↓reduceIte, Int32.reduceLT, Int32.reduceLE, Int32.reduceToNatClampNeg, Int32.reduceAdd, Int32.reduceSub, Int32.reduceMul, Nat.reduceLeDiff, zEL, zup_ne, zup_eq, zT0, zT1, zT2, if_true, if_false, r0, s192_20, s192_21, s192_24, s192_25, s192_28, s192_29, s192_30, m9, m92, k4]
  · have hne := zFA_ne hF
    have k3 := fun k => c58F_162 (L := L) (k := k) hne
    have m9 : Sm 0 9 = 5 := by obtain ⟨f, pl, -, -, -, -, -, h9, -⟩ := hF; exact h9
    have k4 := fun k => m180F (Lm := Lm) (k := k) hR m9
    have c1 : ((5 : Int32) = 1) = False := by decide
    refine ⟨S, Sm, ?_, ?_, ⟨p, q, hT, .inr hF⟩, zfr_r, fun h => h⟩
    · by_cases h2 : S 1 2 = 0
      · simp (config := {maxSteps := 1000000}) (disch := omega) only [↓reduceIte, Int32.reduceLT, Int32.reduceLE, Int32.reduceToNatClampNeg, Int32.reduceAdd, Int32.reduceSub, Int32.reduceMul, Nat.reduceLeDiff, zEL, zup_ne, zup_eq, zT0, zT1, zT2, if_true, if_false, gR, gX, s47_286, s47_287, s47_290, s47_293, s47_296, s47_297, s47_298, h2]
      · simp (config := {maxSteps := 1000000}) (disch := omega) only [↓reduceIte, Int32.reduceLT, Int32.reduceLE, Int32.reduceToNatClampNeg, Int32.reduceAdd, Int32.reduceSub, Int32.reduceMul, Nat.reduceLeDiff, zEL, zup_ne, zup_eq, zT0, zT1, zT2, if_true, if_false, gR, gX, s47_286, s47_287, s47_290, s47_293, s47_296, s47_297, s47_298, h2, k3]
    · simp (config := {maxSteps := 1000000}) (disch := omega) only [↓reduceIte, Int32.reduceLT, Int32.reduceLE, Int32.reduceToNatClampNeg, Int32.reduceAdd, Int32.reduceSub, Int32.reduceMul, Nat.reduceLeDiff, zEL, zup_ne, zup_eq, zT0, zT1, zT2, if_true, if_false, r0, s192_20, s192_21, s192_24, s192_25, s192_28, s192_29, s192_30, m9, c1, k4]
theorem end_162 {x i : Int32} (hR : zLT R) (hB : zLB R B) (hB11 : 11 ≤ B) (h : zST 162 n b S Sm Lm) (hA : S 162 6 = 0 → ∃ N, zPA_162 B N S Sm L Lm) : ∃ S' Sm', zgo 47 286 [.ref 162, .int x, .int 0, .int i] [] zRc S L = some (some (.int (S' 162 6)), zRc, S', L) ∧ zgo 192 20 [.ref 0, .int 0] [] R Sm Lm = some (none, R, Sm', Lm) ∧ zST 162 n b S' Sm' Lm ∧ zfr 162 S Sm Lm S' Sm' Lm ∧ (S' 162 6 = 0 → S 162 6 = 0 ∧ ¬ S 4 0 = 0 ∧ ¬ S 5 3 = 0 ∧ ¬ S 12 7 = 0) := by
  obtain ⟨S1, Sm1, a1, a2, a3, a4, a5⟩ := end1_162 (L := L) (x := x) (i := i) hR h
  rw [a1, a2]
  have cM : ∀ j k, 4 ≤ j → j ≤ 79 → S1 j k = S j k := fun j k h1 h2 => a4.1 j k (by omega) (by omega)
  have mB : ∀ k, Sm1 B k = Sm B k := fun k => a4.2.1 B k (by omega)
  obtain ⟨p, q, hT, hO⟩ := a3
  rcases hO with hO | hF
  · have h6 := hO.1
    obtain ⟨N, c0, c1, c2, c3, c4, c5, c6, k, eN, hlw, hrf, hpl, hbl, hsi, hpr, hac, hsn, hgu, hnm, ek⟩ := hA (a5 h6)
    have g1 : S1 4 0 = 0 ↔ Sm1 B 0 = 0 := by
      rw [cM _ _ (by omega) (by omega), mB]
      rcases hlw with ⟨e1, e2⟩ | ⟨e1, -, -, -, -, ⟨cc, d1, d2, e2⟩, -⟩
      · rw [e1, e2]
      · rw [e1, e2]
        refine ⟨fun h => absurd h (by decide), fun h => ?_⟩
        have := (znI_inj (b := 0) (by omega) (by omega)).mp h
        omega
    have g2 : S1 5 3 = Sm1 B 6 := by
      rw [cM _ _ (by omega) (by omega), mB, hsn.2.1, hsn.2.2.1]
    have g3 : S1 12 7 = Sm1 B 8 := by
      rw [cM _ _ (by omega) (by omega), mB, hpl.2.1, hpl.2.2.1]
    by_cases hg : S1 4 0 = 0 ∨ S1 5 3 = 0 ∨ S1 12 7 = 0
    · have k1 := t45t_162 (L := L) hg
      rw [g1, g2, g3] at hg
      obtain ⟨f1, f2, f3, f4, -⟩ := zFk_162 (f := 6) rfl (by omega) (by omega) hT hO
      have k3 : zcall 58 [.ref 162, .int 6] zRc S1 L = _ := c58O_162 (L := L) (k := nI 6) h6
      have k4 : zcall 180 [.ref 0, .int 6] R Sm1 Lm = _ := m180O (Lm := Lm) (k := nI 6) hR (zOK_9 hO)
      refine ⟨_, _, ?_, m192t hR hB k4 hg, f1, zfr_t a4 f2, fun h => absurd h f3⟩
      simp (config := {maxSteps := 1000000}) (disch := omega) only [↓reduceIte, Int32.reduceLT, Int32.reduceLE, Int32.reduceToNatClampNeg, Int32.reduceAdd, Int32.reduceSub, Int32.reduceMul, Nat.reduceLeDiff, zEL, zup_ne, zup_eq, zT0, zT1, zT2, if_true, if_false, gR, gX, gM, s47_301, s47_302, s47_305, s47_308, s47_311, s47_312, s47_314, s47_317, s47_318, s47_321, k1, k3]
    · have h1 : ¬ S1 4 0 = 0 := fun h => hg (.inl h)
      have h2 : ¬ S1 5 3 = 0 := fun h => hg (.inr (.inl h))
      have h3 : ¬ S1 12 7 = 0 := fun h => hg (.inr (.inr h))
      have k1 := t45f_162 (L := L) h1 h2 h3
      refine ⟨S1, Sm1, ?_, m192f hR hB (fun h => h1 (g1.mpr h)) (g2 ▸ h2) (g3 ▸ h3), ⟨p, q, hT, .inl hO⟩, a4, fun h => ⟨a5 h, cM 4 0 (by omega) (by omega) ▸ h1, cM 5 3 (by omega) (by omega) ▸ h2, cM 12 7 (by omega) (by omega) ▸ h3⟩⟩
      simp (config := {maxSteps := 1000000}) (disch := omega) only [↓reduceIte, Int32.reduceLT, Int32.reduceLE, Int32.reduceToNatClampNeg, Int32.reduceAdd, Int32.reduceSub, Int32.reduceMul, Nat.reduceLeDiff, zEL, zup_ne, zup_eq, zT0, zT1, zT2, if_true, if_false, gR, gX, gM, s47_301, s47_302, s47_305, s47_308, s47_311, s47_312, s47_314, s47_317, s47_318, s47_321, k1]
  · have hne := zFA_ne hF
    have k3 := c58F_162 (L := L) (k := 6) hne
    have m9 : Sm1 0 9 = 5 := by obtain ⟨f, pl, -, -, -, -, -, h9, -⟩ := hF; exact h9
    have k4 := m180F (Lm := Lm) (k := 6) hR m9
    refine ⟨S1, Sm1, ?_, ?_, ⟨p, q, hT, .inr hF⟩, a4, fun h => absurd h hne⟩
    · by_cases hg : S1 4 0 = 0 ∨ S1 5 3 = 0 ∨ S1 12 7 = 0
      · have k1 := t45t_162 (L := L) hg
        simp (config := {maxSteps := 1000000}) (disch := omega) only [↓reduceIte, Int32.reduceLT, Int32.reduceLE, Int32.reduceToNatClampNeg, Int32.reduceAdd, Int32.reduceSub, Int32.reduceMul, Nat.reduceLeDiff, zEL, zup_ne, zup_eq, zT0, zT1, zT2, if_true, if_false, gR, gX, gM, s47_301, s47_302, s47_305, s47_308, s47_311, s47_312, s47_314, s47_317, s47_318, s47_321, k1, k3]
      · have k1 := t45f_162 (L := L) (fun h => hg (.inl h)) (fun h => hg (.inr (.inl h))) (fun h => hg (.inr (.inr h)))
        simp (config := {maxSteps := 1000000}) (disch := omega) only [↓reduceIte, Int32.reduceLT, Int32.reduceLE, Int32.reduceToNatClampNeg, Int32.reduceAdd, Int32.reduceSub, Int32.reduceMul, Nat.reduceLeDiff, zEL, zup_ne, zup_eq, zT0, zT1, zT2, if_true, if_false, gR, gX, gM, s47_301, s47_302, s47_305, s47_308, s47_311, s47_312, s47_314, s47_317, s47_318, s47_321, k1]
    · by_cases hg : Sm1 B 0 = 0 ∨ Sm1 B 6 = 0 ∨ Sm1 B 8 = 0
      · exact m192t hR hB k4 hg
      · exact m192f hR hB (fun h => hg (.inl h)) (fun h => hg (.inr (.inl h))) (fun h => hg (.inr (.inr h)))
end ZPJ
