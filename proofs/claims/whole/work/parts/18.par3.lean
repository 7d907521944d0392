/-! THE TEXT: a TOKEN of both; words -/
section ZP3
variable {S Sm : zS} {L Lm : zL} {R : List zE} {n B : Nat} {b : Nat → Nat}
/-- the reference's sort of a kind -/
def zst (k : Nat) : Nat := if k = 0 then 1 else if k = 1 then 2 else if k = 2 then 3 else if k = 3 then 4 else if k = 4 then 4 else 0
/-- the TOKEN at p, on the reference's side -/
def zTM1 (n : Nat) (b : Nat → Nat) (p q : Nat) (Sm : zS) (Lm : zL) : Prop :=
  Sm 0 8 = nI p ∧ Sm 0 9 = nI (zst (zkN b n p q)) ∧ (1 ≤ zkN b n p q → zkN b n p q ≤ 4 → Sm 0 10 = nI (zaN b n p q)) ∧ (zkN b n p q = 3 → Sm 0 11 = 59) ∧ (zkN b n p q = 4 → Sm 0 11 = 44) ∧ (zkN b n p q = 1 → Lm 0 15 = lN (zco b p (q - p))) ∧ (zkN b n p q = 2 → Sm 0 12 = nI (znu b p (q - p)))
theorem m179 {a p q : Nat} (hR : zLT R) (hT : zTN n b Sm) (h10 : Sm 0 10 = nI a) (h9 : ¬ Sm 0 9 = 5) (hN : zNX b n a p q) : ∃ Sm' Lm', zcall 179 [.ref 0] R Sm Lm = some (none, R, Sm', Lm') ∧ (∀ j k, (j ≠ 0 ∨ (k ≠ 8 ∧ k ≠ 9 ∧ k ≠ 10 ∧ k ≠ 11 ∧ k ≠ 12)) → Sm' j k = Sm j k) ∧ (∀ j k, (j ≠ 0 ∨ k ≠ 15) → Lm' j k = Lm j k) ∧ zTM1 n b p q Sm' Lm' := by
  have r := hR
  unfold zLT at r
  obtain ⟨⟨p1, p2, p3, p4⟩, hq⟩ := hN
  have hn9 : n ≤ 900 := hT.1
  have st := m179a (L := Lm) hR (p - a) a (by omega) p2 p3 p4 Sm hT h10 (.retAddr 0) (.retAddr 0)
  have a0 : zcall 179 [.ref 0] R Sm Lm = zgo 179 35 [.ref 0, .retAddr 0, .retAddr 0] [] R (zup Sm 0 10 (nI p)) Lm := by
    rw [← st]
    unfold zcall
    simp (config := {maxSteps := 1000000}) (disch := omega) only [↓reduceIte, Int32.reduceLT, Int32.reduceLE, Int32.reduceToNatClampNeg, Int32.reduceAdd, Int32.reduceSub, Int32.reduceMul, Nat.reduceLeDiff, zEL, zup_ne, zup_eq, zT0, zT1, zT2, if_true, if_false, r, ze_179, s179_0, s179_1, s179_4, s179_5, s179_8, h9]
  obtain ⟨Y, hY⟩ : ∃ Y, Y = zup (zup (zup (zup Sm 0 10 (nI p)) 0 8 (nI p)) 0 9 0) 0 11 0 := ⟨_, rfl⟩
  have hTY : zTN n b Y := by rw [hY]; exact zTN_fr hT (by rw [zup_ne (by omega), zup_ne (by omega), zup_ne (by omega), zup_ne (by omega)]) (fun i => by rw [zup_ne (by omega), zup_ne (by omega), zup_ne (by omega), zup_ne (by omega)])
  have hYf : ∀ j k, (j ≠ 0 ∨ (k ≠ 8 ∧ k ≠ 9 ∧ k ≠ 10 ∧ k ≠ 11)) → Y j k = Sm j k := fun j k h => by rw [hY, zup_ne (by omega), zup_ne (by omega), zup_ne (by omega), zup_ne (by omega)]
  have y8 : Y 0 8 = nI p := by rw [hY, zup_ne (by omega), zup_ne (by omega), zup_eq rfl rfl]
  have y9 : Y 0 9 = 0 := by rw [hY, zup_ne (by omega), zup_eq rfl rfl]
  have y10 : Y 0 10 = nI p := by rw [hY, zup_ne (by omega), zup_ne (by omega), zup_ne (by omega), zup_eq rfl rfl]
  have hb := m175 (Lm := Lm) hR hTY (i := p) (by omega)
  by_cases e : p = n
  · rw [if_neg (by omega)] at hb
    have ek : zkN b n p q = 0 := by rw [zkN, if_pos e]
    refine ⟨zup Y 0 9 1, Lm, ?_, fun j k hj => ?_, fun _ _ _ => rfl, ?_⟩
    · rw [a0]
      simp (config := {maxSteps := 1000000}) (disch := omega) only [↓reduceIte, Int32.reduceLT, Int32.reduceLE, Int32.reduceToNatClampNeg, Int32.reduceAdd, Int32.reduceSub, Int32.reduceMul, Nat.reduceLeDiff, zEL, zup_ne, zup_eq, zT0, zT1, zT2, if_true, if_false, r, s179_35, s179_36, s179_37, s179_40, s179_43, s179_44, s179_45, s179_48, s179_49, s179_50, s179_53, s179_54, s179_55, s179_58, s179_61, s179_62, s179_63, s179_64, s179_65, s179_66, s179_69, s179_70, s179_71, s179_74, s179_77, s179_78, s179_81, s179_84, s179_85, s179_86, s179_281, ← hY, y10, hb]
    · rw [zup_ne (by omega)]
      exact hYf j k (by omega)
    · rw [zTM1, ek]
      exact ⟨by rw [zup_ne (by omega)]; exact y8, by rw [zup_eq rfl rfl]; rfl, fun h => by omega, fun h => by omega, fun h => by omega, fun h => by omega, fun h => by omega⟩
  · rw [if_pos (by omega)] at hb
    obtain ⟨q1, q2, q3, q4⟩ := hq (by omega)
    have b1 := (hT.2.2 p (by omega)).1
    have hr := @zkd_r (b p)
    have nm1 : (nI (b p) = -1) = False := znm1 (by omega)
    have k1 := m176 (R := R) (S := Y) (L := Lm) b1
    have k2 := m177 (R := R) (S := Y) (L := Lm) b1
    by_cases h1 : zkd (b p) = 1
    · rw [if_pos h1] at k1
      obtain ⟨L', r1, r2, r3⟩ := m179b (p := p) (q := q) (c1 := nI (b p)) hR q2 (q - p) p (by omega) (Nat.le_refl _) (fun j h2 h3 => by
        by_cases e2 : j = p
        · rw [e2]
          exact h1
        · exact (q3 j (by omega) h3).trans h1) (fun h => by have := q4 h; rw [h1] at this; exact this) Y (zup Lm 0 15 0) hTY y10 (fun _ => by rw [zup_eq rfl rfl, Nat.sub_self]; rfl)
      have a1 : zcall 179 [.ref 0] R Sm Lm = zgo 179 152 [.ref 0, .int (nI (b p)), .int (nI (q - p))] [] R (zup Y 0 10 (nI q)) L' := by
        rw [← r1, a0]
        simp (config := {maxSteps := 1000000}) (disch := omega) only [↓reduceIte, Int32.reduceLT, Int32.reduceLE, Int32.reduceToNatClampNeg, Int32.reduceAdd, Int32.reduceSub, Int32.reduceMul, Nat.reduceLeDiff, zEL, zup_ne, zup_eq, zT0, zT1, zT2, if_true, if_false, r, s179_35, s179_36, s179_37, s179_40, s179_43, s179_44, s179_45, s179_48, s179_49, s179_50, s179_53, s179_54, s179_55, s179_58, s179_61, s179_62, s179_63, s179_64, s179_65, s179_66, s179_69, s179_70, s179_71, s179_74, s179_77, s179_78, s179_81, s179_84, s179_85, s179_86, ← hY, y10, hb, nm1, k1]
        all_goals (rw [Nat.sub_self]; rfl)
      have ea : zaN b n p q = q := by rw [zaN, if_neg e, if_pos h1]
      by_cases h8 : q - p ≤ 8
      · have ek : zkN b n p q = 1 := by rw [zkN, if_neg e, if_pos h1, if_pos h8]
        refine ⟨zup (zup Y 0 10 (nI q)) 0 9 2, L', a1.trans ?_, fun j k hj => ?_, fun j k hj => (r2 j k hj).trans (zup_ne (by omega)), ?_⟩
        · simp (config := {maxSteps := 1000000}) (disch := omega) only [↓reduceIte, Int32.reduceLT, Int32.reduceLE, Int32.reduceToNatClampNeg, Int32.reduceAdd, Int32.reduceSub, Int32.reduceMul, Nat.reduceLeDiff, zEL, zup_ne, zup_eq, zT0, zT1, zT2, if_true, if_false, zneq_f, true_and, and_true, false_and, and_false, zKL, eq_self, Nat.reduceEqDiff, zite0, ite_not, zaddr, zaddl, zputr, zsb1, zsb2, zsb0, zsbm, znm1, r, s179_152, s179_153, s179_155, s179_158, s179_159, s179_160, s179_163, s179_281]
        · rw [zup_ne (by omega), zup_ne (by omega)]
          exact hYf j k (by omega)
        · rw [zTM1, ek, ea]
          exact ⟨by rw [zup_ne (by omega), zup_ne (by omega)]; exact y8, by rw [zup_eq rfl rfl]; rfl, fun _ _ => by rw [zup_ne (by omega), zup_eq rfl rfl], fun h => by omega, fun h => by omega, fun _ => r3 h8, fun h => by omega⟩
      · have ek : zkN b n p q = 5 := by rw [zkN, if_neg e, if_pos h1, if_neg h8]
        refine ⟨zup Y 0 10 (nI q), L', a1.trans ?_, fun j k hj => ?_, fun j k hj => (r2 j k hj).trans (zup_ne (by omega)), ?_⟩
        · simp (config := {maxSteps := 1000000}) (disch := omega) only [↓reduceIte, Int32.reduceLT, Int32.reduceLE, Int32.reduceToNatClampNeg, Int32.reduceAdd, Int32.reduceSub, Int32.reduceMul, Nat.reduceLeDiff, zEL, zup_ne, zup_eq, zT0, zT1, zT2, if_true, if_false, zneq_f, true_and, and_true, false_and, and_false, zKL, eq_self, Nat.reduceEqDiff, zite0, ite_not, zaddr, zaddl, zputr, zsb1, zsb2, zsb0, zsbm, znm1, r, s179_152, s179_153, s179_155, s179_158, s179_159, s179_160, s179_163, s179_281]
        · rw [zup_ne (by omega)]
          exact hYf j k (by omega)
        · rw [zTM1, ek]
          exact ⟨by rw [zup_ne (by omega)]; exact y8, by rw [zup_ne (by omega)]; exact y9, fun _ h => by omega, fun h => by omega, fun h => by omega, fun h => by omega, fun h => by omega⟩
    · rw [if_neg h1] at k1
      by_cases h2 : zkd (b p) = 2
      · rw [if_pos h2] at k2
        obtain ⟨S', r1, r2, r3, r4⟩ := m179c (L := Lm) (p := p) (q := q) (c1 := nI (b p)) hR q2 (q - p) p (by omega) (Nat.le_refl _) (fun j h4 h3 => by
          by_cases e2 : j = p
          · rw [e2]
            exact h2
          · exact (q3 j (by omega) h3).trans h2) (fun h => by have := q4 h; rw [h2] at this; exact this) (zup Y 0 12 0) (zTN_fr hTY (zup_ne (by omega)) (fun i => zup_ne (by omega))) (by rw [zup_ne (by omega)]; exact y10) (fun _ => by rw [zup_eq rfl rfl, Nat.sub_self]; rfl)
        have a1 : zcall 179 [.ref 0] R Sm Lm = zgo 179 236 [.ref 0, .int (nI (b p)), .int (nI (q - p))] [] R S' Lm := by
          rw [← r1, a0]
          simp (config := {maxSteps := 1000000}) (disch := omega) only [↓reduceIte, Int32.reduceLT, Int32.reduceLE, Int32.reduceToNatClampNeg, Int32.reduceAdd, Int32.reduceSub, Int32.reduceMul, Nat.reduceLeDiff, zEL, zup_ne, zup_eq, zT0, zT1, zT2, if_true, if_false, r, s179_35, s179_36, s179_37, s179_40, s179_43, s179_44, s179_45, s179_48, s179_49, s179_50, s179_53, s179_54, s179_55, s179_58, s179_61, s179_62, s179_63, s179_64, s179_65, s179_66, s179_69, s179_70, s179_71, s179_74, s179_77, s179_78, s179_81, s179_84, s179_85, s179_86, s179_166, s179_167, s179_170, s179_173, s179_174, s179_175, ← hY, y10, hb, nm1, k1, k2]
          all_goals (rw [Nat.sub_self]; rfl)
        have ea : zaN b n p q = q := by rw [zaN, if_neg e, if_neg h1, if_pos h2]
        have s9 : S' 0 9 = 0 := (r2 0 9 (by omega)).trans ((zup_ne (by omega)).trans y9)
        have s8 : S' 0 8 = nI p := (r2 0 8 (by omega)).trans ((zup_ne (by omega)).trans y8)
        have sf : ∀ j k, (j ≠ 0 ∨ (k ≠ 8 ∧ k ≠ 9 ∧ k ≠ 10 ∧ k ≠ 11 ∧ k ≠ 12)) → S' j k = Sm j k := fun j k hj => (r2 j k (by omega)).trans ((zup_ne (by omega)).trans (hYf j k (by omega)))
        by_cases h3 : q - p ≤ 3
        · have ek : zkN b n p q = 2 := by rw [zkN, if_neg e, if_neg h1, if_pos h2, if_pos h3]
          refine ⟨zup S' 0 9 3, Lm, a1.trans ?_, fun j k hj => ?_, fun _ _ _ => rfl, ?_⟩
          · simp (config := {maxSteps := 1000000}) (disch := omega) only [↓reduceIte, Int32.reduceLT, Int32.reduceLE, Int32.reduceToNatClampNeg, Int32.reduceAdd, Int32.reduceSub, Int32.reduceMul, Nat.reduceLeDiff, zEL, zup_ne, zup_eq, zT0, zT1, zT2, if_true, if_false, zneq_f, true_and, and_true, false_and, and_false, zKL, eq_self, Nat.reduceEqDiff, zite0, ite_not, zaddr, zaddl, zputr, zsb1, zsb2, zsb0, zsbm, znm1, r, s179_236, s179_237, s179_238, s179_241, s179_242, s179_243, s179_246, s179_281]
          · rw [zup_ne (by omega)]
            exact sf j k hj
          · rw [zTM1, ek, ea]
            exact ⟨by rw [zup_ne (by omega)]; exact s8, by rw [zup_eq rfl rfl]; rfl, fun _ _ => by rw [zup_ne (by omega)]; exact r3, fun h => by omega, fun h => by omega, fun h => by omega, fun _ => by rw [zup_ne (by omega)]; exact r4 h3⟩
        · have ek : zkN b n p q = 5 := by rw [zkN, if_neg e, if_neg h1, if_pos h2, if_neg h3]
          refine ⟨S', Lm, a1.trans ?_, sf, fun _ _ _ => rfl, ?_⟩
          · simp (config := {maxSteps := 1000000}) (disch := omega) only [↓reduceIte, Int32.reduceLT, Int32.reduceLE, Int32.reduceToNatClampNeg, Int32.reduceAdd, Int32.reduceSub, Int32.reduceMul, Nat.reduceLeDiff, zEL, zup_ne, zup_eq, zT0, zT1, zT2, if_true, if_false, zneq_f, true_and, and_true, false_and, and_false, zKL, eq_self, Nat.reduceEqDiff, zite0, ite_not, zaddr, zaddl, zputr, zsb1, zsb2, zsb0, zsbm, znm1, r, s179_236, s179_237, s179_238, s179_241, s179_242, s179_243, s179_246, s179_281]
          · rw [zTM1, ek]
            exact ⟨s8, s9, fun _ h => by omega, fun h => by omega, fun h => by omega, fun h => by omega, fun h => by omega⟩
      · rw [if_neg h2] at k2
        have ek : zkN b n p q = zkd (b p) := by rw [zkN, if_neg e, if_neg h1, if_neg h2]
        have ea : zaN b n p q = p + 1 := by rw [zaN, if_neg e, if_neg h1, if_neg h2]
        have m1 : ∀ c : Int32, nI (b p) = c → (c = 59 ∨ c = 44) → ∀ kd, zkd (b p) = kd → (kd = 3 ∧ c = 59 ∨ kd = 4 ∧ c = 44) → ∃ Sm' Lm', zcall 179 [.ref 0] R Sm Lm = some (none, R, Sm', Lm') ∧ (∀ j k, (j ≠ 0 ∨ (k ≠ 8 ∧ k ≠ 9 ∧ k ≠ 10 ∧ k ≠ 11 ∧ k ≠ 12)) → Sm' j k = Sm j k) ∧ (∀ j k, (j ≠ 0 ∨ k ≠ 15) → Lm' j k = Lm j k) ∧ zTM1 n b p q Sm' Lm' := fun c hc hc2 kd hkd hkc => by
          have c1 : ((44 : Int32) = 59) = False := by decide
          refine ⟨zup (zup (zup Y 0 9 4) 0 11 c) 0 10 (nI (p + 1)), Lm, ?_, fun j k hj => ?_, fun _ _ _ => rfl, ?_⟩
          · rw [a0]
            rw [hc] at hb nm1 k1 k2
            rcases hc2 with rfl | rfl
            · simp (config := {maxSteps := 1000000}) (disch := omega) only [↓reduceIte, Int32.reduceLT, Int32.reduceLE, Int32.reduceToNatClampNeg, Int32.reduceAdd, Int32.reduceSub, Int32.reduceMul, Nat.reduceLeDiff, zEL, zup_ne, zup_eq, zT0, zT1, zT2, if_true, if_false, r, s179_35, s179_36, s179_37, s179_40, s179_43, s179_44, s179_45, s179_48, s179_49, s179_50, s179_53, s179_54, s179_55, s179_58, s179_61, s179_62, s179_63, s179_64, s179_65, s179_66, s179_69, s179_70, s179_71, s179_74, s179_77, s179_78, s179_81, s179_84, s179_85, s179_86, s179_166, s179_167, s179_170, s179_173, s179_174, s179_175, s179_249, s179_250, s179_252, s179_255, s179_256, s179_258, s179_261, s179_262, s179_263, s179_266, s179_267, s179_268, s179_271, s179_272, s179_273, s179_276, s179_277, s179_278, s179_281, ← hY, y10, hb, nm1, k1, k2]
            · simp (config := {maxSteps := 1000000}) (disch := omega) only [↓reduceIte, Int32.reduceLT, Int32.reduceLE, Int32.reduceToNatClampNeg, Int32.reduceAdd, Int32.reduceSub, Int32.reduceMul, Nat.reduceLeDiff, zEL, zup_ne, zup_eq, zT0, zT1, zT2, if_true, if_false, r, s179_35, s179_36, s179_37, s179_40, s179_43, s179_44, s179_45, s179_48, s179_49, s179_50, s179_53, s179_54, s179_55, s179_58, s179_61, s179_62, s179_63, s179_64, s179_65, s179_66, s179_69, s179_70, s179_71, s179_74, s179_77, s179_78, s179_81, s179_84, s179_85, s179_86, s179_166, s179_167, s179_170, s179_173, s179_174, s179_175, s179_249, s179_250, s179_252, s179_255, s179_256, s179_258, s179_261, s179_262, s179_263, s179_266, s179_267, s179_268, s179_271, s179_272, s179_273, s179_276, s179_277, s179_278, s179_281, ← hY, y10, hb, nm1, k1, k2, c1]
          · rw [zup_ne (by omega), zup_ne (by omega), zup_ne (by omega)]
            exact hYf j k (by omega)
          · rw [zTM1, ek, ea, hkd]
            refine ⟨by rw [zup_ne (by omega), zup_ne (by omega), zup_ne (by omega)]; exact y8, ?_, fun _ _ => zup_eq rfl rfl, fun h => ?_, fun h => ?_, fun h => by omega, fun h => by omega⟩
            · rw [zup_ne (by omega), zup_ne (by omega), zup_eq rfl rfl]
              rcases hkc with ⟨h, -⟩ | ⟨h, -⟩ <;> rw [h] <;> rfl
            · rw [zup_ne (by omega), zup_eq rfl rfl]
              rcases hkc with ⟨-, h5⟩ | ⟨h5, -⟩
              · exact h5
              · omega
            · rw [zup_ne (by omega), zup_eq rfl rfl]
              rcases hkc with ⟨h5, -⟩ | ⟨-, h5⟩
              · omega
              · exact h5
        by_cases h3 : zkd (b p) = 3
        · exact m1 59 (by rw [zkd_3.mp h3]; rfl) (.inl rfl) 3 h3 (.inl ⟨rfl, rfl⟩)
        · by_cases h4 : zkd (b p) = 4
          · exact m1 44 (by rw [zkd_4.mp h4]; rfl) (.inr rfl) 4 h4 (.inr ⟨rfl, rfl⟩)
          · have e5 : zkd (b p) = 5 := by omega
            have f1 : (nI (b p) = 59) = False := eq_false (fun h => h3 (zkd_3.mpr ((znI_inj (b := 59) (by omega) (by omega)).mp h)))
            have f2 : (nI (b p) = 44) = False := eq_false (fun h => h4 (zkd_4.mpr ((znI_inj (b := 44) (by omega) (by omega)).mp h)))
            refine ⟨Y, Lm, ?_, fun j k hj => hYf j k (by omega), fun _ _ _ => rfl, ?_⟩
            · rw [a0]
              simp (config := {maxSteps := 1000000}) (disch := omega) only [↓reduceIte, Int32.reduceLT, Int32.reduceLE, Int32.reduceToNatClampNeg, Int32.reduceAdd, Int32.reduceSub, Int32.reduceMul, Nat.reduceLeDiff, zEL, zup_ne, zup_eq, zT0, zT1, zT2, if_true, if_false, r, s179_35, s179_36, s179_37, s179_40, s179_43, s179_44, s179_45, s179_48, s179_49, s179_50, s179_53, s179_54, s179_55, s179_58, s179_61, s179_62, s179_63, s179_64, s179_65, s179_66, s179_69, s179_70, s179_71, s179_74, s179_77, s179_78, s179_81, s179_84, s179_85, s179_86, s179_166, s179_167, s179_170, s179_173, s179_174, s179_175, s179_249, s179_250, s179_252, s179_255, s179_256, s179_258, s179_261, s179_262, s179_263, s179_266, s179_267, s179_268, s179_271, s179_272, s179_273, s179_276, s179_277, s179_278, s179_281, ← hY, y10, hb, nm1, k1, k2, f1, f2]
            · rw [zTM1, ek, e5]
              exact ⟨y8, y9, fun _ h => by omega, fun h => by omega, fun h => by omega, fun h => by omega, fun h => by omega⟩
/-- the TOKEN at p on the class's side; of both: no FAULT so far -/
def zTKc (n : Nat) (b : Nat → Nat) (p q : Nat) (S : zS) : Prop :=
  zTC n b S ∧ p ≤ n ∧ (p < n → zrn (fun i => zkd (b i) = zkd (b p)) n (p + 1) q) ∧ S 1 3 = nI p ∧ S 1 2 = nI (zkN b n p q) ∧ S 1 4 = nI (zaN b n p q)
def zTK (n : Nat) (b : Nat → Nat) (p q : Nat) (S Sm : zS) (Lm : zL) : Prop := zTKc n b p q S ∧ zTN n b Sm ∧ zTM1 n b p q Sm Lm
theorem zaN_le {p q : Nat} (hp : p ≤ n) (hq : p < n → zrn (fun i => zkd (b i) = zkd (b p)) n (p + 1) q) : zaN b n p q ≤ n := by
  unfold zaN
  split
  · exact Nat.le_refl _
  · have := (hq (by omega)).2.1
    repeat' split
    all_goals omega
theorem zst5 {k : Nat} : ¬ nI (zst k) = 5 := by
  unfold zst
  repeat' split
  all_goals decide
/-- the next TOKEN, of both -/
theorem zstep1 {p q : Nat} (hR : zLT R) (h : zTK n b p q S Sm Lm) (hk : 1 ≤ zkN b n p q) (hk4 : zkN b n p q ≤ 4) : ∃ p' q' S' Sm' Lm', zcall 90 [.ref 1] zRc S L = some (none, zRc, S', L) ∧ zcall 179 [.ref 0] R Sm Lm = some (none, R, Sm', Lm') ∧ (∀ j k, (j ≠ 1 ∨ (k ≠ 2 ∧ k ≠ 3 ∧ k ≠ 4)) → S' j k = S j k) ∧ (∀ j k, (j ≠ 0 ∨ (k ≠ 8 ∧ k ≠ 9 ∧ k ≠ 10 ∧ k ≠ 11 ∧ k ≠ 12)) → Sm' j k = Sm j k) ∧ (∀ j k, (j ≠ 0 ∨ k ≠ 15) → Lm' j k = Lm j k) ∧ zTK n b p' q' S' Sm' Lm' := by
  obtain ⟨⟨h1, h3, h4, h5, h6, h7⟩, h2, h8⟩ := h
  have hle := zaN_le h3 h4
  obtain ⟨p', q', hN⟩ := zNX_ex (b := b) hle
  obtain ⟨S', a1, a2, a3, a4, a5⟩ := c90 (L := L) h1 h7 hN
  obtain ⟨Sm', Lm', b1, b2, b3, b4⟩ := m179 (Lm := Lm) hR h2 (h8.2.2.1 hk hk4) (by rw [h8.2.1]; exact zst5) hN
  exact ⟨p', q', S', Sm', Lm', a1, b1, a2, b2, b3, ⟨zTC_fr h1 (a2 1 5 (by omega)) (fun i => a2 3 i (by omega)), hN.1.2.1, hN.2, a4, a3, a5⟩, zTN_fr h2 (b2 0 7 (by omega)) (fun i => b2 1 i (by omega)), b4⟩
end ZP3
