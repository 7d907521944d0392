/-! THE TEXT: LINES: guess -/
section ZPE
variable {S Sm S' Sm' : zS} {L Lm L' Lm' : zL} {R : List zE} {n B p q : Nat} {b : Nat → Nat}
theorem t36_80 {c : Nat} (h5 : c ≤ 4) (h : S 150 3 = nI c) : zcall 36 [.ref 150] zRc S L = some (some (.int (if c = 4 then 1 else 0)), zRc, S, L) := by
  unfold zcall
  by_cases e : c = 4
  · subst e
    have e5 : (nI 4 < 4) = False := by decide
    simp (config := {maxSteps := 1000000}) (disch := omega) only [↓reduceIte, Int32.reduceLT, Int32.reduceLE, Int32.reduceToNatClampNeg, Int32.reduceAdd, Int32.reduceSub, Int32.reduceMul, Nat.reduceLeDiff, zEL, zup_ne, zup_eq, zT0, zT1, zT2, if_true, if_false, gT, ze_36, s36_0, s36_1, s36_4, s36_5, s36_8, s36_9, s36_12, s36_13, h, e5]
    all_goals rfl
  · rw [if_neg e]
    simp (config := {maxSteps := 1000000}) (disch := omega) only [↓reduceIte, Int32.reduceLT, Int32.reduceLE, Int32.reduceToNatClampNeg, Int32.reduceAdd, Int32.reduceSub, Int32.reduceMul, Nat.reduceLeDiff, zEL, zup_ne, zup_eq, zT0, zT1, zT2, if_true, if_false, zneq_f, true_and, and_true, false_and, and_false, zKL, eq_self, Nat.reduceEqDiff, zite0, ite_not, zaddr, zaddl, zputr, zsb1, zsb2, zsb0, zsbm, znm1, gT, ze_36, s36_0, s36_1, s36_4, s36_5, s36_8, s36_9, s36_12, s36_13, h]
theorem t38_80 {k : Nat} {x y z : Int32} (h : S 150 3 = nI k) : zcall 38 [.ref 150, .int x, .int y, .int z] zRc S L = some (none, zRc, zup (zput (zput (zput S 152 4 (nI k) x) 154 4 (nI k) y) 156 4 (nI k) z) 150 3 (nI (k + 1)), L) := by
  have u1 : zput S 152 4 (nI k) x 150 3 = nI k := by rw [zput_ne (by omega), h]
  have u2 : zput (zput S 152 4 (nI k) x) 154 4 (nI k) y 150 3 = nI k := by rw [zput_ne (by omega)]; exact u1
  have u3 : zput (zput (zput S 152 4 (nI k) x) 154 4 (nI k) y) 156 4 (nI k) z 150 3 = nI k := by rw [zput_ne (by omega)]; exact u2
  unfold zcall
  simp (config := {maxSteps := 1000000}) (disch := omega) only [↓reduceIte, Int32.reduceLT, Int32.reduceLE, Int32.reduceToNatClampNeg, Int32.reduceAdd, Int32.reduceSub, Int32.reduceMul, Nat.reduceLeDiff, zEL, zup_ne, zup_eq, zT0, zT1, zT2, if_true, if_false, gT, ze_38, s38_0, s38_1, s38_4, s38_5, s38_8, s38_9, s38_12, s38_13, s38_16, s38_17, s38_20, s38_21, s38_24, s38_25, s38_28, s38_29, s38_32, s38_33, s38_36, s38_37, s38_38, s38_41, s38_42, s38_43, s38_46, h, u1, u2, u3]
/-- the guesses -/
def zPgu_80 (B c : Nat) (S Sm : zS) : Prop :=
  c ≤ 4 ∧ S 150 3 = nI c ∧ Sm B 12 = nI c ∧ ∀ k, k < c → S 152 k = Sm (B + 24) k ∧ S 154 k = Sm (B + 25) k ∧ S 156 k = Sm (B + 26) k ∧ ∃ w f h : Nat, 1 ≤ w ∧ w ≤ 99 ∧ f + h ≤ 10 ∧ Sm (B + 24) k = nI w ∧ Sm (B + 25) k = nI f ∧ Sm (B + 26) k = nI h
theorem zPgu_fr_80 {c : Nat} (h : zPgu_80 B c S Sm) (h1 : ∀ j k, (j = 150 ∧ k = 3) ∨ j = 152 ∨ j = 154 ∨ j = 156 → S' j k = S j k) (h2 : ∀ j k, (j = B ∧ k = 12) ∨ (B + 24 ≤ j ∧ j ≤ B + 26) → Sm' j k = Sm j k) : zPgu_80 B c S' Sm' := by
  unfold zPgu_80 at h ⊢
  have e71 : S' 152 = S 152 := funext fun k => h1 _ k (by omega)
  have e73 : S' 154 = S 154 := funext fun k => h1 _ k (by omega)
  have e75 : S' 156 = S 156 := funext fun k => h1 _ k (by omega)
  have m24 : Sm' (B + 24) = Sm (B + 24) := funext fun k => h2 _ k (by omega)
  have m25 : Sm' (B + 25) = Sm (B + 25) := funext fun k => h2 _ k (by omega)
  have m26 : Sm' (B + 26) = Sm (B + 26) := funext fun k => h2 _ k (by omega)
  rw [e71, e73, e75, m24, m25, m26, h1 _ 3 (by omega), h2 B 12 (by omega)]
  exact h
theorem l57_80 {c k c0 : Nat} (hR : zLT R) (hB : zLB R B) (hB11 : 11 ≤ B) (hT : zTKc n b p q S) (hO : zOKs 80 n b p q S Sm Lm) (hk : zkN b n p q = 1) (hP : zPgu_80 B c S Sm) (hN : zPnm_80 B k c0 S Sm L Lm) (hck : c < 4 → k ≤ 25) : ∃ S' Sm' L' Lm', zcall 57 [.ref 80] zRc S L = some (none, zRc, S', L') ∧ zcall 202 [.ref 0] R Sm Lm = some (none, R, Sm', Lm') ∧ zST 80 n b S' Sm' Lm' ∧ (∀ j k, (j ≠ 1 ∨ (k ≠ 2 ∧ k ≠ 3 ∧ k ≠ 4)) → (j ≠ 80 ∨ (k ≠ 5 ∧ k ≠ 6 ∧ k ≠ 7)) → j ≠ 159 → j ≠ 161 → (j ≠ 150 ∨ k ≠ 3) → j ≠ 152 → j ≠ 154 → j ≠ 156 → S' j k = S j k) ∧ (∀ j k, (j ≠ 0 ∨ k < 8 ∨ 14 < k) → (j ≠ B ∨ (k ≠ 12 ∧ k ≠ 13)) → j ≠ B + 28 → j ≠ B + 29 → (j < B + 24 ∨ B + 26 < j) → Sm' j k = Sm j k) ∧ (∀ j k, j ≠ 157 → L' j k = L j k) ∧ (∀ j k, (j ≠ 0 ∨ k ≠ 15) → j ≠ B + 27 → Lm' j k = Lm j k) ∧ (S' 80 6 = 0 → c < 4 ∧ zPgu_80 B (c + 1) S' Sm' ∧ zPnm_80 B (k + 1) c0 S' Sm' L' Lm') := by
  have r0 := hR
  unfold zLT at r0
  have rB := hB
  unfold zLB at rB
  obtain ⟨hc8, p1, p2, p3⟩ := hP
  obtain ⟨hk26, n1, n2, n3⟩ := id hN
  have k36 := t36_80 (L := L) hc8 p1
  obtain ⟨S1, Sm1, Lm1, a1, a2, a3, a4, a5⟩ := op59_80 (L := L) (fl := if c = 4 then 1 else 0) (many := nI c) (most := 4) hR hT hO hk (by
    by_cases e : c = 4
    · subst e
      exact .inl ⟨if_pos rfl, rfl⟩
    · exact .inr ⟨if_neg e, fun h => e ((znI_inj (b := 4) (by omega) (by omega)).mp h)⟩)
  have hc7 : S1 80 6 = 0 → c < 4 := fun h => by
    have g0 := a5 h
    rcases Nat.lt_or_ge c 4 with h | h
    · exact h
    · rw [if_pos (by omega)] at g0; exact absurd g0 (by decide)
  have i1 : S1 150 3 = nI c := (a4.1 _ _ (by omega) (by omega)).trans p1
  have j1 : Sm1 B 12 = nI c := (a4.2.1 _ _ (by omega)).trans p2
  obtain ⟨S2, Sm2, L2, Lm2, b1, b2, b3, b4, b5, -⟩ := op64_80 (L := L) (k := k) (k' := k) (s := 3) (s' := 1) (num := nI c) (num' := nI c) hR hB hB11 a3 hk26 hk26 ((a4.1 _ _ (by omega) (by omega)).trans n1) ((a4.2.1 _ _ (by omega)).trans n2) (fun h => ⟨rfl, hck (hc7 h), fun i hi => by rw [a4.2.2 _ _ (by omega)]; exact (n3 i hi).1⟩)
  have i2 : S2 150 3 = nI c := (b4.1 _ _ (by omega) (by omega) (by decide) (by decide)).trans i1
  have j2 : Sm2 B 12 = nI c := (b4.2.1 _ _ (by omega) (by omega) (by omega) (by omega)).trans j1
  obtain ⟨v1, w1, S3, Sm3, Lm3, c1, c2, c3, c4, c5⟩ := op62_80 (L := L2) (l := 1) (u := 99) (lo := 1) (hi := 99) (lo' := 1) (hi' := 99) hR (fun p q S L h => cw_weighs h) (fun p q S Sm Lm h => mw_weighs hR h) b3 (by omega) (by omega) (fun _ => ⟨rfl, rfl, rfl, rfl⟩)
  obtain ⟨v2, w2, S4, Sm4, Lm4, d1, d2, d3, d4, d5⟩ := op62_80 (L := L2) (l := 0) (u := 10) (lo := 0) (hi := 10) (lo' := 0) (hi' := 10) hR (fun p q S L h => cw_flat h) (fun p q S Sm Lm h => mw_flat hR h) c3 (by omega) (by omega) (fun _ => ⟨rfl, rfl, rfl, rfl⟩)
  obtain ⟨u, hu, hb⟩ : ∃ u, u ≤ 10 ∧ (S4 80 6 = 0 → 10 - v2 = nI u ∧ 10 - w2 = nI u ∧ S3 80 6 = 0 ∧ ∃ x, x + u = 10 ∧ v2 = nI x ∧ w2 = nI x) := by
    by_cases h : S4 80 6 = 0
    · obtain ⟨h', x, -, hx, rfl, rfl⟩ := d5 h
      exact ⟨10 - x, by omega, fun _ => ⟨znI_sub (a := 10) hx, znI_sub (a := 10) hx, h', x, by omega, rfl, rfl⟩⟩
    · exact ⟨0, by omega, fun h' => absurd h' h⟩
  obtain ⟨v3, w3, S6, Sm6, Lm6, f1, f2, f3, f4, f5⟩ := op62_80 (L := L2) (l := 0) (u := u) (lo := 0) (hi := 10 - v2) (lo' := 0) (hi' := 10 - w2) hR (fun p q S L h => cw_high h) (fun p q S Sm Lm h => mw_high hR h) d3 (by omega) (by omega) (fun h => ⟨rfl, (hb h).1, rfl, (hb h).2.1⟩)
  have i6 : S6 150 3 = nI c := by rw [f4.1 _ _ (by omega) (by omega), d4.1 _ _ (by omega) (by omega), c4.1 _ _ (by omega) (by omega), i2]
  have j6 : Sm6 B 12 = nI c := by rw [f4.2.1 _ _ (by omega), d4.2.1 _ _ (by omega), c4.2.1 _ _ (by omega), j2]
  have k38 := t38_80 (L := L2) (x := v1) (y := v2) (z := v3) i6
  obtain ⟨S7, hS7⟩ : ∃ S7, S7 = zup (zput (zput (zput S6 152 4 (nI c) v1) 154 4 (nI c) v2) 156 4 (nI c) v3) 150 3 (nI (c + 1)) := ⟨_, rfl⟩
  rw [← hS7] at k38
  have cl : zcall 57 [.ref 80] zRc S L = some (none, zRc, S7, L2) := by
    unfold zcall
    simp (config := {maxSteps := 1000000}) (disch := omega) only [↓reduceIte, Int32.reduceLT, Int32.reduceLE, Int32.reduceToNatClampNeg, Int32.reduceAdd, Int32.reduceSub, Int32.reduceMul, Nat.reduceLeDiff, zEL, zup_ne, zup_eq, zT0, zT1, zT2, if_true, if_false, gR, gT, ze_57, s57_0, s57_1, s57_2, s57_5, s57_8, s57_11, s57_14, s57_15, s57_16, s57_17, s57_20, s57_23, s57_26, s57_29, s57_30, s57_33, s57_34, s57_36, s57_39, s57_40, s57_41, s57_44, s57_45, s57_47, s57_50, s57_51, s57_52, s57_55, s57_56, s57_58, s57_59, s57_60, s57_63, s57_64, s57_65, s57_68, s57_71, s57_72, s57_73, s57_74, s57_77, k36, a1, i1, b1, c1, d1, f1, k38]
  have mo : zcall 202 [.ref 0] R Sm Lm = zgo 202 57 [.ref 0, .int w1, .int w2, .int w3] [] R Sm6 Lm6 := by
    unfold zcall
    simp (config := {maxSteps := 1000000}) (disch := omega) only [↓reduceIte, Int32.reduceLT, Int32.reduceLE, Int32.reduceToNatClampNeg, Int32.reduceAdd, Int32.reduceSub, Int32.reduceMul, Nat.reduceLeDiff, zEL, zup_ne, zup_eq, zT0, zT1, zT2, if_true, if_false, r0, rB, ze_202, s202_0, s202_1, s202_2, s202_5, s202_8, s202_9, s202_12, s202_13, s202_14, s202_15, s202_18, s202_21, s202_24, s202_25, s202_28, s202_29, s202_31, s202_34, s202_35, s202_36, s202_38, s202_39, s202_41, s202_44, s202_45, s202_46, s202_48, s202_49, s202_51, s202_52, s202_53, s202_56, p2, a2, j1, b2, c2, d2, f2]
  have e3 : ∀ j k, (j ≠ 150 ∨ k ≠ 3) → j ≠ 152 → j ≠ 154 → j ≠ 156 → S7 j k = S6 j k := fun j k a c d e => by rw [hS7, zup_ne (by omega), zput_ne (by omega), zput_ne (by omega), zput_ne (by omega)]
  have st : ∀ Sm7, (∀ j k, (j ≠ B ∨ k ≠ 12) → (j < B + 24 ∨ B + 26 < j) → Sm7 j k = Sm6 j k) → zST 80 n b S7 Sm7 Lm6 := fun Sm7 h => zST_fr f3 (fun k => e3 1 k (by omega) (by decide) (by decide) (by decide)) (fun k => e3 3 k (by omega) (by decide) (by decide) (by decide)) (e3 _ _ (by omega) (by decide) (by decide) (by decide)) (e3 _ _ (by omega) (by decide) (by decide) (by decide)) (fun k _ => h 0 k (by omega) (by omega)) (fun k => h 1 k (by omega) (by omega)) rfl
  have fC : ∀ j k, (j ≠ 1 ∨ (k ≠ 2 ∧ k ≠ 3 ∧ k ≠ 4)) → (j ≠ 80 ∨ (k ≠ 5 ∧ k ≠ 6 ∧ k ≠ 7)) → j ≠ 159 → j ≠ 161 → (j ≠ 150 ∨ k ≠ 3) → j ≠ 152 → j ≠ 154 → j ≠ 156 → S7 j k = S j k := fun j k h1 h2 h3 h4 h5 h6 h7 h8 => by
    rw [e3 j k h5 h6 h7 h8, f4.1 j k h1 (by omega), d4.1 j k h1 (by omega), c4.1 j k h1 (by omega), b4.1 j k h1 h2 h3 h4, a4.1 j k h1 (by omega)]
  have fM : ∀ j k, (j ≠ 0 ∨ k < 8 ∨ 14 < k) → (j ≠ B ∨ k ≠ 13) → j ≠ B + 28 → j ≠ B + 29 → Sm6 j k = Sm j k := fun j k h1 h2 h3 h4 => by
    rw [f4.2.1 j k (by omega), d4.2.1 j k (by omega), c4.2.1 j k (by omega), b4.2.1 j k (by omega) h2 h3 h4, a4.2.1 j k (by omega)]
  have fL : ∀ j k, (j ≠ 0 ∨ k ≠ 15) → j ≠ B + 27 → Lm6 j k = Lm j k := fun j k h1 h2 => by
    rw [f4.2.2 j k h1, d4.2.2 j k h1, c4.2.2 j k h1, b4.2.2.2 j k h1 h2, a4.2.2 j k h1]
  rcases zST_9 f3 with ⟨o1, o2⟩ | ⟨o1, o2⟩
  · have o2 : (Sm6 0 9 = 5) = False := eq_false o2
    obtain ⟨y4, x3, -, z3, rfl, rfl⟩ := f5 o1
    obtain ⟨-, -, y3, x2, z2, rfl, rfl⟩ := hb y4
    obtain ⟨y2, x1, z0, z1, rfl, rfl⟩ := c5 y3
    obtain ⟨y1, u1, u2, u3, u4, u5, u6, u7⟩ := b5 y2
    have c7' := hc7 y1
    obtain ⟨Sm7, hSm7⟩ : ∃ Sm7, Sm7 = zup (zup (zup (zup Sm6 (B + 24) c (nI x1)) (B + 25) c (nI x2)) (B + 26) c (nI x3)) B 12 (nI (c + 1)) := ⟨_, rfl⟩
    have e7 : ∀ j k, (j ≠ B ∨ k ≠ 12) → (j < B + 24 ∨ B + 26 < j) → Sm7 j k = Sm6 j k := fun j k h1 h2 => by
      rw [hSm7, zup_ne (by omega), zup_ne (by omega), zup_ne (by omega), zup_ne (by omega)]
    have fr6 : ∀ j k, B + 24 ≤ j → j ≤ B + 26 → Sm6 j k = Sm j k := fun j k h1 h2 => fM j k (by omega) (by omega) (by omega) (by omega)
    have fS6 : ∀ j k, j = 152 ∨ j = 154 ∨ j = 156 → S6 j k = S j k := fun j k h => by
      rw [f4.1 j k (by omega) (by omega), d4.1 j k (by omega) (by omega), c4.1 j k (by omega) (by omega), b4.1 j k (by omega) (by omega) (by omega) (by omega), a4.1 j k (by omega) (by omega)]
    have q0 : ∀ k, Sm7 (B + 24) k = if k = c then nI x1 else Sm (B + 24) k := fun k => by
      rw [hSm7, zup_ne (by omega), zup_ne (by omega), zup_ne (by omega), ← fr6 (B + 24) k (by omega) (by omega)]
      by_cases e : k = c
      · rw [zup_eq rfl e, if_pos e]
      · rw [zup_ne (by omega), if_neg e]
    have v0 : ∀ k, S7 152 k = if k = c then nI x1 else S 152 k := fun k => by
      rw [hS7, zup_ne (by omega), zput_ne (by omega), zput_ne (by omega), zput_at (by omega) (by omega), fS6 _ _ (by omega)]
    have q1 : ∀ k, Sm7 (B + 25) k = if k = c then nI x2 else Sm (B + 25) k := fun k => by
      rw [hSm7, zup_ne (by omega), zup_ne (by omega), ← fr6 (B + 25) k (by omega) (by omega)]
      by_cases e : k = c
      · rw [zup_eq rfl e, if_pos e]
      · rw [zup_ne (by omega), zup_ne (by omega), if_neg e]
    have v1 : ∀ k, S7 154 k = if k = c then nI x2 else S 154 k := fun k => by
      rw [hS7, zup_ne (by omega), zput_ne (by omega), zput_at (by omega) (by omega), zput_ne (by omega), fS6 _ _ (by omega)]
    have q2 : ∀ k, Sm7 (B + 26) k = if k = c then nI x3 else Sm (B + 26) k := fun k => by
      rw [hSm7, zup_ne (by omega), ← fr6 (B + 26) k (by omega) (by omega)]
      by_cases e : k = c
      · rw [zup_eq rfl e, if_pos e]
      · rw [zup_ne (by omega), zup_ne (by omega), zup_ne (by omega), if_neg e]
    have v2 : ∀ k, S7 156 k = if k = c then nI x3 else S 156 k := fun k => by
      rw [hS7, zup_ne (by omega), zput_at (by omega) (by omega), zput_ne (by omega), zput_ne (by omega), fS6 _ _ (by omega)]
    have fN : ∀ j k, (j = 80 ∧ k = 5) ∨ j = 159 ∨ j = 161 → S7 j k = S2 j k := fun j k h => by
      rw [e3 _ _ (by omega) (by omega) (by omega) (by omega), f4.1 _ _ (by omega) (by omega), d4.1 _ _ (by omega) (by omega), c4.1 _ _ (by omega) (by omega)]
    have fN1 : ∀ j k, (j = 80 ∧ k = 5) ∨ j = 159 ∨ j = 161 → S1 j k = S j k := fun j k h => a4.1 j k (by omega) (by omega)
    have fQ : ∀ j k, (j = B ∧ k = 13) ∨ j = B + 28 ∨ j = B + 29 → Sm7 j k = Sm2 j k := fun j k h => by
      rw [e7 j k (by omega) (by omega), f4.2.1 j k (by omega), d4.2.1 j k (by omega), c4.2.1 j k (by omega)]
    have fQ1 : ∀ j k, j = B + 28 ∨ j = B + 29 → Sm1 j k = Sm j k := fun j k h => a4.2.1 j k (by omega)
    refine ⟨S7, Sm7, L2, Lm6, cl, mo.trans ?_, st _ e7, fC, fun j k h1 h2 h3 h4 h5 => (e7 j k (by omega) h5).trans (fM j k (by omega) (by omega) h3 h4), b4.2.2.1, fL, fun _ => ⟨c7', ⟨by omega, by rw [hS7]; exact zup_eq rfl rfl, by rw [hSm7]; exact zup_eq rfl rfl, fun i hi => ?_⟩, zPnm_s_80 hN (hck c7') (by omega) ((fN _ _ (by omega)).trans u1) ((fQ _ _ (by omega)).trans u2) (fun i hi => ?_) (fun i => (fN _ _ (by omega)).trans (by rw [u4, fN1 _ _ (by omega)])) (fun i => (fN _ _ (by omega)).trans (by rw [u5, fN1 _ _ (by omega)])) (fun i => (fQ _ _ (by omega)).trans (by rw [u6, fQ1 _ _ (by omega)])) (fun i => (fQ _ _ (by omega)).trans (by rw [u7, fQ1 _ _ (by omega)])) ⟨by decide, fun h => absurd h (by decide)⟩⟩⟩
    · rw [hSm7]
      simp (config := {maxSteps := 1000000}) (disch := omega) only [↓reduceIte, Int32.reduceLT, Int32.reduceLE, Int32.reduceToNatClampNeg, Int32.reduceAdd, Int32.reduceSub, Int32.reduceMul, Nat.reduceLeDiff, zEL, zup_ne, zup_eq, zT0, zT1, zT2, if_true, if_false, zneq_f, true_and, and_true, false_and, and_false, zKL, eq_self, Nat.reduceEqDiff, zite0, ite_not, zaddr, zaddl, zputr, zsb1, zsb2, zsb0, zsbm, znm1, r0, rB, s202_57, s202_58, s202_61, s202_62, s202_65, s202_66, s202_67, s202_70, s202_73, s202_74, s202_77, s202_80, s202_81, s202_82, s202_83, s202_86, s202_89, s202_90, s202_93, s202_96, s202_97, s202_98, s202_99, s202_102, s202_105, s202_106, s202_109, s202_112, s202_113, s202_114, s202_115, s202_118, s202_119, s202_122, s202_123, s202_124, s202_127, o2, j6]
    · rw [v0, v1, v2, q0, q1, q2]
      by_cases e : i = c
      · simp only [if_pos e]
        exact ⟨trivial, trivial, trivial, x1, x2, x3, z0, z1, by omega, rfl, rfl, rfl⟩
      · simp only [if_neg e]
        exact p3 i (by omega)
    · rw [f4.2.2 _ _ (by omega), d4.2.2 _ _ (by omega), c4.2.2 _ _ (by omega)]
      exact u3 i hi
  · refine ⟨S7, Sm6, L2, Lm6, cl, mo.trans ?_, st Sm6 (fun _ _ _ _ => rfl), fC, fun j k h1 h2 h3 h4 h5 => fM j k (by omega) (by omega) h3 h4, b4.2.2.1, fL, fun h => ?_⟩
    · simp (config := {maxSteps := 1000000}) (disch := omega) only [↓reduceIte, Int32.reduceLT, Int32.reduceLE, Int32.reduceToNatClampNeg, Int32.reduceAdd, Int32.reduceSub, Int32.reduceMul, Nat.reduceLeDiff, zEL, zup_ne, zup_eq, zT0, zT1, zT2, if_true, if_false, r0, rB, s202_57, s202_58, s202_61, s202_62, s202_65, s202_66, s202_67, s202_70, s202_73, s202_74, s202_77, s202_80, s202_81, s202_82, s202_83, s202_86, s202_89, s202_90, s202_93, s202_96, s202_97, s202_98, s202_99, s202_102, s202_105, s202_106, s202_109, s202_112, s202_113, s202_114, s202_115, s202_118, s202_119, s202_122, s202_123, s202_124, s202_127, o2]
    · rw [e3 _ _ (by omega) (by decide) (by decide) (by decide)] at h
      exact absurd h o1
theorem t36_162 {c : Nat} (h5 : c ≤ 4) (h : S 73 3 = nI c) : zcall 36 [.ref 73] zRc S L = some (some (.int (if c = 4 then 1 else 0)), zRc, S, L) := by
  unfold zcall
  by_cases e : c = 4
  · subst e
    have e5 : (nI 4 < 4) = False := by decide
    simp (config := {maxSteps := 1000000}) (disch := omega) only [↓reduceIte, Int32.reduceLT, Int32.reduceLE, Int32.reduceToNatClampNeg, Int32.reduceAdd, Int32.reduceSub, Int32.reduceMul, Nat.reduceLeDiff, zEL, zup_ne, zup_eq, zT0, zT1, zT2, if_true, if_false, gM, ze_36, s36_0, s36_1, s36_4, s36_5, s36_8, s36_9, s36_12, s36_13, h, e5]
    all_goals rfl
  · rw [if_neg e]
    simp (config := {maxSteps := 1000000}) (disch := omega) only [↓reduceIte, Int32.reduceLT, Int32.reduceLE, Int32.reduceToNatClampNeg, Int32.reduceAdd, Int32.reduceSub, Int32.reduceMul, Nat.reduceLeDiff, zEL, zup_ne, zup_eq, zT0, zT1, zT2, if_true, if_false, zneq_f, true_and, and_true, false_and, and_false, zKL, eq_self, Nat.reduceEqDiff, zite0, ite_not, zaddr, zaddl, zputr, zsb1, zsb2, zsb0, zsbm, znm1, gM, ze_36, s36_0, s36_1, s36_4, s36_5, s36_8, s36_9, s36_12, s36_13, h]
theorem t38_162 {k : Nat} {x y z : Int32} (h : S 73 3 = nI k) : zcall 38 [.ref 73, .int x, .int y, .int z] zRc S L = some (none, zRc, zup (zput (zput (zput S 75 4 (nI k) x) 77 4 (nI k) y) 79 4 (nI k) z) 73 3 (nI (k + 1)), L) := by
  have u1 : zput S 75 4 (nI k) x 73 3 = nI k := by rw [zput_ne (by omega), h]
  have u2 : zput (zput S 75 4 (nI k) x) 77 4 (nI k) y 73 3 = nI k := by rw [zput_ne (by omega)]; exact u1
  have u3 : zput (zput (zput S 75 4 (nI k) x) 77 4 (nI k) y) 79 4 (nI k) z 73 3 = nI k := by rw [zput_ne (by omega)]; exact u2
  unfold zcall
  simp (config := {maxSteps := 1000000}) (disch := omega) only [↓reduceIte, Int32.reduceLT, Int32.reduceLE, Int32.reduceToNatClampNeg, Int32.reduceAdd, Int32.reduceSub, Int32.reduceMul, Nat.reduceLeDiff, zEL, zup_ne, zup_eq, zT0, zT1, zT2, if_true, if_false, gM, ze_38, s38_0, s38_1, s38_4, s38_5, s38_8, s38_9, s38_12, s38_13, s38_16, s38_17, s38_20, s38_21, s38_24, s38_25, s38_28, s38_29, s38_32, s38_33, s38_36, s38_37, s38_38, s38_41, s38_42, s38_43, s38_46, h, u1, u2, u3]
/-- the guesses -/
def zPgu_162 (B c : Nat) (S Sm : zS) : Prop :=
  c ≤ 4 ∧ S 73 3 = nI c ∧ Sm B 12 = nI c ∧ ∀ k, k < c → S 75 k = Sm (B + 24) k ∧ S 77 k = Sm (B + 25) k ∧ S 79 k = Sm (B + 26) k ∧ ∃ w f h : Nat, 1 ≤ w ∧ w ≤ 99 ∧ f + h ≤ 10 ∧ Sm (B + 24) k = nI w ∧ Sm (B + 25) k = nI f ∧ Sm (B + 26) k = nI h
theorem zPgu_fr_162 {c : Nat} (h : zPgu_162 B c S Sm) (h1 : ∀ j k, (j = 73 ∧ k = 3) ∨ j = 75 ∨ j = 77 ∨ j = 79 → S' j k = S j k) (h2 : ∀ j k, (j = B ∧ k = 12) ∨ (B + 24 ≤ j ∧ j ≤ B + 26) → Sm' j k = Sm j k) : zPgu_162 B c S' Sm' := by
  unfold zPgu_162 at h ⊢
  have e71 : S' 75 = S 75 := funext fun k => h1 _ k (by omega)
  have e73 : S' 77 = S 77 := funext fun k => h1 _ k (by omega)
  have e75 : S' 79 = S 79 := funext fun k => h1 _ k (by omega)
  have m24 : Sm' (B + 24) = Sm (B + 24) := funext fun k => h2 _ k (by omega)
  have m25 : Sm' (B + 25) = Sm (B + 25) := funext fun k => h2 _ k (by omega)
  have m26 : Sm' (B + 26) = Sm (B + 26) := funext fun k => h2 _ k (by omega)
  rw [e71, e73, e75, m24, m25, m26, h1 _ 3 (by omega), h2 B 12 (by omega)]
  exact h
theorem l57_162 {c k c0 : Nat} (hR : zLT R) (hB : zLB R B) (hB11 : 11 ≤ B) (hT : zTKc n b p q S) (hO : zOKs 162 n b p q S Sm Lm) (hk : zkN b n p q = 1) (hP : zPgu_162 B c S Sm) (hN : zPnm_162 B k c0 S Sm L Lm) (hck : c < 4 → k ≤ 25) : ∃ S' Sm' L' Lm', zcall 57 [.ref 162] zRc S L = some (none, zRc, S', L') ∧ zcall 202 [.ref 0] R Sm Lm = some (none, R, Sm', Lm') ∧ zST 162 n b S' Sm' Lm' ∧ (∀ j k, (j ≠ 1 ∨ (k ≠ 2 ∧ k ≠ 3 ∧ k ≠ 4)) → (j ≠ 162 ∨ (k ≠ 5 ∧ k ≠ 6 ∧ k ≠ 7)) → j ≠ 165 → j ≠ 167 → (j ≠ 73 ∨ k ≠ 3) → j ≠ 75 → j ≠ 77 → j ≠ 79 → S' j k = S j k) ∧ (∀ j k, (j ≠ 0 ∨ k < 8 ∨ 14 < k) → (j ≠ B ∨ (k ≠ 12 ∧ k ≠ 13)) → j ≠ B + 28 → j ≠ B + 29 → (j < B + 24 ∨ B + 26 < j) → Sm' j k = Sm j k) ∧ (∀ j k, j ≠ 163 → L' j k = L j k) ∧ (∀ j k, (j ≠ 0 ∨ k ≠ 15) → j ≠ B + 27 → Lm' j k = Lm j k) ∧ (S' 162 6 = 0 → c < 4 ∧ zPgu_162 B (c + 1) S' Sm' ∧ zPnm_162 B (k + 1) c0 S' Sm' L' Lm') := by
  have r0 := hR
  unfold zLT at r0
  have rB := hB
  unfold zLB at rB
  obtain ⟨hc8, p1, p2, p3⟩ := hP
  obtain ⟨hk26, n1, n2, n3⟩ := id hN
  have k36 := t36_162 (L := L) hc8 p1
  obtain ⟨S1, Sm1, Lm1, a1, a2, a3, a4, a5⟩ := op59_162 (L := L) (fl := if c = 4 then 1 else 0) (many := nI c) (most := 4) hR hT hO hk (by
    by_cases e : c = 4
    · subst e
      exact .inl ⟨if_pos rfl, rfl⟩
    · exact .inr ⟨if_neg e, fun h => e ((znI_inj (b := 4) (by omega) (by omega)).mp h)⟩)
  have hc7 : S1 162 6 = 0 → c < 4 := fun h => by
    have g0 := a5 h
    rcases Nat.lt_or_ge c 4 with h | h
    · exact h
    · rw [if_pos (by omega)] at g0; exact absurd g0 (by decide)
  have i1 : S1 73 3 = nI c := (a4.1 _ _ (by omega) (by omega)).trans p1
  have j1 : Sm1 B 12 = nI c := (a4.2.1 _ _ (by omega)).trans p2
  obtain ⟨S2, Sm2, L2, Lm2, b1, b2, b3, b4, b5, -⟩ := op64_162 (L := L) (k := k) (k' := k) (s := 3) (s' := 1) (num := nI c) (num' := nI c) hR hB hB11 a3 hk26 hk26 ((a4.1 _ _ (by omega) (by omega)).trans n1) ((a4.2.1 _ _ (by omega)).trans n2) (fun h => ⟨rfl, hck (hc7 h), fun i hi => by rw [a4.2.2 _ _ (by omega)]; exact (n3 i hi).1⟩)
  have i2 : S2 73 3 = nI c := (b4.1 _ _ (by omega) (by omega) (by decide) (by decide)).trans i1
  have j2 : Sm2 B 12 = nI c := (b4.2.1 _ _ (by omega) (by omega) (by omega) (by omega)).trans j1
  obtain ⟨v1, w1, S3, Sm3, Lm3, c1, c2, c3, c4, c5⟩ := op62_162 (L := L2) (l := 1) (u := 99) (lo := 1) (hi := 99) (lo' := 1) (hi' := 99) hR (fun p q S L h => cw_weighs h) (fun p q S Sm Lm h => mw_weighs hR h) b3 (by omega) (by omega) (fun _ => ⟨rfl, rfl, rfl, rfl⟩)
  obtain ⟨v2, w2, S4, Sm4, Lm4, d1, d2, d3, d4, d5⟩ := op62_162 (L := L2) (l := 0) (u := 10) (lo := 0) (hi := 10) (lo' := 0) (hi' := 10) hR (fun p q S L h => cw_flat h) (fun p q S Sm Lm h => mw_flat hR h) c3 (by omega) (by omega) (fun _ => ⟨rfl, rfl, rfl, rfl⟩)
  obtain ⟨u, hu, hb⟩ : ∃ u, u ≤ 10 ∧ (S4 162 6 = 0 → 10 - v2 = nI u ∧ 10 - w2 = nI u ∧ S3 162 6 = 0 ∧ ∃ x, x + u = 10 ∧ v2 = nI x ∧ w2 = nI x) := by
    by_cases h : S4 162 6 = 0
    · obtain ⟨h', x, -, hx, rfl, rfl⟩ := d5 h
      exact ⟨10 - x, by omega, fun _ => ⟨znI_sub (a := 10) hx, znI_sub (a := 10) hx, h', x, by omega, rfl, rfl⟩⟩
    · exact ⟨0, by omega, fun h' => absurd h' h⟩
  obtain ⟨v3, w3, S6, Sm6, Lm6, f1, f2, f3, f4, f5⟩ := op62_162 (L := L2) (l := 0) (u := u) (lo := 0) (hi := 10 - v2) (lo' := 0) (hi' := 10 - w2) hR (fun p q S L h => cw_high h) (fun p q S Sm Lm h => mw_high hR h) d3 (by omega) (by omega) (fun h => ⟨rfl, (hb h).1, rfl, (hb h).2.1⟩)
  have i6 : S6 73 3 = nI c := by rw [f4.1 _ _ (by omega) (by omega), d4.1 _ _ (by omega) (by omega), c4.1 _ _ (by omega) (by omega), i2]
  have j6 : Sm6 B 12 = nI c := by rw [f4.2.1 _ _ (by omega), d4.2.1 _ _ (by omega), c4.2.1 _ _ (by omega), j2]
  have k38 := t38_162 (L := L2) (x := v1) (y := v2) (z := v3) i6
  obtain ⟨S7, hS7⟩ : ∃ S7, S7 = zup (zput (zput (zput S6 75 4 (nI c) v1) 77 4 (nI c) v2) 79 4 (nI c) v3) 73 3 (nI (c + 1)) := ⟨_, rfl⟩
  rw [← hS7] at k38
  have cl : zcall 57 [.ref 162] zRc S L = some (none, zRc, S7, L2) := by
    unfold zcall
    simp (config := {maxSteps := 1000000}) (disch := omega) only [↓reduceIte, Int32.reduceLT, Int32.reduceLE, Int32.reduceToNatClampNeg, Int32.reduceAdd, Int32.reduceSub, Int32.reduceMul, Nat.reduceLeDiff, zEL, zup_ne, zup_eq, zT0, zT1, zT2, if_true, if_false, gR, gM, ze_57, s57_0, s57_1, s57_2, s57_5, s57_8, s57_11, s57_14, s57_15, s57_16, s57_17, s57_20, s57_23, s57_26, s57_29, s57_30, s57_33, s57_34, s57_36, s57_39, s57_40, s57_41, s57_44, s57_45, s57_47, s57_50, s57_51, s57_52, s57_55, s57_56, s57_58, s57_59, s57_60, s57_63, s57_64, s57_65, s57_68, s57_71, s57_72, s57_73, s57_74, s57_77, k36, a1, i1, b1, c1, d1, f1, k38]
  have mo : zcall 202 [.ref 0] R Sm Lm = zgo 202 57 [.ref 0, .int w1, .int w2, .int w3] [] R Sm6 Lm6 := by
    unfold zcall
    simp (config := {maxSteps := 1000000}) (disch := omega) only [↓reduceIte, Int32.reduceLT, Int32.reduceLE, Int32.reduceToNatClampNeg, Int32.reduceAdd, Int32.reduceSub, Int32.reduceMul, Nat.reduceLeDiff, zEL, zup_ne, zup_eq, zT0, zT1, zT2, if_true, if_false, r0, rB, ze_202, s202_0, s202_1, s202_2, s202_5, s202_8, s202_9, s202_12, s202_13, s202_14, s202_15, s202_18, s202_21, s202_24, s202_25, s202_28, s202_29, s202_31, s202_34, s202_35, s202_36, s202_38, s202_39, s202_41, s202_44, s202_45, s202_46, s202_48, s202_49, s202_51, s202_52, s202_53, s202_56, p2, a2, j1, b2, c2, d2, f2]
  have e3 : ∀ j k, (j ≠ 73 ∨ k ≠ 3) → j ≠ 75 → j ≠ 77 → j ≠ 79 → S7 j k = S6 j k := fun j k a c d e => by rw [hS7, zup_ne (by omega), zput_ne (by omega), zput_ne (by omega), zput_ne (by omega)]
  have st : ∀ Sm7, (∀ j k, (j ≠ B ∨ k ≠ 12) → (j < B + 24 ∨ B + 26 < j) → Sm7 j k = Sm6 j k) → zST 162 n b S7 Sm7 Lm6 := fun Sm7 h => zST_fr f3 (fun k => e3 1 k (by omega) (by decide) (by decide) (by decide)) (fun k => e3 3 k (by omega) (by decide) (by decide) (by decide)) (e3 _ _ (by omega) (by decide) (by decide) (by decide)) (e3 _ _ (by omega) (by decide) (by decide) (by decide)) (fun k _ => h 0 k (by omega) (by omega)) (fun k => h 1 k (by omega) (by omega)) rfl
  have fC : ∀ j k, (j ≠ 1 ∨ (k ≠ 2 ∧ k ≠ 3 ∧ k ≠ 4)) → (j ≠ 162 ∨ (k ≠ 5 ∧ k ≠ 6 ∧ k ≠ 7)) → j ≠ 165 → j ≠ 167 → (j ≠ 73 ∨ k ≠ 3) → j ≠ 75 → j ≠ 77 → j ≠ 79 → S7 j k = S j k := fun j k h1 h2 h3 h4 h5 h6 h7 h8 => by
    rw [e3 j k h5 h6 h7 h8, f4.1 j k h1 (by omega), d4.1 j k h1 (by omega), c4.1 j k h1 (by omega), b4.1 j k h1 h2 h3 h4, a4.1 j k h1 (by omega)]
  have fM : ∀ j k, (j ≠ 0 ∨ k < 8 ∨ 14 < k) → (j ≠ B ∨ k ≠ 13) → j ≠ B + 28 → j ≠ B + 29 → Sm6 j k = Sm j k := fun j k h1 h2 h3 h4 => by
    rw [f4.2.1 j k (by omega), d4.2.1 j k (by omega), c4.2.1 j k (by omega), b4.2.1 j k (by omega) h2 h3 h4, a4.2.1 j k (by omega)]
  have fL : ∀ j k, (j ≠ 0 ∨ k ≠ 15) → j ≠ B + 27 → Lm6 j k = Lm j k := fun j k h1 h2 => by
    rw [f4.2.2 j k h1, d4.2.2 j k h1, c4.2.2 j k h1, b4.2.2.2 j k h1 h2, a4.2.2 j k h1]
  rcases zST_9 f3 with ⟨o1, o2⟩ | ⟨o1, o2⟩
  · have o2 : (Sm6 0 9 = 5) = False := eq_false o2
    obtain ⟨y4, x3, -, z3, rfl, rfl⟩ := f5 o1
    obtain ⟨-, -, y3, x2, z2, rfl, rfl⟩ := hb y4
    obtain ⟨y2, x1, z0, z1, rfl, rfl⟩ := c5 y3
    obtain ⟨y1, u1, u2, u3, u4, u5, u6, u7⟩ := b5 y2
    have c7' := hc7 y1
    obtain ⟨Sm7, hSm7⟩ : ∃ Sm7, Sm7 = zup (zup (zup (zup Sm6 (B + 24) c (nI x1)) (B + 25) c (nI x2)) (B + 26) c (nI x3)) B 12 (nI (c + 1)) := ⟨_, rfl⟩
    have e7 : ∀ j k, (j ≠ B ∨ k ≠ 12) → (j < B + 24 ∨ B + 26 < j) → Sm7 j k = Sm6 j k := fun j k h1 h2 => by
      rw [hSm7, zup_ne (by omega), zup_ne (by omega), zup_ne (by omega), zup_ne (by omega)]
    have fr6 : ∀ j k, B + 24 ≤ j → j ≤ B + 26 → Sm6 j k = Sm j k := fun j k h1 h2 => fM j k (by omega) (by omega) (by omega) (by omega)
    have fS6 : ∀ j k, j = 75 ∨ j = 77 ∨ j = 79 → S6 j k = S j k := fun j k h => by
      rw [f4.1 j k (by omega) (by omega), d4.1 j k (by omega) (by omega), c4.1 j k (by omega) (by omega), b4.1 j k (by omega) (by omega) (by omega) (by omega), a4.1 j k (by omega) (by omega)]
    have q0 : ∀ k, Sm7 (B + 24) k = if k = c then nI x1 else Sm (B + 24) k := fun k => by
      rw [hSm7, zup_ne (by omega), zup_ne (by omega), zup_ne (by omega), ← fr6 (B + 24) k (by omega) (by omega)]
      by_cases e : k = c
      · rw [zup_eq rfl e, if_pos e]
      · rw [zup_ne (by omega), if_neg e]
    have v0 : ∀ k, S7 75 k = if k = c then nI x1 else S 75 k := fun k => by
      rw [hS7, zup_ne (by omega), zput_ne (by omega), zput_ne (by omega), zput_at (by omega) (by omega), fS6 _ _ (by omega)]
    have q1 : ∀ k, Sm7 (B + 25) k = if k = c then nI x2 else Sm (B + 25) k := fun k => by
      rw [hSm7, zup_ne (by omega), zup_ne (by omega), ← fr6 (B + 25) k (by omega) (by omega)]
      by_cases e : k = c
      · rw [zup_eq rfl e, if_pos e]
      · rw [zup_ne (by omega), zup_ne (by omega), if_neg e]
    have v1 : ∀ k, S7 77 k = if k = c then nI x2 else S 77 k := fun k => by
      rw [hS7, zup_ne (by omega), zput_ne (by omega), zput_at (by omega) (by omega), zput_ne (by omega), fS6 _ _ (by omega)]
    have q2 : ∀ k, Sm7 (B + 26) k = if k = c then nI x3 else Sm (B + 26) k := fun k => by
      rw [hSm7, zup_ne (by omega), ← fr6 (B + 26) k (by omega) (by omega)]
      by_cases e : k = c
      · rw [zup_eq rfl e, if_pos e]
      · rw [zup_ne (by omega), zup_ne (by omega), zup_ne (by omega), if_neg e]
    have v2 : ∀ k, S7 79 k = if k = c then nI x3 else S 79 k := fun k => by
      rw [hS7, zup_ne (by omega), zput_at (by omega) (by omega), zput_ne (by omega), zput_ne (by omega), fS6 _ _ (by omega)]
    have fN : ∀ j k, (j = 162 ∧ k = 5) ∨ j = 165 ∨ j = 167 → S7 j k = S2 j k := fun j k h => by
      rw [e3 _ _ (by omega) (by omega) (by omega) (by omega), f4.1 _ _ (by omega) (by omega), d4.1 _ _ (by omega) (by omega), c4.1 _ _ (by omega) (by omega)]
    have fN1 : ∀ j k, (j = 162 ∧ k = 5) ∨ j = 165 ∨ j = 167 → S1 j k = S j k := fun j k h => a4.1 j k (by omega) (by omega)
    have fQ : ∀ j k, (j = B ∧ k = 13) ∨ j = B + 28 ∨ j = B + 29 → Sm7 j k = Sm2 j k := fun j k h => by
      rw [e7 j k (by omega) (by omega), f4.2.1 j k (by omega), d4.2.1 j k (by omega), c4.2.1 j k (by omega)]
    have fQ1 : ∀ j k, j = B + 28 ∨ j = B + 29 → Sm1 j k = Sm j k := fun j k h => a4.2.1 j k (by omega)
    refine ⟨S7, Sm7, L2, Lm6, cl, mo.trans ?_, st _ e7, fC, fun j k h1 h2 h3 h4 h5 => (e7 j k (by omega) h5).trans (fM j k (by omega) (by omega) h3 h4), b4.2.2.1, fL, fun _ => ⟨c7', ⟨by omega, by rw [hS7]; exact zup_eq rfl rfl, by rw [hSm7]; exact zup_eq rfl rfl, fun i hi => ?_⟩, zPnm_s_162 hN (hck c7') (by omega) ((fN _ _ (by omega)).trans u1) ((fQ _ _ (by omega)).trans u2) (fun i hi => ?_) (fun i => (fN _ _ (by omega)).trans (by rw [u4, fN1 _ _ (by omega)])) (fun i => (fN _ _ (by omega)).trans (by rw [u5, fN1 _ _ (by omega)])) (fun i => (fQ _ _ (by omega)).trans (by rw [u6, fQ1 _ _ (by omega)])) (fun i => (fQ _ _ (by omega)).trans (by rw [u7, fQ1 _ _ (by omega)])) ⟨by decide, fun h => absurd h (by decide)⟩⟩⟩
    · rw [hSm7]
      simp (config := {maxSteps := 1000000}) (disch := omega) only [↓reduceIte, Int32.reduceLT, Int32.reduceLE, Int32.reduceToNatClampNeg, Int32.reduceAdd, Int32.reduceSub, Int32.reduceMul, Nat.reduceLeDiff, zEL, zup_ne, zup_eq, zT0, zT1, zT2, if_true, if_false, zneq_f, true_and, and_true, false_and, and_false, zKL, eq_self, Nat.reduceEqDiff, zite0, ite_not, zaddr, zaddl, zputr, zsb1, zsb2, zsb0, zsbm, znm1, r0, rB, s202_57, s202_58, s202_61, s202_62, s202_65, s202_66, s202_67, s202_70, s202_73, s202_74, s202_77, s202_80, s202_81, s202_82, s202_83, s202_86, s202_89, s202_90, s202_93, s202_96, s202_97, s202_98, s202_99, s202_102, s202_105, s202_106, s202_109, s202_112, s202_113, s202_114, s202_115, s202_118, s202_119, s202_122, s202_123, s202_124, s202_127, o2, j6]
    · rw [v0, v1, v2, q0, q1, q2]
      by_cases e : i = c
      · simp only [if_pos e]
        exact ⟨trivial, trivial, trivial, x1, x2, x3, z0, z1, by omega, rfl, rfl, rfl⟩
      · simp only [if_neg e]
        exact p3 i (by omega)
    · rw [f4.2.2 _ _ (by omega), d4.2.2 _ _ (by omega), c4.2.2 _ _ (by omega)]
      exact u3 i hi
  · refine ⟨S7, Sm6, L2, Lm6, cl, mo.trans ?_, st Sm6 (fun _ _ _ _ => rfl), fC, fun j k h1 h2 h3 h4 h5 => fM j k (by omega) (by omega) h3 h4, b4.2.2.1, fL, fun h => ?_⟩
    · simp (config := {maxSteps := 1000000}) (disch := omega) only [↓reduceIte, Int32.reduceLT, Int32.reduceLE, Int32.reduceToNatClampNeg, Int32.reduceAdd, Int32.reduceSub, Int32.reduceMul, Nat.reduceLeDiff, zEL, zup_ne, zup_eq, zT0, zT1, zT2, if_true, if_false, r0, rB, s202_57, s202_58, s202_61, s202_62, s202_65, s202_66, s202_67, s202_70, s202_73, s202_74, s202_77, s202_80, s202_81, s202_82, s202_83, s202_86, s202_89, s202_90, s202_93, s202_96, s202_97, s202_98, s202_99, s202_102, s202_105, s202_106, s202_109, s202_112, s202_113, s202_114, s202_115, s202_118, s202_119, s202_122, s202_123, s202_124, s202_127, o2]
    · rw [e3 _ _ (by omega) (by decide) (by decide) (by decide)] at h
      exact absurd h o1
end ZPE
