/-! THE TEXT: LINES: block, site -/
section ZPD
variable {S Sm S' Sm' : zS} {L Lm L' Lm' : zL} {R : List zE} {n B p q : Nat} {b : Nat → Nat}
/-- the blocks, the sites -/
def zPbl_80 (B c : Nat) (S Sm : zS) : Prop :=
  c ≤ 8 ∧ S 102 7 = nI c ∧ Sm B 7 = nI c ∧ ∀ k, k < c → S 104 k = Sm (B + 3) k ∧ S 106 k = Sm (B + 4) k ∧ S 108 k = Sm (B + 5) k ∧ S 110 k = Sm (B + 6) k ∧ zin (Sm (B + 3) k) 1 ∧ zin (Sm (B + 4) k) 4 ∧ zin (Sm (B + 5) k) 19 ∧ zin1 (Sm (B + 6) k) 9
theorem zPbl_fr_80 {c : Nat} (h : zPbl_80 B c S Sm) (h1 : ∀ j k, (j = 102 ∧ k = 7) ∨ j = 104 ∨ j = 106 ∨ j = 108 ∨ j = 110 → S' j k = S j k) (h2 : ∀ j k, (j = B ∧ k = 7) ∨ (B + 3 ≤ j ∧ j ≤ B + 6) → Sm' j k = Sm j k) : zPbl_80 B c S' Sm' := by
  unfold zPbl_80 at h ⊢
  have e2 : S' 104 = S 104 := funext fun k => h1 _ k (by omega)
  have e4 : S' 106 = S 106 := funext fun k => h1 _ k (by omega)
  have e6 : S' 108 = S 108 := funext fun k => h1 _ k (by omega)
  have e8 : S' 110 = S 110 := funext fun k => h1 _ k (by omega)
  have m0 : Sm' (B + 3) = Sm (B + 3) := funext fun k => h2 _ k (by omega)
  have m1 : Sm' (B + 4) = Sm (B + 4) := funext fun k => h2 _ k (by omega)
  have m2 : Sm' (B + 5) = Sm (B + 5) := funext fun k => h2 _ k (by omega)
  have m3 : Sm' (B + 6) = Sm (B + 6) := funext fun k => h2 _ k (by omega)
  rw [e2, e4, e6, e8, m0, m1, m2, m3, h1 _ 7 (by omega), h2 B 7 (by omega)]
  exact h
theorem l51_bl_80 {c k c0 : Nat} (hR : zLT R) (hB : zLB R B) (hB11 : 11 ≤ B) (hT : zTKc n b p q S) (hO : zOKs 80 n b p q S Sm Lm) (hk : zkN b n p q = 1) (h0 : S 102 0 = 8) (hP : zPbl_80 B c S Sm) (hN : zPnm_80 B k c0 S Sm L Lm) (hck : c < 8 → k ≤ 25) : ∃ S' Sm' L' Lm', zcall 51 [.ref 80, .ref 102, .int 1, .ref 1000036, .int 9] zRc S L = some (none, zRc, S', L') ∧ zcall 197 [.ref 0] R Sm Lm = some (none, R, Sm', Lm') ∧ zST 80 n b S' Sm' Lm' ∧ (∀ j k, (j ≠ 1 ∨ (k ≠ 2 ∧ k ≠ 3 ∧ k ≠ 4)) → (j ≠ 80 ∨ (k ≠ 5 ∧ k ≠ 6 ∧ k ≠ 7)) → j ≠ 159 → j ≠ 161 → (j ≠ 102 ∨ k ≠ 7) → j ≠ 104 → j ≠ 106 → j ≠ 108 → j ≠ 110 → S' j k = S j k) ∧ (∀ j k, (j ≠ 0 ∨ k < 8 ∨ 18 < k) → (j ≠ B ∨ (k ≠ 7 ∧ k ≠ 13)) → j ≠ B + 28 → j ≠ B + 29 → (j < B + 3 ∨ B + 6 < j) → Sm' j k = Sm j k) ∧ (∀ j k, j ≠ 157 → L' j k = L j k) ∧ (∀ j k, (j ≠ 0 ∨ k ≠ 15) → j ≠ B + 27 → Lm' j k = Lm j k) ∧ (S' 80 6 = 0 → c < 8 ∧ zPbl_80 B (c + 1) S' Sm' ∧ zPnm_80 B (k + 1) c0 S' Sm' L' Lm') := by
  have r0 := hR
  unfold zLT at r0
  have rB := hB
  unfold zLB at rB
  obtain ⟨hc8, p1, p2, p3⟩ := hP
  obtain ⟨hk26, n1, n2, n3⟩ := id hN
  have k82 := t82_bl_80 (L := L) hc8 p1 h0
  obtain ⟨S1, Sm1, Lm1, a1, a2, a3, a4, a5⟩ := op59_80 (L := L) (fl := if c = 8 then 1 else 0) (many := nI c) (most := 8) hR hT hO hk (by
    by_cases e : c = 8
    · subst e
      exact .inl ⟨if_pos rfl, rfl⟩
    · exact .inr ⟨if_neg e, fun h => e ((znI_inj (b := 8) (by omega) (by omega)).mp h)⟩)
  have hc7 : S1 80 6 = 0 → c < 8 := fun h => by
    have g0 := a5 h
    rcases Nat.lt_or_ge c 8 with h | h
    · exact h
    · rw [if_pos (by omega)] at g0; exact absurd g0 (by decide)
  have i1 : S1 102 7 = nI c := (a4.1 _ _ (by omega) (by omega)).trans p1
  have j1 : Sm1 B 7 = nI c := (a4.2.1 _ _ (by omega)).trans p2
  obtain ⟨S2, Sm2, L2, Lm2, b1, b2, b3, b4, b5, -⟩ := op64_80 (L := L) (k := k) (k' := k) (s := 1) (s' := 1) (num := nI c) (num' := nI c) hR hB hB11 a3 hk26 hk26 ((a4.1 _ _ (by omega) (by omega)).trans n1) ((a4.2.1 _ _ (by omega)).trans n2) (fun h => ⟨rfl, hck (hc7 h), fun i hi => by rw [a4.2.2 _ _ (by omega)]; exact (n3 i hi).1⟩)
  have i2 : S2 102 7 = nI c := (b4.1 _ _ (by omega) (by omega) (by decide) (by decide)).trans i1
  have j2 : Sm2 B 7 = nI c := (b4.2.1 _ _ (by omega) (by omega) (by omega) (by omega)).trans j1
  obtain ⟨S3, Sm3, Lm3, c1, c2, c3, c4, c5, c6, c7, c8⟩ := op54x_bl_80 (L := L2) hR b3 i2
  have j3 : Sm3 B 7 = nI c := (c5 _ _ (by omega)).trans j2
  obtain ⟨v1, w1, S4, Sm4, Lm4, d1, d2, d3, d4, d5⟩ := op62_80 (L := L2) (l := 1) (u := 9) (lo := 1) (hi := 9) (lo' := 1) (hi' := 9) hR (fun p q S L h => cw_strong h) (fun p q S Sm Lm h => mw_strong hR h) c3 (by omega) (by omega) (fun _ => ⟨rfl, rfl, rfl, rfl⟩)
  have cl : zcall 51 [.ref 80, .ref 102, .int 1, .ref 1000036, .int 9] zRc S L = some (none, zRc, zput S4 110 8 (nI c) v1, L2) := by
    unfold zcall
    simp (config := {maxSteps := 1000000}) (disch := omega) only [↓reduceIte, Int32.reduceLT, Int32.reduceLE, Int32.reduceToNatClampNeg, Int32.reduceAdd, Int32.reduceSub, Int32.reduceMul, Nat.reduceLeDiff, zEL, zup_ne, zup_eq, zT0, zT1, zT2, if_true, if_false, gR, gT, ze_51, s51_0, s51_1, s51_2, s51_5, s51_8, s51_9, s51_12, s51_14, s51_15, s51_16, s51_18, s51_21, s51_22, s51_23, s51_26, s51_27, s51_30, s51_32, s51_33, s51_34, s51_35, s51_37, s51_40, s51_43, k82, a1, i1, b1, c1, d1]
  have mo : zcall 197 [.ref 0] R Sm Lm = zgo 197 40 [.ref 0, .int w1, .retAddr 0] [] R Sm4 Lm4 := by
    unfold zcall
    simp (config := {maxSteps := 1000000}) (disch := omega) only [↓reduceIte, Int32.reduceLT, Int32.reduceLE, Int32.reduceToNatClampNeg, Int32.reduceAdd, Int32.reduceSub, Int32.reduceMul, Nat.reduceLeDiff, zEL, zup_ne, zup_eq, zT0, zT1, zT2, if_true, if_false, r0, rB, ze_197, s197_0, s197_1, s197_2, s197_5, s197_8, s197_10, s197_13, s197_14, s197_15, s197_16, s197_19, s197_22, s197_25, s197_26, s197_29, s197_30, s197_33, s197_34, s197_36, s197_39, p2, a2, j1, b2, c2, d2]
  have j6 : Sm4 B 7 = nI c := by rw [d4.2.1 _ _ (by omega), j3]
  have st : ∀ Sm7, (∀ j k, (j ≠ B ∨ k ≠ 7) → (j < B + 3 ∨ B + 6 < j) → Sm7 j k = Sm4 j k) → zST 80 n b (zput S4 110 8 (nI c) v1) Sm7 Lm4 := fun Sm7 h => zST_fr d3 (fun k => zput_ne (by omega)) (fun k => zput_ne (by omega)) (zput_ne (by omega)) (zput_ne (by omega)) (fun k _ => h 0 k (by omega) (by omega)) (fun k => h 1 k (by omega) (by omega)) rfl
  have fC : ∀ j k, (j ≠ 1 ∨ (k ≠ 2 ∧ k ≠ 3 ∧ k ≠ 4)) → (j ≠ 80 ∨ (k ≠ 5 ∧ k ≠ 6 ∧ k ≠ 7)) → j ≠ 159 → j ≠ 161 → (j ≠ 102 ∨ k ≠ 7) → j ≠ 104 → j ≠ 106 → j ≠ 108 → j ≠ 110 → zput S4 110 8 (nI c) v1 j k = S j k := fun j k h1 h2 h3 h4 h5 h6 h7 h8 h9 => by
    rw [zput_ne h9, d4.1 j k h1 (by omega), c4 j k h1 (by omega) h5 h6 h7 h8, b4.1 j k h1 h2 h3 h4, a4.1 j k h1 (by omega)]
  have fM : ∀ j k, (j ≠ 0 ∨ k < 8 ∨ 18 < k) → (j ≠ B ∨ k ≠ 13) → j ≠ B + 28 → j ≠ B + 29 → Sm4 j k = Sm j k := fun j k h1 h2 h3 h4 => by
    rw [d4.2.1 j k (by omega), c5 j k (by omega), b4.2.1 j k (by omega) h2 h3 h4, a4.2.1 j k (by omega)]
  have fL : ∀ j k, (j ≠ 0 ∨ k ≠ 15) → j ≠ B + 27 → Lm4 j k = Lm j k := fun j k h1 h2 => by
    rw [d4.2.2 j k h1, c6 j k h1, b4.2.2.2 j k h1 h2, a4.2.2 j k h1]
  rcases zST_9 d3 with ⟨o1, o2⟩ | ⟨o1, o2⟩
  · have o2 : (Sm4 0 9 = 5) = False := eq_false o2
    obtain ⟨y3, x1, z0, z1, rfl, rfl⟩ := d5 o1
    obtain ⟨y2, s, l, y, hs, hl, hy, m16, m17, m18, hrow⟩ := c8 y3
    obtain ⟨y1, u1, u2, u3, u4, u5, u6, u7⟩ := b5 y2
    have c7' := hc7 y1
    obtain ⟨w10, w12, w14⟩ := hrow c7'
    have m16' : Sm4 0 16 = nI s := by rw [d4.2.1 _ _ (by omega), m16]
    have m17' : Sm4 0 17 = nI l := by rw [d4.2.1 _ _ (by omega), m17]
    have m18' : Sm4 0 18 = nI y := by rw [d4.2.1 _ _ (by omega), m18]
    obtain ⟨Sm7, hSm7⟩ : ∃ Sm7, Sm7 = zup (zup (zup (zup (zup Sm4 (B + 3) c (nI s)) (B + 4) c (nI l)) (B + 5) c (nI y)) (B + 6) c (nI x1)) B 7 (nI (c + 1)) := ⟨_, rfl⟩
    have e7 : ∀ j k, (j ≠ B ∨ k ≠ 7) → (j < B + 3 ∨ B + 6 < j) → Sm7 j k = Sm4 j k := fun j k h1 h2 => by
      rw [hSm7, zup_ne (by omega), zup_ne (by omega), zup_ne (by omega), zup_ne (by omega), zup_ne (by omega)]
    have fr6 : ∀ j k, B + 3 ≤ j → j ≤ B + 6 → Sm4 j k = Sm j k := fun j k h1 h2 => fM j k (by omega) (by omega) (by omega) (by omega)
    have q0 : ∀ k, Sm7 (B + 3) k = if k = c then nI s else Sm (B + 3) k := fun k => by
      rw [hSm7, zup_ne (by omega), zup_ne (by omega), zup_ne (by omega), zup_ne (by omega), ← fr6 (B + 3) k (by omega) (by omega)]
      by_cases e : k = c
      · rw [zup_eq rfl e, if_pos e]
      · rw [zup_ne (by omega), if_neg e]
    have q1 : ∀ k, Sm7 (B + 4) k = if k = c then nI l else Sm (B + 4) k := fun k => by
      rw [hSm7, zup_ne (by omega), zup_ne (by omega), zup_ne (by omega), ← fr6 (B + 4) k (by omega) (by omega)]
      by_cases e : k = c
      · rw [zup_eq rfl e, if_pos e]
      · rw [zup_ne (by omega), zup_ne (by omega), if_neg e]
    have q2 : ∀ k, Sm7 (B + 5) k = if k = c then nI y else Sm (B + 5) k := fun k => by
      rw [hSm7, zup_ne (by omega), zup_ne (by omega), ← fr6 (B + 5) k (by omega) (by omega)]
      by_cases e : k = c
      · rw [zup_eq rfl e, if_pos e]
      · rw [zup_ne (by omega), zup_ne (by omega), zup_ne (by omega), if_neg e]
    have q3 : ∀ k, Sm7 (B + 6) k = if k = c then nI x1 else Sm (B + 6) k := fun k => by
      rw [hSm7, zup_ne (by omega), ← fr6 (B + 6) k (by omega) (by omega)]
      by_cases e : k = c
      · rw [zup_eq rfl e, if_pos e]
      · rw [zup_ne (by omega), zup_ne (by omega), zup_ne (by omega), zup_ne (by omega), if_neg e]
    have v2 : ∀ k, zput S4 110 8 (nI c) (nI x1) 104 k = if k = c then nI s else S 104 k := fun k => by
      rw [zput_ne (by omega), d4.1 _ _ (by omega) (by omega), w10, b4.1 _ _ (by omega) (by omega) (by decide) (by decide), a4.1 _ _ (by omega) (by omega)]
    have v4 : ∀ k, zput S4 110 8 (nI c) (nI x1) 106 k = if k = c then nI l else S 106 k := fun k => by
      rw [zput_ne (by omega), d4.1 _ _ (by omega) (by omega), w12, b4.1 _ _ (by omega) (by omega) (by decide) (by decide), a4.1 _ _ (by omega) (by omega)]
    have v6 : ∀ k, zput S4 110 8 (nI c) (nI x1) 108 k = if k = c then nI y else S 108 k := fun k => by
      rw [zput_ne (by omega), d4.1 _ _ (by omega) (by omega), w14, b4.1 _ _ (by omega) (by omega) (by decide) (by decide), a4.1 _ _ (by omega) (by omega)]
    have v8 : ∀ k, zput S4 110 8 (nI c) (nI x1) 110 k = if k = c then nI x1 else S 110 k := fun k => by
      rw [zput_at (by omega) (by omega), d4.1 _ _ (by omega) (by omega), c4 _ _ (by omega) (by omega) (by omega) (by omega) (by omega) (by omega), b4.1 _ _ (by omega) (by omega) (by omega) (by omega), a4.1 _ _ (by omega) (by omega)]
    have v7 : zput S4 110 8 (nI c) (nI x1) 102 7 = nI (c + 1) := by
      rw [zput_ne (by omega), d4.1 _ _ (by omega) (by omega), c7]
    have fN : ∀ j k, (j = 80 ∧ k = 5) ∨ j = 159 ∨ j = 161 → zput S4 110 8 (nI c) (nI x1) j k = S2 j k := fun j k h => by
      rw [zput_ne (by omega), d4.1 _ _ (by omega) (by omega), c4 j k (by omega) (by omega) (by omega) (by omega) (by omega) (by omega)]
    have fN1 : ∀ j k, (j = 80 ∧ k = 5) ∨ j = 159 ∨ j = 161 → S1 j k = S j k := fun j k h => a4.1 j k (by omega) (by omega)
    have fQ : ∀ j k, (j = B ∧ k = 13) ∨ j = B + 28 ∨ j = B + 29 → Sm7 j k = Sm2 j k := fun j k h => by
      rw [e7 j k (by omega) (by omega), d4.2.1 j k (by omega), c5 j k (by omega)]
    have fQ1 : ∀ j k, j = B + 28 ∨ j = B + 29 → Sm1 j k = Sm j k := fun j k h => a4.2.1 j k (by omega)
    refine ⟨_, Sm7, L2, Lm4, cl, mo.trans ?_, st _ e7, fC, fun j k h1 h2 h3 h4 h5 => (e7 j k (by omega) h5).trans (fM j k h1 (by omega) h3 h4), b4.2.2.1, fL, fun _ => ⟨c7', ⟨by omega, v7, by rw [hSm7]; exact zup_eq rfl rfl, fun i hi => ?_⟩, zPnm_s_80 hN (hck c7') (by omega) ((fN _ _ (by omega)).trans u1) ((fQ _ _ (by omega)).trans u2) (fun i hi => ?_) (fun i => (fN _ _ (by omega)).trans (by rw [u4, fN1 _ _ (by omega)])) (fun i => (fN _ _ (by omega)).trans (by rw [u5, fN1 _ _ (by omega)])) (fun i => (fQ _ _ (by omega)).trans (by rw [u6, fQ1 _ _ (by omega)])) (fun i => (fQ _ _ (by omega)).trans (by rw [u7, fQ1 _ _ (by omega)])) ⟨by decide, fun h => absurd h (by decide)⟩⟩⟩
    · rw [hSm7]
      simp (config := {maxSteps := 1000000}) (disch := omega) only [↓reduceIte, Int32.reduceLT, Int32.reduceLE, Int32.reduceToNatClampNeg, Int32.reduceAdd, Int32.reduceSub, Int32.reduceMul, Nat.reduceLeDiff, zEL, zup_ne, zup_eq, zT0, zT1, zT2, if_true, if_false, zneq_f, true_and, and_true, false_and, and_false, zKL, eq_self, Nat.reduceEqDiff, zite0, ite_not, zaddr, zaddl, zputr, zsb1, zsb2, zsb0, zsbm, znm1, r0, rB, s197_40, s197_41, s197_44, s197_45, s197_48, s197_49, s197_50, s197_53, s197_56, s197_57, s197_58, s197_61, s197_64, s197_65, s197_66, s197_69, s197_70, s197_71, s197_74, s197_77, s197_78, s197_79, s197_82, s197_83, s197_84, s197_87, s197_90, s197_91, s197_92, s197_95, s197_96, s197_97, s197_100, s197_103, s197_104, s197_105, s197_106, s197_107, s197_110, s197_111, s197_114, s197_115, s197_116, s197_119, o2, j6, m16', m17', m18']
    · rw [v2, v4, v6, v8, q0, q1, q2, q3]
      by_cases e : i = c
      · simp only [if_pos e]
        exact ⟨trivial, trivial, trivial, trivial, ⟨s, hs, rfl⟩, ⟨l, hl, rfl⟩, ⟨y, hy, rfl⟩, ⟨x1, z0, z1, rfl⟩⟩
      · simp only [if_neg e]
        exact p3 i (by omega)
    · rw [d4.2.2 _ _ (by omega), c6 _ _ (by omega)]
      exact u3 i hi
  · refine ⟨_, Sm4, L2, Lm4, cl, mo.trans ?_, st Sm4 (fun _ _ _ _ => rfl), fC, fun j k h1 h2 h3 h4 h5 => fM j k h1 (by omega) h3 h4, b4.2.2.1, fL, fun h => ?_⟩
    · simp (config := {maxSteps := 1000000}) (disch := omega) only [↓reduceIte, Int32.reduceLT, Int32.reduceLE, Int32.reduceToNatClampNeg, Int32.reduceAdd, Int32.reduceSub, Int32.reduceMul, Nat.reduceLeDiff, zEL, zup_ne, zup_eq, zT0, zT1, zT2, if_true, if_false, r0, rB, s197_40, s197_41, s197_44, s197_45, s197_48, s197_49, s197_50, s197_53, s197_56, s197_57, s197_58, s197_61, s197_64, s197_65, s197_66, s197_69, s197_70, s197_71, s197_74, s197_77, s197_78, s197_79, s197_82, s197_83, s197_84, s197_87, s197_90, s197_91, s197_92, s197_95, s197_96, s197_97, s197_100, s197_103, s197_104, s197_105, s197_106, s197_107, s197_110, s197_111, s197_114, s197_115, s197_116, s197_119, o2]
    · rw [zput_ne (by omega)] at h
      exact absurd h o1
/-- the blocks, the sites -/
def zPsi_80 (B c : Nat) (S Sm : zS) : Prop :=
  c ≤ 6 ∧ S 115 7 = nI c ∧ Sm B 9 = nI c ∧ ∀ k, k < c → S 117 k = Sm (B + 13) k ∧ S 119 k = Sm (B + 14) k ∧ S 121 k = Sm (B + 15) k ∧ S 123 k = Sm (B + 16) k ∧ zin (Sm (B + 13) k) 1 ∧ zin (Sm (B + 14) k) 4 ∧ zin (Sm (B + 15) k) 19 ∧ zin1 (Sm (B + 16) k) 30
theorem zPsi_fr_80 {c : Nat} (h : zPsi_80 B c S Sm) (h1 : ∀ j k, (j = 115 ∧ k = 7) ∨ j = 117 ∨ j = 119 ∨ j = 121 ∨ j = 123 → S' j k = S j k) (h2 : ∀ j k, (j = B ∧ k = 9) ∨ (B + 13 ≤ j ∧ j ≤ B + 16) → Sm' j k = Sm j k) : zPsi_80 B c S' Sm' := by
  unfold zPsi_80 at h ⊢
  have e2 : S' 117 = S 117 := funext fun k => h1 _ k (by omega)
  have e4 : S' 119 = S 119 := funext fun k => h1 _ k (by omega)
  have e6 : S' 121 = S 121 := funext fun k => h1 _ k (by omega)
  have e8 : S' 123 = S 123 := funext fun k => h1 _ k (by omega)
  have m0 : Sm' (B + 13) = Sm (B + 13) := funext fun k => h2 _ k (by omega)
  have m1 : Sm' (B + 14) = Sm (B + 14) := funext fun k => h2 _ k (by omega)
  have m2 : Sm' (B + 15) = Sm (B + 15) := funext fun k => h2 _ k (by omega)
  have m3 : Sm' (B + 16) = Sm (B + 16) := funext fun k => h2 _ k (by omega)
  rw [e2, e4, e6, e8, m0, m1, m2, m3, h1 _ 7 (by omega), h2 B 9 (by omega)]
  exact h
theorem l51_si_80 {c k c0 : Nat} (hR : zLT R) (hB : zLB R B) (hB11 : 11 ≤ B) (hT : zTKc n b p q S) (hO : zOKs 80 n b p q S Sm Lm) (hk : zkN b n p q = 1) (h0 : S 115 0 = 6) (hP : zPsi_80 B c S Sm) (hN : zPnm_80 B k c0 S Sm L Lm) (hck : c < 6 → k ≤ 25) : ∃ S' Sm' L' Lm', zcall 51 [.ref 80, .ref 115, .int 2, .ref 1000039, .int 30] zRc S L = some (none, zRc, S', L') ∧ zcall 199 [.ref 0] R Sm Lm = some (none, R, Sm', Lm') ∧ zST 80 n b S' Sm' Lm' ∧ (∀ j k, (j ≠ 1 ∨ (k ≠ 2 ∧ k ≠ 3 ∧ k ≠ 4)) → (j ≠ 80 ∨ (k ≠ 5 ∧ k ≠ 6 ∧ k ≠ 7)) → j ≠ 159 → j ≠ 161 → (j ≠ 115 ∨ k ≠ 7) → j ≠ 117 → j ≠ 119 → j ≠ 121 → j ≠ 123 → S' j k = S j k) ∧ (∀ j k, (j ≠ 0 ∨ k < 8 ∨ 18 < k) → (j ≠ B ∨ (k ≠ 9 ∧ k ≠ 13)) → j ≠ B + 28 → j ≠ B + 29 → (j < B + 13 ∨ B + 16 < j) → Sm' j k = Sm j k) ∧ (∀ j k, j ≠ 157 → L' j k = L j k) ∧ (∀ j k, (j ≠ 0 ∨ k ≠ 15) → j ≠ B + 27 → Lm' j k = Lm j k) ∧ (S' 80 6 = 0 → c < 6 ∧ zPsi_80 B (c + 1) S' Sm' ∧ zPnm_80 B (k + 1) c0 S' Sm' L' Lm') := by
  have r0 := hR
  unfold zLT at r0
  have rB := hB
  unfold zLB at rB
  obtain ⟨hc8, p1, p2, p3⟩ := hP
  obtain ⟨hk26, n1, n2, n3⟩ := id hN
  have k82 := t82_si_80 (L := L) hc8 p1 h0
  obtain ⟨S1, Sm1, Lm1, a1, a2, a3, a4, a5⟩ := op59_80 (L := L) (fl := if c = 6 then 1 else 0) (many := nI c) (most := 6) hR hT hO hk (by
    by_cases e : c = 6
    · subst e
      exact .inl ⟨if_pos rfl, rfl⟩
    · exact .inr ⟨if_neg e, fun h => e ((znI_inj (b := 6) (by omega) (by omega)).mp h)⟩)
  have hc7 : S1 80 6 = 0 → c < 6 := fun h => by
    have g0 := a5 h
    rcases Nat.lt_or_ge c 6 with h | h
    · exact h
    · rw [if_pos (by omega)] at g0; exact absurd g0 (by decide)
  have i1 : S1 115 7 = nI c := (a4.1 _ _ (by omega) (by omega)).trans p1
  have j1 : Sm1 B 9 = nI c := (a4.2.1 _ _ (by omega)).trans p2
  obtain ⟨S2, Sm2, L2, Lm2, b1, b2, b3, b4, b5, -⟩ := op64_80 (L := L) (k := k) (k' := k) (s := 2) (s' := 1) (num := nI c) (num' := nI c) hR hB hB11 a3 hk26 hk26 ((a4.1 _ _ (by omega) (by omega)).trans n1) ((a4.2.1 _ _ (by omega)).trans n2) (fun h => ⟨rfl, hck (hc7 h), fun i hi => by rw [a4.2.2 _ _ (by omega)]; exact (n3 i hi).1⟩)
  have i2 : S2 115 7 = nI c := (b4.1 _ _ (by omega) (by omega) (by decide) (by decide)).trans i1
  have j2 : Sm2 B 9 = nI c := (b4.2.1 _ _ (by omega) (by omega) (by omega) (by omega)).trans j1
  obtain ⟨S3, Sm3, Lm3, c1, c2, c3, c4, c5, c6, c7, c8⟩ := op54x_si_80 (L := L2) hR b3 i2
  have j3 : Sm3 B 9 = nI c := (c5 _ _ (by omega)).trans j2
  obtain ⟨v1, w1, S4, Sm4, Lm4, d1, d2, d3, d4, d5⟩ := op62_80 (L := L2) (l := 1) (u := 30) (lo := 1) (hi := 30) (lo' := 1) (hi' := 30) hR (fun p q S L h => cw_takes h) (fun p q S Sm Lm h => mw_takes hR h) c3 (by omega) (by omega) (fun _ => ⟨rfl, rfl, rfl, rfl⟩)
  have cl : zcall 51 [.ref 80, .ref 115, .int 2, .ref 1000039, .int 30] zRc S L = some (none, zRc, zput S4 123 6 (nI c) v1, L2) := by
    unfold zcall
    simp (config := {maxSteps := 1000000}) (disch := omega) only [↓reduceIte, Int32.reduceLT, Int32.reduceLE, Int32.reduceToNatClampNeg, Int32.reduceAdd, Int32.reduceSub, Int32.reduceMul, Nat.reduceLeDiff, zEL, zup_ne, zup_eq, zT0, zT1, zT2, if_true, if_false, gR, gT, ze_51, s51_0, s51_1, s51_2, s51_5, s51_8, s51_9, s51_12, s51_14, s51_15, s51_16, s51_18, s51_21, s51_22, s51_23, s51_26, s51_27, s51_30, s51_32, s51_33, s51_34, s51_35, s51_37, s51_40, s51_43, k82, a1, i1, b1, c1, d1]
  have mo : zcall 199 [.ref 0] R Sm Lm = zgo 199 40 [.ref 0, .int w1, .retAddr 0] [] R Sm4 Lm4 := by
    unfold zcall
    simp (config := {maxSteps := 1000000}) (disch := omega) only [↓reduceIte, Int32.reduceLT, Int32.reduceLE, Int32.reduceToNatClampNeg, Int32.reduceAdd, Int32.reduceSub, Int32.reduceMul, Nat.reduceLeDiff, zEL, zup_ne, zup_eq, zT0, zT1, zT2, if_true, if_false, r0, rB, ze_199, s199_0, s199_1, s199_2, s199_5, s199_8, s199_10, s199_13, s199_14, s199_15, s199_16, s199_19, s199_22, s199_25, s199_26, s199_29, s199_30, s199_33, s199_34, s199_36, s199_39, p2, a2, j1, b2, c2, d2]
  have j6 : Sm4 B 9 = nI c := by rw [d4.2.1 _ _ (by omega), j3]
  have st : ∀ Sm7, (∀ j k, (j ≠ B ∨ k ≠ 9) → (j < B + 13 ∨ B + 16 < j) → Sm7 j k = Sm4 j k) → zST 80 n b (zput S4 123 6 (nI c) v1) Sm7 Lm4 := fun Sm7 h => zST_fr d3 (fun k => zput_ne (by omega)) (fun k => zput_ne (by omega)) (zput_ne (by omega)) (zput_ne (by omega)) (fun k _ => h 0 k (by omega) (by omega)) (fun k => h 1 k (by omega) (by omega)) rfl
  have fC : ∀ j k, (j ≠ 1 ∨ (k ≠ 2 ∧ k ≠ 3 ∧ k ≠ 4)) → (j ≠ 80 ∨ (k ≠ 5 ∧ k ≠ 6 ∧ k ≠ 7)) → j ≠ 159 → j ≠ 161 → (j ≠ 115 ∨ k ≠ 7) → j ≠ 117 → j ≠ 119 → j ≠ 121 → j ≠ 123 → zput S4 123 6 (nI c) v1 j k = S j k := fun j k h1 h2 h3 h4 h5 h6 h7 h8 h9 => by
    rw [zput_ne h9, d4.1 j k h1 (by omega), c4 j k h1 (by omega) h5 h6 h7 h8, b4.1 j k h1 h2 h3 h4, a4.1 j k h1 (by omega)]
  have fM : ∀ j k, (j ≠ 0 ∨ k < 8 ∨ 18 < k) → (j ≠ B ∨ k ≠ 13) → j ≠ B + 28 → j ≠ B + 29 → Sm4 j k = Sm j k := fun j k h1 h2 h3 h4 => by
    rw [d4.2.1 j k (by omega), c5 j k (by omega), b4.2.1 j k (by omega) h2 h3 h4, a4.2.1 j k (by omega)]
  have fL : ∀ j k, (j ≠ 0 ∨ k ≠ 15) → j ≠ B + 27 → Lm4 j k = Lm j k := fun j k h1 h2 => by
    rw [d4.2.2 j k h1, c6 j k h1, b4.2.2.2 j k h1 h2, a4.2.2 j k h1]
  rcases zST_9 d3 with ⟨o1, o2⟩ | ⟨o1, o2⟩
  · have o2 : (Sm4 0 9 = 5) = False := eq_false o2
    obtain ⟨y3, x1, z0, z1, rfl, rfl⟩ := d5 o1
    obtain ⟨y2, s, l, y, hs, hl, hy, m16, m17, m18, hrow⟩ := c8 y3
    obtain ⟨y1, u1, u2, u3, u4, u5, u6, u7⟩ := b5 y2
    have c7' := hc7 y1
    obtain ⟨w10, w12, w14⟩ := hrow c7'
    have m16' : Sm4 0 16 = nI s := by rw [d4.2.1 _ _ (by omega), m16]
    have m17' : Sm4 0 17 = nI l := by rw [d4.2.1 _ _ (by omega), m17]
    have m18' : Sm4 0 18 = nI y := by rw [d4.2.1 _ _ (by omega), m18]
    obtain ⟨Sm7, hSm7⟩ : ∃ Sm7, Sm7 = zup (zup (zup (zup (zup Sm4 (B + 13) c (nI s)) (B + 14) c (nI l)) (B + 15) c (nI y)) (B + 16) c (nI x1)) B 9 (nI (c + 1)) := ⟨_, rfl⟩
    have e7 : ∀ j k, (j ≠ B ∨ k ≠ 9) → (j < B + 13 ∨ B + 16 < j) → Sm7 j k = Sm4 j k := fun j k h1 h2 => by
      rw [hSm7, zup_ne (by omega), zup_ne (by omega), zup_ne (by omega), zup_ne (by omega), zup_ne (by omega)]
    have fr6 : ∀ j k, B + 13 ≤ j → j ≤ B + 16 → Sm4 j k = Sm j k := fun j k h1 h2 => fM j k (by omega) (by omega) (by omega) (by omega)
    have q0 : ∀ k, Sm7 (B + 13) k = if k = c then nI s else Sm (B + 13) k := fun k => by
      rw [hSm7, zup_ne (by omega), zup_ne (by omega), zup_ne (by omega), zup_ne (by omega), ← fr6 (B + 13) k (by omega) (by omega)]
      by_cases e : k = c
      · rw [zup_eq rfl e, if_pos e]
      · rw [zup_ne (by omega), if_neg e]
    have q1 : ∀ k, Sm7 (B + 14) k = if k = c then nI l else Sm (B + 14) k := fun k => by
      rw [hSm7, zup_ne (by omega), zup_ne (by omega), zup_ne (by omega), ← fr6 (B + 14) k (by omega) (by omega)]
      by_cases e : k = c
      · rw [zup_eq rfl e, if_pos e]
      · rw [zup_ne (by omega), zup_ne (by omega), if_neg e]
    have q2 : ∀ k, Sm7 (B + 15) k = if k = c then nI y else Sm (B + 15) k := fun k => by
      rw [hSm7, zup_ne (by omega), zup_ne (by omega), ← fr6 (B + 15) k (by omega) (by omega)]
      by_cases e : k = c
      · rw [zup_eq rfl e, if_pos e]
      · rw [zup_ne (by omega), zup_ne (by omega), zup_ne (by omega), if_neg e]
    have q3 : ∀ k, Sm7 (B + 16) k = if k = c then nI x1 else Sm (B + 16) k := fun k => by
      rw [hSm7, zup_ne (by omega), ← fr6 (B + 16) k (by omega) (by omega)]
      by_cases e : k = c
      · rw [zup_eq rfl e, if_pos e]
      · rw [zup_ne (by omega), zup_ne (by omega), zup_ne (by omega), zup_ne (by omega), if_neg e]
    have v2 : ∀ k, zput S4 123 6 (nI c) (nI x1) 117 k = if k = c then nI s else S 117 k := fun k => by
      rw [zput_ne (by omega), d4.1 _ _ (by omega) (by omega), w10, b4.1 _ _ (by omega) (by omega) (by decide) (by decide), a4.1 _ _ (by omega) (by omega)]
    have v4 : ∀ k, zput S4 123 6 (nI c) (nI x1) 119 k = if k = c then nI l else S 119 k := fun k => by
      rw [zput_ne (by omega), d4.1 _ _ (by omega) (by omega), w12, b4.1 _ _ (by omega) (by omega) (by decide) (by decide), a4.1 _ _ (by omega) (by omega)]
    have v6 : ∀ k, zput S4 123 6 (nI c) (nI x1) 121 k = if k = c then nI y else S 121 k := fun k => by
      rw [zput_ne (by omega), d4.1 _ _ (by omega) (by omega), w14, b4.1 _ _ (by omega) (by omega) (by decide) (by decide), a4.1 _ _ (by omega) (by omega)]
    have v8 : ∀ k, zput S4 123 6 (nI c) (nI x1) 123 k = if k = c then nI x1 else S 123 k := fun k => by
      rw [zput_at (by omega) (by omega), d4.1 _ _ (by omega) (by omega), c4 _ _ (by omega) (by omega) (by omega) (by omega) (by omega) (by omega), b4.1 _ _ (by omega) (by omega) (by omega) (by omega), a4.1 _ _ (by omega) (by omega)]
    have v7 : zput S4 123 6 (nI c) (nI x1) 115 7 = nI (c + 1) := by
      rw [zput_ne (by omega), d4.1 _ _ (by omega) (by omega), c7]
    have fN : ∀ j k, (j = 80 ∧ k = 5) ∨ j = 159 ∨ j = 161 → zput S4 123 6 (nI c) (nI x1) j k = S2 j k := fun j k h => by
      rw [zput_ne (by omega), d4.1 _ _ (by omega) (by omega), c4 j k (by omega) (by omega) (by omega) (by omega) (by omega) (by omega)]
    have fN1 : ∀ j k, (j = 80 ∧ k = 5) ∨ j = 159 ∨ j = 161 → S1 j k = S j k := fun j k h => a4.1 j k (by omega) (by omega)
    have fQ : ∀ j k, (j = B ∧ k = 13) ∨ j = B + 28 ∨ j = B + 29 → Sm7 j k = Sm2 j k := fun j k h => by
      rw [e7 j k (by omega) (by omega), d4.2.1 j k (by omega), c5 j k (by omega)]
    have fQ1 : ∀ j k, j = B + 28 ∨ j = B + 29 → Sm1 j k = Sm j k := fun j k h => a4.2.1 j k (by omega)
    refine ⟨_, Sm7, L2, Lm4, cl, mo.trans ?_, st _ e7, fC, fun j k h1 h2 h3 h4 h5 => (e7 j k (by omega) h5).trans (fM j k h1 (by omega) h3 h4), b4.2.2.1, fL, fun _ => ⟨c7', ⟨by omega, v7, by rw [hSm7]; exact zup_eq rfl rfl, fun i hi => ?_⟩, zPnm_s_80 hN (hck c7') (by omega) ((fN _ _ (by omega)).trans u1) ((fQ _ _ (by omega)).trans u2) (fun i hi => ?_) (fun i => (fN _ _ (by omega)).trans (by rw [u4, fN1 _ _ (by omega)])) (fun i => (fN _ _ (by omega)).trans (by rw [u5, fN1 _ _ (by omega)])) (fun i => (fQ _ _ (by omega)).trans (by rw [u6, fQ1 _ _ (by omega)])) (fun i => (fQ _ _ (by omega)).trans (by rw [u7, fQ1 _ _ (by omega)])) ⟨by decide, fun h => absurd h (by decide)⟩⟩⟩
    · rw [hSm7]
      simp (config := {maxSteps := 1000000}) (disch := omega) only [↓reduceIte, Int32.reduceLT, Int32.reduceLE, Int32.reduceToNatClampNeg, Int32.reduceAdd, Int32.reduceSub, Int32.reduceMul, Nat.reduceLeDiff, zEL, zup_ne, zup_eq, zT0, zT1, zT2, if_true, if_false, zneq_f, true_and, and_true, false_and, and_false, zKL, eq_self, Nat.reduceEqDiff, zite0, ite_not, zaddr, zaddl, zputr, zsb1, zsb2, zsb0, zsbm, znm1, r0, rB, s199_40, s199_41, s199_44, s199_45, s199_48, s199_49, s199_50, s199_53, s199_56, s199_57, s199_58, s199_61, s199_64, s199_65, s199_66, s199_69, s199_70, s199_71, s199_74, s199_77, s199_78, s199_79, s199_82, s199_83, s199_84, s199_87, s199_90, s199_91, s199_92, s199_95, s199_96, s199_97, s199_100, s199_103, s199_104, s199_105, s199_106, s199_107, s199_110, s199_111, s199_114, s199_115, s199_116, s199_119, o2, j6, m16', m17', m18']
    · rw [v2, v4, v6, v8, q0, q1, q2, q3]
      by_cases e : i = c
      · simp only [if_pos e]
        exact ⟨trivial, trivial, trivial, trivial, ⟨s, hs, rfl⟩, ⟨l, hl, rfl⟩, ⟨y, hy, rfl⟩, ⟨x1, z0, z1, rfl⟩⟩
      · simp only [if_neg e]
        exact p3 i (by omega)
    · rw [d4.2.2 _ _ (by omega), c6 _ _ (by omega)]
      exact u3 i hi
  · refine ⟨_, Sm4, L2, Lm4, cl, mo.trans ?_, st Sm4 (fun _ _ _ _ => rfl), fC, fun j k h1 h2 h3 h4 h5 => fM j k h1 (by omega) h3 h4, b4.2.2.1, fL, fun h => ?_⟩
    · simp (config := {maxSteps := 1000000}) (disch := omega) only [↓reduceIte, Int32.reduceLT, Int32.reduceLE, Int32.reduceToNatClampNeg, Int32.reduceAdd, Int32.reduceSub, Int32.reduceMul, Nat.reduceLeDiff, zEL, zup_ne, zup_eq, zT0, zT1, zT2, if_true, if_false, r0, rB, s199_40, s199_41, s199_44, s199_45, s199_48, s199_49, s199_50, s199_53, s199_56, s199_57, s199_58, s199_61, s199_64, s199_65, s199_66, s199_69, s199_70, s199_71, s199_74, s199_77, s199_78, s199_79, s199_82, s199_83, s199_84, s199_87, s199_90, s199_91, s199_92, s199_95, s199_96, s199_97, s199_100, s199_103, s199_104, s199_105, s199_106, s199_107, s199_110, s199_111, s199_114, s199_115, s199_116, s199_119, o2]
    · rw [zput_ne (by omega)] at h
      exact absurd h o1
/-- the blocks, the sites -/
def zPbl_162 (B c : Nat) (S Sm : zS) : Prop :=
  c ≤ 8 ∧ S 25 7 = nI c ∧ Sm B 7 = nI c ∧ ∀ k, k < c → S 27 k = Sm (B + 3) k ∧ S 29 k = Sm (B + 4) k ∧ S 31 k = Sm (B + 5) k ∧ S 33 k = Sm (B + 6) k ∧ zin (Sm (B + 3) k) 1 ∧ zin (Sm (B + 4) k) 4 ∧ zin (Sm (B + 5) k) 19 ∧ zin1 (Sm (B + 6) k) 9
theorem zPbl_fr_162 {c : Nat} (h : zPbl_162 B c S Sm) (h1 : ∀ j k, (j = 25 ∧ k = 7) ∨ j = 27 ∨ j = 29 ∨ j = 31 ∨ j = 33 → S' j k = S j k) (h2 : ∀ j k, (j = B ∧ k = 7) ∨ (B + 3 ≤ j ∧ j ≤ B + 6) → Sm' j k = Sm j k) : zPbl_162 B c S' Sm' := by
  unfold zPbl_162 at h ⊢
  have e2 : S' 27 = S 27 := funext fun k => h1 _ k (by omega)
  have e4 : S' 29 = S 29 := funext fun k => h1 _ k (by omega)
  have e6 : S' 31 = S 31 := funext fun k => h1 _ k (by omega)
  have e8 : S' 33 = S 33 := funext fun k => h1 _ k (by omega)
  have m0 : Sm' (B + 3) = Sm (B + 3) := funext fun k => h2 _ k (by omega)
  have m1 : Sm' (B + 4) = Sm (B + 4) := funext fun k => h2 _ k (by omega)
  have m2 : Sm' (B + 5) = Sm (B + 5) := funext fun k => h2 _ k (by omega)
  have m3 : Sm' (B + 6) = Sm (B + 6) := funext fun k => h2 _ k (by omega)
  rw [e2, e4, e6, e8, m0, m1, m2, m3, h1 _ 7 (by omega), h2 B 7 (by omega)]
  exact h
theorem l51_bl_162 {c k c0 : Nat} (hR : zLT R) (hB : zLB R B) (hB11 : 11 ≤ B) (hT : zTKc n b p q S) (hO : zOKs 162 n b p q S Sm Lm) (hk : zkN b n p q = 1) (h0 : S 25 0 = 8) (hP : zPbl_162 B c S Sm) (hN : zPnm_162 B k c0 S Sm L Lm) (hck : c < 8 → k ≤ 25) : ∃ S' Sm' L' Lm', zcall 51 [.ref 162, .ref 25, .int 1, .ref 1000036, .int 9] zRc S L = some (none, zRc, S', L') ∧ zcall 197 [.ref 0] R Sm Lm = some (none, R, Sm', Lm') ∧ zST 162 n b S' Sm' Lm' ∧ (∀ j k, (j ≠ 1 ∨ (k ≠ 2 ∧ k ≠ 3 ∧ k ≠ 4)) → (j ≠ 162 ∨ (k ≠ 5 ∧ k ≠ 6 ∧ k ≠ 7)) → j ≠ 165 → j ≠ 167 → (j ≠ 25 ∨ k ≠ 7) → j ≠ 27 → j ≠ 29 → j ≠ 31 → j ≠ 33 → S' j k = S j k) ∧ (∀ j k, (j ≠ 0 ∨ k < 8 ∨ 18 < k) → (j ≠ B ∨ (k ≠ 7 ∧ k ≠ 13)) → j ≠ B + 28 → j ≠ B + 29 → (j < B + 3 ∨ B + 6 < j) → Sm' j k = Sm j k) ∧ (∀ j k, j ≠ 163 → L' j k = L j k) ∧ (∀ j k, (j ≠ 0 ∨ k ≠ 15) → j ≠ B + 27 → Lm' j k = Lm j k) ∧ (S' 162 6 = 0 → c < 8 ∧ zPbl_162 B (c + 1) S' Sm' ∧ zPnm_162 B (k + 1) c0 S' Sm' L' Lm') := by
  have r0 := hR
  unfold zLT at r0
  have rB := hB
  unfold zLB at rB
  obtain ⟨hc8, p1, p2, p3⟩ := hP
  obtain ⟨hk26, n1, n2, n3⟩ := id hN
  have k82 := t82_bl_162 (L := L) hc8 p1 h0
  obtain ⟨S1, Sm1, Lm1, a1, a2, a3, a4, a5⟩ := op59_162 (L := L) (fl := if c = 8 then 1 else 0) (many := nI c) (most := 8) hR hT hO hk (by
    by_cases e : c = 8
    · subst e
      exact .inl ⟨if_pos rfl, rfl⟩
    · exact .inr ⟨if_neg e, fun h => e ((znI_inj (b := 8) (by omega) (by omega)).mp h)⟩)
  have hc7 : S1 162 6 = 0 → c < 8 := fun h => by
    have g0 := a5 h
    rcases Nat.lt_or_ge c 8 with h | h
    · exact h
    · rw [if_pos (by omega)] at g0; exact absurd g0 (by decide)
  have i1 : S1 25 7 = nI c := (a4.1 _ _ (by omega) (by omega)).trans p1
  have j1 : Sm1 B 7 = nI c := (a4.2.1 _ _ (by omega)).trans p2
  obtain ⟨S2, Sm2, L2, Lm2, b1, b2, b3, b4, b5, -⟩ := op64_162 (L := L) (k := k) (k' := k) (s := 1) (s' := 1) (num := nI c) (num' := nI c) hR hB hB11 a3 hk26 hk26 ((a4.1 _ _ (by omega) (by omega)).trans n1) ((a4.2.1 _ _ (by omega)).trans n2) (fun h => ⟨rfl, hck (hc7 h), fun i hi => by rw [a4.2.2 _ _ (by omega)]; exact (n3 i hi).1⟩)
  have i2 : S2 25 7 = nI c := (b4.1 _ _ (by omega) (by omega) (by decide) (by decide)).trans i1
  have j2 : Sm2 B 7 = nI c := (b4.2.1 _ _ (by omega) (by omega) (by omega) (by omega)).trans j1
  obtain ⟨S3, Sm3, Lm3, c1, c2, c3, c4, c5, c6, c7, c8⟩ := op54x_bl_162 (L := L2) hR b3 i2
  have j3 : Sm3 B 7 = nI c := (c5 _ _ (by omega)).trans j2
  obtain ⟨v1, w1, S4, Sm4, Lm4, d1, d2, d3, d4, d5⟩ := op62_162 (L := L2) (l := 1) (u := 9) (lo := 1) (hi := 9) (lo' := 1) (hi' := 9) hR (fun p q S L h => cw_strong h) (fun p q S Sm Lm h => mw_strong hR h) c3 (by omega) (by omega) (fun _ => ⟨rfl, rfl, rfl, rfl⟩)
  have cl : zcall 51 [.ref 162, .ref 25, .int 1, .ref 1000036, .int 9] zRc S L = some (none, zRc, zput S4 33 8 (nI c) v1, L2) := by
    unfold zcall
    simp (config := {maxSteps := 1000000}) (disch := omega) only [↓reduceIte, Int32.reduceLT, Int32.reduceLE, Int32.reduceToNatClampNeg, Int32.reduceAdd, Int32.reduceSub, Int32.reduceMul, Nat.reduceLeDiff, zEL, zup_ne, zup_eq, zT0, zT1, zT2, if_true, if_false, gR, gM, ze_51, s51_0, s51_1, s51_2, s51_5, s51_8, s51_9, s51_12, s51_14, s51_15, s51_16, s51_18, s51_21, s51_22, s51_23, s51_26, s51_27, s51_30, s51_32, s51_33, s51_34, s51_35, s51_37, s51_40, s51_43, k82, a1, i1, b1, c1, d1]
  have mo : zcall 197 [.ref 0] R Sm Lm = zgo 197 40 [.ref 0, .int w1, .retAddr 0] [] R Sm4 Lm4 := by
    unfold zcall
    simp (config := {maxSteps := 1000000}) (disch := omega) only [↓reduceIte, Int32.reduceLT, Int32.reduceLE, Int32.reduceToNatClampNeg, Int32.reduceAdd, Int32.reduceSub, Int32.reduceMul, Nat.reduceLeDiff, zEL, zup_ne, zup_eq, zT0, zT1, zT2, if_true, if_false, r0, rB, ze_197, s197_0, s197_1, s197_2, s197_5, s197_8, s197_10, s197_13, s197_14, s197_15, s197_16, s197_19, s197_22, s197_25, s197_26, s197_29, s197_30, s197_33, s197_34, s197_36, s197_39, p2, a2, j1, b2, c2, d2]
  have j6 : Sm4 B 7 = nI c := by rw [d4.2.1 _ _ (by omega), j3]
  have st : ∀ Sm7, (∀ j k, (j ≠ B ∨ k ≠ 7) → (j < B + 3 ∨ B + 6 < j) → Sm7 j k = Sm4 j k) → zST 162 n b (zput S4 33 8 (nI c) v1) Sm7 Lm4 := fun Sm7 h => zST_fr d3 (fun k => zput_ne (by omega)) (fun k => zput_ne (by omega)) (zput_ne (by omega)) (zput_ne (by omega)) (fun k _ => h 0 k (by omega) (by omega)) (fun k => h 1 k (by omega) (by omega)) rfl
  have fC : ∀ j k, (j ≠ 1 ∨ (k ≠ 2 ∧ k ≠ 3 ∧ k ≠ 4)) → (j ≠ 162 ∨ (k ≠ 5 ∧ k ≠ 6 ∧ k ≠ 7)) → j ≠ 165 → j ≠ 167 → (j ≠ 25 ∨ k ≠ 7) → j ≠ 27 → j ≠ 29 → j ≠ 31 → j ≠ 33 → zput S4 33 8 (nI c) v1 j k = S j k := fun j k h1 h2 h3 h4 h5 h6 h7 h8 h9 => by
    rw [zput_ne h9, d4.1 j k h1 (by omega), c4 j k h1 (by omega) h5 h6 h7 h8, b4.1 j k h1 h2 h3 h4, a4.1 j k h1 (by omega)]
  have fM : ∀ j k, (j ≠ 0 ∨ k < 8 ∨ 18 < k) → (j ≠ B ∨ k ≠ 13) → j ≠ B + 28 → j ≠ B + 29 → Sm4 j k = Sm j k := fun j k h1 h2 h3 h4 => by
    rw [d4.2.1 j k (by omega), c5 j k (by omega), b4.2.1 j k (by omega) h2 h3 h4, a4.2.1 j k (by omega)]
  have fL : ∀ j k, (j ≠ 0 ∨ k ≠ 15) → j ≠ B + 27 → Lm4 j k = Lm j k := fun j k h1 h2 => by
    rw [d4.2.2 j k h1, c6 j k h1, b4.2.2.2 j k h1 h2, a4.2.2 j k h1]
  rcases zST_9 d3 with ⟨o1, o2⟩ | ⟨o1, o2⟩
  · have o2 : (Sm4 0 9 = 5) = False := eq_false o2
    obtain ⟨y3, x1, z0, z1, rfl, rfl⟩ := d5 o1
    obtain ⟨y2, s, l, y, hs, hl, hy, m16, m17, m18, hrow⟩ := c8 y3
    obtain ⟨y1, u1, u2, u3, u4, u5, u6, u7⟩ := b5 y2
    have c7' := hc7 y1
    obtain ⟨w10, w12, w14⟩ := hrow c7'
    have m16' : Sm4 0 16 = nI s := by rw [d4.2.1 _ _ (by omega), m16]
    have m17' : Sm4 0 17 = nI l := by rw [d4.2.1 _ _ (by omega), m17]
    have m18' : Sm4 0 18 = nI y := by rw [d4.2.1 _ _ (by omega), m18]
    obtain ⟨Sm7, hSm7⟩ : ∃ Sm7, Sm7 = zup (zup (zup (zup (zup Sm4 (B + 3) c (nI s)) (B + 4) c (nI l)) (B + 5) c (nI y)) (B + 6) c (nI x1)) B 7 (nI (c + 1)) := ⟨_, rfl⟩
    have e7 : ∀ j k, (j ≠ B ∨ k ≠ 7) → (j < B + 3 ∨ B + 6 < j) → Sm7 j k = Sm4 j k := fun j k h1 h2 => by
      rw [hSm7, zup_ne (by omega), zup_ne (by omega), zup_ne (by omega), zup_ne (by omega), zup_ne (by omega)]
    have fr6 : ∀ j k, B + 3 ≤ j → j ≤ B + 6 → Sm4 j k = Sm j k := fun j k h1 h2 => fM j k (by omega) (by omega) (by omega) (by omega)
    have q0 : ∀ k, Sm7 (B + 3) k = if k = c then nI s else Sm (B + 3) k := fun k => by
      rw [hSm7, zup_ne (by omega), zup_ne (by omega), zup_ne (by omega), zup_ne (by omega), ← fr6 (B + 3) k (by omega) (by omega)]
      by_cases e : k = c
      · rw [zup_eq rfl e, if_pos e]
      · rw [zup_ne (by omega), if_neg e]
    have q1 : ∀ k, Sm7 (B + 4) k = if k = c then nI l else Sm (B + 4) k := fun k => by
      rw [hSm7, zup_ne (by omega), zup_ne (by omega), zup_ne (by omega), ← fr6 (B + 4) k (by omega) (by omega)]
      by_cases e : k = c
      · rw [zup_eq rfl e, if_pos e]
      · rw [zup_ne (by omega), zup_ne (by omega), if_neg e]
    have q2 : ∀ k, Sm7 (B + 5) k = if k = c then nI y else Sm (B + 5) k := fun k => by
      rw [hSm7, zup_ne (by omega), zup_ne (by omega), ← fr6 (B + 5) k (by omega) (by omega)]
      by_cases e : k = c
      · rw [zup_eq rfl e, if_pos e]
      · rw [zup_ne (by omega), zup_ne (by omega), zup_ne (by omega), if_neg e]
    have q3 : ∀ k, Sm7 (B + 6) k = if k = c then nI x1 else Sm (B + 6) k := fun k => by
      rw [hSm7, zup_ne (by omega), ← fr6 (B + 6) k (by omega) (by omega)]
      by_cases e : k = c
      · rw [zup_eq rfl e, if_pos e]
      · rw [zup_ne (by omega), zup_ne (by omega), zup_ne (by omega), zup_ne (by omega), if_neg e]
    have v2 : ∀ k, zput S4 33 8 (nI c) (nI x1) 27 k = if k = c then nI s else S 27 k := fun k => by
      rw [zput_ne (by omega), d4.1 _ _ (by omega) (by omega), w10, b4.1 _ _ (by omega) (by omega) (by decide) (by decide), a4.1 _ _ (by omega) (by omega)]
    have v4 : ∀ k, zput S4 33 8 (nI c) (nI x1) 29 k = if k = c then nI l else S 29 k := fun k => by
      rw [zput_ne (by omega), d4.1 _ _ (by omega) (by omega), w12, b4.1 _ _ (by omega) (by omega) (by decide) (by decide), a4.1 _ _ (by omega) (by omega)]
    have v6 : ∀ k, zput S4 33 8 (nI c) (nI x1) 31 k = if k = c then nI y else S 31 k := fun k => by
      rw [zput_ne (by omega), d4.1 _ _ (by omega) (by omega), w14, b4.1 _ _ (by omega) (by omega) (by decide) (by decide), a4.1 _ _ (by omega) (by omega)]
    have v8 : ∀ k, zput S4 33 8 (nI c) (nI x1) 33 k = if k = c then nI x1 else S 33 k := fun k => by
      rw [zput_at (by omega) (by omega), d4.1 _ _ (by omega) (by omega), c4 _ _ (by omega) (by omega) (by omega) (by omega) (by omega) (by omega), b4.1 _ _ (by omega) (by omega) (by omega) (by omega), a4.1 _ _ (by omega) (by omega)]
    have v7 : zput S4 33 8 (nI c) (nI x1) 25 7 = nI (c + 1) := by
      rw [zput_ne (by omega), d4.1 _ _ (by omega) (by omega), c7]
    have fN : ∀ j k, (j = 162 ∧ k = 5) ∨ j = 165 ∨ j = 167 → zput S4 33 8 (nI c) (nI x1) j k = S2 j k := fun j k h => by
      rw [zput_ne (by omega), d4.1 _ _ (by omega) (by omega), c4 j k (by omega) (by omega) (by omega) (by omega) (by omega) (by omega)]
    have fN1 : ∀ j k, (j = 162 ∧ k = 5) ∨ j = 165 ∨ j = 167 → S1 j k = S j k := fun j k h => a4.1 j k (by omega) (by omega)
    have fQ : ∀ j k, (j = B ∧ k = 13) ∨ j = B + 28 ∨ j = B + 29 → Sm7 j k = Sm2 j k := fun j k h => by
      rw [e7 j k (by omega) (by omega), d4.2.1 j k (by omega), c5 j k (by omega)]
    have fQ1 : ∀ j k, j = B + 28 ∨ j = B + 29 → Sm1 j k = Sm j k := fun j k h => a4.2.1 j k (by omega)
    refine ⟨_, Sm7, L2, Lm4, cl, mo.trans ?_, st _ e7, fC, fun j k h1 h2 h3 h4 h5 => (e7 j k (by omega) h5).trans (fM j k h1 (by omega) h3 h4), b4.2.2.1, fL, fun _ => ⟨c7', ⟨by omega, v7, by rw [hSm7]; exact zup_eq rfl rfl, fun i hi => ?_⟩, zPnm_s_162 hN (hck c7') (by omega) ((fN _ _ (by omega)).trans u1) ((fQ _ _ (by omega)).trans u2) (fun i hi => ?_) (fun i => (fN _ _ (by omega)).trans (by rw [u4, fN1 _ _ (by omega)])) (fun i => (fN _ _ (by omega)).trans (by rw [u5, fN1 _ _ (by omega)])) (fun i => (fQ _ _ (by omega)).trans (by rw [u6, fQ1 _ _ (by omega)])) (fun i => (fQ _ _ (by omega)).trans (by rw [u7, fQ1 _ _ (by omega)])) ⟨by decide, fun h => absurd h (by decide)⟩⟩⟩
    · rw [hSm7]
      simp (config := {maxSteps := 1000000}) (disch := omega) only [↓reduceIte, Int32.reduceLT, Int32.reduceLE, Int32.reduceToNatClampNeg, Int32.reduceAdd, Int32.reduceSub, Int32.reduceMul, Nat.reduceLeDiff, zEL, zup_ne, zup_eq, zT0, zT1, zT2, if_true, if_false, zneq_f, true_and, and_true, false_and, and_false, zKL, eq_self, Nat.reduceEqDiff, zite0, ite_not, zaddr, zaddl, zputr, zsb1, zsb2, zsb0, zsbm, znm1, r0, rB, s197_40, s197_41, s197_44, s197_45, s197_48, s197_49, s197_50, s197_53, s197_56, s197_57, s197_58, s197_61, s197_64, s197_65, s197_66, s197_69, s197_70, s197_71, s197_74, s197_77, s197_78, s197_79, s197_82, s197_83, s197_84, s197_87, s197_90, s197_91, s197_92, s197_95, s197_96, s197_97, s197_100, s197_103, s197_104, s197_105, s197_106, s197_107, s197_110, s197_111, s197_114, s197_115, s197_116, s197_119, o2, j6, m16', m17', m18']
    · rw [v2, v4, v6, v8, q0, q1, q2, q3]
      by_cases e : i = c
      · simp only [if_pos e]
        exact ⟨trivial, trivial, trivial, trivial, ⟨s, hs, rfl⟩, ⟨l, hl, rfl⟩, ⟨y, hy, rfl⟩, ⟨x1, z0, z1, rfl⟩⟩
      · simp only [if_neg e]
        exact p3 i (by omega)
    · rw [d4.2.2 _ _ (by omega), c6 _ _ (by omega)]
      exact u3 i hi
  · refine ⟨_, Sm4, L2, Lm4, cl, mo.trans ?_, st Sm4 (fun _ _ _ _ => rfl), fC, fun j k h1 h2 h3 h4 h5 => fM j k h1 (by omega) h3 h4, b4.2.2.1, fL, fun h => ?_⟩
    · simp (config := {maxSteps := 1000000}) (disch := omega) only [↓reduceIte, Int32.reduceLT, Int32.reduceLE, Int32.reduceToNatClampNeg, Int32.reduceAdd, Int32.reduceSub, Int32.reduceMul, Nat.reduceLeDiff, zEL, zup_ne, zup_eq, zT0, zT1, zT2, if_true, if_false, r0, rB, s197_40, s197_41, s197_44, s197_45, s197_48, s197_49, s197_50, s197_53, s197_56, s197_57, s197_58, s197_61, s197_64, s197_65, s197_66, s197_69, s197_70, s197_71, s197_74, s197_77, s197_78, s197_79, s197_82, s197_83, s197_84, s197_87, s197_90, s197_91, s197_92, s197_95, s197_96, s197_97, s197_100, s197_103, s197_104, s197_105, s197_106, s197_107, s197_110, s197_111, s197_114, s197_115, s197_116, s197_119, o2]
    · rw [zput_ne (by omega)] at h
      exact absurd h o1
/-- the blocks, the sites -/
def zPsi_162 (B c : Nat) (S Sm : zS) : Prop :=
  c ≤ 6 ∧ S 38 7 = nI c ∧ Sm B 9 = nI c ∧ ∀ k, k < c → S 40 k = Sm (B + 13) k ∧ S 42 k = Sm (B + 14) k ∧ S 44 k = Sm (B + 15) k ∧ S 46 k = Sm (B + 16) k ∧ zin (Sm (B + 13) k) 1 ∧ zin (Sm (B + 14) k) 4 ∧ zin (Sm (B + 15) k) 19 ∧ zin1 (Sm (B + 16) k) 30
theorem zPsi_fr_162 {c : Nat} (h : zPsi_162 B c S Sm) (h1 : ∀ j k, (j = 38 ∧ k = 7) ∨ j = 40 ∨ j = 42 ∨ j = 44 ∨ j = 46 → S' j k = S j k) (h2 : ∀ j k, (j = B ∧ k = 9) ∨ (B + 13 ≤ j ∧ j ≤ B + 16) → Sm' j k = Sm j k) : zPsi_162 B c S' Sm' := by
  unfold zPsi_162 at h ⊢
  have e2 : S' 40 = S 40 := funext fun k => h1 _ k (by omega)
  have e4 : S' 42 = S 42 := funext fun k => h1 _ k (by omega)
  have e6 : S' 44 = S 44 := funext fun k => h1 _ k (by omega)
  have e8 : S' 46 = S 46 := funext fun k => h1 _ k (by omega)
  have m0 : Sm' (B + 13) = Sm (B + 13) := funext fun k => h2 _ k (by omega)
  have m1 : Sm' (B + 14) = Sm (B + 14) := funext fun k => h2 _ k (by omega)
  have m2 : Sm' (B + 15) = Sm (B + 15) := funext fun k => h2 _ k (by omega)
  have m3 : Sm' (B + 16) = Sm (B + 16) := funext fun k => h2 _ k (by omega)
  rw [e2, e4, e6, e8, m0, m1, m2, m3, h1 _ 7 (by omega), h2 B 9 (by omega)]
  exact h
theorem l51_si_162 {c k c0 : Nat} (hR : zLT R) (hB : zLB R B) (hB11 : 11 ≤ B) (hT : zTKc n b p q S) (hO : zOKs 162 n b p q S Sm Lm) (hk : zkN b n p q = 1) (h0 : S 38 0 = 6) (hP : zPsi_162 B c S Sm) (hN : zPnm_162 B k c0 S Sm L Lm) (hck : c < 6 → k ≤ 25) : ∃ S' Sm' L' Lm', zcall 51 [.ref 162, .ref 38, .int 2, .ref 1000039, .int 30] zRc S L = some (none, zRc, S', L') ∧ zcall 199 [.ref 0] R Sm Lm = some (none, R, Sm', Lm') ∧ zST 162 n b S' Sm' Lm' ∧ (∀ j k, (j ≠ 1 ∨ (k ≠ 2 ∧ k ≠ 3 ∧ k ≠ 4)) → (j ≠ 162 ∨ (k ≠ 5 ∧ k ≠ 6 ∧ k ≠ 7)) → j ≠ 165 → j ≠ 167 → (j ≠ 38 ∨ k ≠ 7) → j ≠ 40 → j ≠ 42 → j ≠ 44 → j ≠ 46 → S' j k = S j k) ∧ (∀ j k, (j ≠ 0 ∨ k < 8 ∨ 18 < k) → (j ≠ B ∨ (k ≠ 9 ∧ k ≠ 13)) → j ≠ B + 28 → j ≠ B + 29 → (j < B + 13 ∨ B + 16 < j) → Sm' j k = Sm j k) ∧ (∀ j k, j ≠ 163 → L' j k = L j k) ∧ (∀ j k, (j ≠ 0 ∨ k ≠ 15) → j ≠ B + 27 → Lm' j k = Lm j k) ∧ (S' 162 6 = 0 → c < 6 ∧ zPsi_162 B (c + 1) S' Sm' ∧ zPnm_162 B (k + 1) c0 S' Sm' L' Lm') := by
  have r0 := hR
  unfold zLT at r0
  have rB := hB
  unfold zLB at rB
  obtain ⟨hc8, p1, p2, p3⟩ := hP
  obtain ⟨hk26, n1, n2, n3⟩ := id hN
  have k82 := t82_si_162 (L := L) hc8 p1 h0
  obtain ⟨S1, Sm1, Lm1, a1, a2, a3, a4, a5⟩ := op59_162 (L := L) (fl := if c = 6 then 1 else 0) (many := nI c) (most := 6) hR hT hO hk (by
    by_cases e : c = 6
    · subst e
      exact .inl ⟨if_pos rfl, rfl⟩
    · exact .inr ⟨if_neg e, fun h => e ((znI_inj (b := 6) (by omega) (by omega)).mp h)⟩)
  have hc7 : S1 162 6 = 0 → c < 6 := fun h => by
    have g0 := a5 h
    rcases Nat.lt_or_ge c 6 with h | h
    · exact h
    · rw [if_pos (by omega)] at g0; exact absurd g0 (by decide)
  have i1 : S1 38 7 = nI c := (a4.1 _ _ (by omega) (by omega)).trans p1
  have j1 : Sm1 B 9 = nI c := (a4.2.1 _ _ (by omega)).trans p2
  obtain ⟨S2, Sm2, L2, Lm2, b1, b2, b3, b4, b5, -⟩ := op64_162 (L := L) (k := k) (k' := k) (s := 2) (s' := 1) (num := nI c) (num' := nI c) hR hB hB11 a3 hk26 hk26 ((a4.1 _ _ (by omega) (by omega)).trans n1) ((a4.2.1 _ _ (by omega)).trans n2) (fun h => ⟨rfl, hck (hc7 h), fun i hi => by rw [a4.2.2 _ _ (by omega)]; exact (n3 i hi).1⟩)
  have i2 : S2 38 7 = nI c := (b4.1 _ _ (by omega) (by omega) (by decide) (by decide)).trans i1
  have j2 : Sm2 B 9 = nI c := (b4.2.1 _ _ (by omega) (by omega) (by omega) (by omega)).trans j1
  obtain ⟨S3, Sm3, Lm3, c1, c2, c3, c4, c5, c6, c7, c8⟩ := op54x_si_162 (L := L2) hR b3 i2
  have j3 : Sm3 B 9 = nI c := (c5 _ _ (by omega)).trans j2
  obtain ⟨v1, w1, S4, Sm4, Lm4, d1, d2, d3, d4, d5⟩ := op62_162 (L := L2) (l := 1) (u := 30) (lo := 1) (hi := 30) (lo' := 1) (hi' := 30) hR (fun p q S L h => cw_takes h) (fun p q S Sm Lm h => mw_takes hR h) c3 (by omega) (by omega) (fun _ => ⟨rfl, rfl, rfl, rfl⟩)
  have cl : zcall 51 [.ref 162, .ref 38, .int 2, .ref 1000039, .int 30] zRc S L = some (none, zRc, zput S4 46 6 (nI c) v1, L2) := by
    unfold zcall
    simp (config := {maxSteps := 1000000}) (disch := omega) only [↓reduceIte, Int32.reduceLT, Int32.reduceLE, Int32.reduceToNatClampNeg, Int32.reduceAdd, Int32.reduceSub, Int32.reduceMul, Nat.reduceLeDiff, zEL, zup_ne, zup_eq, zT0, zT1, zT2, if_true, if_false, gR, gM, ze_51, s51_0, s51_1, s51_2, s51_5, s51_8, s51_9, s51_12, s51_14, s51_15, s51_16, s51_18, s51_21, s51_22, s51_23, s51_26, s51_27, s51_30, s51_32, s51_33, s51_34, s51_35, s51_37, s51_40, s51_43, k82, a1, i1, b1, c1, d1]
  have mo : zcall 199 [.ref 0] R Sm Lm = zgo 199 40 [.ref 0, .int w1, .retAddr 0] [] R Sm4 Lm4 := by
    unfold zcall
    simp (config := {maxSteps := 1000000}) (disch := omega) only [↓reduceIte, Int32.reduceLT, Int32.reduceLE, Int32.reduceToNatClampNeg, Int32.reduceAdd, Int32.reduceSub, Int32.reduceMul, Nat.reduceLeDiff, zEL, zup_ne, zup_eq, zT0, zT1, zT2, if_true, if_false, r0, rB, ze_199, s199_0, s199_1, s199_2, s199_5, s199_8, s199_10, s199_13, s199_14, s199_15, s199_16, s199_19, s199_22, s199_25, s199_26, s199_29, s199_30, s199_33, s199_34, s199_36, s199_39, p2, a2, j1, b2, c2, d2]
  have j6 : Sm4 B 9 = nI c := by rw [d4.2.1 _ _ (by omega), j3]
  have st : ∀ Sm7, (∀ j k, (j ≠ B ∨ k ≠ 9) → (j < B + 13 ∨ B + 16 < j) → Sm7 j k = Sm4 j k) → zST 162 n b (zput S4 46 6 (nI c) v1) Sm7 Lm4 := fun Sm7 h => zST_fr d3 (fun k => zput_ne (by omega)) (fun k => zput_ne (by omega)) (zput_ne (by omega)) (zput_ne (by omega)) (fun k _ => h 0 k (by omega) (by omega)) (fun k => h 1 k (by omega) (by omega)) rfl
  have fC : ∀ j k, (j ≠ 1 ∨ (k ≠ 2 ∧ k ≠ 3 ∧ k ≠ 4)) → (j ≠ 162 ∨ (k ≠ 5 ∧ k ≠ 6 ∧ k ≠ 7)) → j ≠ 165 → j ≠ 167 → (j ≠ 38 ∨ k ≠ 7) → j ≠ 40 → j ≠ 42 → j ≠ 44 → j ≠ 46 → zput S4 46 6 (nI c) v1 j k = S j k := fun j k h1 h2 h3 h4 h5 h6 h7 h8 h9 => by
    rw [zput_ne h9, d4.1 j k h1 (by omega), c4 j k h1 (by omega) h5 h6 h7 h8, b4.1 j k h1 h2 h3 h4, a4.1 j k h1 (by omega)]
  have fM : ∀ j k, (j ≠ 0 ∨ k < 8 ∨ 18 < k) → (j ≠ B ∨ k ≠ 13) → j ≠ B + 28 → j ≠ B + 29 → Sm4 j k = Sm j k := fun j k h1 h2 h3 h4 => by
    rw [d4.2.1 j k (by omega), c5 j k (by omega), b4.2.1 j k (by omega) h2 h3 h4, a4.2.1 j k (by omega)]
  have fL : ∀ j k, (j ≠ 0 ∨ k ≠ 15) → j ≠ B + 27 → Lm4 j k = Lm j k := fun j k h1 h2 => by
    rw [d4.2.2 j k h1, c6 j k h1, b4.2.2.2 j k h1 h2, a4.2.2 j k h1]
  rcases zST_9 d3 with ⟨o1, o2⟩ | ⟨o1, o2⟩
  · have o2 : (Sm4 0 9 = 5) = False := eq_false o2
    obtain ⟨y3, x1, z0, z1, rfl, rfl⟩ := d5 o1
    obtain ⟨y2, s, l, y, hs, hl, hy, m16, m17, m18, hrow⟩ := c8 y3
    obtain ⟨y1, u1, u2, u3, u4, u5, u6, u7⟩ := b5 y2
    have c7' := hc7 y1
    obtain ⟨w10, w12, w14⟩ := hrow c7'
    have m16' : Sm4 0 16 = nI s := by rw [d4.2.1 _ _ (by omega), m16]
    have m17' : Sm4 0 17 = nI l := by rw [d4.2.1 _ _ (by omega), m17]
    have m18' : Sm4 0 18 = nI y := by rw [d4.2.1 _ _ (by omega), m18]
    obtain ⟨Sm7, hSm7⟩ : ∃ Sm7, Sm7 = zup (zup (zup (zup (zup Sm4 (B + 13) c (nI s)) (B + 14) c (nI l)) (B + 15) c (nI y)) (B + 16) c (nI x1)) B 9 (nI (c + 1)) := ⟨_, rfl⟩
    have e7 : ∀ j k, (j ≠ B ∨ k ≠ 9) → (j < B + 13 ∨ B + 16 < j) → Sm7 j k = Sm4 j k := fun j k h1 h2 => by
      rw [hSm7, zup_ne (by omega), zup_ne (by omega), zup_ne (by omega), zup_ne (by omega), zup_ne (by omega)]
    have fr6 : ∀ j k, B + 13 ≤ j → j ≤ B + 16 → Sm4 j k = Sm j k := fun j k h1 h2 => fM j k (by omega) (by omega) (by omega) (by omega)
    have q0 : ∀ k, Sm7 (B + 13) k = if k = c then nI s else Sm (B + 13) k := fun k => by
      rw [hSm7, zup_ne (by omega), zup_ne (by omega), zup_ne (by omega), zup_ne (by omega), ← fr6 (B + 13) k (by omega) (by omega)]
      by_cases e : k = c
      · rw [zup_eq rfl e, if_pos e]
      · rw [zup_ne (by omega), if_neg e]
    have q1 : ∀ k, Sm7 (B + 14) k = if k = c then nI l else Sm (B + 14) k := fun k => by
      rw [hSm7, zup_ne (by omega), zup_ne (by omega), zup_ne (by omega), ← fr6 (B + 14) k (by omega) (by omega)]
      by_cases e : k = c
      · rw [zup_eq rfl e, if_pos e]
      · rw [zup_ne (by omega), zup_ne (by omega), if_neg e]
    have q2 : ∀ k, Sm7 (B + 15) k = if k = c then nI y else Sm (B + 15) k := fun k => by
      rw [hSm7, zup_ne (by omega), zup_ne (by omega), ← fr6 (B + 15) k (by omega) (by omega)]
      by_cases e : k = c
      · rw [zup_eq rfl e, if_pos e]
      · rw [zup_ne (by omega), zup_ne (by omega), zup_ne (by omega), if_neg e]
    have q3 : ∀ k, Sm7 (B + 16) k = if k = c then nI x1 else Sm (B + 16) k := fun k => by
      rw [hSm7, zup_ne (by omega), ← fr6 (B + 16) k (by omega) (by omega)]
      by_cases e : k = c
      · rw [zup_eq rfl e, if_pos e]
      · rw [zup_ne (by omega), zup_ne (by omega), zup_ne (by omega), zup_ne (by omega), if_neg e]
    have v2 : ∀ k, zput S4 46 6 (nI c) (nI x1) 40 k = if k = c then nI s else S 40 k := fun k => by
      rw [zput_ne (by omega), d4.1 _ _ (by omega) (by omega), w10, b4.1 _ _ (by omega) (by omega) (by decide) (by decide), a4.1 _ _ (by omega) (by omega)]
    have v4 : ∀ k, zput S4 46 6 (nI c) (nI x1) 42 k = if k = c then nI l else S 42 k := fun k => by
      rw [zput_ne (by omega), d4.1 _ _ (by omega) (by omega), w12, b4.1 _ _ (by omega) (by omega) (by decide) (by decide), a4.1 _ _ (by omega) (by omega)]
    have v6 : ∀ k, zput S4 46 6 (nI c) (nI x1) 44 k = if k = c then nI y else S 44 k := fun k => by
      rw [zput_ne (by omega), d4.1 _ _ (by omega) (by omega), w14, b4.1 _ _ (by omega) (by omega) (by decide) (by decide), a4.1 _ _ (by omega) (by omega)]
    have v8 : ∀ k, zput S4 46 6 (nI c) (nI x1) 46 k = if k = c then nI x1 else S 46 k := fun k => by
      rw [zput_at (by omega) (by omega), d4.1 _ _ (by omega) (by omega), c4 _ _ (by omega) (by omega) (by omega) (by omega) (by omega) (by omega), b4.1 _ _ (by omega) (by omega) (by omega) (by omega), a4.1 _ _ (by omega) (by omega)]
    have v7 : zput S4 46 6 (nI c) (nI x1) 38 7 = nI (c + 1) := by
      rw [zput_ne (by omega), d4.1 _ _ (by omega) (by omega), c7]
    have fN : ∀ j k, (j = 162 ∧ k = 5) ∨ j = 165 ∨ j = 167 → zput S4 46 6 (nI c) (nI x1) j k = S2 j k := fun j k h => by
      rw [zput_ne (by omega), d4.1 _ _ (by omega) (by omega), c4 j k (by omega) (by omega) (by omega) (by omega) (by omega) (by omega)]
    have fN1 : ∀ j k, (j = 162 ∧ k = 5) ∨ j = 165 ∨ j = 167 → S1 j k = S j k := fun j k h => a4.1 j k (by omega) (by omega)
    have fQ : ∀ j k, (j = B ∧ k = 13) ∨ j = B + 28 ∨ j = B + 29 → Sm7 j k = Sm2 j k := fun j k h => by
      rw [e7 j k (by omega) (by omega), d4.2.1 j k (by omega), c5 j k (by omega)]
    have fQ1 : ∀ j k, j = B + 28 ∨ j = B + 29 → Sm1 j k = Sm j k := fun j k h => a4.2.1 j k (by omega)
    refine ⟨_, Sm7, L2, Lm4, cl, mo.trans ?_, st _ e7, fC, fun j k h1 h2 h3 h4 h5 => (e7 j k (by omega) h5).trans (fM j k h1 (by omega) h3 h4), b4.2.2.1, fL, fun _ => ⟨c7', ⟨by omega, v7, by rw [hSm7]; exact zup_eq rfl rfl, fun i hi => ?_⟩, zPnm_s_162 hN (hck c7') (by omega) ((fN _ _ (by omega)).trans u1) ((fQ _ _ (by omega)).trans u2) (fun i hi => ?_) (fun i => (fN _ _ (by omega)).trans (by rw [u4, fN1 _ _ (by omega)])) (fun i => (fN _ _ (by omega)).trans (by rw [u5, fN1 _ _ (by omega)])) (fun i => (fQ _ _ (by omega)).trans (by rw [u6, fQ1 _ _ (by omega)])) (fun i => (fQ _ _ (by omega)).trans (by rw [u7, fQ1 _ _ (by omega)])) ⟨by decide, fun h => absurd h (by decide)⟩⟩⟩
    · rw [hSm7]
      simp (config := {maxSteps := 1000000}) (disch := omega) only [↓reduceIte, Int32.reduceLT, Int32.reduceLE, Int32.reduceToNatClampNeg, Int32.reduceAdd, Int32.reduceSub, Int32.reduceMul, Nat.reduceLeDiff, zEL, zup_ne, zup_eq, zT0, zT1, zT2, if_true, if_false, zneq_f, true_and, and_true, false_and, and_false, zKL, eq_self, Nat.reduceEqDiff, zite0, ite_not, zaddr, zaddl, zputr, zsb1, zsb2, zsb0, zsbm, znm1, r0, rB, s199_40, s199_41, s199_44, s199_45, s199_48, s199_49, s199_50, s199_53, s199_56, s199_57, s199_58, s199_61, s199_64, s199_65, s199_66, s199_69, s199_70, s199_71, s199_74, s199_77, s199_78, s199_79, s199_82, s199_83, s199_84, s199_87, s199_90, s199_91, s199_92, s199_95, s199_96, s199_97, s199_100, s199_103, s199_104, s199_105, s199_106, s199_107, s199_110, s199_111, s199_114, s199_115, s199_116, s199_119, o2, j6, m16', m17', m18']
    · rw [v2, v4, v6, v8, q0, q1, q2, q3]
      by_cases e : i = c
      · simp only [if_pos e]
        exact ⟨trivial, trivial, trivial, trivial, ⟨s, hs, rfl⟩, ⟨l, hl, rfl⟩, ⟨y, hy, rfl⟩, ⟨x1, z0, z1, rfl⟩⟩
      · simp only [if_neg e]
        exact p3 i (by omega)
    · rw [d4.2.2 _ _ (by omega), c6 _ _ (by omega)]
      exact u3 i hi
  · refine ⟨_, Sm4, L2, Lm4, cl, mo.trans ?_, st Sm4 (fun _ _ _ _ => rfl), fC, fun j k h1 h2 h3 h4 h5 => fM j k h1 (by omega) h3 h4, b4.2.2.1, fL, fun h => ?_⟩
    · simp (config := {maxSteps := 1000000}) (disch := omega) only [↓reduceIte, Int32.reduceLT, Int32.reduceLE, Int32.reduceToNatClampNeg, Int32.reduceAdd, Int32.reduceSub, Int32.reduceMul, Nat.reduceLeDiff, zEL, zup_ne, zup_eq, zT0, zT1, zT2, if_true, if_false, r0, rB, s199_40, s199_41, s199_44, s199_45, s199_48, s199_49, s199_50, s199_53, s199_56, s199_57, s199_58, s199_61, s199_64, s199_65, s199_66, s199_69, s199_70, s199_71, s199_74, s199_77, s199_78, s199_79, s199_82, s199_83, s199_84, s199_87, s199_90, s199_91, s199_92, s199_95, s199_96, s199_97, s199_100, s199_103, s199_104, s199_105, s199_106, s199_107, s199_110, s199_111, s199_114, s199_115, s199_116, s199_119, o2]
    · rw [zput_ne (by omega)] at h
      exact absurd h o1
end ZPD
