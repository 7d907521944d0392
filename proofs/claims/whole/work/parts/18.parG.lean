/-! THE TEXT: LINES: act, whole -/
section ZPG
variable {S Sm S' Sm' : zS} {L Lm L' Lm' : zL} {R : List zE} {n B p q : Nat} {b : Nat → Nat}
theorem t2_80 {c : Nat} (h5 : c ≤ 20) (h : S 141 4 = nI c) : zcall 2 [.ref 141] zRc S L = some (some (.int (if c = 20 then 1 else 0)), zRc, S, L) := by
  unfold zcall
  by_cases e : c = 20
  · subst e
    have e5 : (nI 20 < 20) = False := by decide
    simp (config := {maxSteps := 1000000}) (disch := omega) only [↓reduceIte, Int32.reduceLT, Int32.reduceLE, Int32.reduceToNatClampNeg, Int32.reduceAdd, Int32.reduceSub, Int32.reduceMul, Nat.reduceLeDiff, zEL, zup_ne, zup_eq, zT0, zT1, zT2, if_true, if_false, gT, ze_2, s2_0, s2_1, s2_4, s2_6, s2_9, s2_10, s2_13, s2_14, h, e5]
    all_goals rfl
  · have e5 : (nI c < 20) = True := eq_true (by rw [show (20 : Int32) = nI 20 from rfl, znI_lt (by omega) (by omega)]; omega)
    rw [if_neg e]
    simp (config := {maxSteps := 1000000}) (disch := omega) only [↓reduceIte, Int32.reduceLT, Int32.reduceLE, Int32.reduceToNatClampNeg, Int32.reduceAdd, Int32.reduceSub, Int32.reduceMul, Nat.reduceLeDiff, zEL, zup_ne, zup_eq, zT0, zT1, zT2, if_true, if_false, gT, ze_2, s2_0, s2_1, s2_4, s2_6, s2_9, s2_10, s2_13, s2_14, h, e5]
theorem t3_80 {k : Nat} {x y z w : Int32} (h : S 141 4 = nI k) : zcall 3 [.ref 141, .int x, .int y, .int z, .int w] zRc S L = some (none, zRc, zup (zput (zput (zput (zput S 143 20 (nI k) x) 145 20 (nI k) y) 147 20 (nI k) z) 149 20 (nI k) w) 141 4 (nI (k + 1)), L) := by
  have u1 : zput S 143 20 (nI k) x 141 4 = nI k := by rw [zput_ne (by omega), h]
  have u2 : zput (zput S 143 20 (nI k) x) 145 20 (nI k) y 141 4 = nI k := by rw [zput_ne (by omega)]; exact u1
  have u3 : zput (zput (zput S 143 20 (nI k) x) 145 20 (nI k) y) 147 20 (nI k) z 141 4 = nI k := by rw [zput_ne (by omega)]; exact u2
  have u4 : zput (zput (zput (zput S 143 20 (nI k) x) 145 20 (nI k) y) 147 20 (nI k) z) 149 20 (nI k) w 141 4 = nI k := by rw [zput_ne (by omega)]; exact u3
  unfold zcall
  simp (config := {maxSteps := 1000000}) (disch := omega) only [↓reduceIte, Int32.reduceLT, Int32.reduceLE, Int32.reduceToNatClampNeg, Int32.reduceAdd, Int32.reduceSub, Int32.reduceMul, Nat.reduceLeDiff, zEL, zup_ne, zup_eq, zT0, zT1, zT2, if_true, if_false, gT, ze_3, s3_0, s3_1, s3_4, s3_5, s3_8, s3_9, s3_12, s3_13, s3_16, s3_17, s3_20, s3_21, s3_24, s3_25, s3_28, s3_29, s3_32, s3_33, s3_36, s3_37, s3_40, s3_41, s3_44, s3_46, s3_49, s3_50, s3_51, s3_54, s3_55, s3_56, s3_59, h, u1, u2, u3, u4]
/-- the acts -/
def zPac_80 (B c c0 : Nat) (S Sm : zS) : Prop :=
  c ≤ 20 ∧ S 141 4 = nI c ∧ Sm B 11 = nI c ∧ ∀ k, k < c → S 143 k = Sm (B + 20) k ∧ zin (Sm (B + 20) k) 98 ∧ (∃ p, p < c0 ∧ S 145 k = nI p ∧ Sm (B + 21) k = nI p) ∧ S 147 k = Sm (B + 22) k ∧ ((zin (Sm (B + 22) k) 2 ∧ ∃ p, p < c0 ∧ S 149 k = nI p ∧ Sm (B + 23) k = nI p) ∨ Sm (B + 22) k = 3 ∨ Sm (B + 22) k = 4 ∨ Sm (B + 22) k = 5)
theorem zPac_fr_80 {c c0 : Nat} (h : zPac_80 B c c0 S Sm) (h1 : ∀ j k, (j = 141 ∧ k = 4) ∨ j = 143 ∨ j = 145 ∨ j = 147 ∨ j = 149 → S' j k = S j k) (h2 : ∀ j k, (j = B ∧ k = 11) ∨ (B + 20 ≤ j ∧ j ≤ B + 23) → Sm' j k = Sm j k) : zPac_80 B c c0 S' Sm' := by
  unfold zPac_80 at h ⊢
  have e62 : S' 143 = S 143 := funext fun k => h1 _ k (by omega)
  have e64 : S' 145 = S 145 := funext fun k => h1 _ k (by omega)
  have e66 : S' 147 = S 147 := funext fun k => h1 _ k (by omega)
  have e68 : S' 149 = S 149 := funext fun k => h1 _ k (by omega)
  have m20 : Sm' (B + 20) = Sm (B + 20) := funext fun k => h2 _ k (by omega)
  have m21 : Sm' (B + 21) = Sm (B + 21) := funext fun k => h2 _ k (by omega)
  have m22 : Sm' (B + 22) = Sm (B + 22) := funext fun k => h2 _ k (by omega)
  have m23 : Sm' (B + 23) = Sm (B + 23) := funext fun k => h2 _ k (by omega)
  rw [e62, e64, e66, e68, m20, m21, m22, m23, h1 _ 4 (by omega), h2 B 11 (by omega)]
  exact h
theorem zPac_up_80 {c c0 c0' : Nat} (h : zPac_80 B c c0 S Sm) (hc : c0 ≤ c0') : zPac_80 B c c0' S Sm := by
  obtain ⟨a1, a2, a3, a4⟩ := h
  refine ⟨a1, a2, a3, fun k hk => ?_⟩
  obtain ⟨b1, b2, ⟨p, hp, b3⟩, b4, b5⟩ := a4 k hk
  refine ⟨b1, b2, ⟨p, by omega, b3⟩, b4, b5.imp_left ?_⟩
  rintro ⟨d1, x, hx, d2⟩
  exact ⟨d1, x, by omega, d2⟩
theorem l55_80 {c k c0 : Nat} (hR : zLT R) (hB : zLB R B) (hB11 : 11 ≤ B) (hT : zTKc n b p q S) (hO : zOKs 80 n b p q S Sm Lm) (hk : zkN b n p q = 1) (hP : zPac_80 B c c0 S Sm) (hN : zPnm_80 B k c0 S Sm L Lm) : ∃ S' Sm' Lm', zcall 55 [.ref 80] zRc S L = some (none, zRc, S', L) ∧ zcall 201 [.ref 0] R Sm Lm = some (none, R, Sm', Lm') ∧ zST 80 n b S' Sm' Lm' ∧ (∀ j k, (j ≠ 1 ∨ (k ≠ 2 ∧ k ≠ 3 ∧ k ≠ 4)) → (j ≠ 80 ∨ (k ≠ 6 ∧ k ≠ 7)) → (j ≠ 141 ∨ k ≠ 4) → j ≠ 143 → j ≠ 145 → j ≠ 147 → j ≠ 149 → S' j k = S j k) ∧ (∀ j k, (j ≠ 0 ∨ k < 8 ∨ 14 < k) → (j ≠ B ∨ k ≠ 11) → (j < B + 20 ∨ B + 23 < j) → Sm' j k = Sm j k) ∧ (∀ j k, (j ≠ 0 ∨ k ≠ 15) → Lm' j k = Lm j k) ∧ (S' 80 6 = 0 → c < 20 ∧ zPac_80 B (c + 1) c0 S' Sm') := by
  have r0 := hR
  unfold zLT at r0
  have rB := hB
  unfold zLB at rB
  obtain ⟨hc8, p1, p2, p3⟩ := hP
  obtain ⟨hk26, n1, n2, n3⟩ := id hN
  have k2 := t2_80 (L := L) hc8 p1
  obtain ⟨S1, Sm1, Lm1, a1, a2, a3, a4, a5⟩ := op59_80 (L := L) (fl := if c = 20 then 1 else 0) (many := nI c) (most := 20) hR hT hO hk (by
    by_cases e : c = 20
    · subst e
      exact .inl ⟨if_pos rfl, rfl⟩
    · exact .inr ⟨if_neg e, fun h => e ((znI_inj (b := 20) (by omega) (by omega)).mp h)⟩)
  have hc7 : S1 80 6 = 0 → c < 20 := fun h => by
    have g0 := a5 h
    rcases Nat.lt_or_ge c 20 with h | h
    · exact h
    · rw [if_pos (by omega)] at g0; exact absurd g0 (by decide)
  obtain ⟨v1, w1, S2, Sm2, Lm2, b1, b2, b3, b4, b5⟩ := op63_80 (L := L) (l := 0) (u := 98) (lo := 0) (hi := 98) (lo' := 0) (hi' := 98) hR a3 (by omega) (by omega) (fun _ => ⟨rfl, rfl, rfl, rfl⟩)
  have nS : ∀ {Sx Smx : zS} {Lmx : zL}, zfr 80 S Sm Lm Sx Smx Lmx → Sx 80 5 = nI k ∧ Smx B 13 = nI k ∧ ∀ i, i < k → L 157 i = Lmx (B + 27) i ∧ (Sx 159 i = 0 ↔ Smx (B + 28) i = 0) ∧ (Sx 159 i = 0 → ∃ x, x < c0 ∧ Sx 161 i = nI x ∧ Smx (B + 29) i = nI x) := fun h => ⟨(h.1 _ _ (by omega) (by omega)).trans n1, (h.2.1 _ _ (by omega)).trans n2, fun i hi => by
    rw [h.2.2 _ _ (by omega), h.1 _ _ (by omega) (by omega), h.1 _ _ (by omega) (by omega), h.2.1 _ _ (by omega), h.2.1 _ _ (by omega)]
    exact n3 i hi⟩
  have fr2 := zfr_t a4 b4
  obtain ⟨u1, u2, u3⟩ := nS fr2
  obtain ⟨v2, w2, S3, Sm3, Lm3, c1, c2, c3, c4, c5⟩ := op65_80 (L := L) (k := k) (k' := k) (m := c0) hR hB hB11 b3 hk26 hk26 u1 u2 (fun _ => ⟨rfl, u3⟩)
  have fr3 := zfr_t fr2 c4
  obtain ⟨kd, kd', S4, Sm4, Lm4, d1, d2, d3, d4, d5, d6⟩ := opA_80 (L := L) (x := v1) (y := v2) (x' := w1) (y' := w2) hR c3
  have fr4 := zfr_t fr3 d4
  obtain ⟨u1, u2, u3⟩ := nS fr4
  obtain ⟨o, o', S5, Sm5, Lm5, e1, e2, e3, e4, e5⟩ := opB_80 (L := L) (x := v1) (y := v2) (x' := w1) (y' := w2) (kd := kd) (kd' := kd') (k := k) (m := c0) hR hB hB11 d3 hk26 u1 u2 u3 (fun h => (d5 h).2) d6
  have fr := zfr_t fr4 e4
  have i6 : S5 141 4 = nI c := (fr.1 _ _ (by omega) (by omega)).trans p1
  have j6 : Sm5 B 11 = nI c := (fr.2.1 _ _ (by omega)).trans p2
  have k3 := t3_80 (L := L) (x := v1) (y := v2) (z := kd) (w := o) i6
  obtain ⟨S7, hS7⟩ : ∃ S7, S7 = zup (zput (zput (zput (zput S5 143 20 (nI c) v1) 145 20 (nI c) v2) 147 20 (nI c) kd) 149 20 (nI c) o) 141 4 (nI (c + 1)) := ⟨_, rfl⟩
  rw [← hS7] at k3
  have cl : zcall 55 [.ref 80] zRc S L = some (none, zRc, S7, L) := by
    have h1 : zcall 55 [.ref 80] zRc S L = zgo 55 27 [.ref 80, .int v1, .int v2, .retAddr 0, .retAddr 0] [] zRc S3 L := by
      unfold zcall
      simp (config := {maxSteps := 1000000}) (disch := omega) only [↓reduceIte, Int32.reduceLT, Int32.reduceLE, Int32.reduceToNatClampNeg, Int32.reduceAdd, Int32.reduceSub, Int32.reduceMul, Nat.reduceLeDiff, zEL, zup_ne, zup_eq, zT0, zT1, zT2, if_true, if_false, gR, gT, ze_55, s55_0, s55_1, s55_2, s55_5, s55_8, s55_11, s55_14, s55_15, s55_16, s55_18, s55_21, s55_22, s55_23, s55_26, k2, a1, b1, c1]
    rw [h1, d1, e1]
    simp (config := {maxSteps := 1000000}) (disch := omega) only [↓reduceIte, Int32.reduceLT, Int32.reduceLE, Int32.reduceToNatClampNeg, Int32.reduceAdd, Int32.reduceSub, Int32.reduceMul, Nat.reduceLeDiff, zEL, zup_ne, zup_eq, zT0, zT1, zT2, if_true, if_false, gR, gT, s55_73, s55_74, s55_77, s55_80, s55_81, s55_82, s55_83, s55_85, s55_88, k3]
  have mo : zcall 201 [.ref 0] R Sm Lm = zgo 201 139 [.ref 0, .int w1, .int w2, .int kd', .int o', .retAddr 0] [] R Sm5 Lm5 := by
    have h1 : zcall 201 [.ref 0] R Sm Lm = zgo 201 26 [.ref 0, .int w1, .int w2, .retAddr 0, .retAddr 0, .retAddr 0] [] R Sm3 Lm3 := by
      unfold zcall
      simp (config := {maxSteps := 1000000}) (disch := omega) only [↓reduceIte, Int32.reduceLT, Int32.reduceLE, Int32.reduceToNatClampNeg, Int32.reduceAdd, Int32.reduceSub, Int32.reduceMul, Nat.reduceLeDiff, zEL, zup_ne, zup_eq, zT0, zT1, zT2, if_true, if_false, r0, rB, ze_201, s201_0, s201_1, s201_2, s201_5, s201_8, s201_10, s201_13, s201_14, s201_15, s201_17, s201_20, s201_21, s201_22, s201_25, p2, a2, b2, c2]
    rw [h1, d2, e2]
  have e7 : ∀ j k, (j ≠ 141 ∨ k ≠ 4) → j ≠ 143 → j ≠ 145 → j ≠ 147 → j ≠ 149 → S7 j k = S5 j k := fun j k a c d e f => by rw [hS7, zup_ne (by omega), zput_ne (by omega), zput_ne (by omega), zput_ne (by omega), zput_ne (by omega)]
  have st : ∀ Sm7, (∀ j k, (j ≠ B ∨ k ≠ 11) → (j < B + 20 ∨ B + 23 < j) → Sm7 j k = Sm5 j k) → zST 80 n b S7 Sm7 Lm5 := fun Sm7 h => zST_fr e3 (fun k => e7 1 k (by omega) (by decide) (by decide) (by decide) (by decide)) (fun k => e7 3 k (by omega) (by decide) (by decide) (by decide) (by decide)) (e7 _ _ (by omega) (by decide) (by decide) (by decide) (by decide)) (e7 _ _ (by omega) (by decide) (by decide) (by decide) (by decide)) (fun k _ => h 0 k (by omega) (by omega)) (fun k => h 1 k (by omega) (by omega)) rfl
  have fC : ∀ j k, (j ≠ 1 ∨ (k ≠ 2 ∧ k ≠ 3 ∧ k ≠ 4)) → (j ≠ 80 ∨ (k ≠ 6 ∧ k ≠ 7)) → (j ≠ 141 ∨ k ≠ 4) → j ≠ 143 → j ≠ 145 → j ≠ 147 → j ≠ 149 → S7 j k = S j k := fun j k h1 h2 h3 h4 h5 h6 h7 => (e7 j k h3 h4 h5 h6 h7).trans (fr.1 j k h1 h2)
  rcases zST_9 e3 with ⟨o1, o2⟩ | ⟨o1, o2⟩
  · have o2 : (Sm5 0 9 = 5) = False := eq_false o2
    obtain ⟨y4, rfl, hkd⟩ := e5 o1
    obtain ⟨y3, -, -⟩ := d5 y4
    obtain ⟨y2, x2, z2, rfl, rfl⟩ := c5 y3
    obtain ⟨y1, x1, -, z1, rfl, rfl⟩ := b5 y2
    have c7' := hc7 y1
    obtain ⟨Sm7, hSm7⟩ : ∃ Sm7, Sm7 = zup (zup (zup (zup (zup Sm5 (B + 20) c (nI x1)) (B + 21) c (nI x2)) (B + 22) c kd') (B + 23) c o') B 11 (nI (c + 1)) := ⟨_, rfl⟩
    have g7 : ∀ j k, (j ≠ B ∨ k ≠ 11) → (j < B + 20 ∨ B + 23 < j) → Sm7 j k = Sm5 j k := fun j k h1 h2 => by
      rw [hSm7, zup_ne (by omega), zup_ne (by omega), zup_ne (by omega), zup_ne (by omega), zup_ne (by omega)]
    have q0 : ∀ k, Sm7 (B + 20) k = if k = c then nI x1 else Sm (B + 20) k := fun k => by
      rw [hSm7, zup_ne (by omega), zup_ne (by omega), zup_ne (by omega), zup_ne (by omega), ← fr.2.1 (B + 20) k (by omega)]
      by_cases e : k = c
      · rw [zup_eq rfl e, if_pos e]
      · rw [zup_ne (by omega), if_neg e]
    have v0' : ∀ k, S7 143 k = if k = c then nI x1 else S 143 k := fun k => by
      rw [hS7, zup_ne (by omega), zput_ne (by omega), zput_ne (by omega), zput_ne (by omega), zput_at (by omega) (by omega), fr.1 _ _ (by omega) (by omega)]
    have q1 : ∀ k, Sm7 (B + 21) k = if k = c then nI x2 else Sm (B + 21) k := fun k => by
      rw [hSm7, zup_ne (by omega), zup_ne (by omega), zup_ne (by omega), ← fr.2.1 (B + 21) k (by omega)]
      by_cases e : k = c
      · rw [zup_eq rfl e, if_pos e]
      · rw [zup_ne (by omega), zup_ne (by omega), if_neg e]
    have v1' : ∀ k, S7 145 k = if k = c then nI x2 else S 145 k := fun k => by
      rw [hS7, zup_ne (by omega), zput_ne (by omega), zput_ne (by omega), zput_at (by omega) (by omega), zput_ne (by omega), fr.1 _ _ (by omega) (by omega)]
    have q2 : ∀ k, Sm7 (B + 22) k = if k = c then kd' else Sm (B + 22) k := fun k => by
      rw [hSm7, zup_ne (by omega), zup_ne (by omega), ← fr.2.1 (B + 22) k (by omega)]
      by_cases e : k = c
      · rw [zup_eq rfl e, if_pos e]
      · rw [zup_ne (by omega), zup_ne (by omega), zup_ne (by omega), if_neg e]
    have v2' : ∀ k, S7 147 k = if k = c then kd' else S 147 k := fun k => by
      rw [hS7, zup_ne (by omega), zput_ne (by omega), zput_at (by omega) (by omega), zput_ne (by omega), zput_ne (by omega), fr.1 _ _ (by omega) (by omega)]
    have q3 : ∀ k, Sm7 (B + 23) k = if k = c then o' else Sm (B + 23) k := fun k => by
      rw [hSm7, zup_ne (by omega), ← fr.2.1 (B + 23) k (by omega)]
      by_cases e : k = c
      · rw [zup_eq rfl e, if_pos e]
      · rw [zup_ne (by omega), zup_ne (by omega), zup_ne (by omega), zup_ne (by omega), if_neg e]
    have v3' : ∀ k, S7 149 k = if k = c then o else S 149 k := fun k => by
      rw [hS7, zup_ne (by omega), zput_at (by omega) (by omega), zput_ne (by omega), zput_ne (by omega), zput_ne (by omega), fr.1 _ _ (by omega) (by omega)]
    refine ⟨S7, Sm7, Lm5, cl, mo.trans ?_, st _ g7, fC, fun j k h1 h2 h3 => (g7 j k h2 h3).trans (fr.2.1 j k h1), fr.2.2, fun _ => ⟨c7', by omega, by rw [hS7]; exact zup_eq rfl rfl, by rw [hSm7]; exact zup_eq rfl rfl, fun i hi => ?_⟩⟩
    · rw [hSm7]
      simp (config := {maxSteps := 1000000}) (disch := omega) only [↓reduceIte, Int32.reduceLT, Int32.reduceLE, Int32.reduceToNatClampNeg, Int32.reduceAdd, Int32.reduceSub, Int32.reduceMul, Nat.reduceLeDiff, zEL, zup_ne, zup_eq, zT0, zT1, zT2, if_true, if_false, zneq_f, true_and, and_true, false_and, and_false, zKL, eq_self, Nat.reduceEqDiff, zite0, ite_not, zaddr, zaddl, zputr, zsb1, zsb2, zsb0, zsbm, znm1, r0, rB, s201_139, s201_140, s201_143, s201_144, s201_147, s201_148, s201_149, s201_152, s201_155, s201_157, s201_158, s201_161, s201_164, s201_166, s201_167, s201_168, s201_169, s201_172, s201_175, s201_177, s201_178, s201_179, s201_180, s201_183, s201_186, s201_188, s201_189, s201_190, s201_191, s201_194, s201_197, s201_199, s201_201, s201_202, s201_203, s201_206, s201_207, s201_210, s201_211, s201_212, s201_215, o2, j6]
    · rw [v0', v1', v2', v3', q0, q1, q2, q3]
      by_cases e : i = c
      · simp only [if_pos e]
        exact ⟨trivial, ⟨x1, z1, rfl⟩, ⟨x2, z2, rfl, rfl⟩, trivial, hkd⟩
      · simp only [if_neg e]
        exact p3 i (by omega)
  · refine ⟨S7, Sm5, Lm5, cl, mo.trans ?_, st Sm5 (fun _ _ _ _ => rfl), fC, fun j k h1 h2 h3 => fr.2.1 j k h1, fr.2.2, fun h => ?_⟩
    · simp (config := {maxSteps := 1000000}) (disch := omega) only [↓reduceIte, Int32.reduceLT, Int32.reduceLE, Int32.reduceToNatClampNeg, Int32.reduceAdd, Int32.reduceSub, Int32.reduceMul, Nat.reduceLeDiff, zEL, zup_ne, zup_eq, zT0, zT1, zT2, if_true, if_false, r0, rB, s201_139, s201_140, s201_143, s201_144, s201_147, s201_148, s201_149, s201_152, s201_155, s201_157, s201_158, s201_161, s201_164, s201_166, s201_167, s201_168, s201_169, s201_172, s201_175, s201_177, s201_178, s201_179, s201_180, s201_183, s201_186, s201_188, s201_189, s201_190, s201_191, s201_194, s201_197, s201_199, s201_201, s201_202, s201_203, s201_206, s201_207, s201_210, s201_211, s201_212, s201_215, o2]
    · rw [e7 _ _ (by omega) (by decide) (by decide) (by decide) (by decide)] at h
      exact absurd h o1
theorem t2_162 {c : Nat} (h5 : c ≤ 20) (h : S 64 4 = nI c) : zcall 2 [.ref 64] zRc S L = some (some (.int (if c = 20 then 1 else 0)), zRc, S, L) := by
  unfold zcall
  by_cases e : c = 20
  · subst e
    have e5 : (nI 20 < 20) = False := by decide
    simp (config := {maxSteps := 1000000}) (disch := omega) only [↓reduceIte, Int32.reduceLT, Int32.reduceLE, Int32.reduceToNatClampNeg, Int32.reduceAdd, Int32.reduceSub, Int32.reduceMul, Nat.reduceLeDiff, zEL, zup_ne, zup_eq, zT0, zT1, zT2, if_true, if_false, gM, ze_2, s2_0, s2_1, s2_4, s2_6, s2_9, s2_10, s2_13, s2_14, h, e5]
    all_goals rfl
  · have e5 : (nI c < 20) = True := eq_true (by rw [show (20 : Int32) = nI 20 from rfl, znI_lt (by omega) (by omega)]; omega)
    rw [if_neg e]
    simp (config := {maxSteps := 1000000}) (disch := omega) only [↓reduceIte, Int32.reduceLT, Int32.reduceLE, Int32.reduceToNatClampNeg, Int32.reduceAdd, Int32.reduceSub, Int32.reduceMul, Nat.reduceLeDiff, zEL, zup_ne, zup_eq, zT0, zT1, zT2, if_true, if_false, gM, ze_2, s2_0, s2_1, s2_4, s2_6, s2_9, s2_10, s2_13, s2_14, h, e5]
theorem t3_162 {k : Nat} {x y z w : Int32} (h : S 64 4 = nI k) : zcall 3 [.ref 64, .int x, .int y, .int z, .int w] zRc S L = some (none, zRc, zup (zput (zput (zput (zput S 66 20 (nI k) x) 68 20 (nI k) y) 70 20 (nI k) z) 72 20 (nI k) w) 64 4 (nI (k + 1)), L) := by
  have u1 : zput S 66 20 (nI k) x 64 4 = nI k := by rw [zput_ne (by omega), h]
  have u2 : zput (zput S 66 20 (nI k) x) 68 20 (nI k) y 64 4 = nI k := by rw [zput_ne (by omega)]; exact u1
  have u3 : zput (zput (zput S 66 20 (nI k) x) 68 20 (nI k) y) 70 20 (nI k) z 64 4 = nI k := by rw [zput_ne (by omega)]; exact u2
  have u4 : zput (zput (zput (zput S 66 20 (nI k) x) 68 20 (nI k) y) 70 20 (nI k) z) 72 20 (nI k) w 64 4 = nI k := by rw [zput_ne (by omega)]; exact u3
  unfold zcall
  simp (config := {maxSteps := 1000000}) (disch := omega) only [↓reduceIte, Int32.reduceLT, Int32.reduceLE, Int32.reduceToNatClampNeg, Int32.reduceAdd, Int32.reduceSub, Int32.reduceMul, Nat.reduceLeDiff, zEL, zup_ne, zup_eq, zT0, zT1, zT2, if_true, if_false, gM, ze_3, s3_0, s3_1, s3_4, s3_5, s3_8, s3_9, s3_12, s3_13, s3_16, s3_17, s3_20, s3_21, s3_24, s3_25, s3_28, s3_29, s3_32, s3_33, s3_36, s3_37, s3_40, s3_41, s3_44, s3_46, s3_49, s3_50, s3_51, s3_54, s3_55, s3_56, s3_59, h, u1, u2, u3, u4]
/-- the acts -/
def zPac_162 (B c c0 : Nat) (S Sm : zS) : Prop :=
  c ≤ 20 ∧ S 64 4 = nI c ∧ Sm B 11 = nI c ∧ ∀ k, k < c → S 66 k = Sm (B + 20) k ∧ zin (Sm (B + 20) k) 98 ∧ (∃ p, p < c0 ∧ S 68 k = nI p ∧ Sm (B + 21) k = nI p) ∧ S 70 k = Sm (B + 22) k ∧ ((zin (Sm (B + 22) k) 2 ∧ ∃ p, p < c0 ∧ S 72 k = nI p ∧ Sm (B + 23) k = nI p) ∨ Sm (B + 22) k = 3 ∨ Sm (B + 22) k = 4 ∨ Sm (B + 22) k = 5)
theorem zPac_fr_162 {c c0 : Nat} (h : zPac_162 B c c0 S Sm) (h1 : ∀ j k, (j = 64 ∧ k = 4) ∨ j = 66 ∨ j = 68 ∨ j = 70 ∨ j = 72 → S' j k = S j k) (h2 : ∀ j k, (j = B ∧ k = 11) ∨ (B + 20 ≤ j ∧ j ≤ B + 23) → Sm' j k = Sm j k) : zPac_162 B c c0 S' Sm' := by
  unfold zPac_162 at h ⊢
  have e62 : S' 66 = S 66 := funext fun k => h1 _ k (by omega)
  have e64 : S' 68 = S 68 := funext fun k => h1 _ k (by omega)
  have e66 : S' 70 = S 70 := funext fun k => h1 _ k (by omega)
  have e68 : S' 72 = S 72 := funext fun k => h1 _ k (by omega)
  have m20 : Sm' (B + 20) = Sm (B + 20) := funext fun k => h2 _ k (by omega)
  have m21 : Sm' (B + 21) = Sm (B + 21) := funext fun k => h2 _ k (by omega)
  have m22 : Sm' (B + 22) = Sm (B + 22) := funext fun k => h2 _ k (by omega)
  have m23 : Sm' (B + 23) = Sm (B + 23) := funext fun k => h2 _ k (by omega)
  rw [e62, e64, e66, e68, m20, m21, m22, m23, h1 _ 4 (by omega), h2 B 11 (by omega)]
  exact h
theorem zPac_up_162 {c c0 c0' : Nat} (h : zPac_162 B c c0 S Sm) (hc : c0 ≤ c0') : zPac_162 B c c0' S Sm := by
  obtain ⟨a1, a2, a3, a4⟩ := h
  refine ⟨a1, a2, a3, fun k hk => ?_⟩
  obtain ⟨b1, b2, ⟨p, hp, b3⟩, b4, b5⟩ := a4 k hk
  refine ⟨b1, b2, ⟨p, by omega, b3⟩, b4, b5.imp_left ?_⟩
  rintro ⟨d1, x, hx, d2⟩
  exact ⟨d1, x, by omega, d2⟩
theorem l55_162 {c k c0 : Nat} (hR : zLT R) (hB : zLB R B) (hB11 : 11 ≤ B) (hT : zTKc n b p q S) (hO : zOKs 162 n b p q S Sm Lm) (hk : zkN b n p q = 1) (hP : zPac_162 B c c0 S Sm) (hN : zPnm_162 B k c0 S Sm L Lm) : ∃ S' Sm' Lm', zcall 55 [.ref 162] zRc S L = some (none, zRc, S', L) ∧ zcall 201 [.ref 0] R Sm Lm = some (none, R, Sm', Lm') ∧ zST 162 n b S' Sm' Lm' ∧ (∀ j k, (j ≠ 1 ∨ (k ≠ 2 ∧ k ≠ 3 ∧ k ≠ 4)) → (j ≠ 162 ∨ (k ≠ 6 ∧ k ≠ 7)) → (j ≠ 64 ∨ k ≠ 4) → j ≠ 66 → j ≠ 68 → j ≠ 70 → j ≠ 72 → S' j k = S j k) ∧ (∀ j k, (j ≠ 0 ∨ k < 8 ∨ 14 < k) → (j ≠ B ∨ k ≠ 11) → (j < B + 20 ∨ B + 23 < j) → Sm' j k = Sm j k) ∧ (∀ j k, (j ≠ 0 ∨ k ≠ 15) → Lm' j k = Lm j k) ∧ (S' 162 6 = 0 → c < 20 ∧ zPac_162 B (c + 1) c0 S' Sm') := by
  have r0 := hR
  unfold zLT at r0
  have rB := hB
  unfold zLB at rB
  obtain ⟨hc8, p1, p2, p3⟩ := hP
  obtain ⟨hk26, n1, n2, n3⟩ := id hN
  have k2 := t2_162 (L := L) hc8 p1
  obtain ⟨S1, Sm1, Lm1, a1, a2, a3, a4, a5⟩ := op59_162 (L := L) (fl := if c = 20 then 1 else 0) (many := nI c) (most := 20) hR hT hO hk (by
    by_cases e : c = 20
    · subst e
      exact .inl ⟨if_pos rfl, rfl⟩
    · exact .inr ⟨if_neg e, fun h => e ((znI_inj (b := 20) (by omega) (by omega)).mp h)⟩)
  have hc7 : S1 162 6 = 0 → c < 20 := fun h => by
    have g0 := a5 h
    rcases Nat.lt_or_ge c 20 with h | h
    · exact h
    · rw [if_pos (by omega)] at g0; exact absurd g0 (by decide)
  obtain ⟨v1, w1, S2, Sm2, Lm2, b1, b2, b3, b4, b5⟩ := op63_162 (L := L) (l := 0) (u := 98) (lo := 0) (hi := 98) (lo' := 0) (hi' := 98) hR a3 (by omega) (by omega) (fun _ => ⟨rfl, rfl, rfl, rfl⟩)
  have nS : ∀ {Sx Smx : zS} {Lmx : zL}, zfr 162 S Sm Lm Sx Smx Lmx → Sx 162 5 = nI k ∧ Smx B 13 = nI k ∧ ∀ i, i < k → L 163 i = Lmx (B + 27) i ∧ (Sx 165 i = 0 ↔ Smx (B + 28) i = 0) ∧ (Sx 165 i = 0 → ∃ x, x < c0 ∧ Sx 167 i = nI x ∧ Smx (B + 29) i = nI x) := fun h => ⟨(h.1 _ _ (by omega) (by omega)).trans n1, (h.2.1 _ _ (by omega)).trans n2, fun i hi => by
    rw [h.2.2 _ _ (by omega), h.1 _ _ (by omega) (by omega), h.1 _ _ (by omega) (by omega), h.2.1 _ _ (by omega), h.2.1 _ _ (by omega)]
    exact n3 i hi⟩
  have fr2 := zfr_t a4 b4
  obtain ⟨u1, u2, u3⟩ := nS fr2
  obtain ⟨v2, w2, S3, Sm3, Lm3, c1, c2, c3, c4, c5⟩ := op65_162 (L := L) (k := k) (k' := k) (m := c0) hR hB hB11 b3 hk26 hk26 u1 u2 (fun _ => ⟨rfl, u3⟩)
  have fr3 := zfr_t fr2 c4
  obtain ⟨kd, kd', S4, Sm4, Lm4, d1, d2, d3, d4, d5, d6⟩ := opA_162 (L := L) (x := v1) (y := v2) (x' := w1) (y' := w2) hR c3
  have fr4 := zfr_t fr3 d4
  obtain ⟨u1, u2, u3⟩ := nS fr4
  obtain ⟨o, o', S5, Sm5, Lm5, e1, e2, e3, e4, e5⟩ := opB_162 (L := L) (x := v1) (y := v2) (x' := w1) (y' := w2) (kd := kd) (kd' := kd') (k := k) (m := c0) hR hB hB11 d3 hk26 u1 u2 u3 (fun h => (d5 h).2) d6
  have fr := zfr_t fr4 e4
  have i6 : S5 64 4 = nI c := (fr.1 _ _ (by omega) (by omega)).trans p1
  have j6 : Sm5 B 11 = nI c := (fr.2.1 _ _ (by omega)).trans p2
  have k3 := t3_162 (L := L) (x := v1) (y := v2) (z := kd) (w := o) i6
  obtain ⟨S7, hS7⟩ : ∃ S7, S7 = zup (zput (zput (zput (zput S5 66 20 (nI c) v1) 68 20 (nI c) v2) 70 20 (nI c) kd) 72 20 (nI c) o) 64 4 (nI (c + 1)) := ⟨_, rfl⟩
  rw [← hS7] at k3
  have cl : zcall 55 [.ref 162] zRc S L = some (none, zRc, S7, L) := by
    have h1 : zcall 55 [.ref 162] zRc S L = zgo 55 27 [.ref 162, .int v1, .int v2, .retAddr 0, .retAddr 0] [] zRc S3 L := by
      unfold zcall
      simp (config := {maxSteps := 1000000}) (disch := omega) only [↓reduceIte, Int32.reduceLT, Int32.reduceLE, Int32.reduceToNatClampNeg, Int32.reduceAdd, Int32.reduceSub, Int32.reduceMul, Nat.reduceLeDiff, zEL, zup_ne, zup_eq, zT0, zT1, zT2, if_true, if_false, gR, gM, ze_55, s55_0, s55_1, s55_2, s55_5, s55_8, s55_11, s55_14, s55_15, s55_16, s55_18, s55_21, s55_22, s55_23, s55_26, k2, a1, b1, c1]
    rw [h1, d1, e1]
    simp (config := {maxSteps := 1000000}) (disch := omega) only [↓reduceIte, Int32.reduceLT, Int32.reduceLE, Int32.reduceToNatClampNeg, Int32.reduceAdd, Int32.reduceSub, Int32.reduceMul, Nat.reduceLeDiff, zEL, zup_ne, zup_eq, zT0, zT1, zT2, if_true, if_false, gR, gM, s55_73, s55_74, s55_77, s55_80, s55_81, s55_82, s55_83, s55_85, s55_88, k3]
  have mo : zcall 201 [.ref 0] R Sm Lm = zgo 201 139 [.ref 0, .int w1, .int w2, .int kd', .int o', .retAddr 0] [] R Sm5 Lm5 := by
    have h1 : zcall 201 [.ref 0] R Sm Lm = zgo 201 26 [.ref 0, .int w1, .int w2, .retAddr 0, .retAddr 0, .retAddr 0] [] R Sm3 Lm3 := by
      unfold zcall
      simp (config := {maxSteps := 1000000}) (disch := omega) only [↓reduceIte, Int32.reduceLT, Int32.reduceLE, Int32.reduceToNatClampNeg, Int32.reduceAdd, Int32.reduceSub, Int32.reduceMul, Nat.reduceLeDiff, zEL, zup_ne, zup_eq, zT0, zT1, zT2, if_true, if_false, r0, rB, ze_201, s201_0, s201_1, s201_2, s201_5, s201_8, s201_10, s201_13, s201_14, s201_15, s201_17, s201_20, s201_21, s201_22, s201_25, p2, a2, b2, c2]
    rw [h1, d2, e2]
  have e7 : ∀ j k, (j ≠ 64 ∨ k ≠ 4) → j ≠ 66 → j ≠ 68 → j ≠ 70 → j ≠ 72 → S7 j k = S5 j k := fun j k a c d e f => by rw [hS7, zup_ne (by omega), zput_ne (by omega), zput_ne (by omega), zput_ne (by omega), zput_ne (by omega)]
  have st : ∀ Sm7, (∀ j k, (j ≠ B ∨ k ≠ 11) → (j < B + 20 ∨ B + 23 < j) → Sm7 j k = Sm5 j k) → zST 162 n b S7 Sm7 Lm5 := fun Sm7 h => zST_fr e3 (fun k => e7 1 k (by omega) (by decide) (by decide) (by decide) (by decide)) (fun k => e7 3 k (by omega) (by decide) (by decide) (by decide) (by decide)) (e7 _ _ (by omega) (by decide) (by decide) (by decide) (by decide)) (e7 _ _ (by omega) (by decide) (by decide) (by decide) (by decide)) (fun k _ => h 0 k (by omega) (by omega)) (fun k => h 1 k (by omega) (by omega)) rfl
  have fC : ∀ j k, (j ≠ 1 ∨ (k ≠ 2 ∧ k ≠ 3 ∧ k ≠ 4)) → (j ≠ 162 ∨ (k ≠ 6 ∧ k ≠ 7)) → (j ≠ 64 ∨ k ≠ 4) → j ≠ 66 → j ≠ 68 → j ≠ 70 → j ≠ 72 → S7 j k = S j k := fun j k h1 h2 h3 h4 h5 h6 h7 => (e7 j k h3 h4 h5 h6 h7).trans (fr.1 j k h1 h2)
  rcases zST_9 e3 with ⟨o1, o2⟩ | ⟨o1, o2⟩
  · have o2 : (Sm5 0 9 = 5) = False := eq_false o2
    obtain ⟨y4, rfl, hkd⟩ := e5 o1
    obtain ⟨y3, -, -⟩ := d5 y4
    obtain ⟨y2, x2, z2, rfl, rfl⟩ := c5 y3
    obtain ⟨y1, x1, -, z1, rfl, rfl⟩ := b5 y2
    have c7' := hc7 y1
    obtain ⟨Sm7, hSm7⟩ : ∃ Sm7, Sm7 = zup (zup (zup (zup (zup Sm5 (B + 20) c (nI x1)) (B + 21) c (nI x2)) (B + 22) c kd') (B + 23) c o') B 11 (nI (c + 1)) := ⟨_, rfl⟩
    have g7 : ∀ j k, (j ≠ B ∨ k ≠ 11) → (j < B + 20 ∨ B + 23 < j) → Sm7 j k = Sm5 j k := fun j k h1 h2 => by
      rw [hSm7, zup_ne (by omega), zup_ne (by omega), zup_ne (by omega), zup_ne (by omega), zup_ne (by omega)]
    have q0 : ∀ k, Sm7 (B + 20) k = if k = c then nI x1 else Sm (B + 20) k := fun k => by
      rw [hSm7, zup_ne (by omega), zup_ne (by omega), zup_ne (by omega), zup_ne (by omega), ← fr.2.1 (B + 20) k (by omega)]
      by_cases e : k = c
      · rw [zup_eq rfl e, if_pos e]
      · rw [zup_ne (by omega), if_neg e]
    have v0' : ∀ k, S7 66 k = if k = c then nI x1 else S 66 k := fun k => by
      rw [hS7, zup_ne (by omega), zput_ne (by omega), zput_ne (by omega), zput_ne (by omega), zput_at (by omega) (by omega), fr.1 _ _ (by omega) (by omega)]
    have q1 : ∀ k, Sm7 (B + 21) k = if k = c then nI x2 else Sm (B + 21) k := fun k => by
      rw [hSm7, zup_ne (by omega), zup_ne (by omega), zup_ne (by omega), ← fr.2.1 (B + 21) k (by omega)]
      by_cases e : k = c
      · rw [zup_eq rfl e, if_pos e]
      · rw [zup_ne (by omega), zup_ne (by omega), if_neg e]
    have v1' : ∀ k, S7 68 k = if k = c then nI x2 else S 68 k := fun k => by
      rw [hS7, zup_ne (by omega), zput_ne (by omega), zput_ne (by omega), zput_at (by omega) (by omega), zput_ne (by omega), fr.1 _ _ (by omega) (by omega)]
    have q2 : ∀ k, Sm7 (B + 22) k = if k = c then kd' else Sm (B + 22) k := fun k => by
      rw [hSm7, zup_ne (by omega), zup_ne (by omega), ← fr.2.1 (B + 22) k (by omega)]
      by_cases e : k = c
      · rw [zup_eq rfl e, if_pos e]
      · rw [zup_ne (by omega), zup_ne (by omega), zup_ne (by omega), if_neg e]
    have v2' : ∀ k, S7 70 k = if k = c then kd' else S 70 k := fun k => by
      rw [hS7, zup_ne (by omega), zput_ne (by omega), zput_at (by omega) (by omega), zput_ne (by omega), zput_ne (by omega), fr.1 _ _ (by omega) (by omega)]
    have q3 : ∀ k, Sm7 (B + 23) k = if k = c then o' else Sm (B + 23) k := fun k => by
      rw [hSm7, zup_ne (by omega), ← fr.2.1 (B + 23) k (by omega)]
      by_cases e : k = c
      · rw [zup_eq rfl e, if_pos e]
      · rw [zup_ne (by omega), zup_ne (by omega), zup_ne (by omega), zup_ne (by omega), if_neg e]
    have v3' : ∀ k, S7 72 k = if k = c then o else S 72 k := fun k => by
      rw [hS7, zup_ne (by omega), zput_at (by omega) (by omega), zput_ne (by omega), zput_ne (by omega), zput_ne (by omega), fr.1 _ _ (by omega) (by omega)]
    refine ⟨S7, Sm7, Lm5, cl, mo.trans ?_, st _ g7, fC, fun j k h1 h2 h3 => (g7 j k h2 h3).trans (fr.2.1 j k h1), fr.2.2, fun _ => ⟨c7', by omega, by rw [hS7]; exact zup_eq rfl rfl, by rw [hSm7]; exact zup_eq rfl rfl, fun i hi => ?_⟩⟩
    · rw [hSm7]
      simp (config := {maxSteps := 1000000}) (disch := omega) only [↓reduceIte, Int32.reduceLT, Int32.reduceLE, Int32.reduceToNatClampNeg, Int32.reduceAdd, Int32.reduceSub, Int32.reduceMul, Nat.reduceLeDiff, zEL, zup_ne, zup_eq, zT0, zT1, zT2, if_true, if_false, zneq_f, true_and, and_true, false_and, and_false, zKL, eq_self, Nat.reduceEqDiff, zite0, ite_not, zaddr, zaddl, zputr, zsb1, zsb2, zsb0, zsbm, znm1, r0, rB, s201_139, s201_140, s201_143, s201_144, s201_147, s201_148, s201_149, s201_152, s201_155, s201_157, s201_158, s201_161, s201_164, s201_166, s201_167, s201_168, s201_169, s201_172, s201_175, s201_177, s201_178, s201_179, s201_180, s201_183, s201_186, s201_188, s201_189, s201_190, s201_191, s201_194, s201_197, s201_199, s201_201, s201_202, s201_203, s201_206, s201_207, s201_210, s201_211, s201_212, s201_215, o2, j6]
    · rw [v0', v1', v2', v3', q0, q1, q2, q3]
      by_cases e : i = c
      · simp only [if_pos e]
        exact ⟨trivial, ⟨x1, z1, rfl⟩, ⟨x2, z2, rfl, rfl⟩, trivial, hkd⟩
      · simp only [if_neg e]
        exact p3 i (by omega)
  · refine ⟨S7, Sm5, Lm5, cl, mo.trans ?_, st Sm5 (fun _ _ _ _ => rfl), fC, fun j k h1 h2 h3 => fr.2.1 j k h1, fr.2.2, fun h => ?_⟩
    · simp (config := {maxSteps := 1000000}) (disch := omega) only [↓reduceIte, Int32.reduceLT, Int32.reduceLE, Int32.reduceToNatClampNeg, Int32.reduceAdd, Int32.reduceSub, Int32.reduceMul, Nat.reduceLeDiff, zEL, zup_ne, zup_eq, zT0, zT1, zT2, if_true, if_false, r0, rB, s201_139, s201_140, s201_143, s201_144, s201_147, s201_148, s201_149, s201_152, s201_155, s201_157, s201_158, s201_161, s201_164, s201_166, s201_167, s201_168, s201_169, s201_172, s201_175, s201_177, s201_178, s201_179, s201_180, s201_183, s201_186, s201_188, s201_189, s201_190, s201_191, s201_194, s201_197, s201_199, s201_201, s201_202, s201_203, s201_206, s201_207, s201_210, s201_211, s201_212, s201_215, o2]
    · rw [e7 _ _ (by omega) (by decide) (by decide) (by decide) (by decide)] at h
      exact absurd h o1
end ZPG
