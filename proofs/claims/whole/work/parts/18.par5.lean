/-! THE TEXT: what both do word by word -/
section ZP5
variable {S Sm S' Sm' : zS} {L Lm Lm' : zL} {R : List zE} {n B p q : Nat} {b : Nat → Nat}
theorem zkN_r : zkN b n p q ≤ 5 := by
  unfold zkN
  have := @zkd_r (b p)
  repeat' split
  all_goals omega
theorem zaN_ge (h : zTKc n b p q S) : p ≤ zaN b n p q ∧ zaN b n p q ≤ n := by
  obtain ⟨h1, h3, h4, h5, h6, h7⟩ := h
  refine ⟨?_, zaN_le h3 h4⟩
  unfold zaN
  by_cases e : p = n
  · rw [if_pos e]
    omega
  · rw [if_neg e]
    have := (h4 (by omega)).1
    repeat' split
    all_goals omega
theorem zTK_d (h : zTKc n b p q S) (hk : zkN b n p q = 2) : p < q ∧ q ≤ n ∧ q - p ≤ 3 ∧ (∀ i, p ≤ i → i < q → 48 ≤ b i ∧ b i ≤ 57) ∧ zaN b n p q = q := by
  obtain ⟨h1, h3, h4, h5, h6, h7⟩ := h
  have hp : ¬ p = n := fun e => by rw [zkN, if_pos e] at hk; omega
  obtain ⟨q1, q2, q3, q4⟩ := h4 (by omega)
  have hr := @zkd_r (b p)
  have hkp : ¬ zkd (b p) = 1 ∧ zkd (b p) = 2 ∧ q - p ≤ 3 := by
    rw [zkN, if_neg hp] at hk
    split at hk
    · split at hk <;> omega
    · rename_i e1
      split at hk
      · rename_i e
        split at hk
        · rename_i e2
          exact ⟨e1, e, e2⟩
        · omega
      · omega
  refine ⟨by omega, q2, hkp.2.2, fun i h9 h10 => ?_, ?_⟩
  · by_cases e : i = p
    · rw [e]
      exact zkd_2.mp hkp.2.1
    · exact zkd_2.mp ((q3 i (by omega) h10).trans hkp.2.1)
  · rw [zaN, if_neg hp, if_neg hkp.1, if_pos hkp.2.1]
theorem t93 (h : zTKc n b p q S) : ∃ v : Int32, zcall 93 [.ref 1] zRc S L = some (some (.int v), zRc, S, L) ∧ (zkN b n p q = 2 → v = nI (znu b p (q - p))) := by
  obtain ⟨a1, a2⟩ := zaN_ge h
  have hd := zTK_d h
  obtain ⟨⟨hn, -, hb⟩, h3, h4, h5, h6, h7⟩ := h
  have key : ∀ d i, i + d = zaN b n p q → p ≤ i → ∀ v : Int32, (zkN b n p q = 2 → v = nI (znu b p (i - p))) → ∃ v' : Int32, zgo 93 7 [.ref 1, .int v, .int (nI i)] [] zRc S L = some (some (.int v'), zRc, S, L) ∧ (zkN b n p q = 2 → v' = nI (znu b p (q - p))) := by
    intro d
    induction d with
    | zero =>
      intro i hi hp v hv
      refine ⟨v, ?_, fun hk => ?_⟩
      · rw [s93_7]
        rw [← hi, Nat.add_zero] at h7
        simp (config := {maxSteps := 1000000}) (disch := omega) only [↓reduceIte, Int32.reduceLT, Int32.reduceLE, Int32.reduceToNatClampNeg, Int32.reduceAdd, Int32.reduceSub, Int32.reduceMul, Nat.reduceLeDiff, zEL, zup_ne, zup_eq, zT0, zT1, zT2, if_true, if_false, zneq_f, true_and, and_true, false_and, and_false, zKL, eq_self, Nat.reduceEqDiff, zite0, ite_not, zaddr, zaddl, zputr, zsb1, zsb2, zsb0, zsbm, znm1, gX, s93_8, s93_9, s93_12, s93_15, s93_16, s93_18, s93_19, s93_20, s93_23, s93_24, s93_27, s93_28, s93_30, s93_31, s93_32, s93_35, s93_38, s93_39, h7]
      · rw [hv hk, show i = q by have := (hd hk).2.2.2.2; omega]
    | succ d ih =>
      intro i hi hp v hv
      obtain ⟨b1, b2⟩ := hb i (by omega)
      obtain ⟨v', r1, r2⟩ := ih (i + 1) (by omega) (by omega) (v * 10 + nI (b i) - 48) (fun hk => by
        obtain ⟨d1, d2, d3, d4, d5⟩ := hd hk
        have hdi := d4 i hp (by omega)
        have hk9 : znu b p (i - p) < 10 ^ (i - p) := znu_le (fun j hj => d4 (p + j) (by omega) (by omega))
        have h10 : (10 : Nat) ^ (i - p) ≤ 10 ^ 3 := Nat.pow_le_pow_right (by omega) (by omega)
        rw [hv hk, show (10 : Int32) = nI 10 from rfl, show (48 : Int32) = nI 48 from rfl, znI_mul (by omega), zadd_nI, znI_sub (by omega), show i + 1 - p = i - p + 1 by omega]
        congr 1
        show _ = znu b p (i - p) * 10 + (b (p + (i - p)) - 48)
        rw [show p + (i - p) = i by omega]
        omega)
      refine ⟨v', ?_, r2⟩
      rw [← r1, s93_7]
      simp (config := {maxSteps := 1000000}) (disch := omega) only [↓reduceIte, Int32.reduceLT, Int32.reduceLE, Int32.reduceToNatClampNeg, Int32.reduceAdd, Int32.reduceSub, Int32.reduceMul, Nat.reduceLeDiff, zEL, zup_ne, zup_eq, zT0, zT1, zT2, if_true, if_false, zneq_f, true_and, and_true, false_and, and_false, zKL, eq_self, Nat.reduceEqDiff, zite0, ite_not, zaddr, zaddl, zputr, zsb1, zsb2, zsb0, zsbm, znm1, gX, s93_8, s93_9, s93_12, s93_15, s93_16, s93_18, s93_19, s93_20, s93_23, s93_24, s93_27, s93_28, s93_30, s93_31, s93_32, s93_35, s93_38, s93_39, h7, b2]
  obtain ⟨v', r1, r2⟩ := key (zaN b n p q - p) p (by omega) (Nat.le_refl _) 0 (fun _ => by rw [Nat.sub_self]; rfl)
  refine ⟨v', ?_, r2⟩
  unfold zcall
  simp (config := {maxSteps := 1000000}) (disch := omega) only [↓reduceIte, Int32.reduceLT, Int32.reduceLE, Int32.reduceToNatClampNeg, Int32.reduceAdd, Int32.reduceSub, Int32.reduceMul, Nat.reduceLeDiff, zEL, zup_ne, zup_eq, zT0, zT1, zT2, if_true, if_false, zneq_f, true_and, and_true, false_and, and_false, zKL, eq_self, Nat.reduceEqDiff, zite0, ite_not, zaddr, zaddl, zputr, zsb1, zsb2, zsb0, zsbm, znm1, gX, ze_93, s93_0, s93_1, s93_2, s93_3, s93_6, h5]
  exact r1
theorem t94 (h : zTKc n b p q S) : ∃ v : Int64, zcall 94 [.ref 1] zRc S L = some (some (.long v), zRc, S, L) ∧ (zkN b n p q = 1 → v = lN (zco b p (q - p))) := by
  obtain ⟨a1, a2⟩ := zaN_ge h
  have hd := fun hk => zTK_w h hk
  obtain ⟨⟨hn, -, hb⟩, h3, h4, h5, h6, h7⟩ := h
  have key : ∀ d i, i + d = zaN b n p q → p ≤ i → ∀ v : Int64, (zkN b n p q = 1 → v = lN (zco b p (i - p))) → ∃ v' : Int64, zgo 94 7 [.ref 1, .long v, .retAddr 0, .int (nI i)] [] zRc S L = some (some (.long v'), zRc, S, L) ∧ (zkN b n p q = 1 → v' = lN (zco b p (q - p))) := by
    intro d
    induction d with
    | zero =>
      intro i hi hp v hv
      refine ⟨v, ?_, fun hk => ?_⟩
      · rw [s94_7]
        rw [← hi, Nat.add_zero] at h7
        simp (config := {maxSteps := 1000000}) (disch := omega) only [↓reduceIte, Int32.reduceLT, Int32.reduceLE, Int32.reduceToNatClampNeg, Int32.reduceAdd, Int32.reduceSub, Int32.reduceMul, Nat.reduceLeDiff, zEL, zup_ne, zup_eq, zT0, zT1, zT2, if_true, if_false, zneq_f, true_and, and_true, false_and, and_false, zKL, eq_self, Nat.reduceEqDiff, zite0, ite_not, zaddr, zaddl, zputr, zsb1, zsb2, zsb0, zsbm, znm1, gX, s94_8, s94_9, s94_12, s94_15, s94_16, s94_19, s94_20, s94_21, s94_24, s94_25, s94_28, s94_29, s94_30, s94_33, s94_34, s94_35, s94_36, s94_37, s94_40, s94_43, s94_44, h7]
      · have hq := (hd hk).2.2.2.2
        rw [h7, znI_inj (by omega) (by have := (hd hk).2.1; omega)] at hq
        rw [hv hk, show i = q by omega]
    | succ d ih =>
      intro i hi hp v hv
      obtain ⟨b1, b2⟩ := hb i (by omega)
      obtain ⟨v', r1, r2⟩ := ih (i + 1) (by omega) (by omega) (v * 32 + (nI (b i)).toInt64 - 97 + 1) (fun hk => by
        obtain ⟨d1, d2, d3, d4, d5⟩ := hd hk
        rw [h7, znI_inj (by omega) (by omega)] at d5
        have hdi := d4 i hp (by omega)
        rw [hv hk, zl_i2l (by omega), show (32 : Int64) = lN 32 from rfl, show (97 : Int64) = lN 97 from rfl, show (1 : Int64) = lN 1 from rfl, zl_mul, zl_add, zl_sub (by omega), zl_add, show i + 1 - p = i - p + 1 by omega]
        congr 1
        show _ = zco b p (i - p) * 32 + (b (p + (i - p)) - 96)
        rw [show p + (i - p) = i by omega]
        omega)
      refine ⟨v', ?_, r2⟩
      rw [← r1, s94_7]
      simp (config := {maxSteps := 1000000}) (disch := omega) only [↓reduceIte, Int32.reduceLT, Int32.reduceLE, Int32.reduceToNatClampNeg, Int32.reduceAdd, Int32.reduceSub, Int32.reduceMul, Nat.reduceLeDiff, zEL, zup_ne, zup_eq, zT0, zT1, zT2, if_true, if_false, zneq_f, true_and, and_true, false_and, and_false, zKL, eq_self, Nat.reduceEqDiff, zite0, ite_not, zaddr, zaddl, zputr, zsb1, zsb2, zsb0, zsbm, znm1, gX, s94_8, s94_9, s94_12, s94_15, s94_16, s94_19, s94_20, s94_21, s94_24, s94_25, s94_28, s94_29, s94_30, s94_33, s94_34, s94_35, s94_36, s94_37, s94_40, s94_43, s94_44, h7, b2]
  obtain ⟨v', r1, r2⟩ := key (zaN b n p q - p) p (by omega) (Nat.le_refl _) 0 (fun _ => by rw [Nat.sub_self]; rfl)
  refine ⟨v', ?_, r2⟩
  unfold zcall
  simp (config := {maxSteps := 1000000}) (disch := omega) only [↓reduceIte, Int32.reduceLT, Int32.reduceLE, Int32.reduceToNatClampNeg, Int32.reduceAdd, Int32.reduceSub, Int32.reduceMul, Nat.reduceLeDiff, zEL, zup_ne, zup_eq, zT0, zT1, zT2, if_true, if_false, zneq_f, true_and, and_true, false_and, and_false, zKL, eq_self, Nat.reduceEqDiff, zite0, ite_not, zaddr, zaddl, zputr, zsb1, zsb2, zsb0, zsbm, znm1, gX, ze_94, s94_0, s94_1, s94_2, s94_3, s94_6, h5]
  exact r1
/-! a FAULT -/
theorem m179F (hR : zLT R) (h : Sm 0 9 = 5) : zcall 179 [.ref 0] R Sm Lm = some (none, R, Sm, Lm) := by
  have r0 := hR
  unfold zLT at r0
  unfold zcall
  simp (config := {maxSteps := 1000000}) (disch := omega) only [↓reduceIte, Int32.reduceLT, Int32.reduceLE, Int32.reduceToNatClampNeg, Int32.reduceAdd, Int32.reduceSub, Int32.reduceMul, Nat.reduceLeDiff, zEL, zup_ne, zup_eq, zT0, zT1, zT2, if_true, if_false, r0, ze_179, s179_0, s179_1, s179_4, s179_5, s179_8, h]
theorem m180F {k : Int32} (hR : zLT R) (h : Sm 0 9 = 5) : zcall 180 [.ref 0, .int k] R Sm Lm = some (none, R, Sm, Lm) := by
  have r0 := hR
  unfold zLT at r0
  unfold zcall
  simp (config := {maxSteps := 1000000}) (disch := omega) only [↓reduceIte, Int32.reduceLT, Int32.reduceLE, Int32.reduceToNatClampNeg, Int32.reduceAdd, Int32.reduceSub, Int32.reduceMul, Nat.reduceLeDiff, zEL, zup_ne, zup_eq, zT0, zT1, zT2, if_true, if_false, r0, ze_180, s180_0, s180_1, s180_4, s180_5, s180_8, s180_9, s180_10, s180_11, s180_14, s180_15, s180_16, s180_19, s180_22, s180_23, s180_24, s180_27, h]
theorem m180O {k : Int32} (hR : zLT R) (h : ¬ Sm 0 9 = 5) : zcall 180 [.ref 0, .int k] R Sm Lm = some (none, R, zup (zup (zup Sm 0 13 k) 0 14 (Sm 0 8)) 0 9 5, Lm) := by
  have r0 := hR
  unfold zLT at r0
  unfold zcall
  simp (config := {maxSteps := 1000000}) (disch := omega) only [↓reduceIte, Int32.reduceLT, Int32.reduceLE, Int32.reduceToNatClampNeg, Int32.reduceAdd, Int32.reduceSub, Int32.reduceMul, Nat.reduceLeDiff, zEL, zup_ne, zup_eq, zT0, zT1, zT2, if_true, if_false, r0, ze_180, s180_0, s180_1, s180_4, s180_5, s180_8, s180_9, s180_10, s180_11, s180_14, s180_15, s180_16, s180_19, s180_22, s180_23, s180_24, s180_27, h]
def zFA (rd : Nat) (S Sm : zS) : Prop := ∃ f pl : Nat, 1 ≤ f ∧ f ≤ 6 ∧ pl ≤ 900 ∧ S rd 6 = nI f ∧ S rd 7 = nI pl ∧ Sm 0 9 = 5 ∧ Sm 0 13 = nI f ∧ Sm 0 14 = nI pl
def zOKs (rd n : Nat) (b : Nat → Nat) (p q : Nat) (S Sm : zS) (Lm : zL) : Prop := S rd 6 = 0 ∧ Sm 0 13 = 0 ∧ zTN n b Sm ∧ zTM1 n b p q Sm Lm
/-- while a text is read: the TOKENS agree, or a FAULT stands -/
def zST (rd n : Nat) (b : Nat → Nat) (S Sm : zS) (Lm : zL) : Prop := ∃ p q, zTKc n b p q S ∧ (zOKs rd n b p q S Sm Lm ∨ zFA rd S Sm)
/-- what stays -/
def zfr (rd : Nat) (S Sm : zS) (Lm : zL) (S' Sm' : zS) (Lm' : zL) : Prop := (∀ j k, (j ≠ 1 ∨ (k ≠ 2 ∧ k ≠ 3 ∧ k ≠ 4)) → (j ≠ rd ∨ (k ≠ 6 ∧ k ≠ 7)) → S' j k = S j k) ∧ (∀ j k, (j ≠ 0 ∨ k < 8 ∨ 14 < k) → Sm' j k = Sm j k) ∧ (∀ j k, (j ≠ 0 ∨ k ≠ 15) → Lm' j k = Lm j k)
theorem zfr_r {rd : Nat} : zfr rd S Sm Lm S Sm Lm := ⟨fun _ _ _ _ => rfl, fun _ _ _ => rfl, fun _ _ _ => rfl⟩
theorem zfr_t {rd : Nat} {S2 Sm2 : zS} {Lm2 : zL} (h : zfr rd S Sm Lm S' Sm' Lm') (h2 : zfr rd S' Sm' Lm' S2 Sm2 Lm2) : zfr rd S Sm Lm S2 Sm2 Lm2 := ⟨fun j k a c => (h2.1 j k a c).trans (h.1 j k a c), fun j k a => (h2.2.1 j k a).trans (h.2.1 j k a), fun j k a => (h2.2.2 j k a).trans (h.2.2 j k a)⟩
theorem znI_n0 {f : Nat} (h1 : 1 ≤ f) (h2 : f ≤ 6) : ¬ nI f = 0 := fun h => by
  have := (znI_inj (a := f) (b := 0) (by omega) (by omega)).mp h
  omega
theorem zFA_ne {rd : Nat} (h : zFA rd S Sm) : ¬ S rd 6 = 0 := by
  obtain ⟨f, pl, h1, h2, h3, h4, h5, h6, h7, h8⟩ := h
  rw [h4]
  exact znI_n0 h1 h2
theorem zOK_9 {rd : Nat} (h : zOKs rd n b p q S Sm Lm) : ¬ Sm 0 9 = 5 := by
  rw [h.2.2.2.2.1]
  exact zst5
theorem c58F_80 {k : Int32} (h : ¬ S 80 6 = 0) : zcall 58 [.ref 80, .int k] zRc S L = some (none, zRc, S, L) := by
  unfold zcall
  simp (config := {maxSteps := 1000000}) (disch := omega) only [↓reduceIte, Int32.reduceLT, Int32.reduceLE, Int32.reduceToNatClampNeg, Int32.reduceAdd, Int32.reduceSub, Int32.reduceMul, Nat.reduceLeDiff, zEL, zup_ne, zup_eq, zT0, zT1, zT2, if_true, if_false, gR, gX, ze_58, s58_0, s58_1, s58_4, s58_7, s58_8, s58_9, s58_12, s58_13, s58_14, s58_17, s58_20, s58_23, h]
theorem c58O_80 {k : Int32} (h : S 80 6 = 0) : zcall 58 [.ref 80, .int k] zRc S L = some (none, zRc, zup (zup S 80 6 k) 80 7 (S 1 3), L) := by
  unfold zcall
  simp (config := {maxSteps := 1000000}) (disch := omega) only [↓reduceIte, Int32.reduceLT, Int32.reduceLE, Int32.reduceToNatClampNeg, Int32.reduceAdd, Int32.reduceSub, Int32.reduceMul, Nat.reduceLeDiff, zEL, zup_ne, zup_eq, zT0, zT1, zT2, if_true, if_false, gR, gX, ze_58, s58_0, s58_1, s58_4, s58_7, s58_8, s58_9, s58_12, s58_13, s58_14, s58_17, s58_20, s58_23, h]
/-- a FAULT is told -/
theorem zFk_80 {f : Nat} {k : Int32} (hk : k = nI f) (h1 : 1 ≤ f) (h2 : f ≤ 6) (hT : zTKc n b p q S) (hO : zOKs 80 n b p q S Sm Lm) : zST 80 n b (zup (zup S 80 6 k) 80 7 (S 1 3)) (zup (zup (zup Sm 0 13 k) 0 14 (Sm 0 8)) 0 9 5) Lm ∧ zfr 80 S Sm Lm (zup (zup S 80 6 k) 80 7 (S 1 3)) (zup (zup (zup Sm 0 13 k) 0 14 (Sm 0 8)) 0 9 5) Lm ∧ ¬ zup (zup S 80 6 k) 80 7 (S 1 3) 80 6 = 0 ∧ zup (zup (zup Sm 0 13 k) 0 14 (Sm 0 8)) 0 9 5 0 9 = 5 ∧ zTKc n b p q (zup (zup S 80 6 k) 80 7 (S 1 3)) := by
  subst hk
  have hT' := hT
  obtain ⟨⟨hn, t5, hb⟩, h3, h4, h5, h6, h7⟩ := hT
  have e : ∀ j k, j ≠ 80 → zup (zup S 80 6 (nI f)) 80 7 (S 1 3) j k = S j k := fun j k h => by rw [zup_ne (by omega), zup_ne (by omega)]
  have hT2 : zTKc n b p q (zup (zup S 80 6 (nI f)) 80 7 (S 1 3)) := ⟨zTC_fr hT'.1 (e 1 5 (by decide)) (fun i => e 3 i (by decide)), h3, h4, by rw [e _ _ (by decide)]; exact h5, by rw [e _ _ (by decide)]; exact h6, by rw [e _ _ (by decide)]; exact h7⟩
  have e6 : zup (zup S 80 6 (nI f)) 80 7 (S 1 3) 80 6 = nI f := by rw [zup_ne (by omega), zup_eq rfl rfl]
  refine ⟨⟨p, q, hT2, .inr ⟨f, p, h1, h2, by omega, e6, ?_, ?_, ?_, ?_⟩⟩, ⟨fun j k a c => by rw [zup_ne (by omega), zup_ne (by omega)], fun j k a => by rw [zup_ne (by omega), zup_ne (by omega), zup_ne (by omega)], fun _ _ _ => rfl⟩, by rw [e6]; exact znI_n0 h1 h2, zup_eq rfl rfl, hT2⟩
  · rw [zup_eq rfl rfl]
    exact h5
  · exact zup_eq rfl rfl
  · rw [zup_ne (by omega), zup_ne (by omega), zup_eq rfl rfl]
  · rw [zup_ne (by omega), zup_eq rfl rfl]
    exact hO.2.2.2.1
/-- the next TOKEN, where no FAULT stands -/
theorem zsn_80 (hR : zLT R) (hT : zTKc n b p q S) (hO : zOKs 80 n b p q S Sm Lm) (hk : 1 ≤ zkN b n p q) (hk4 : zkN b n p q ≤ 4) : ∃ S' Sm' Lm', zcall 90 [.ref 1] zRc S L = some (none, zRc, S', L) ∧ zcall 179 [.ref 0] R Sm Lm = some (none, R, Sm', Lm') ∧ zST 80 n b S' Sm' Lm' ∧ zfr 80 S Sm Lm S' Sm' Lm' ∧ S' 80 6 = 0 := by
  obtain ⟨p', q', S', Sm', Lm', a1, a2, a3, a4, a5, a6⟩ := zstep1 (L := L) hR ⟨hT, hO.2.2.1, hO.2.2.2⟩ hk hk4
  have h6 : S' 80 6 = 0 := (a3 _ _ (by omega)).trans hO.1
  exact ⟨S', Sm', Lm', a1, a2, ⟨p', q', a6.1, .inl ⟨h6, (a4 0 13 (by omega)).trans hO.2.1, a6.2.1, a6.2.2⟩⟩, ⟨fun j k h1 h2 => a3 j k h1, fun j k h => a4 j k (by omega), a5⟩, h6⟩
theorem op60_80 {r r' : Nat} {W : List Nat} (hR : zLT R) (hc : ∀ p q S L, zTKc n b p q S → zcall 92 [.ref 1, .ref r] zRc S L = some (some (.int (zbi (zW b n p q W))), zRc, S, L)) (hm : ∀ p q S Sm Lm, zTK n b p q S Sm Lm → zcall 181 [.ref 0, .ref r'] R Sm Lm = some (some (.int (zbi (zW b n p q W))), R, Sm, Lm)) (h : zST 80 n b S Sm Lm) : ∃ S' Sm' Lm', zcall 60 [.ref 80, .ref r] zRc S L = some (none, zRc, S', L) ∧ zcall 183 [.ref 0, .ref r'] R Sm Lm = some (none, R, Sm', Lm') ∧ zST 80 n b S' Sm' Lm' ∧ zfr 80 S Sm Lm S' Sm' Lm' ∧ (S' 80 6 = 0 → S 80 6 = 0) := by
  have r0 := hR
  unfold zLT at r0
  obtain ⟨p, q, hT, hO⟩ := h
  have k1 := hc p q S L hT
  rcases hO with hO | hF
  · have k2 := hm p q S Sm Lm ⟨hT, hO.2.2.1, hO.2.2.2⟩
    have h6 := hO.1
    cases hw : zW b n p q W with
    | true =>
      have hk : zkN b n p q = 1 := by
        unfold zW at hw
        rw [Bool.and_eq_true, decide_eq_true_eq] at hw
        exact hw.1
      obtain ⟨S', Sm', Lm', a1, a2, a3, a4, a5⟩ := zsn_80 (L := L) hR hT hO (by omega) (by omega)
      rw [hw, zbi_t] at k1 k2
      refine ⟨S', Sm', Lm', ?_, ?_, a3, a4, fun _ => h6⟩ <;> unfold zcall
      · simp (config := {maxSteps := 1000000}) (disch := omega) only [↓reduceIte, Int32.reduceLT, Int32.reduceLE, Int32.reduceToNatClampNeg, Int32.reduceAdd, Int32.reduceSub, Int32.reduceMul, Nat.reduceLeDiff, zEL, zup_ne, zup_eq, zT0, zT1, zT2, if_true, if_false, gR, gX, ze_60, s60_0, s60_1, s60_4, s60_5, s60_8, s60_11, s60_12, s60_13, s60_16, s60_17, s60_20, s60_23, s60_24, s60_27, s60_30, k1, h6, a1]
      · simp (config := {maxSteps := 1000000}) (disch := omega) only [↓reduceIte, Int32.reduceLT, Int32.reduceLE, Int32.reduceToNatClampNeg, Int32.reduceAdd, Int32.reduceSub, Int32.reduceMul, Nat.reduceLeDiff, zEL, zup_ne, zup_eq, zT0, zT1, zT2, if_true, if_false, r0, ze_183, s183_0, s183_1, s183_2, s183_5, s183_8, s183_9, s183_10, s183_13, s183_14, s183_17, k2, a2]
    | false =>
      obtain ⟨f1, f2, f3, f4, -⟩ := zFk_80 (f := 1) rfl (by omega) (by omega) hT hO
      rw [hw, zbi_f] at k1 k2
      have k3 := c58O_80 (L := L) (k := nI 1) h6
      have k4 := m180O (Lm := Lm) (k := nI 1) hR (zOK_9 hO)
      have k5 := m179F (Lm := Lm) hR f4
      refine ⟨_, _, Lm, ?_, ?_, f1, f2, fun _ => h6⟩ <;> unfold zcall
      · have k3 : zcall 58 [.ref 80, .int 1] zRc S L = _ := k3
        simp (config := {maxSteps := 1000000}) (disch := omega) only [↓reduceIte, Int32.reduceLT, Int32.reduceLE, Int32.reduceToNatClampNeg, Int32.reduceAdd, Int32.reduceSub, Int32.reduceMul, Nat.reduceLeDiff, zEL, zup_ne, zup_eq, zT0, zT1, zT2, if_true, if_false, zneq_f, true_and, and_true, false_and, and_false, zKL, eq_self, Nat.reduceEqDiff, zite0, ite_not, zaddr, zaddl, zputr, zsb1, zsb2, zsb0, zsbm, znm1, gR, gX, ze_60, s60_0, s60_1, s60_4, s60_5, s60_8, s60_11, s60_12, s60_13, s60_16, s60_17, s60_20, s60_23, s60_24, s60_27, s60_30, k1, k3]
      · have k4 : zcall 180 [.ref 0, .int 1] R Sm Lm = _ := k4
        simp (config := {maxSteps := 1000000}) (disch := omega) only [↓reduceIte, Int32.reduceLT, Int32.reduceLE, Int32.reduceToNatClampNeg, Int32.reduceAdd, Int32.reduceSub, Int32.reduceMul, Nat.reduceLeDiff, zEL, zup_ne, zup_eq, zT0, zT1, zT2, if_true, if_false, r0, ze_183, s183_0, s183_1, s183_2, s183_5, s183_8, s183_9, s183_10, s183_13, s183_14, s183_17, k2, k4, k5]
  · have hne := zFA_ne hF
    have k3 := fun k => c58F_80 (L := L) (k := k) hne
    have m9 : Sm 0 9 = 5 := by obtain ⟨f, pl, -, -, -, -, -, h9, -⟩ := hF; exact h9
    have k4 := fun k => m180F (Lm := Lm) (k := k) hR m9
    have k5 := m179F (Lm := Lm) hR m9
    have k2 := m181F (Lm := Lm) (r := r') hR m9
    refine ⟨S, Sm, Lm, ?_, ?_, ⟨p, q, hT, .inr hF⟩, zfr_r, fun h => h⟩ <;> unfold zcall
    · cases hw : zW b n p q W
      all_goals rw [hw, zbi] at k1
      all_goals simp (config := {maxSteps := 1000000}) (disch := omega) only [↓reduceIte, Int32.reduceLT, Int32.reduceLE, Int32.reduceToNatClampNeg, Int32.reduceAdd, Int32.reduceSub, Int32.reduceMul, Nat.reduceLeDiff, zEL, zup_ne, zup_eq, zT0, zT1, zT2, if_true, if_false, gR, gX, ze_60, s60_0, s60_1, s60_4, s60_5, s60_8, s60_11, s60_12, s60_13, s60_16, s60_17, s60_20, s60_23, s60_24, s60_27, s60_30, k1, k3, hne, Bool.false_eq_true]
    · simp (config := {maxSteps := 1000000}) (disch := omega) only [↓reduceIte, Int32.reduceLT, Int32.reduceLE, Int32.reduceToNatClampNeg, Int32.reduceAdd, Int32.reduceSub, Int32.reduceMul, Nat.reduceLeDiff, zEL, zup_ne, zup_eq, zT0, zT1, zT2, if_true, if_false, r0, ze_183, s183_0, s183_1, s183_2, s183_5, s183_8, s183_9, s183_10, s183_13, s183_14, s183_17, k2, k4, k5]
theorem op61_80 (hR : zLT R) (h : zST 80 n b S Sm Lm) : ∃ S' Sm' Lm', zcall 61 [.ref 80] zRc S L = some (none, zRc, S', L) ∧ zcall 184 [.ref 0, .int 44] R Sm Lm = some (none, R, Sm', Lm') ∧ zST 80 n b S' Sm' Lm' ∧ zfr 80 S Sm Lm S' Sm' Lm' ∧ (S' 80 6 = 0 → S 80 6 = 0) := by
  have r0 := hR
  unfold zLT at r0
  obtain ⟨p, q, hT, hO⟩ := h
  have t2 := hT.2.2.2.2.1
  have hr := @zkN_r n p q b
  rcases hO with hO | hF
  · have h6 := hO.1
    obtain ⟨m8, m9, m10, m11, m12, -⟩ := hO.2.2.2
    by_cases hk : zkN b n p q = 4
    · obtain ⟨S', Sm', Lm', a1, a2, a3, a4, a5⟩ := zsn_80 (L := L) hR hT hO (by omega) (by omega)
      have m12 := m12 hk
      rw [hk] at t2 m9
      have t2 : S 1 2 = 4 := t2
      have m9 : Sm 0 9 = 4 := m9
      refine ⟨S', Sm', Lm', ?_, ?_, a3, a4, fun _ => h6⟩ <;> unfold zcall
      · simp (config := {maxSteps := 1000000}) (disch := omega) only [↓reduceIte, Int32.reduceLT, Int32.reduceLE, Int32.reduceToNatClampNeg, Int32.reduceAdd, Int32.reduceSub, Int32.reduceMul, Nat.reduceLeDiff, zEL, zup_ne, zup_eq, zT0, zT1, zT2, if_true, if_false, gR, gX, ze_61, s61_0, s61_1, s61_4, s61_7, s61_8, s61_11, s61_12, s61_13, s61_16, s61_17, s61_20, s61_23, s61_24, s61_27, s61_30, t2, h6, a1]
      · simp (config := {maxSteps := 1000000}) (disch := omega) only [↓reduceIte, Int32.reduceLT, Int32.reduceLE, Int32.reduceToNatClampNeg, Int32.reduceAdd, Int32.reduceSub, Int32.reduceMul, Nat.reduceLeDiff, zEL, zup_ne, zup_eq, zT0, zT1, zT2, if_true, if_false, r0, ze_184, s184_0, s184_1, s184_4, s184_5, s184_8, s184_9, s184_12, s184_13, s184_16, s184_17, s184_18, s184_21, s184_22, s184_25, m9, m12, a2]
    · obtain ⟨f1, f2, f3, f4, -⟩ := zFk_80 (f := 1) rfl (by omega) (by omega) hT hO
      have k3 := c58O_80 (L := L) (k := nI 1) h6
      have k4 := m180O (Lm := Lm) (k := nI 1) hR (zOK_9 hO)
      have k5 := m179F (Lm := Lm) hR f4
      have k3 : zcall 58 [.ref 80, .int 1] zRc S L = _ := k3
      have k4 : zcall 180 [.ref 0, .int 1] R Sm Lm = _ := k4
      refine ⟨_, _, Lm, ?_, ?_, f1, f2, fun _ => h6⟩ <;> unfold zcall
      · have t3 : (S 1 2 = 4) = False := eq_false (by rw [t2]; intro h9; exact hk ((znI_inj (b := 4) (by omega) (by omega)).mp h9))
        simp (config := {maxSteps := 1000000}) (disch := omega) only [↓reduceIte, Int32.reduceLT, Int32.reduceLE, Int32.reduceToNatClampNeg, Int32.reduceAdd, Int32.reduceSub, Int32.reduceMul, Nat.reduceLeDiff, zEL, zup_ne, zup_eq, zT0, zT1, zT2, if_true, if_false, zneq_f, true_and, and_true, false_and, and_false, zKL, eq_self, Nat.reduceEqDiff, zite0, ite_not, zaddr, zaddl, zputr, zsb1, zsb2, zsb0, zsbm, znm1, gR, gX, ze_61, s61_0, s61_1, s61_4, s61_7, s61_8, s61_11, s61_12, s61_13, s61_16, s61_17, s61_20, s61_23, s61_24, s61_27, s61_30, t3, k3]
      · rcases (show zkN b n p q = 3 ∨ zkN b n p q ≠ 3 by omega) with hk3 | hk3
        · have m11 := m11 hk3
          have c1 : ((59 : Int32) = 44) = False := by decide
          simp (config := {maxSteps := 1000000}) (disch := omega) only [↓reduceIte, Int32.reduceLT, Int32.reduceLE, Int32.reduceToNatClampNeg, Int32.reduceAdd, Int32.reduceSub, Int32.reduceMul, Nat.reduceLeDiff, zEL, zup_ne, zup_eq, zT0, zT1, zT2, if_true, if_false, r0, ze_184, s184_0, s184_1, s184_4, s184_5, s184_8, s184_9, s184_12, s184_13, s184_16, s184_17, s184_18, s184_21, s184_22, s184_25, m11, c1, k4, k5]
          all_goals (repeat' split)
          all_goals rfl
        · have m92 : (nI (zst (zkN b n p q)) = 4) = False := by
            unfold zst
            rcases (show zkN b n p q = 0 ∨ zkN b n p q = 1 ∨ zkN b n p q = 2 ∨ zkN b n p q = 5 by omega) with e | e | e | e <;> rw [e] <;> decide
          simp (config := {maxSteps := 1000000}) (disch := omega) only [↓reduceIte, Int32.reduceLT, Int32.reduceLE, Int32.reduceToNatClampNeg, Int32.reduceAdd, Int32.reduceSub, Int32.reduceMul, Nat.reduceLeDiff, zEL, zup_ne, zup_eq, zT0, zT1, zT2, if_true, if_false, r0, ze_184, s184_0, s184_1, s184_4, s184_5, s184_8, s184_9, s184_12, s184_13, s184_16, s184_17, s184_18, s184_21, s184_22, s184_25, m9, m92, k4, k5]
  · have hne := zFA_ne hF
    have k3 := fun k => c58F_80 (L := L) (k := k) hne
    have m9 : Sm 0 9 = 5 := by obtain ⟨f, pl, -, -, -, -, -, h9, -⟩ := hF; exact h9
    have k4 := fun k => m180F (Lm := Lm) (k := k) hR m9
    have k5 := m179F (Lm := Lm) hR m9
    refine ⟨S, Sm, Lm, ?_, ?_, ⟨p, q, hT, .inr hF⟩, zfr_r, fun h => h⟩ <;> unfold zcall
    · simp (config := {maxSteps := 1000000}) (disch := omega) only [↓reduceIte, Int32.reduceLT, Int32.reduceLE, Int32.reduceToNatClampNeg, Int32.reduceAdd, Int32.reduceSub, Int32.reduceMul, Nat.reduceLeDiff, zEL, zup_ne, zup_eq, zT0, zT1, zT2, if_true, if_false, gR, gX, ze_61, s61_0, s61_1, s61_4, s61_7, s61_8, s61_11, s61_12, s61_13, s61_16, s61_17, s61_20, s61_23, s61_24, s61_27, s61_30, k3, hne]
      all_goals (repeat' split)
      all_goals rfl
    · simp (config := {maxSteps := 1000000}) (disch := omega) only [↓reduceIte, Int32.reduceLT, Int32.reduceLE, Int32.reduceToNatClampNeg, Int32.reduceAdd, Int32.reduceSub, Int32.reduceMul, Nat.reduceLeDiff, zEL, zup_ne, zup_eq, zT0, zT1, zT2, if_true, if_false, r0, ze_184, s184_0, s184_1, s184_4, s184_5, s184_8, s184_9, s184_12, s184_13, s184_16, s184_17, s184_18, s184_21, s184_22, s184_25, m9, k4, k5]
theorem c58F_162 {k : Int32} (h : ¬ S 162 6 = 0) : zcall 58 [.ref 162, .int k] zRc S L = some (none, zRc, S, L) := by
  unfold zcall
  simp (config := {maxSteps := 1000000}) (disch := omega) only [↓reduceIte, Int32.reduceLT, Int32.reduceLE, Int32.reduceToNatClampNeg, Int32.reduceAdd, Int32.reduceSub, Int32.reduceMul, Nat.reduceLeDiff, zEL, zup_ne, zup_eq, zT0, zT1, zT2, if_true, if_false, gR, gX, ze_58, s58_0, s58_1, s58_4, s58_7, s58_8, s58_9, s58_12, s58_13, s58_14, s58_17, s58_20, s58_23, h]
theorem c58O_162 {k : Int32} (h : S 162 6 = 0) : zcall 58 [.ref 162, .int k] zRc S L = some (none, zRc, zup (zup S 162 6 k) 162 7 (S 1 3), L) := by
  unfold zcall
  simp (config := {maxSteps := 1000000}) (disch := omega) only [↓reduceIte, Int32.reduceLT, Int32.reduceLE, Int32.reduceToNatClampNeg, Int32.reduceAdd, Int32.reduceSub, Int32.reduceMul, Nat.reduceLeDiff, zEL, zup_ne, zup_eq, zT0, zT1, zT2, if_true, if_false, gR, gX, ze_58, s58_0, s58_1, s58_4, s58_7, s58_8, s58_9, s58_12, s58_13, s58_14, s58_17, s58_20, s58_23, h]
/-- a FAULT is told -/
theorem zFk_162 {f : Nat} {k : Int32} (hk : k = nI f) (h1 : 1 ≤ f) (h2 : f ≤ 6) (hT : zTKc n b p q S) (hO : zOKs 162 n b p q S Sm Lm) : zST 162 n b (zup (zup S 162 6 k) 162 7 (S 1 3)) (zup (zup (zup Sm 0 13 k) 0 14 (Sm 0 8)) 0 9 5) Lm ∧ zfr 162 S Sm Lm (zup (zup S 162 6 k) 162 7 (S 1 3)) (zup (zup (zup Sm 0 13 k) 0 14 (Sm 0 8)) 0 9 5) Lm ∧ ¬ zup (zup S 162 6 k) 162 7 (S 1 3) 162 6 = 0 ∧ zup (zup (zup Sm 0 13 k) 0 14 (Sm 0 8)) 0 9 5 0 9 = 5 ∧ zTKc n b p q (zup (zup S 162 6 k) 162 7 (S 1 3)) := by
  subst hk
  have hT' := hT
  obtain ⟨⟨hn, t5, hb⟩, h3, h4, h5, h6, h7⟩ := hT
  have e : ∀ j k, j ≠ 162 → zup (zup S 162 6 (nI f)) 162 7 (S 1 3) j k = S j k := fun j k h => by rw [zup_ne (by omega), zup_ne (by omega)]
  have hT2 : zTKc n b p q (zup (zup S 162 6 (nI f)) 162 7 (S 1 3)) := ⟨zTC_fr hT'.1 (e 1 5 (by decide)) (fun i => e 3 i (by decide)), h3, h4, by rw [e _ _ (by decide)]; exact h5, by rw [e _ _ (by decide)]; exact h6, by rw [e _ _ (by decide)]; exact h7⟩
  have e6 : zup (zup S 162 6 (nI f)) 162 7 (S 1 3) 162 6 = nI f := by rw [zup_ne (by omega), zup_eq rfl rfl]
  refine ⟨⟨p, q, hT2, .inr ⟨f, p, h1, h2, by omega, e6, ?_, ?_, ?_, ?_⟩⟩, ⟨fun j k a c => by rw [zup_ne (by omega), zup_ne (by omega)], fun j k a => by rw [zup_ne (by omega), zup_ne (by omega), zup_ne (by omega)], fun _ _ _ => rfl⟩, by rw [e6]; exact znI_n0 h1 h2, zup_eq rfl rfl, hT2⟩
  · rw [zup_eq rfl rfl]
    exact h5
  · exact zup_eq rfl rfl
  · rw [zup_ne (by omega), zup_ne (by omega), zup_eq rfl rfl]
  · rw [zup_ne (by omega), zup_eq rfl rfl]
    exact hO.2.2.2.1
/-- the next TOKEN, where no FAULT stands -/
theorem zsn_162 (hR : zLT R) (hT : zTKc n b p q S) (hO : zOKs 162 n b p q S Sm Lm) (hk : 1 ≤ zkN b n p q) (hk4 : zkN b n p q ≤ 4) : ∃ S' Sm' Lm', zcall 90 [.ref 1] zRc S L = some (none, zRc, S', L) ∧ zcall 179 [.ref 0] R Sm Lm = some (none, R, Sm', Lm') ∧ zST 162 n b S' Sm' Lm' ∧ zfr 162 S Sm Lm S' Sm' Lm' ∧ S' 162 6 = 0 := by
  obtain ⟨p', q', S', Sm', Lm', a1, a2, a3, a4, a5, a6⟩ := zstep1 (L := L) hR ⟨hT, hO.2.2.1, hO.2.2.2⟩ hk hk4
  have h6 : S' 162 6 = 0 := (a3 _ _ (by omega)).trans hO.1
  exact ⟨S', Sm', Lm', a1, a2, ⟨p', q', a6.1, .inl ⟨h6, (a4 0 13 (by omega)).trans hO.2.1, a6.2.1, a6.2.2⟩⟩, ⟨fun j k h1 h2 => a3 j k h1, fun j k h => a4 j k (by omega), a5⟩, h6⟩
theorem op60_162 {r r' : Nat} {W : List Nat} (hR : zLT R) (hc : ∀ p q S L, zTKc n b p q S → zcall 92 [.ref 1, .ref r] zRc S L = some (some (.int (zbi (zW b n p q W))), zRc, S, L)) (hm : ∀ p q S Sm Lm, zTK n b p q S Sm Lm → zcall 181 [.ref 0, .ref r'] R Sm Lm = some (some (.int (zbi (zW b n p q W))), R, Sm, Lm)) (h : zST 162 n b S Sm Lm) : ∃ S' Sm' Lm', zcall 60 [.ref 162, .ref r] zRc S L = some (none, zRc, S', L) ∧ zcall 183 [.ref 0, .ref r'] R Sm Lm = some (none, R, Sm', Lm') ∧ zST 162 n b S' Sm' Lm' ∧ zfr 162 S Sm Lm S' Sm' Lm' ∧ (S' 162 6 = 0 → S 162 6 = 0) := by
  have r0 := hR
  unfold zLT at r0
  obtain ⟨p, q, hT, hO⟩ := h
  have k1 := hc p q S L hT
  rcases hO with hO | hF
  · have k2 := hm p q S Sm Lm ⟨hT, hO.2.2.1, hO.2.2.2⟩
    have h6 := hO.1
    cases hw : zW b n p q W with
    | true =>
      have hk : zkN b n p q = 1 := by
        unfold zW at hw
        rw [Bool.and_eq_true, decide_eq_true_eq] at hw
        exact hw.1
      obtain ⟨S', Sm', Lm', a1, a2, a3, a4, a5⟩ := zsn_162 (L := L) hR hT hO (by omega) (by omega)
      rw [hw, zbi_t] at k1 k2
      refine ⟨S', Sm', Lm', ?_, ?_, a3, a4, fun _ => h6⟩ <;> unfold zcall
      · simp (config := {maxSteps := 1000000}) (disch := omega) only [↓reduceIte, Int32.reduceLT, Int32.reduceLE, Int32.reduceToNatClampNeg, Int32.reduceAdd, Int32.reduceSub, Int32.reduceMul, Nat.reduceLeDiff, zEL, zup_ne, zup_eq, zT0, zT1, zT2, if_true, if_false, gR, gX, ze_60, s60_0, s60_1, s60_4, s60_5, s60_8, s60_11, s60_12, s60_13, s60_16, s60_17, s60_20, s60_23, s60_24, s60_27, s60_30, k1, h6, a1]
      · simp (config := {maxSteps := 1000000}) (disch := omega) only [↓reduceIte, Int32.reduceLT, Int32.reduceLE, Int32.reduceToNatClampNeg, Int32.reduceAdd, Int32.reduceSub, Int32.reduceMul, Nat.reduceLeDiff, zEL, zup_ne, zup_eq, zT0, zT1, zT2, if_true, if_false, r0, ze_183, s183_0, s183_1, s183_2, s183_5, s183_8, s183_9, s183_10, s183_13, s183_14, s183_17, k2, a2]
    | false =>
      obtain ⟨f1, f2, f3, f4, -⟩ := zFk_162 (f := 1) rfl (by omega) (by omega) hT hO
      rw [hw, zbi_f] at k1 k2
      have k3 := c58O_162 (L := L) (k := nI 1) h6
      have k4 := m180O (Lm := Lm) (k := nI 1) hR (zOK_9 hO)
      have k5 := m179F (Lm := Lm) hR f4
      refine ⟨_, _, Lm, ?_, ?_, f1, f2, fun _ => h6⟩ <;> unfold zcall
      · have k3 : zcall 58 [.ref 162, .int 1] zRc S L = _ := k3
        simp (config := {maxSteps := 1000000}) (disch := omega) only [↓reduceIte, Int32.reduceLT, Int32.reduceLE, Int32.reduceToNatClampNeg, Int32.reduceAdd, Int32.reduceSub, Int32.reduceMul, Nat.reduceLeDiff, zEL, zup_ne, zup_eq, zT0, zT1, zT2, if_true, if_false, zneq_f, true_and, and_true, false_and, and_false, zKL, eq_self, Nat.reduceEqDiff, zite0, ite_not, zaddr, zaddl, zputr, zsb1, zsb2, zsb0, zsbm, znm1, gR, gX, ze_60, s60_0, s60_1, s60_4, s60_5, s60_8, s60_11, s60_12, s60_13, s60_16, s60_17, s60_20, s60_23, s60_24, s60_27, s60_30, k1, k3]
      · have k4 : zcall 180 [.ref 0, .int 1] R Sm Lm = _ := k4
        simp (config := {maxSteps := 1000000}) (disch := omega) only [↓reduceIte, Int32.reduceLT, Int32.reduceLE, Int32.reduceToNatClampNeg, Int32.reduceAdd, Int32.reduceSub, Int32.reduceMul, Nat.reduceLeDiff, zEL, zup_ne, zup_eq, zT0, zT1, zT2, if_true, if_false, r0, ze_183, s183_0, s183_1, s183_2, s183_5, s183_8, s183_9, s183_10, s183_13, s183_14, s183_17, k2, k4, k5]
  · have hne := zFA_ne hF
    have k3 := fun k => c58F_162 (L := L) (k := k) hne
    have m9 : Sm 0 9 = 5 := by obtain ⟨f, pl, -, -, -, -, -, h9, -⟩ := hF; exact h9
    have k4 := fun k => m180F (Lm := Lm) (k := k) hR m9
    have k5 := m179F (Lm := Lm) hR m9
    have k2 := m181F (Lm := Lm) (r := r') hR m9
    refine ⟨S, Sm, Lm, ?_, ?_, ⟨p, q, hT, .inr hF⟩, zfr_r, fun h => h⟩ <;> unfold zcall
    · cases hw : zW b n p q W
      all_goals rw [hw, zbi] at k1
      all_goals simp (config := {maxSteps := 1000000}) (disch := omega) only [↓reduceIte, Int32.reduceLT, Int32.reduceLE, Int32.reduceToNatClampNeg, Int32.reduceAdd, Int32.reduceSub, Int32.reduceMul, Nat.reduceLeDiff, zEL, zup_ne, zup_eq, zT0, zT1, zT2, if_true, if_false, gR, gX, ze_60, s60_0, s60_1, s60_4, s60_5, s60_8, s60_11, s60_12, s60_13, s60_16, s60_17, s60_20, s60_23, s60_24, s60_27, s60_30, k1, k3, hne, Bool.false_eq_true]
    · simp (config := {maxSteps := 1000000}) (disch := omega) only [↓reduceIte, Int32.reduceLT, Int32.reduceLE, Int32.reduceToNatClampNeg, Int32.reduceAdd, Int32.reduceSub, Int32.reduceMul, Nat.reduceLeDiff, zEL, zup_ne, zup_eq, zT0, zT1, zT2, if_true, if_false, r0, ze_183, s183_0, s183_1, s183_2, s183_5, s183_8, s183_9, s183_10, s183_13, s183_14, s183_17, k2, k4, k5]
theorem op61_162 (hR : zLT R) (h : zST 162 n b S Sm Lm) : ∃ S' Sm' Lm', zcall 61 [.ref 162] zRc S L = some (none, zRc, S', L) ∧ zcall 184 [.ref 0, .int 44] R Sm Lm = some (none, R, Sm', Lm') ∧ zST 162 n b S' Sm' Lm' ∧ zfr 162 S Sm Lm S' Sm' Lm' ∧ (S' 162 6 = 0 → S 162 6 = 0) := by
  have r0 := hR
  unfold zLT at r0
  obtain ⟨p, q, hT, hO⟩ := h
  have t2 := hT.2.2.2.2.1
  have hr := @zkN_r n p q b
  rcases hO with hO | hF
  · have h6 := hO.1
    obtain ⟨m8, m9, m10, m11, m12, -⟩ := hO.2.2.2
    by_cases hk : zkN b n p q = 4
    · obtain ⟨S', Sm', Lm', a1, a2, a3, a4, a5⟩ := zsn_162 (L := L) hR hT hO (by omega) (by omega)
      have m12 := m12 hk
      rw [hk] at t2 m9
      have t2 : S 1 2 = 4 := t2
      have m9 : Sm 0 9 = 4 := m9
      refine ⟨S', Sm', Lm', ?_, ?_, a3, a4, fun _ => h6⟩ <;> unfold zcall
      · simp (config := {maxSteps := 1000000}) (disch := omega) only [↓reduceIte, Int32.reduceLT, Int32.reduceLE, Int32.reduceToNatClampNeg, Int32.reduceAdd, Int32.reduceSub, Int32.reduceMul, Nat.reduceLeDiff, zEL, zup_ne, zup_eq, zT0, zT1, zT2, if_true, if_false, gR, gX, ze_61, s61_0, s61_1, s61_4, s61_7, s61_8, s61_11, s61_12, s61_13, s61_16, s61_17, s61_20, s61_23, s61_24, s61_27, s61_30, t2, h6, a1]
      · simp (config := {maxSteps := 1000000}) (disch := omega) only [↓reduceIte, Int32.reduceLT, Int32.reduceLE, Int32.reduceToNatClampNeg, Int32.reduceAdd, Int32.reduceSub, Int32.reduceMul, Nat.reduceLeDiff, zEL, zup_ne, zup_eq, zT0, zT1, zT2, if_true, if_false, r0, ze_184, s184_0, s184_1, s184_4, s184_5, s184_8, s184_9, s184_12, s184_13, s184_16, s184_17, s184_18, s184_21, s184_22, s184_25, m9, m12, a2]
    · obtain ⟨f1, f2, f3, f4, -⟩ := zFk_162 (f := 1) rfl (by omega) (by omega) hT hO
      have k3 := c58O_162 (L := L) (k := nI 1) h6
      have k4 := m180O (Lm := Lm) (k := nI 1) hR (zOK_9 hO)
      have k5 := m179F (Lm := Lm) hR f4
      have k3 : zcall 58 [.ref 162, .int 1] zRc S L = _ := k3
      have k4 : zcall 180 [.ref 0, .int 1] R Sm Lm = _ := k4
      refine ⟨_, _, Lm, ?_, ?_, f1, f2, fun _ => h6⟩ <;> unfold zcall
      · have t3 : (S 1 2 = 4) = False := eq_false (by rw [t2]; intro h9; exact hk ((znI_inj (b := 4) (by omega) (by omega)).mp h9))
        simp (config := {maxSteps := 1000000}) (disch := omega) only [↓reduceIte, Int32.reduceLT, Int32.reduceLE, Int32.reduceToNatClampNeg, Int32.reduceAdd, Int32.reduceSub, Int32.reduceMul, Nat.reduceLeDiff, zEL, zup_ne, zup_eq, zT0, zT1, zT2, if_true, if_false, zneq_f, true_and, and_true, false_and, and_false, zKL, eq_self, Nat.reduceEqDiff, zite0, ite_not, zaddr, zaddl, zputr, zsb1, zsb2, zsb0, zsbm, znm1, gR, gX, ze_61, s61_0, s61_1, s61_4, s61_7, s61_8, s61_11, s61_12, s61_13, s61_16, s61_17, s61_20, s61_23, s61_24, s61_27, s61_30, t3, k3]
      · rcases (show zkN b n p q = 3 ∨ zkN b n p q ≠ 3 by omega) with hk3 | hk3
        · have m11 := m11 hk3
          have c1 : ((59 : Int32) = 44) = False := by decide
          simp (config := {maxSteps := 1000000}) (disch := omega) only [↓reduceIte, Int32.reduceLT, Int32.reduceLE, Int32.reduceToNatClampNeg, Int32.reduceAdd, Int32.reduceSub, Int32.reduceMul, Nat.reduceLeDiff, zEL, zup_ne, zup_eq, zT0, zT1, zT2, if_true, if_false, r0, ze_184, s184_0, s184_1, s184_4, s184_5, s184_8, s184_9, s184_12, s184_13, s184_16, s184_17, s184_18, s184_21, s184_22, s184_25, m11, c1, k4, k5]
          all_goals (repeat' split)
          all_goals rfl
        · have m92 : (nI (zst (zkN b n p q)) = 4) = False := by
            unfold zst
            rcases (show zkN b n p q = 0 ∨ zkN b n p q = 1 ∨ zkN b n p q = 2 ∨ zkN b n p q = 5 by omega) with e | e | e | e <;> rw [e] <;> decide
          simp (config := {maxSteps := 1000000}) (disch := omega) only [↓reduceIte, Int32.reduceLT, Int32.reduceLE, Int32.reduceToNatClampNeg, Int32.reduceAdd, Int32.reduceSub, Int32.reduceMul, Nat.reduceLeDiff, zEL, zup_ne, zup_eq, zT0, zT1, zT2, if_true, if_false, r0, ze_184, s184_0, s184_1, s184_4, s184_5, s184_8, s184_9, s184_12, s184_13, s184_16, s184_17, s184_18, s184_21, s184_22, s184_25, m9, m92, k4, k5]
  · have hne := zFA_ne hF
    have k3 := fun k => c58F_162 (L := L) (k := k) hne
    have m9 : Sm 0 9 = 5 := by obtain ⟨f, pl, -, -, -, -, -, h9, -⟩ := hF; exact h9
    have k4 := fun k => m180F (Lm := Lm) (k := k) hR m9
    have k5 := m179F (Lm := Lm) hR m9
    refine ⟨S, Sm, Lm, ?_, ?_, ⟨p, q, hT, .inr hF⟩, zfr_r, fun h => h⟩ <;> unfold zcall
    · simp (config := {maxSteps := 1000000}) (disch := omega) only [↓reduceIte, Int32.reduceLT, Int32.reduceLE, Int32.reduceToNatClampNeg, Int32.reduceAdd, Int32.reduceSub, Int32.reduceMul, Nat.reduceLeDiff, zEL, zup_ne, zup_eq, zT0, zT1, zT2, if_true, if_false, gR, gX, ze_61, s61_0, s61_1, s61_4, s61_7, s61_8, s61_11, s61_12, s61_13, s61_16, s61_17, s61_20, s61_23, s61_24, s61_27, s61_30, k3, hne]
      all_goals (repeat' split)
      all_goals rfl
    · simp (config := {maxSteps := 1000000}) (disch := omega) only [↓reduceIte, Int32.reduceLT, Int32.reduceLE, Int32.reduceToNatClampNeg, Int32.reduceAdd, Int32.reduceSub, Int32.reduceMul, Nat.reduceLeDiff, zEL, zup_ne, zup_eq, zT0, zT1, zT2, if_true, if_false, r0, ze_184, s184_0, s184_1, s184_4, s184_5, s184_8, s184_9, s184_12, s184_13, s184_16, s184_17, s184_18, s184_21, s184_22, s184_25, m9, k4, k5]
end ZP5
