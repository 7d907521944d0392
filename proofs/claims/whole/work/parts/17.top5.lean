/-! A MATCH is told: hours, marks -/
section ZT5
variable {c : Nat → Nat} {S Sm : zS} {L Lm : zL} {rd : Value}
/-- the latest snow of an hour -/
def zlat (n : Nat) (S : zS) (v : Int32) (o : Option Nat) : Prop := match o with
  | none => ∀ i, i < n → ¬ S 7 i = v
  | some i => i < n ∧ S 7 i = v ∧ ∀ j, i < j → j < n → ¬ S 7 j = v
theorem t77 {n : Nat} (v : Int32) (hn : S 5 3 = nI n) (hn5 : n ≤ 5) : ∃ o : Option Nat, zlat n S v o ∧ zcall 77 [.ref 5, .int v] zRc S L = some (some (.int (zon o)), zRc, S, L) := by
  have key : ∀ k, k ≤ n → (∀ j, k ≤ j → j < n → ¬ S 7 j = v) → ∃ o : Option Nat, zlat n S v o ∧ zgo 77 7 [.ref 5, .int v, .int (nI k - 1)] [] zRc S L = some (some (.int (zon o)), zRc, S, L) := by
    intro k
    induction k with
    | zero =>
      intro hk h
      refine ⟨none, fun i hi => h i (by omega) hi, ?_⟩
      have hl : (-1 : Int32) < 0 := by decide
      rw [s77_7, zsb0]
      simp (config := {maxSteps := 1000000}) (disch := omega) only [↓reduceIte, Int32.reduceLT, Int32.reduceLE, Int32.reduceToNatClampNeg, Int32.reduceAdd, Int32.reduceSub, Int32.reduceMul, Nat.reduceLeDiff, zEL, zup_ne, zup_eq, zT0, zT1, zT2, if_true, if_false, zneq_f, true_and, and_true, false_and, and_false, zKL, eq_self, Nat.reduceEqDiff, zite0, ite_not, zaddr, zaddl, zputr, zsb1, zsb2, zsb0, zsbm, znm1, gM, s77_8, s77_11, s77_12, s77_15, s77_16, s77_19, s77_20, s77_23, s77_24, s77_25, s77_28, s77_31, s77_32, hl]
      all_goals rfl
    | succ k ih =>
      intro hk h
      by_cases e : S 7 k = v
      · refine ⟨some k, ⟨by omega, e, fun j h1 h2 => h j (by omega) h2⟩, ?_⟩
        rw [s77_7, zsb1]
        simp (config := {maxSteps := 1000000}) (disch := omega) only [↓reduceIte, Int32.reduceLT, Int32.reduceLE, Int32.reduceToNatClampNeg, Int32.reduceAdd, Int32.reduceSub, Int32.reduceMul, Nat.reduceLeDiff, zEL, zup_ne, zup_eq, zT0, zT1, zT2, if_true, if_false, zneq_f, true_and, and_true, false_and, and_false, zKL, eq_self, Nat.reduceEqDiff, zite0, ite_not, zaddr, zaddl, zputr, zsb1, zsb2, zsb0, zsbm, znm1, gM, s77_8, s77_11, s77_12, s77_15, s77_16, s77_19, s77_20, s77_23, s77_24, s77_25, s77_28, s77_31, s77_32, e, zon_s]
      · obtain ⟨o, ho, r⟩ := ih (by omega) (fun j h1 h2 => by
          by_cases e2 : j = k
          · subst e2
            exact e
          · exact h j (by omega) h2)
        refine ⟨o, ho, ?_⟩
        rw [← r, s77_7, zsb1]
        have e9 : nI k + -1 = nI k - 1 := by rw [Int32.sub_eq_add_neg]
        simp (config := {maxSteps := 1000000}) (disch := omega) only [↓reduceIte, Int32.reduceLT, Int32.reduceLE, Int32.reduceToNatClampNeg, Int32.reduceAdd, Int32.reduceSub, Int32.reduceMul, Nat.reduceLeDiff, zEL, zup_ne, zup_eq, zT0, zT1, zT2, if_true, if_false, zneq_f, true_and, and_true, false_and, and_false, zKL, eq_self, Nat.reduceEqDiff, zite0, ite_not, zaddr, zaddl, zputr, zsb1, zsb2, zsb0, zsbm, znm1, gM, s77_8, s77_11, s77_12, s77_15, s77_16, s77_19, s77_20, s77_23, s77_24, s77_25, s77_28, s77_31, s77_32, e, e9]
  obtain ⟨o, ho, r⟩ := key n (by omega) (fun j h1 h2 => by omega)
  refine ⟨o, ho, ?_⟩
  unfold zcall
  simp (config := {maxSteps := 1000000}) (disch := omega) only [↓reduceIte, Int32.reduceLT, Int32.reduceLE, Int32.reduceToNatClampNeg, Int32.reduceAdd, Int32.reduceSub, Int32.reduceMul, Nat.reduceLeDiff, zEL, zup_ne, zup_eq, zT0, zT1, zT2, if_true, if_false, gM, ze_77, s77_0, s77_1, s77_4, s77_5, s77_6, hn]
  exact r
theorem t212 {hh w : Nat} (hh24 : hh < 24) (hw : w ≤ 9) (e1 : Sm 12 hh = nI (w + 1)) : zcall 212 [.ref 0, .int (nI hh)] (zRm1 rd) Sm Lm = some (some (.int (nI (zhd w))), zRm1 rd, Sm, Lm) := by
  have t211 : zcall 211 [.ref 0, .int (nI hh)] (zRm1 rd) Sm Lm = some (some (.int (nI w)), zRm1 rd, Sm, Lm) := by
    unfold zcall
    simp (config := {maxSteps := 1000000}) (disch := omega) only [↓reduceIte, Int32.reduceLT, Int32.reduceLE, Int32.reduceToNatClampNeg, Int32.reduceAdd, Int32.reduceSub, Int32.reduceMul, Nat.reduceLeDiff, zEL, zup_ne, zup_eq, zT0, zT1, zT2, if_true, if_false, zneq_f, true_and, and_true, false_and, and_false, zKL, eq_self, Nat.reduceEqDiff, zite0, ite_not, zaddr, zaddl, zputr, zsb1, zsb2, zsb0, zsbm, znm1, layM1, S211, e1]
  unfold zcall zhd
  simp (config := {maxSteps := 1000000}) (disch := omega) only [↓reduceIte, Int32.reduceLT, Int32.reduceLE, Int32.reduceToNatClampNeg, Int32.reduceAdd, Int32.reduceSub, Int32.reduceMul, Nat.reduceLeDiff, zEL, zup_ne, zup_eq, zT0, zT1, zT2, if_true, if_false, zneq_f, true_and, and_true, false_and, and_false, zKL, eq_self, Nat.reduceEqDiff, zite0, ite_not, zaddr, zaddl, zputr, zsb1, zsb2, zsb0, zsbm, znm1, layM1, S212, t211]
  repeat' split
  all_goals first | rfl | (exfalso; omega)
/-- an hour with snow, or without -/
theorem thour (hM : zMD c S Sm) (v : Int32) : (∃ i h w d : Nat, i < c 5 ∧ h < 24 ∧ w ≤ 9 ∧ d ≤ 9 ∧ v = nI h ∧ S 7 i = nI h ∧ (∀ j, i < j → j < c 5 → ¬ S 7 j = nI h) ∧ S 9 i = nI w ∧ S 11 i = nI d ∧ Sm 12 h = nI (w + 1) ∧ Sm 13 h = nI d ∧ zcall 77 [.ref 5, .int v] zRc S L = some (some (.int (nI i)), zRc, S, L) ∧ zcall 209 [.ref 0, .int v] (zRm1 rd) Sm Lm = some (some (.int 1), zRm1 rd, Sm, Lm)) ∨ (zcall 77 [.ref 5, .int v] zRc S L = some (some (.int (-1)), zRc, S, L) ∧ zcall 209 [.ref 0, .int v] (zRm1 rd) Sm Lm = some (some (.int 0), zRm1 rd, Sm, Lm)) := by
  obtain ⟨⟨-, -, -, -, -, -, -, hc5, -⟩, ⟨-, -, -, -, -, a5, -⟩, -, -, -, -, -, -, -, -, -, hs, hw, -⟩ := hM
  obtain ⟨o, ho, k1⟩ := t77 (L := L) v a5 hc5
  rcases o with _ | i
  · right
    refine ⟨k1, ?_⟩
    unfold zcall
    rcases zrng v 23 (by omega) 23 24 rfl rfl with ⟨n, hn, rfl, a1, a2, a3, -⟩ | ⟨a1, a2, -⟩ | ⟨a1, a2, a3, -⟩
    · have e0 : Sm 12 n = 0 := by
        rcases hw n (by omega) with ⟨e, -⟩ | ⟨i, i1, i2, -⟩
        · exact e
        · exact absurd i2 (ho i i1)
      simp (config := {maxSteps := 1000000}) (disch := omega) only [↓reduceIte, Int32.reduceLT, Int32.reduceLE, Int32.reduceToNatClampNeg, Int32.reduceAdd, Int32.reduceSub, Int32.reduceMul, Nat.reduceLeDiff, zEL, zup_ne, zup_eq, zT0, zT1, zT2, if_true, if_false, zneq_f, true_and, and_true, false_and, and_false, zKL, eq_self, Nat.reduceEqDiff, zite0, ite_not, zaddr, zaddl, zputr, zsb1, zsb2, zsb0, zsbm, znm1, layM1, S209, t173, a2, a3, e0]
    · simp (config := {maxSteps := 1000000}) (disch := omega) only [↓reduceIte, Int32.reduceLT, Int32.reduceLE, Int32.reduceToNatClampNeg, Int32.reduceAdd, Int32.reduceSub, Int32.reduceMul, Nat.reduceLeDiff, zEL, zup_ne, zup_eq, zT0, zT1, zT2, if_true, if_false, zneq_f, true_and, and_true, false_and, and_false, zKL, eq_self, Nat.reduceEqDiff, zite0, ite_not, zaddr, zaddl, zputr, zsb1, zsb2, zsb0, zsbm, znm1, layM1, S209, t173, a2]
    · simp (config := {maxSteps := 1000000}) (disch := omega) only [↓reduceIte, Int32.reduceLT, Int32.reduceLE, Int32.reduceToNatClampNeg, Int32.reduceAdd, Int32.reduceSub, Int32.reduceMul, Nat.reduceLeDiff, zEL, zup_ne, zup_eq, zT0, zT1, zT2, if_true, if_false, zneq_f, true_and, and_true, false_and, and_false, zKL, eq_self, Nat.reduceEqDiff, zite0, ite_not, zaddr, zaddl, zputr, zsb1, zsb2, zsb0, zsbm, znm1, layM1, S209, t173, a2, a3]
  · left
    obtain ⟨i1, i2, i3⟩ := ho
    obtain ⟨⟨h, hh, eh⟩, ⟨w, hw9, ew⟩, ⟨d, hd, ed⟩⟩ := hs i i1
    have ev : v = nI h := i2.symm.trans eh
    subst ev
    have e1 : Sm 12 h = nI (w + 1) ∧ Sm 13 h = nI d := by
      rcases hw h hh with ⟨-, e⟩ | ⟨j, j1, j2, j3, j4, j5⟩
      · exact absurd eh (e i i1)
      · have hij : i = j := by
          rcases Nat.lt_trichotomy i j with h7 | h7 | h7
          · exact absurd j2 (i3 j h7 j1)
          · exact h7
          · exact absurd eh (j3 i h7 i1)
        subst hij
        rw [j4, j5, ew, ed]
        exact ⟨zad1, rfl⟩
    refine ⟨i, h, w, d, i1, hh, hw9, hd, rfl, eh, i3, ew, ed, e1.1, e1.2, k1, ?_⟩
    have e2 := e1.1
    unfold zcall
    rcases zrng (nI h) 23 (by omega) 23 24 rfl rfl with ⟨n, hn, -, a1, a2, a3, -⟩ | ⟨a1, a2, -⟩ | ⟨a1, a2, a3, -⟩
    · simp (config := {maxSteps := 1000000}) (disch := omega) only [↓reduceIte, Int32.reduceLT, Int32.reduceLE, Int32.reduceToNatClampNeg, Int32.reduceAdd, Int32.reduceSub, Int32.reduceMul, Nat.reduceLeDiff, zEL, zup_ne, zup_eq, zT0, zT1, zT2, if_true, if_false, zneq_f, true_and, and_true, false_and, and_false, zKL, eq_self, Nat.reduceEqDiff, zite0, ite_not, zaddr, zaddl, zputr, zsb1, zsb2, zsb0, zsbm, znm1, layM1, S209, t173, a2, a3, e2]
    · exact absurd (of_eq_true a1) (znI_neg (by omega))
    · exact absurd ((znI_le (a := h) (b := 23) (by omega) (by omega)).mpr (by omega)) (of_eq_false a3)
theorem m_108 {v : Int32} (h : zTM c S Sm) : ∃ w : Int32, ∃ S' Sm' : zS, zcall 108 [.ref 0, .int v] zRc S L = some (some (.int w), zRc, S', L) ∧ zcall 210 [.ref 0, .int v] (zRm1 rd) Sm Lm = some (some (.int w), zRm1 rd, Sm', Lm) ∧ zTM c S' Sm' := by
  obtain ⟨X, hX⟩ : ∃ X, X = zup Sm 0 0 0 := ⟨_, rfl⟩
  have h' := zTM_t (v := 0) h
  rw [← hX] at h'
  have hc5 : c 5 ≤ 5 := h'.2.2.1.1.2.2.2.2.2.2.2.1
  rcases thour (L := L) (Lm := Lm) (rd := rd) h'.2.2.1 v with ⟨i, hh, w, d, i1, hh1, hw, hd, rfl, i2, i3, e1, e2, e3, e4, k1, k2⟩ | ⟨k1, k2⟩
  · have h2 : zTM c (zup S 168 9 (nI i)) (zup X 2 0 (nI hh)) := by
      refine zTM_g h' (zMD_fr h'.2.2.1 (fun j k hj => zup_ne (by omega)) (fun j k hj => zup_ne (by omega))) ?_ (fun j k hj => zup_ne (by omega)) (fun j k h2 _ _ => zup_ne (by omega))
      have b0 : c 0 ≤ 8 := h'.2.2.1.1.2.1
      obtain ⟨g0, g1, g2, ⟨g3, g3'⟩, ⟨g4, g4'⟩, ⟨g5, g5'⟩, -⟩ := h'.2.2.2.1
      refine ⟨fun p hp => ?_, fun b hb => ?_, fun k hk => ?_, ?_, ?_, ?_, ⟨i, hh, i1, hh1, ?_, ?_, ?_, ?_⟩⟩
      · simp (disch := omega) only [zup_ne]
        exact g0 p hp
      · simp (disch := omega) only [zup_ne]
        exact g1 b hb
      · simp (disch := omega) only [zup_ne]
        exact g2 k hk
      · simp (disch := omega) only [zup_ne]
        exact ⟨g3, g3'⟩
      · simp (disch := omega) only [zup_ne]
        exact ⟨g4, g4'⟩
      · simp (disch := omega) only [zup_ne]
        exact ⟨g5, g5'⟩
      · rw [zup_eq rfl rfl]
      · rw [zup_ne (by omega)]
        exact i2
      · rw [zup_eq rfl rfl]
      · intro j h1 h2
        rw [zup_ne (by omega)]
        exact i3 j h1 h2
    refine ⟨1, _, _, ?_, ?_, zTM_d 0 (by decide) h2⟩ <;> unfold zcall
    · simp (config := {maxSteps := 1000000}) (disch := omega) only [↓reduceIte, Int32.reduceLT, Int32.reduceLE, Int32.reduceToNatClampNeg, Int32.reduceAdd, Int32.reduceSub, Int32.reduceMul, Nat.reduceLeDiff, zEL, zup_ne, zup_eq, zT0, zT1, zT2, if_true, if_false, zneq_f, true_and, and_true, false_and, and_false, zKL, eq_self, Nat.reduceEqDiff, zite0, ite_not, zaddr, zaddl, zputr, zsb1, zsb2, zsb0, zsbm, znm1, gX, gM, g168, tEC, S108, k1]
    · simp (config := {maxSteps := 1000000}) (disch := omega) only [↓reduceIte, Int32.reduceLT, Int32.reduceLE, Int32.reduceToNatClampNeg, Int32.reduceAdd, Int32.reduceSub, Int32.reduceMul, Nat.reduceLeDiff, zEL, zup_ne, zup_eq, zT0, zT1, zT2, if_true, if_false, zneq_f, true_and, and_true, false_and, and_false, zKL, eq_self, Nat.reduceEqDiff, zite0, ite_not, zaddr, zaddl, zputr, zsb1, zsb2, zsb0, zsbm, znm1, layM1, tEM1, S210, ← hX, k2]
  · refine ⟨0, _, _, ?_, ?_, zTM_d 1 (by decide) h'⟩ <;> unfold zcall
    · simp (config := {maxSteps := 1000000}) (disch := omega) only [↓reduceIte, Int32.reduceLT, Int32.reduceLE, Int32.reduceToNatClampNeg, Int32.reduceAdd, Int32.reduceSub, Int32.reduceMul, Nat.reduceLeDiff, zEL, zup_ne, zup_eq, zT0, zT1, zT2, if_true, if_false, zneq_f, true_and, and_true, false_and, and_false, zKL, eq_self, Nat.reduceEqDiff, zite0, ite_not, zaddr, zaddl, zputr, zsb1, zsb2, zsb0, zsbm, znm1, gX, gM, g168, tEC, S108, k1]
    · simp (config := {maxSteps := 1000000}) (disch := omega) only [↓reduceIte, Int32.reduceLT, Int32.reduceLE, Int32.reduceToNatClampNeg, Int32.reduceAdd, Int32.reduceSub, Int32.reduceMul, Nat.reduceLeDiff, zEL, zup_ne, zup_eq, zT0, zT1, zT2, if_true, if_false, zneq_f, true_and, and_true, false_and, and_false, zKL, eq_self, Nat.reduceEqDiff, zite0, ite_not, zaddr, zaddl, zputr, zsb1, zsb2, zsb0, zsbm, znm1, layM1, tEM1, S210, ← hX, k2]
theorem m_117 {v : Int32} (h : zTM c S Sm) : ∃ w : Int32, ∃ S' Sm' : zS, zcall 117 [.ref 0, .int v] zRc S L = some (some (.int w), zRc, S', L) ∧ zcall 243 [.ref 0, .int v] (zRm1 rd) Sm Lm = some (some (.int w), zRm1 rd, Sm', Lm) ∧ zTM c S' Sm' := by
  obtain ⟨X, hX⟩ : ∃ X, X = zup Sm 0 0 0 := ⟨_, rfl⟩
  have h' := zTM_t (v := 0) h
  rw [← hX] at h'
  have hc5 : c 5 ≤ 5 := h'.2.2.1.1.2.2.2.2.2.2.2.1
  rcases thour (L := L) (Lm := Lm) (rd := rd) h'.2.2.1 v with ⟨i, hh, w, d, i1, hh1, hw, hd, rfl, i2, i3, e1, e2, e3, e4, k1, k2⟩ | ⟨k1, k2⟩
  · have k3 := t78 (L := L) (show i < 5 by omega) hw e1
    have k4 := t212 (Lm := Lm) (rd := rd) hh1 hw e3
    refine ⟨nI (zhd w), _, _, ?_, ?_, zTM_d 0 (by decide) h'⟩ <;> unfold zcall
    · simp (config := {maxSteps := 1000000}) (disch := omega) only [↓reduceIte, Int32.reduceLT, Int32.reduceLE, Int32.reduceToNatClampNeg, Int32.reduceAdd, Int32.reduceSub, Int32.reduceMul, Nat.reduceLeDiff, zEL, zup_ne, zup_eq, zT0, zT1, zT2, if_true, if_false, zneq_f, true_and, and_true, false_and, and_false, zKL, eq_self, Nat.reduceEqDiff, zite0, ite_not, zaddr, zaddl, zputr, zsb1, zsb2, zsb0, zsbm, znm1, gX, gM, g168, tEC, S117, k1, k3]
    · simp (config := {maxSteps := 1000000}) (disch := omega) only [↓reduceIte, Int32.reduceLT, Int32.reduceLE, Int32.reduceToNatClampNeg, Int32.reduceAdd, Int32.reduceSub, Int32.reduceMul, Nat.reduceLeDiff, zEL, zup_ne, zup_eq, zT0, zT1, zT2, if_true, if_false, zneq_f, true_and, and_true, false_and, and_false, zKL, eq_self, Nat.reduceEqDiff, zite0, ite_not, zaddr, zaddl, zputr, zsb1, zsb2, zsb0, zsbm, znm1, layM1, tEM1, S243, ← hX, k2, k4]
  · refine ⟨-1, _, _, ?_, ?_, zTM_d 1 (by decide) h'⟩ <;> unfold zcall
    · simp (config := {maxSteps := 1000000}) (disch := omega) only [↓reduceIte, Int32.reduceLT, Int32.reduceLE, Int32.reduceToNatClampNeg, Int32.reduceAdd, Int32.reduceSub, Int32.reduceMul, Nat.reduceLeDiff, zEL, zup_ne, zup_eq, zT0, zT1, zT2, if_true, if_false, zneq_f, true_and, and_true, false_and, and_false, zKL, eq_self, Nat.reduceEqDiff, zite0, ite_not, zaddr, zaddl, zputr, zsb1, zsb2, zsb0, zsbm, znm1, gX, gM, g168, tEC, S117, k1]
    · simp (config := {maxSteps := 1000000}) (disch := omega) only [↓reduceIte, Int32.reduceLT, Int32.reduceLE, Int32.reduceToNatClampNeg, Int32.reduceAdd, Int32.reduceSub, Int32.reduceMul, Nat.reduceLeDiff, zEL, zup_ne, zup_eq, zT0, zT1, zT2, if_true, if_false, zneq_f, true_and, and_true, false_and, and_false, zKL, eq_self, Nat.reduceEqDiff, zite0, ite_not, zaddr, zaddl, zputr, zsb1, zsb2, zsb0, zsbm, znm1, layM1, tEM1, S243, ← hX, k2]
/-! the best hour -/
/-- hour b is as good as hour h, by hold, depth, number -/
def zbet (HD DP : Nat → Nat) (b h : Nat) : Prop := HD h < HD b ∨ (HD h = HD b ∧ (DP h < DP b ∨ (DP h = DP b ∧ b ≤ h)))
theorem zbet_anti {HD DP : Nat → Nat} {a b : Nat} (h1 : zbet HD DP a b) (h2 : zbet HD DP b a) : a = b := by
  unfold zbet at h1 h2
  omega
theorem zbet_trans {HD DP : Nat → Nat} {a b d : Nat} (h1 : zbet HD DP a b) (h2 : zbet HD DP b d) : zbet HD DP a d := by
  unfold zbet at h1 h2 ⊢
  omega
theorem zbet_total {HD DP : Nat → Nat} {a b : Nat} (h1 : ¬ zbet HD DP a b) : zbet HD DP b a := by
  unfold zbet at h1 ⊢
  omega
theorem zbet_self {HD DP : Nat → Nat} {a : Nat} : zbet HD DP a a := by
  unfold zbet
  omega
def zHDm (Sm : zS) (h : Nat) : Nat := zhd ((Sm 12 h).toInt.toNat - 1)
def zDPm (Sm : zS) (h : Nat) : Nat := (Sm 13 h).toInt.toNat
/-- what the hours are -/
theorem thours (hM : zMD c S Sm) {h : Nat} (hh : h < 24) (h0 : ¬ Sm 12 h = 0) : ∃ i w d : Nat, i < c 5 ∧ w ≤ 9 ∧ d ≤ 9 ∧ S 7 i = nI h ∧ (∀ j, i < j → j < c 5 → ¬ S 7 j = nI h) ∧ S 9 i = nI w ∧ S 11 i = nI d ∧ Sm 12 h = nI (w + 1) ∧ Sm 13 h = nI d := by
  obtain ⟨-, -, -, -, -, -, -, -, -, -, -, hs, hw, -⟩ := hM
  rcases hw h hh with ⟨e, -⟩ | ⟨j, j1, j2, j3, j4, j5⟩
  · exact absurd e h0
  · obtain ⟨-, ⟨w, hw9, ew⟩, ⟨d, hd, ed⟩⟩ := hs j j1
    refine ⟨j, w, d, j1, hw9, hd, j2, j3, ew, ed, ?_, ?_⟩
    · rw [j4, ew]
      exact zad1
    · rw [j5, ed]
theorem trow (hM : zMD c S Sm) {i : Nat} (hi : i < c 5) (hl : ∀ j, i < j → j < c 5 → ¬ S 7 j = S 7 i) : ∃ h w d : Nat, h < 24 ∧ w ≤ 9 ∧ d ≤ 9 ∧ S 7 i = nI h ∧ S 9 i = nI w ∧ S 11 i = nI d ∧ Sm 12 h = nI (w + 1) ∧ Sm 13 h = nI d := by
  obtain ⟨h, hh, eh⟩ := (hM.2.2.2.2.2.2.2.2.2.2.2.1 i hi).1
  have hne : ¬ Sm 12 h = 0 := by
    rcases hM.2.2.2.2.2.2.2.2.2.2.2.2.1 h hh with ⟨-, e⟩ | ⟨j, j1, j2, j3, j4, j5⟩
    · exact absurd eh (e i hi)
    · obtain ⟨-, ⟨w, hw9, ew⟩, -⟩ := hM.2.2.2.2.2.2.2.2.2.2.2.1 j j1
      rw [j4, ew, zad1]
      intro e
      have := (znI_inj (a := w + 1) (b := 0) (by omega) (by omega)).mp e
      omega
  obtain ⟨j, w, d, j1, hw, hd, j2, j3, j4, j5, j6, j7⟩ := thours hM hh hne
  have hij : i = j := by
    rcases Nat.lt_trichotomy i j with h7 | h7 | h7
    · exact absurd (j2.trans eh.symm) (hl j h7 j1)
    · exact h7
    · exact absurd eh (j3 i h7 hi)
  subst hij
  exact ⟨h, w, d, hh, hw, hd, eh, j4, j5, j6, j7⟩
theorem zHDm_e {h w : Nat} (hw : w ≤ 9) (e : Sm 12 h = nI (w + 1)) : zHDm Sm h = zhd w := by
  unfold zHDm
  rw [e, zint_nI (by omega)]
  rfl
theorem zDPm_e {h d : Nat} (hd : d ≤ 9) (e : Sm 13 h = nI d) : zDPm Sm h = d := by
  unfold zDPm
  rw [e, zint_nI (by omega)]
  omega
theorem t80 {i j wi wj di dj hi hj : Nat} (hi5 : i < 5) (hj5 : j < 5) (a1 : wi ≤ 9) (a2 : wj ≤ 9) (a3 : di ≤ 9) (a4 : dj ≤ 9) (a5 : hi < 24) (a6 : hj < 24) (e1 : S 9 i = nI wi) (e2 : S 9 j = nI wj) (e3 : S 11 i = nI di) (e4 : S 11 j = nI dj) (e5 : S 7 i = nI hi) (e6 : S 7 j = nI hj) : zcall 80 [.ref 5, .int (nI i), .int (nI j)] zRc S L = some (some (.int (if zhd wj < zhd wi ∨ (zhd wi = zhd wj ∧ (dj < di ∨ (di = dj ∧ hi < hj))) then 1 else 0)), zRc, S, L) := by
  have k1 := t78 (L := L) hi5 a1 e1
  have k2 := t78 (L := L) hj5 a2 e2
  have b1 := @zhd_lt wi
  have b2 := @zhd_lt wj
  generalize zhd wi = x at k1 b1
  generalize zhd wj = y at k2 b2
  unfold zcall
  simp (config := {maxSteps := 1000000}) (disch := omega) only [↓reduceIte, Int32.reduceLT, Int32.reduceLE, Int32.reduceToNatClampNeg, Int32.reduceAdd, Int32.reduceSub, Int32.reduceMul, Nat.reduceLeDiff, zEL, zup_ne, zup_eq, zT0, zT1, zT2, if_true, if_false, zneq_f, true_and, and_true, false_and, and_false, zKL, eq_self, Nat.reduceEqDiff, zite0, ite_not, zaddr, zaddl, zputr, zsb1, zsb2, zsb0, zsbm, znm1, gM, ze_80, s80_0, s80_1, s80_2, s80_5, s80_6, s80_7, s80_10, s80_13, s80_14, s80_15, s80_18, s80_19, s80_20, s80_23, s80_26, s80_27, s80_30, s80_31, s80_32, s80_33, s80_36, s80_37, s80_40, s80_41, s80_44, s80_45, s80_48, s80_51, s80_52, s80_55, s80_56, s80_59, s80_60, s80_63, s80_64, s80_67, s80_70, s80_71, s80_74, s80_75, s80_76, s80_77, s80_80, s80_81, s80_84, s80_85, s80_88, s80_89, s80_92, s80_95, s80_96, s80_99, s80_100, k1, k2, e3, e4, e5, e6]
  repeat' split
  all_goals first | rfl | (exfalso; omega)
theorem t79 (hM : zMD c S Sm) : ∃ i h : Nat, i < c 5 ∧ h < 24 ∧ S 7 i = nI h ∧ ¬ Sm 12 h = 0 ∧ (∀ h', h' < 24 → ¬ Sm 12 h' = 0 → zbet (zHDm Sm) (zDPm Sm) h h') ∧ zcall 79 [.ref 5] zRc S L = some (some (.int (nI i)), zRc, S, L) := by
  have hc5 : c 5 ≤ 5 := hM.1.2.2.2.2.2.2.2.1
  have hc1 : 1 ≤ c 5 := hM.1.2.2.2.2.2.2.1
  have a5 : S 5 3 = nI (c 5) := hM.2.1.2.2.2.2.2.1
  let ct : Nat → Prop := fun i => i < c 5 ∧ ∀ j, i < j → j < c 5 → ¬ S 7 j = S 7 i
  let inv : Nat → Option Nat → Prop := fun k o => match o with
    | none => ∀ i, i < k → ¬ ct i
    | some b => b < k ∧ ct b ∧ ∃ hb, S 7 b = nI hb ∧ hb < 24 ∧ ∀ i hi, i < k → ct i → S 7 i = nI hi → hi < 24 → zbet (zHDm Sm) (zDPm Sm) hb hi
  have key : ∀ d k, k + d = c 5 → ∀ o, inv k o → ∀ j, ∃ o', inv (c 5) o' ∧ zgo 79 4 [.ref 5, .int (zon o), .int (nI k), j] [] zRc S L = some (some (.int (zon o')), zRc, S, L) := by
    intro d
    induction d with
    | zero =>
      intro k hd o ho j
      have hk : k = c 5 := by omega
      subst hk
      refine ⟨o, ho, ?_⟩
      rw [s79_4]
      simp (config := {maxSteps := 1000000}) (disch := omega) only [↓reduceIte, Int32.reduceLT, Int32.reduceLE, Int32.reduceToNatClampNeg, Int32.reduceAdd, Int32.reduceSub, Int32.reduceMul, Nat.reduceLeDiff, zEL, zup_ne, zup_eq, zT0, zT1, zT2, if_true, if_false, zneq_f, true_and, and_true, false_and, and_false, zKL, eq_self, Nat.reduceEqDiff, zite0, ite_not, zaddr, zaddl, zputr, zsb1, zsb2, zsb0, zsbm, znm1, gM, s79_5, s79_6, s79_9, s79_12, s79_13, s79_14, s79_17, s79_18, s79_21, s79_24, s79_25, s79_28, s79_29, s79_32, s79_33, s79_34, s79_35, s79_38, s79_39, s79_40, s79_43, s79_44, s79_45, s79_46, s79_49, s79_52, s79_53, s79_54, s79_57, s79_60, s79_61, a5]
    | succ d ih =>
      intro k hd o ho j
      have hk : k < c 5 := by omega
      obtain ⟨q, hq, kq⟩ := t77 (L := L) (S 7 k) a5 hc5
      have hq' : ∃ r, q = some r ∧ r < c 5 ∧ S 7 r = S 7 k ∧ ∀ j, r < j → j < c 5 → ¬ S 7 j = S 7 k := by
        rcases q with _ | r
        · exact absurd rfl (hq k hk)
        · exact ⟨r, rfl, hq⟩
      obtain ⟨r, rfl, r1, r2, r3⟩ := hq'
      rw [zon_s] at kq
      by_cases hr : r = k
      · subst hr
        have hct : ct r := ⟨hk, r3⟩
        obtain ⟨h, w, dd, hh, hw, hdd, e1, e2, e3, e4, e5⟩ := trow hM hk r3
        have u1 := zHDm_e hw e4
        have u2 := zDPm_e hdd e5
        have step : ∃ o1, inv (r + 1) o1 ∧ zgo 79 4 [.ref 5, .int (zon o), .int (nI r), j] [] zRc S L = zgo 79 4 [.ref 5, .int (zon o1), .int (nI (r + 1)), .int 1] [] zRc S L := by
          rcases o with _ | b
          · refine ⟨some r, ⟨by omega, hct, h, e1, hh, fun i hi hi1 hi2 hi3 _ => ?_⟩, ?_⟩
            · rcases (show i < r ∨ i = r by omega) with h9 | h9
              · exact absurd hi2 (ho i h9)
              · subst h9
                have := (znI_inj (by omega) (by omega)).mp (e1.symm.trans hi3)
                subst this
                exact zbet_self
            · rw [s79_4]
              simp (config := {maxSteps := 1000000}) (disch := omega) only [↓reduceIte, Int32.reduceLT, Int32.reduceLE, Int32.reduceToNatClampNeg, Int32.reduceAdd, Int32.reduceSub, Int32.reduceMul, Nat.reduceLeDiff, zEL, zup_ne, zup_eq, zT0, zT1, zT2, if_true, if_false, zneq_f, true_and, and_true, false_and, and_false, zKL, eq_self, Nat.reduceEqDiff, zite0, ite_not, zaddr, zaddl, zputr, zsb1, zsb2, zsb0, zsbm, znm1, gM, s79_5, s79_6, s79_9, s79_12, s79_13, s79_14, s79_17, s79_18, s79_21, s79_24, s79_25, s79_28, s79_29, s79_32, s79_33, s79_34, s79_35, s79_38, s79_39, s79_40, s79_43, s79_44, s79_45, s79_46, s79_49, s79_52, s79_53, s79_54, s79_57, s79_60, s79_61, a5, kq, zon_n, zon_s]
          · obtain ⟨b1, b2, hb, b3, b4, b5⟩ := ho
            obtain ⟨h', w', d', hh', hw', hd', f1, f2, f3, f4, f5⟩ := trow hM (show b < c 5 by omega) b2.2
            have := (znI_inj (by omega) (by omega)).mp (b3.symm.trans f1)
            subst this
            have v1 := zHDm_e hw' f4
            have v2 := zDPm_e hd' f5
            have k80 := t80 (L := L) (show r < 5 by omega) (show b < 5 by omega) hw hw' hdd hd' hh hh' e2 f2 e3 f3 e1 f1
            by_cases hcmp : zhd w' < zhd w ∨ (zhd w = zhd w' ∧ (d' < dd ∨ (dd = d' ∧ h < hb)))
            · rw [if_pos hcmp] at k80
              have hz : zbet (zHDm Sm) (zDPm Sm) h hb := by
                unfold zbet
                rw [u1, u2, v1, v2]
                omega
              refine ⟨some r, ⟨by omega, hct, h, e1, hh, fun i hi hi1 hi2 hi3 hi4 => ?_⟩, ?_⟩
              · rcases (show i < r ∨ i = r by omega) with h9 | h9
                · exact zbet_trans hz (b5 i hi h9 hi2 hi3 hi4)
                · subst h9
                  have := (znI_inj (by omega) (by omega)).mp (e1.symm.trans hi3)
                  subst this
                  exact zbet_self
              · rw [s79_4]
                simp (config := {maxSteps := 1000000}) (disch := omega) only [↓reduceIte, Int32.reduceLT, Int32.reduceLE, Int32.reduceToNatClampNeg, Int32.reduceAdd, Int32.reduceSub, Int32.reduceMul, Nat.reduceLeDiff, zEL, zup_ne, zup_eq, zT0, zT1, zT2, if_true, if_false, zneq_f, true_and, and_true, false_and, and_false, zKL, eq_self, Nat.reduceEqDiff, zite0, ite_not, zaddr, zaddl, zputr, zsb1, zsb2, zsb0, zsbm, znm1, gM, s79_5, s79_6, s79_9, s79_12, s79_13, s79_14, s79_17, s79_18, s79_21, s79_24, s79_25, s79_28, s79_29, s79_32, s79_33, s79_34, s79_35, s79_38, s79_39, s79_40, s79_43, s79_44, s79_45, s79_46, s79_49, s79_52, s79_53, s79_54, s79_57, s79_60, s79_61, a5, kq, zon_s, k80]
            · rw [if_neg hcmp] at k80
              have hz : zbet (zHDm Sm) (zDPm Sm) hb h := by
                unfold zbet
                rw [u1, u2, v1, v2]
                omega
              refine ⟨some b, ⟨by omega, b2, hb, b3, b4, fun i hi hi1 hi2 hi3 hi4 => ?_⟩, ?_⟩
              · rcases (show i < r ∨ i = r by omega) with h9 | h9
                · exact b5 i hi h9 hi2 hi3 hi4
                · subst h9
                  have := (znI_inj (by omega) (by omega)).mp (e1.symm.trans hi3)
                  subst this
                  exact hz
              · rw [s79_4]
                simp (config := {maxSteps := 1000000}) (disch := omega) only [↓reduceIte, Int32.reduceLT, Int32.reduceLE, Int32.reduceToNatClampNeg, Int32.reduceAdd, Int32.reduceSub, Int32.reduceMul, Nat.reduceLeDiff, zEL, zup_ne, zup_eq, zT0, zT1, zT2, if_true, if_false, zneq_f, true_and, and_true, false_and, and_false, zKL, eq_self, Nat.reduceEqDiff, zite0, ite_not, zaddr, zaddl, zputr, zsb1, zsb2, zsb0, zsbm, znm1, gM, s79_5, s79_6, s79_9, s79_12, s79_13, s79_14, s79_17, s79_18, s79_21, s79_24, s79_25, s79_28, s79_29, s79_32, s79_33, s79_34, s79_35, s79_38, s79_39, s79_40, s79_43, s79_44, s79_45, s79_46, s79_49, s79_52, s79_53, s79_54, s79_57, s79_60, s79_61, a5, kq, zon_s, k80]
        obtain ⟨o1, i1, s1⟩ := step
        obtain ⟨o', i2, s2⟩ := ih (r + 1) (by omega) o1 i1 (.int 1)
        exact ⟨o', i2, s1.trans s2⟩
      · have hnc : ¬ ct k := fun hc => by
          rcases Nat.lt_trichotomy r k with h9 | h9 | h9
          · exact absurd rfl (r3 k h9 hk)
          · exact hr h9
          · exact absurd r2 (hc.2 r h9 r1)
        have i1 : inv (k + 1) o := by
          rcases o with _ | b
          · exact fun i hi => by
              rcases (show i < k ∨ i = k by omega) with h9 | h9
              · exact ho i h9
              · subst h9
                exact hnc
          · obtain ⟨b1, b2, hb, b3, b4, b5⟩ := ho
            exact ⟨by omega, b2, hb, b3, b4, fun i hi hi1 hi2 hi3 hi4 => by
              rcases (show i < k ∨ i = k by omega) with h9 | h9
              · exact b5 i hi h9 hi2 hi3 hi4
              · subst h9
                exact absurd hi2 hnc⟩
        obtain ⟨o', i2, s2⟩ := ih (k + 1) (by omega) o i1 (.int 0)
        refine ⟨o', i2, ?_⟩
        rw [← s2, s79_4]
        simp (config := {maxSteps := 1000000}) (disch := omega) only [↓reduceIte, Int32.reduceLT, Int32.reduceLE, Int32.reduceToNatClampNeg, Int32.reduceAdd, Int32.reduceSub, Int32.reduceMul, Nat.reduceLeDiff, zEL, zup_ne, zup_eq, zT0, zT1, zT2, if_true, if_false, zneq_f, true_and, and_true, false_and, and_false, zKL, eq_self, Nat.reduceEqDiff, zite0, ite_not, zaddr, zaddl, zputr, zsb1, zsb2, zsb0, zsbm, znm1, gM, s79_5, s79_6, s79_9, s79_12, s79_13, s79_14, s79_17, s79_18, s79_21, s79_24, s79_25, s79_28, s79_29, s79_32, s79_33, s79_34, s79_35, s79_38, s79_39, s79_40, s79_43, s79_44, s79_45, s79_46, s79_49, s79_52, s79_53, s79_54, s79_57, s79_60, s79_61, a5, kq, hr]
  obtain ⟨o, ho, r⟩ := key (c 5) 0 (by omega) none (fun i hi => by omega) (.retAddr 0)
  have hlast : ct (c 5 - 1) := ⟨by omega, fun j h1 h2 => by omega⟩
  rcases o with _ | b
  · exact absurd hlast (ho (c 5 - 1) (by omega))
  · obtain ⟨b1, b2, hb, b3, b4, b5⟩ := ho
    obtain ⟨h', w', d', hh', hw', hd', f1, f2, f3, f4, f5⟩ := trow hM b1 b2.2
    have := (znI_inj (by omega) (by omega)).mp (b3.symm.trans f1)
    subst this
    refine ⟨b, hb, b1, b4, b3, ?_, fun h' hh2 h0 => ?_, ?_⟩
    · rw [f4]
      intro e
      have := (znI_inj (a := w' + 1) (b := 0) (by omega) (by omega)).mp e
      omega
    · obtain ⟨i, w, d, i1, -, -, i2, i3, -⟩ := thours hM hh2 h0
      exact b5 i h' i1 ⟨i1, by rw [i2]; exact i3⟩ i2 hh2
    · unfold zcall
      simp (config := {maxSteps := 1000000}) (disch := omega) only [↓reduceIte, Int32.reduceLT, Int32.reduceLE, Int32.reduceToNatClampNeg, Int32.reduceAdd, Int32.reduceSub, Int32.reduceMul, Nat.reduceLeDiff, zEL, zup_ne, zup_eq, zT0, zT1, zT2, if_true, if_false, zneq_f, true_and, and_true, false_and, and_false, zKL, eq_self, Nat.reduceEqDiff, zite0, ite_not, zaddr, zaddl, zputr, zsb1, zsb2, zsb0, zsbm, znm1, ze_79, s79_0, s79_1, s79_2, s79_3]
      exact r
theorem t244 (hM : zMD c S Sm) : ∃ o : Option Nat, (match o with | none => ∀ h', h' < 24 → Sm 12 h' = 0 | some h => h < 24 ∧ ¬ Sm 12 h = 0 ∧ ∀ h', h' < 24 → ¬ Sm 12 h' = 0 → zbet (zHDm Sm) (zDPm Sm) h h') ∧ zgo 244 18 [.ref 0, .retAddr 0, .retAddr 0] [] (zRm1 rd) Sm Lm = zgo 244 103 [.ref 0, .int (zon o), .int (nI 24)] [] (zRm1 rd) Sm Lm := by
  let inv : Nat → Option Nat → Prop := fun k o => match o with
    | none => ∀ h', h' < k → Sm 12 h' = 0
    | some h => h < k ∧ ¬ Sm 12 h = 0 ∧ ∀ h', h' < k → ¬ Sm 12 h' = 0 → zbet (zHDm Sm) (zDPm Sm) h h'
  have key : ∀ d k, k + d = 24 → ∀ o, inv k o → ∃ o', inv 24 o' ∧ zgo 244 22 [.ref 0, .int (zon o), .int (nI k)] [] (zRm1 rd) Sm Lm = zgo 244 103 [.ref 0, .int (zon o'), .int (nI 24)] [] (zRm1 rd) Sm Lm := by
    intro d
    induction d with
    | zero =>
      intro k hd o ho
      have hk : k = 24 := by omega
      subst hk
      refine ⟨o, ho, ?_⟩
      rw [s244_22]
      simp (config := {maxSteps := 1000000}) (disch := omega) only [↓reduceIte, Int32.reduceLT, Int32.reduceLE, Int32.reduceToNatClampNeg, Int32.reduceAdd, Int32.reduceSub, Int32.reduceMul, Nat.reduceLeDiff, zEL, zup_ne, zup_eq, zT0, zT1, zT2, if_true, if_false, zneq_f, true_and, and_true, false_and, and_false, zKL, eq_self, Nat.reduceEqDiff, zite0, ite_not, zaddr, zaddl, zputr, zsb1, zsb2, zsb0, zsbm, znm1, layM1, s244_23, s244_25, s244_28, s244_29, s244_32, s244_35, s244_36, s244_37, s244_40, s244_43, s244_44, s244_45, s244_48, s244_49, s244_50, s244_53, s244_54, s244_55, s244_58, s244_61, s244_62, s244_63, s244_66, s244_67, s244_68, s244_71, s244_74, s244_75, s244_78, s244_81, s244_82, s244_83, s244_84, s244_87, s244_90, s244_91, s244_92, s244_95, s244_96, s244_97, s244_100, show ((24 : Int32) ≤ nI 24) = True from eq_true (by decide)]
    | succ d ih =>
      intro k hd o ho
      have h24 : ((24 : Int32) ≤ nI k) = False := eq_false (by rw [show (24 : Int32) = nI 24 from rfl, znI_le (by omega) (by omega)]; omega)
      by_cases h0 : Sm 12 k = 0
      · have i1 : inv (k + 1) o := by
          rcases o with _ | b
          · exact fun i hi => by
              rcases (show i < k ∨ i = k by omega) with h9 | h9
              · exact ho i h9
              · subst h9
                exact h0
          · exact ⟨by have := ho.1; omega, ho.2.1, fun i hi h1 => by
              rcases (show i < k ∨ i = k by omega) with h9 | h9
              · exact ho.2.2 i h9 h1
              · subst h9
                exact absurd h0 h1⟩
        obtain ⟨o', i2, s2⟩ := ih (k + 1) (by omega) o i1
        refine ⟨o', i2, ?_⟩
        rw [← s2, s244_22]
        simp (config := {maxSteps := 1000000}) (disch := omega) only [↓reduceIte, Int32.reduceLT, Int32.reduceLE, Int32.reduceToNatClampNeg, Int32.reduceAdd, Int32.reduceSub, Int32.reduceMul, Nat.reduceLeDiff, zEL, zup_ne, zup_eq, zT0, zT1, zT2, if_true, if_false, zneq_f, true_and, and_true, false_and, and_false, zKL, eq_self, Nat.reduceEqDiff, zite0, ite_not, zaddr, zaddl, zputr, zsb1, zsb2, zsb0, zsbm, znm1, layM1, s244_23, s244_25, s244_28, s244_29, s244_32, s244_35, s244_36, s244_37, s244_40, s244_43, s244_44, s244_45, s244_48, s244_49, s244_50, s244_53, s244_54, s244_55, s244_58, s244_61, s244_62, s244_63, s244_66, s244_67, s244_68, s244_71, s244_74, s244_75, s244_78, s244_81, s244_82, s244_83, s244_84, s244_87, s244_90, s244_91, s244_92, s244_95, s244_96, s244_97, s244_100, h24, h0]
      · obtain ⟨i, w, dd, -, hw, hdd, -, -, -, -, e4, e5⟩ := thours hM (show k < 24 by omega) h0
        have u1 := zHDm_e hw e4
        have u2 := zDPm_e hdd e5
        have k1 := t212 (Lm := Lm) (rd := rd) (show k < 24 by omega) hw e4
        have hne : (Sm 12 k = 0) = False := eq_false h0
        have step : ∃ o1, inv (k + 1) o1 ∧ zgo 244 22 [.ref 0, .int (zon o), .int (nI k)] [] (zRm1 rd) Sm Lm = zgo 244 22 [.ref 0, .int (zon o1), .int (nI (k + 1))] [] (zRm1 rd) Sm Lm := by
          rcases o with _ | b
          · refine ⟨some k, ⟨by omega, h0, fun i hi h1 => ?_⟩, ?_⟩
            · rcases (show i < k ∨ i = k by omega) with h9 | h9
              · exact absurd (ho i h9) h1
              · subst h9
                exact zbet_self
            · rw [s244_22]
              simp (config := {maxSteps := 1000000}) (disch := omega) only [↓reduceIte, Int32.reduceLT, Int32.reduceLE, Int32.reduceToNatClampNeg, Int32.reduceAdd, Int32.reduceSub, Int32.reduceMul, Nat.reduceLeDiff, zEL, zup_ne, zup_eq, zT0, zT1, zT2, if_true, if_false, zneq_f, true_and, and_true, false_and, and_false, zKL, eq_self, Nat.reduceEqDiff, zite0, ite_not, zaddr, zaddl, zputr, zsb1, zsb2, zsb0, zsbm, znm1, layM1, s244_23, s244_25, s244_28, s244_29, s244_32, s244_35, s244_36, s244_37, s244_40, s244_43, s244_44, s244_45, s244_48, s244_49, s244_50, s244_53, s244_54, s244_55, s244_58, s244_61, s244_62, s244_63, s244_66, s244_67, s244_68, s244_71, s244_74, s244_75, s244_78, s244_81, s244_82, s244_83, s244_84, s244_87, s244_90, s244_91, s244_92, s244_95, s244_96, s244_97, s244_100, h24, hne, zon_n, zon_s]
          · obtain ⟨b1, b2, b3⟩ := ho
            obtain ⟨i', w', d', -, hw', hd', -, -, -, -, f4, f5⟩ := thours hM (show b < 24 by omega) b2
            have v1 := zHDm_e hw' f4
            have v2 := zDPm_e hd' f5
            have k2 := t212 (Lm := Lm) (rd := rd) (show b < 24 by omega) hw' f4
            have q1 := @zhd_lt w
            have q2 := @zhd_lt w'
            by_cases hcmp : zhd w' < zhd w ∨ (zhd w = zhd w' ∧ d' < dd)
            · have hz : zbet (zHDm Sm) (zDPm Sm) k b := by
                unfold zbet
                rw [u1, u2, v1, v2]
                omega
              refine ⟨some k, ⟨by omega, h0, fun i hi h1 => ?_⟩, ?_⟩
              · rcases (show i < k ∨ i = k by omega) with h9 | h9
                · exact zbet_trans hz (b3 i h9 h1)
                · subst h9
                  exact zbet_self
              · rw [s244_22]
                generalize zhd w = x at k1 q1 hcmp
                generalize zhd w' = y at k2 q2 hcmp
                clear u1 v1 hz
                rcases hcmp with hcmp | ⟨hcmp, hc2⟩
                · simp (config := {maxSteps := 1000000}) (disch := omega) only [↓reduceIte, Int32.reduceLT, Int32.reduceLE, Int32.reduceToNatClampNeg, Int32.reduceAdd, Int32.reduceSub, Int32.reduceMul, Nat.reduceLeDiff, zEL, zup_ne, zup_eq, zT0, zT1, zT2, if_true, if_false, zneq_f, true_and, and_true, false_and, and_false, zKL, eq_self, Nat.reduceEqDiff, zite0, ite_not, zaddr, zaddl, zputr, zsb1, zsb2, zsb0, zsbm, znm1, layM1, s244_23, s244_25, s244_28, s244_29, s244_32, s244_35, s244_36, s244_37, s244_40, s244_43, s244_44, s244_45, s244_48, s244_49, s244_50, s244_53, s244_54, s244_55, s244_58, s244_61, s244_62, s244_63, s244_66, s244_67, s244_68, s244_71, s244_74, s244_75, s244_78, s244_81, s244_82, s244_83, s244_84, s244_87, s244_90, s244_91, s244_92, s244_95, s244_96, s244_97, s244_100, h24, hne, zon_s, k1, k2]
                · subst hcmp
                  simp (config := {maxSteps := 1000000}) (disch := omega) only [↓reduceIte, Int32.reduceLT, Int32.reduceLE, Int32.reduceToNatClampNeg, Int32.reduceAdd, Int32.reduceSub, Int32.reduceMul, Nat.reduceLeDiff, zEL, zup_ne, zup_eq, zT0, zT1, zT2, if_true, if_false, zneq_f, true_and, and_true, false_and, and_false, zKL, eq_self, Nat.reduceEqDiff, zite0, ite_not, zaddr, zaddl, zputr, zsb1, zsb2, zsb0, zsbm, znm1, layM1, s244_23, s244_25, s244_28, s244_29, s244_32, s244_35, s244_36, s244_37, s244_40, s244_43, s244_44, s244_45, s244_48, s244_49, s244_50, s244_53, s244_54, s244_55, s244_58, s244_61, s244_62, s244_63, s244_66, s244_67, s244_68, s244_71, s244_74, s244_75, s244_78, s244_81, s244_82, s244_83, s244_84, s244_87, s244_90, s244_91, s244_92, s244_95, s244_96, s244_97, s244_100, h24, hne, zon_s, k1, k2, e5, f5]
            · have hz : zbet (zHDm Sm) (zDPm Sm) b k := by
                unfold zbet
                rw [u1, u2, v1, v2]
                omega
              refine ⟨some b, ⟨by omega, b2, fun i hi h1 => ?_⟩, ?_⟩
              · rcases (show i < k ∨ i = k by omega) with h9 | h9
                · exact b3 i h9 h1
                · subst h9
                  exact hz
              · rw [s244_22]
                generalize zhd w = x at k1 q1 hcmp
                generalize zhd w' = y at k2 q2 hcmp
                clear u1 v1 hz
                by_cases hxy : x = y
                · subst hxy
                  simp (config := {maxSteps := 1000000}) (disch := omega) only [↓reduceIte, Int32.reduceLT, Int32.reduceLE, Int32.reduceToNatClampNeg, Int32.reduceAdd, Int32.reduceSub, Int32.reduceMul, Nat.reduceLeDiff, zEL, zup_ne, zup_eq, zT0, zT1, zT2, if_true, if_false, zneq_f, true_and, and_true, false_and, and_false, zKL, eq_self, Nat.reduceEqDiff, zite0, ite_not, zaddr, zaddl, zputr, zsb1, zsb2, zsb0, zsbm, znm1, layM1, s244_23, s244_25, s244_28, s244_29, s244_32, s244_35, s244_36, s244_37, s244_40, s244_43, s244_44, s244_45, s244_48, s244_49, s244_50, s244_53, s244_54, s244_55, s244_58, s244_61, s244_62, s244_63, s244_66, s244_67, s244_68, s244_71, s244_74, s244_75, s244_78, s244_81, s244_82, s244_83, s244_84, s244_87, s244_90, s244_91, s244_92, s244_95, s244_96, s244_97, s244_100, h24, hne, zon_s, k1, k2, e5, f5]
                · simp (config := {maxSteps := 1000000}) (disch := omega) only [↓reduceIte, Int32.reduceLT, Int32.reduceLE, Int32.reduceToNatClampNeg, Int32.reduceAdd, Int32.reduceSub, Int32.reduceMul, Nat.reduceLeDiff, zEL, zup_ne, zup_eq, zT0, zT1, zT2, if_true, if_false, zneq_f, true_and, and_true, false_and, and_false, zKL, eq_self, Nat.reduceEqDiff, zite0, ite_not, zaddr, zaddl, zputr, zsb1, zsb2, zsb0, zsbm, znm1, layM1, s244_23, s244_25, s244_28, s244_29, s244_32, s244_35, s244_36, s244_37, s244_40, s244_43, s244_44, s244_45, s244_48, s244_49, s244_50, s244_53, s244_54, s244_55, s244_58, s244_61, s244_62, s244_63, s244_66, s244_67, s244_68, s244_71, s244_74, s244_75, s244_78, s244_81, s244_82, s244_83, s244_84, s244_87, s244_90, s244_91, s244_92, s244_95, s244_96, s244_97, s244_100, h24, hne, zon_s, k1, k2, e5, f5]
                  all_goals rw [if_neg hxy]
        obtain ⟨o1, i1, s1⟩ := step
        obtain ⟨o', i2, s2⟩ := ih (k + 1) (by omega) o1 i1
        exact ⟨o', i2, s1.trans s2⟩
  obtain ⟨o, ho, r⟩ := key 24 0 (by omega) none (fun i hi => by omega)
  refine ⟨o, ho, ?_⟩
  rw [← r]
  simp (config := {maxSteps := 1000000}) (disch := omega) only [↓reduceIte, Int32.reduceLT, Int32.reduceLE, Int32.reduceToNatClampNeg, Int32.reduceAdd, Int32.reduceSub, Int32.reduceMul, Nat.reduceLeDiff, zEL, zup_ne, zup_eq, zT0, zT1, zT2, if_true, if_false, zneq_f, true_and, and_true, false_and, and_false, zKL, eq_self, Nat.reduceEqDiff, zite0, ite_not, zaddr, zaddl, zputr, zsb1, zsb2, zsb0, zsbm, znm1, s244_18, s244_19, s244_20, s244_21]
  all_goals rfl
theorem m_118 (h : zTM c S Sm) : ∃ w : Int32, ∃ S' Sm' : zS, zcall 118 [.ref 0] zRc S L = some (some (.int w), zRc, S', L) ∧ zcall 244 [.ref 0] (zRm1 rd) Sm Lm = some (some (.int w), zRm1 rd, Sm', Lm) ∧ zTM c S' Sm' := by
  obtain ⟨X, hX⟩ : ∃ X, X = zup Sm 0 0 0 := ⟨_, rfl⟩
  have h' := zTM_t (v := 0) h
  rw [← hX] at h'
  have b1 := h.2.1
  have hc5 : c 5 ≤ 5 := h'.2.2.1.1.2.2.2.2.2.2.2.1
  obtain ⟨i, hh, i1, i2, i3, i4, i5, k1⟩ := t79 (L := L) h'.2.2.1
  obtain ⟨o, ho, k2⟩ := t244 (Lm := Lm) (rd := rd) h'.2.2.1
  rcases o with _ | b
  · exact absurd (ho hh i2) i4
  · obtain ⟨o1, o2, o3⟩ := ho
    have := zbet_anti (i5 b o1 o2) (o3 hh i2 i4)
    subst this
    refine ⟨nI hh, _, _, ?_, ?_, zTM_d 0 (by decide) h'⟩ <;> unfold zcall
    · simp (config := {maxSteps := 1000000}) (disch := omega) only [↓reduceIte, Int32.reduceLT, Int32.reduceLE, Int32.reduceToNatClampNeg, Int32.reduceAdd, Int32.reduceSub, Int32.reduceMul, Nat.reduceLeDiff, zEL, zup_ne, zup_eq, zT0, zT1, zT2, if_true, if_false, zneq_f, true_and, and_true, false_and, and_false, zKL, eq_self, Nat.reduceEqDiff, zite0, ite_not, zaddr, zaddl, zputr, zsb1, zsb2, zsb0, zsbm, znm1, gX, gM, g168, tEC, S118, b1, k1, i3]
    · simp (config := {maxSteps := 1000000}) (disch := omega) only [↓reduceIte, Int32.reduceLT, Int32.reduceLE, Int32.reduceToNatClampNeg, Int32.reduceAdd, Int32.reduceSub, Int32.reduceMul, Nat.reduceLeDiff, zEL, zup_ne, zup_eq, zT0, zT1, zT2, if_true, if_false, zneq_f, true_and, and_true, false_and, and_false, zKL, eq_self, Nat.reduceEqDiff, zite0, ite_not, zaddr, zaddl, zputr, zsb1, zsb2, zsb0, zsbm, znm1, layM1, tEM1, ze_244, s244_0, s244_1, s244_2, s244_5, s244_6, s244_9, s244_9N, s244_12, s244_13, s244_14, s244_17, ← hX]
      rw [k2]
      simp (config := {maxSteps := 1000000}) (disch := omega) only [↓reduceIte, Int32.reduceLT, Int32.reduceLE, Int32.reduceToNatClampNeg, Int32.reduceAdd, Int32.reduceSub, Int32.reduceMul, Nat.reduceLeDiff, zEL, zup_ne, zup_eq, zT0, zT1, zT2, if_true, if_false, zneq_f, true_and, and_true, false_and, and_false, zKL, eq_self, Nat.reduceEqDiff, zite0, ite_not, zaddr, zaddl, zputr, zsb1, zsb2, zsb0, zsbm, znm1, layM1, tEM1, s244_103, s244_104, s244_105, s244_108, zon_s]
end ZT5
