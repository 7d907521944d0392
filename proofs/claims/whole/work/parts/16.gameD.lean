/-! GAMES: a league -/
section ZGD
variable {c : Nat → Nat} {S Sm S0 Sm0 : zS} {L Lm : zL} {rd : Value}
theorem zrem1 {a n : Nat} (ha : a ≤ 65536) (hn : n ≤ 100) : nI a + nI n - (nI a + nI n) / 65537 * 65537 = nI ((a + n) % 65537) := by
  rw [zadd_nI, show (65537 : Int32) = nI 65537 from rfl, znI_rem (by omega) (by omega)]
/-- the reference's rows of 49 numbers, one into another -/
theorem t247s {i1 i2 : Int32} : ∃ X : zS, zgo 247 2 [.ref 0, .int i1, .int i2, .int (nI 0), .retAddr 0] [] (zRm1 rd) Sm Lm = zgo 247 26 [.ref 0, .int i1, .int i2, .int (nI 49), .retAddr 0] [] (zRm1 rd) X Lm ∧ (∀ j k, j ≠ 4 → X j k = Sm j k) ∧ ∀ k, k < 49 → X 4 k = Sm 2 k := by
  have key : ∀ d i, i + d = 49 → ∀ X : zS, (∀ j k, j ≠ 4 → X j k = Sm j k) → (∀ k, k < i → X 4 k = Sm 2 k) → ∃ X' : zS, zgo 247 2 [.ref 0, .int i1, .int i2, .int (nI i), .retAddr 0] [] (zRm1 rd) X Lm = zgo 247 26 [.ref 0, .int i1, .int i2, .int (nI 49), .retAddr 0] [] (zRm1 rd) X' Lm ∧ (∀ j k, j ≠ 4 → X' j k = Sm j k) ∧ ∀ k, k < 49 → X' 4 k = Sm 2 k := by
    intro d
    induction d with
    | zero =>
      intro i hd X hX hk
      have hi : i = 49 := by omega
      subst hi
      refine ⟨X, ?_, hX, hk⟩
      rw [s247_2]
      simp (config := {maxSteps := 1000000}) (disch := omega) only [↓reduceIte, Int32.reduceLT, Int32.reduceLE, Int32.reduceToNatClampNeg, Int32.reduceAdd, Int32.reduceSub, Int32.reduceMul, Nat.reduceLeDiff, zEL, zup_ne, zup_eq, zT0, zT1, zT2, if_true, if_false, zneq_f, true_and, and_true, false_and, and_false, zKL, eq_self, Nat.reduceEqDiff, zite0, ite_not, zaddr, zaddl, zputr, zsb1, zsb2, zsb0, zsbm, znm1, layM1, s247_3, s247_5, s247_8, s247_9, s247_12, s247_13, s247_14, s247_17, s247_18, s247_19, s247_20, s247_23, show ((49 : Int32) ≤ nI 49) = True from eq_true (by decide)]
    | succ d ih =>
      intro i hd X hX hk
      obtain ⟨X', r1, r2⟩ := ih (i + 1) (by omega) (zup X 4 i (Sm 2 i)) (fun j k h => by rw [zup_ne (by omega)]; exact hX j k h) (fun k h2 => by
        by_cases e : k = i
        · rw [zup_eq rfl e, e]
        · rw [zup_ne (by omega)]
          exact hk k (by omega))
      refine ⟨X', ?_, r2⟩
      have x2 : X 2 i = Sm 2 i := hX 2 i (by decide)
      have h49 : ((49 : Int32) ≤ nI i) = False := eq_false (by rw [show (49 : Int32) = nI 49 from rfl, znI_le (by omega) (by omega)]; omega)
      rw [← r1, s247_2]
      simp (config := {maxSteps := 1000000}) (disch := omega) only [↓reduceIte, Int32.reduceLT, Int32.reduceLE, Int32.reduceToNatClampNeg, Int32.reduceAdd, Int32.reduceSub, Int32.reduceMul, Nat.reduceLeDiff, zEL, zup_ne, zup_eq, zT0, zT1, zT2, if_true, if_false, zneq_f, true_and, and_true, false_and, and_false, zKL, eq_self, Nat.reduceEqDiff, zite0, ite_not, zaddr, zaddl, zputr, zsb1, zsb2, zsb0, zsbm, znm1, layM1, s247_3, s247_5, s247_8, s247_9, s247_12, s247_13, s247_14, s247_17, s247_18, s247_19, s247_20, s247_23, h49, x2]
  exact key 49 0 (by omega) Sm (fun _ _ _ => rfl) (fun k h => by omega)
theorem t247r {i1 i2 : Int32} {m : Nat} : ∃ X : zS, zgo 247 84 [.ref 0, .int i1, .int i2, .int (nI m), .int (nI 0)] [] (zRm1 rd) Sm Lm = some (some (.int (nI m)), zRm1 rd, X, Lm) ∧ (∀ j k, j ≠ 2 → X j k = Sm j k) ∧ (∀ k, k < 49 → X 2 k = Sm 4 k) := by
  have key : ∀ d i, i + d = 49 → ∀ X : zS, (∀ j k, j ≠ 2 → X j k = Sm j k) → (∀ k, k < i → X 2 k = Sm 4 k) → ∃ X' : zS, zgo 247 84 [.ref 0, .int i1, .int i2, .int (nI m), .int (nI i)] [] (zRm1 rd) X Lm = some (some (.int (nI m)), zRm1 rd, X', Lm) ∧ (∀ j k, j ≠ 2 → X' j k = Sm j k) ∧ (∀ k, k < 49 → X' 2 k = Sm 4 k) := by
    intro d
    induction d with
    | zero =>
      intro i hd X hX hk
      have hi : i = 49 := by omega
      subst hi
      refine ⟨X, ?_, hX, hk⟩
      rw [s247_84]
      simp (config := {maxSteps := 1000000}) (disch := omega) only [↓reduceIte, Int32.reduceLT, Int32.reduceLE, Int32.reduceToNatClampNeg, Int32.reduceAdd, Int32.reduceSub, Int32.reduceMul, Nat.reduceLeDiff, zEL, zup_ne, zup_eq, zT0, zT1, zT2, if_true, if_false, zneq_f, true_and, and_true, false_and, and_false, zKL, eq_self, Nat.reduceEqDiff, zite0, ite_not, zaddr, zaddl, zputr, zsb1, zsb2, zsb0, zsbm, znm1, layM1, s247_86, s247_88, s247_91, s247_92, s247_95, s247_97, s247_98, s247_101, s247_103, s247_104, s247_105, s247_108, s247_111, s247_112, show ((49 : Int32) ≤ nI 49) = True from eq_true (by decide)]
    | succ d ih =>
      intro i hd X hX hk
      obtain ⟨X', r1, r2⟩ := ih (i + 1) (by omega) (zup X 2 i (Sm 4 i)) (fun j k h => by rw [zup_ne (by omega)]; exact hX j k h) (fun k h2 => by
        by_cases e : k = i
        · rw [zup_eq rfl e, e]
        · rw [zup_ne (by omega)]
          exact hk k (by omega))
      refine ⟨X', ?_, r2⟩
      have x2 : X 4 i = Sm 4 i := hX 4 i (by decide)
      have h49 : ((49 : Int32) ≤ nI i) = False := eq_false (by rw [show (49 : Int32) = nI 49 from rfl, znI_le (by omega) (by omega)]; omega)
      rw [← r1, s247_84]
      simp (config := {maxSteps := 1000000}) (disch := omega) only [↓reduceIte, Int32.reduceLT, Int32.reduceLE, Int32.reduceToNatClampNeg, Int32.reduceAdd, Int32.reduceSub, Int32.reduceMul, Nat.reduceLeDiff, zEL, zup_ne, zup_eq, zT0, zT1, zT2, if_true, if_false, zneq_f, true_and, and_true, false_and, and_false, zKL, eq_self, Nat.reduceEqDiff, zite0, ite_not, zaddr, zaddl, zputr, zsb1, zsb2, zsb0, zsbm, znm1, layM1, s247_86, s247_88, s247_91, s247_92, s247_95, s247_97, s247_98, s247_101, s247_103, s247_104, s247_105, s247_108, s247_111, s247_112, h49, x2]
  exact key 49 0 (by omega) Sm (fun _ _ _ => rfl) (fun k h => by omega)
theorem zrowl3 {S : zS} {v : Int32} (hv : v = 0 ∨ v = 1 ∨ v = 2) : ∃ w : Nat, w < 3 ∧ v = nI w ∧ zadd S 207 3 v 1 = zup S 207 w (S 207 w + 1) := by
  rcases hv with rfl | rfl | rfl
  · exact ⟨0, by omega, rfl, zaddr (a := 0) (by omega) (by omega)⟩
  · exact ⟨1, by omega, rfl, zaddr (a := 1) (by omega) (by omega)⟩
  · exact ⟨2, by omega, rfl, zaddr (a := 2) (by omega) (by omega)⟩
theorem t157 {n sd : Nat} (hn : n ≤ 60) (hsd : sd ≤ 2) (hM : zMD c S Sm) (hG : zGD 168 c S (Sm 2)) : ∃ m : Nat, m ≤ 60 ∧ ∃ S' Sm' : zS, zcall 157 [.ref 0, .int (nI n)] zRc S L = some (none, zRc, S', L) ∧ zcall 247 [.ref 0, .int (nI sd), .int (nI n)] (zRm1 rd) Sm Lm = some (some (.int (nI m)), zRm1 rd, Sm', Lm) ∧ S' 207 sd = nI m ∧ (∀ j k, (j < 187 ∨ (205 < j ∧ j ≠ 207)) → S' j k = S j k) ∧ (∀ j k, j ≠ 2 → j ≠ 4 → j ≠ 5 → j ≠ 6 → Sm' j k = Sm j k) ∧ ∀ k, k < 49 → Sm' 2 k = Sm 2 k := by
  obtain ⟨-, -, -, -, ⟨g8, ⟨s, hs, es⟩⟩, -, ⟨i, hh, i1, i2, i3, i4, i5, i6⟩⟩ := hG
  have g8 : S 168 8 = nI s := g8.trans es
  obtain ⟨Y, y1, y2, y3⟩ := t247s (rd := rd) (Sm := Sm) (Lm := Lm) (i1 := nI sd) (i2 := nI n)
  have key : ∀ d k, k + d = n → ∀ X Xm : zS, zMD c X Xm → (∀ j k, (j < 187 ∨ (205 < j ∧ j ≠ 207)) → X j k = S j k) → (∀ j k, j ≠ 2 → j ≠ 4 → j ≠ 5 → j ≠ 6 → Xm j k = Sm j k) → (∀ k, k < 49 → Xm 4 k = Sm 2 k) → Xm 2 0 = nI hh → ∀ m, m ≤ k → X 207 sd = nI m → ∃ m' : Nat, m' ≤ 60 ∧ ∃ S' Sm' : zS, zgo 157 9 [.ref 0, .int (nI n), .int (nI k)] [] zRc X L = some (none, zRc, S', L) ∧ zgo 247 31 [.ref 0, .int (nI sd), .int (nI n), .int (nI m), .int (nI k)] [] (zRm1 rd) Xm Lm = some (some (.int (nI m')), zRm1 rd, Sm', Lm) ∧ S' 207 sd = nI m' ∧ (∀ j k, (j < 187 ∨ (205 < j ∧ j ≠ 207)) → S' j k = S j k) ∧ (∀ j k, j ≠ 2 → j ≠ 4 → j ≠ 5 → j ≠ 6 → Sm' j k = Sm j k) ∧ ∀ k, k < 49 → Sm' 2 k = Sm 2 k := by
    intro d
    induction d with
    | zero =>
      intro k hd X Xm hM hX hXm h4 h0 m hm hw
      have hk : k = n := by omega
      subst hk
      obtain ⟨Z, z1, z2, z3⟩ := t247r (rd := rd) (Sm := Xm) (Lm := Lm) (i1 := nI sd) (i2 := nI k) (m := m)
      refine ⟨m, by omega, X, Z, ?_, ?_, hw, hX, fun j k h1 h2 h3 h4' => (z2 j k h1).trans (hXm j k h1 h2 h3 h4'), fun k hk => (z3 k hk).trans (h4 k hk)⟩
      · rw [s157_9]
        simp (config := {maxSteps := 1000000}) (disch := omega) only [↓reduceIte, Int32.reduceLT, Int32.reduceLE, Int32.reduceToNatClampNeg, Int32.reduceAdd, Int32.reduceSub, Int32.reduceMul, Nat.reduceLeDiff, zEL, zup_ne, zup_eq, zT0, zT1, zT2, if_true, if_false, zneq_f, true_and, and_true, false_and, and_false, zKL, eq_self, Nat.reduceEqDiff, zite0, ite_not, zaddr, zaddl, zputr, zsb1, zsb2, zsb0, zsbm, znm1, gX, s157_10, s157_11, s157_14, s157_15, s157_18, s157_19, s157_22, s157_25, s157_26, s157_27, s157_29, s157_30, s157_31, s157_34, s157_37, s157_40, s157_41, s157_44, s157_47, s157_48, s157_49, s157_52, s157_53, s157_56, s157_59, s157_60, s157_63, s157_66, s157_69]
      · rw [← z1, s247_31]
        simp (config := {maxSteps := 1000000}) (disch := omega) only [↓reduceIte, Int32.reduceLT, Int32.reduceLE, Int32.reduceToNatClampNeg, Int32.reduceAdd, Int32.reduceSub, Int32.reduceMul, Nat.reduceLeDiff, zEL, zup_ne, zup_eq, zT0, zT1, zT2, if_true, if_false, zneq_f, true_and, and_true, false_and, and_false, zKL, eq_self, Nat.reduceEqDiff, zite0, ite_not, zaddr, zaddl, zputr, zsb1, zsb2, zsb0, zsbm, znm1, s247_33, s247_34, s247_37, s247_38, s247_39, s247_42, s247_43, s247_44, s247_46, s247_47, s247_50, s247_51, s247_54, s247_55, s247_58, s247_59, s247_60, s247_61, s247_64, s247_65, s247_68, s247_69, s247_72, s247_73, s247_74, s247_75, s247_78, s247_81, s247_82]
        all_goals rfl
    | succ d ih =>
      intro k hd X Xm hM hX hXm h4 h0 m hm hw
      have e8 : X 168 8 = nI s := (hX 168 8 (by omega)).trans g8
      have e9 : X 168 9 = nI i := (hX 168 9 (by omega)).trans i3
      have m1 : Xm 4 1 = nI s := (h4 1 (by omega)).trans es
      obtain ⟨X1, Xm1, a1, a2, a3, a4, a5, a6, a7, a8⟩ := t12_187 (L := L) (Lm := Lm) (rd := rd) (S := X) (Sm := Xm) (s := (s + k) % 65537) hM (by omega) i1 i2 ((hX 7 i (by omega)).trans i4) (fun j h1 h2 => by rw [hX 7 j (by omega)]; exact i6 j h1 h2) h0
      obtain ⟨n2, hn2, X2, Xm2, b1, b2, b3⟩ := t17_187 (L := L) (Lm := Lm) (rd := rd) a3 a4
      obtain ⟨v, hv, d1, d2⟩ := t16_187 (L := L) (Lm := Lm) (rd := rd) b3.1 b3.2.1
      obtain ⟨w, hw3, ev, ew⟩ := zrowl3 (S := X2) hv
      subst ev
      have r := zrem1 (a := s) (n := k) hs (by omega)
      have hM2 : zMD c (zup X2 207 w (X2 207 w + 1)) Xm2 := zMD_fr b3.1 (fun j k hj => by rw [zup_ne (by omega)]) (fun _ _ _ => rfl)
      have f2 : ∀ j k, (j < 187 ∨ (205 < j ∧ j ≠ 207)) → X2 j k = S j k := fun j k hj => ((b3.2.2.1 j k (by omega)).trans (a5 j k (by omega))).trans (hX j k hj)
      have f3 : ∀ j k, j ≠ 2 → j ≠ 4 → j ≠ 5 → j ≠ 6 → Xm2 j k = Sm j k := fun j k h2 h4' h5 h6 => ((b3.2.2.2 j k h2 h5 h6).trans (a6 j k h2)).trans (hXm j k h2 h4' h5 h6)
      have f4 : ∀ k, k < 49 → Xm2 4 k = Sm 2 k := fun k hk => ((b3.2.2.2 4 k (by decide) (by decide) (by decide)).trans (a6 4 k (by decide))).trans (h4 k hk)
      have f0 : Xm2 2 0 = nI hh := by
        obtain ⟨-, -, -, -, -, -, ⟨i', h', j1, j2, j3, j4, j5, j6⟩⟩ := b3.2.1
        have e1 : X2 187 9 = nI i := (b3.2.2.1 187 9 (by omega)).trans a7
        rw [e1] at j3
        have i5' : c 5 ≤ 5 := hM.1.2.2.2.2.2.2.2.1
        have := (znI_inj (by omega) (by omega)).mp j3
        subst this
        rw [f2 7 i (by omega), i4] at j4
        rw [j5, j4]
      have f7 : X2 207 sd = nI m := ((b3.2.2.1 207 sd (by omega)).trans (a5 207 sd (by omega))).trans hw
      by_cases hwin : w = sd
      · subst hwin
        obtain ⟨m', hm', S', Sm', r1, r2, r3, r4, r5, r6⟩ := ih (k + 1) (by omega) (zup X2 207 w (X2 207 w + 1)) Xm2 hM2 (fun j k hj => by rw [zup_ne (by omega)]; exact f2 j k hj) f3 f4 f0 (m + 1) (by omega) (by rw [zup_eq rfl rfl, f7, znI_s])
        refine ⟨m', hm', S', Sm', ?_, ?_, r3, r4, r5, r6⟩
        · rw [← r1, s157_9]
          simp (config := {maxSteps := 1000000}) (disch := omega) only [↓reduceIte, Int32.reduceLT, Int32.reduceLE, Int32.reduceToNatClampNeg, Int32.reduceAdd, Int32.reduceSub, Int32.reduceMul, Nat.reduceLeDiff, zEL, zup_ne, zup_eq, zT0, zT1, zT2, if_true, if_false, zneq_f, true_and, and_true, false_and, and_false, zKL, eq_self, Nat.reduceEqDiff, zite0, ite_not, zaddr, zaddl, zputr, zsb1, zsb2, zsb0, zsbm, znm1, gX, g168, g187, s157_10, s157_11, s157_14, s157_15, s157_18, s157_19, s157_22, s157_25, s157_26, s157_27, s157_29, s157_30, s157_31, s157_34, s157_37, s157_40, s157_41, s157_44, s157_47, s157_48, s157_49, s157_52, s157_53, s157_56, s157_59, s157_60, s157_63, s157_66, s157_69, e8, e9, zsd0, r, a1, b1, d1, ew]
        · rw [← r2, s247_31]
          simp (config := {maxSteps := 1000000}) (disch := omega) only [↓reduceIte, Int32.reduceLT, Int32.reduceLE, Int32.reduceToNatClampNeg, Int32.reduceAdd, Int32.reduceSub, Int32.reduceMul, Nat.reduceLeDiff, zEL, zup_ne, zup_eq, zT0, zT1, zT2, if_true, if_false, zneq_f, true_and, and_true, false_and, and_false, zKL, eq_self, Nat.reduceEqDiff, zite0, ite_not, zaddr, zaddl, zputr, zsb1, zsb2, zsb0, zsbm, znm1, layM1, s247_33, s247_34, s247_37, s247_38, s247_39, s247_42, s247_43, s247_44, s247_46, s247_47, s247_50, s247_51, s247_54, s247_55, s247_58, s247_59, s247_60, s247_61, s247_64, s247_65, s247_68, s247_69, s247_72, s247_73, s247_74, s247_75, s247_78, s247_81, s247_82, m1, zsd0, r, a2, b2, d2]
      · obtain ⟨m', hm', S', Sm', r1, r2, r3, r4, r5, r6⟩ := ih (k + 1) (by omega) (zup X2 207 w (X2 207 w + 1)) Xm2 hM2 (fun j k hj => by rw [zup_ne (by omega)]; exact f2 j k hj) f3 f4 f0 m (by omega) (by rw [zup_ne (by omega)]; exact f7)
        refine ⟨m', hm', S', Sm', ?_, ?_, r3, r4, r5, r6⟩
        · rw [← r1, s157_9]
          simp (config := {maxSteps := 1000000}) (disch := omega) only [↓reduceIte, Int32.reduceLT, Int32.reduceLE, Int32.reduceToNatClampNeg, Int32.reduceAdd, Int32.reduceSub, Int32.reduceMul, Nat.reduceLeDiff, zEL, zup_ne, zup_eq, zT0, zT1, zT2, if_true, if_false, zneq_f, true_and, and_true, false_and, and_false, zKL, eq_self, Nat.reduceEqDiff, zite0, ite_not, zaddr, zaddl, zputr, zsb1, zsb2, zsb0, zsbm, znm1, gX, g168, g187, s157_10, s157_11, s157_14, s157_15, s157_18, s157_19, s157_22, s157_25, s157_26, s157_27, s157_29, s157_30, s157_31, s157_34, s157_37, s157_40, s157_41, s157_44, s157_47, s157_48, s157_49, s157_52, s157_53, s157_56, s157_59, s157_60, s157_63, s157_66, s157_69, e8, e9, zsd0, r, a1, b1, d1, ew]
        · have hne : (nI w = nI sd) = False := eq_false (by rw [znI_inj (by omega) (by omega)]; exact hwin)
          rw [← r2, s247_31]
          simp (config := {maxSteps := 1000000}) (disch := omega) only [↓reduceIte, Int32.reduceLT, Int32.reduceLE, Int32.reduceToNatClampNeg, Int32.reduceAdd, Int32.reduceSub, Int32.reduceMul, Nat.reduceLeDiff, zEL, zup_ne, zup_eq, zT0, zT1, zT2, if_true, if_false, zneq_f, true_and, and_true, false_and, and_false, zKL, eq_self, Nat.reduceEqDiff, zite0, ite_not, zaddr, zaddl, zputr, zsb1, zsb2, zsb0, zsbm, znm1, layM1, s247_33, s247_34, s247_37, s247_38, s247_39, s247_42, s247_43, s247_44, s247_46, s247_47, s247_50, s247_51, s247_54, s247_55, s247_58, s247_59, s247_60, s247_61, s247_64, s247_65, s247_68, s247_69, s247_72, s247_73, s247_74, s247_75, s247_78, s247_81, s247_82, m1, zsd0, r, a2, b2, d2, hne, Int32.add_zero]
  obtain ⟨m', hm', S', Sm', r1, r2, r3, r4, r5, r6⟩ := key n 0 (by omega) (zclear S 207 3) Y (zMD_fr hM (fun j k hj => zclear_ne (by omega)) (fun j k hj => y2 j k (by omega))) (fun j k hj => zclear_ne (by omega)) (fun j k h2 h4 h5 h6 => y2 j k h4) y3 ((y2 2 0 (by decide)).trans i5) 0 (by omega) (zclear_eq rfl (by omega))
  refine ⟨m', hm', S', Sm', ?_, ?_, r3, r4, r5, r6⟩
  · unfold zcall
    simp (config := {maxSteps := 1000000}) (disch := omega) only [↓reduceIte, Int32.reduceLT, Int32.reduceLE, Int32.reduceToNatClampNeg, Int32.reduceAdd, Int32.reduceSub, Int32.reduceMul, Nat.reduceLeDiff, zEL, zup_ne, zup_eq, zT0, zT1, zT2, if_true, if_false, zneq_f, true_and, and_true, false_and, and_false, zKL, eq_self, Nat.reduceEqDiff, zite0, ite_not, zaddr, zaddl, zputr, zsb1, zsb2, zsb0, zsbm, znm1, gX, ze_157, s157_0, s157_1, s157_4, s157_7, s157_8]
    exact r1
  · rw [← r2]
    have a1 : zcall 247 [.ref 0, .int (nI sd), .int (nI n)] (zRm1 rd) Sm Lm = zgo 247 2 [.ref 0, .int (nI sd), .int (nI n), .int (nI 0), .retAddr 0] [] (zRm1 rd) Sm Lm := by
      unfold zcall
      simp (config := {maxSteps := 1000000}) (disch := omega) only [↓reduceIte, Int32.reduceLT, Int32.reduceLE, Int32.reduceToNatClampNeg, Int32.reduceAdd, Int32.reduceSub, Int32.reduceMul, Nat.reduceLeDiff, zEL, zup_ne, zup_eq, zT0, zT1, zT2, if_true, if_false, zneq_f, true_and, and_true, false_and, and_false, zKL, eq_self, Nat.reduceEqDiff, zite0, ite_not, zaddr, zaddl, zputr, zsb1, zsb2, zsb0, zsbm, znm1, ze_247, s247_0, s247_1]
      all_goals rfl
    rw [a1, y1]
    simp (config := {maxSteps := 1000000}) (disch := omega) only [↓reduceIte, Int32.reduceLT, Int32.reduceLE, Int32.reduceToNatClampNeg, Int32.reduceAdd, Int32.reduceSub, Int32.reduceMul, Nat.reduceLeDiff, zEL, zup_ne, zup_eq, zT0, zT1, zT2, if_true, if_false, zneq_f, true_and, and_true, false_and, and_false, zKL, eq_self, Nat.reduceEqDiff, zite0, ite_not, zaddr, zaddl, zputr, zsb1, zsb2, zsb0, zsbm, znm1, s247_26, s247_27, s247_28, s247_29]
    all_goals rfl
end ZGD
