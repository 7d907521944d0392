/-! GAMES: the beginning, a copy, a league -/
section ZGC
variable {c : Nat → Nat} {S Sm S0 Sm0 : zS} {L Lm : zL} {rd : Value}
theorem zcopy_ne {S : zS} {a n b m j k : Nat} (h : j ≠ a) : zcopy S a n b m j k = S j k := by
  unfold zcopy
  rw [if_neg (fun h' => h h'.1)]
theorem zcopy_eq {S : zS} {a n b m j k : Nat} (h : j = a) (hk : k < n) (hm : k < m) : zcopy S a n b m j k = S b k := by
  unfold zcopy
  rw [if_pos ⟨h, hk⟩, if_pos hm]
theorem t207 {v : Int32} {n m : Nat} (h8 : Sm 11 8 = nI n) (hn : n ≤ 8) (h7 : Sm 11 7 = nI m) (hm : m ≤ 8) : ∃ X : zS, zcall 207 [.ref 0, .int v] (zRm1 rd) Sm Lm = some (none, zRm1 rd, X, Lm) ∧ (∀ j k, j ≠ 2 → X j k = Sm j k) ∧ X 2 0 = Sm 2 0 ∧ X 2 1 = v ∧ X 2 2 = 0 ∧ X 2 3 = -1 ∧ (∀ k, k < 5 → X 2 (4 + k) = 0) ∧ (∀ p, p < n → X 2 (9 + p) = Sm 20 p ∧ X 2 (17 + p) = Sm 23 p ∧ X 2 (25 + p) = 0 ∧ X 2 (33 + p) = 0) ∧ ∀ b, b < m → X 2 (41 + b) = Sm 17 b := by
  have key1 : ∀ d i, i + d = 49 → 1 ≤ i → ∀ X : zS, (∀ j k, j ≠ 2 → X j k = Sm j k) → X 2 0 = Sm 2 0 → (∀ k, 1 ≤ k → k < i → X 2 k = 0) → ∃ X' : zS, zgo 207 2 [.ref 0, .int v, .int (nI i)] [] (zRm1 rd) X Lm = zgo 207 21 [.ref 0, .int v, .int (nI 49)] [] (zRm1 rd) X' Lm ∧ (∀ j k, j ≠ 2 → X' j k = Sm j k) ∧ X' 2 0 = Sm 2 0 ∧ (∀ k, 1 ≤ k → k < 49 → X' 2 k = 0) := by
    intro d
    induction d with
    | zero =>
      intro i hd hi X hX h0 hk
      have hi : i = 49 := by omega
      subst hi
      refine ⟨X, ?_, hX, h0, hk⟩
      rw [s207_2]
      simp (config := {maxSteps := 1000000}) (disch := omega) only [↓reduceIte, Int32.reduceLT, Int32.reduceLE, Int32.reduceToNatClampNeg, Int32.reduceAdd, Int32.reduceSub, Int32.reduceMul, Nat.reduceLeDiff, zEL, zup_ne, zup_eq, zT0, zT1, zT2, if_true, if_false, zneq_f, true_and, and_true, false_and, and_false, zKL, eq_self, Nat.reduceEqDiff, zite0, ite_not, zaddr, zaddl, zputr, zsb1, zsb2, zsb0, zsbm, znm1, layM1, s207_3, s207_5, s207_8, s207_9, s207_12, s207_13, s207_14, s207_15, s207_18, show ((49 : Int32) ≤ nI 49) = True from eq_true (by decide)]
    | succ d ih =>
      intro i hd hi X hX h0 hk
      obtain ⟨X', r1, r2⟩ := ih (i + 1) (by omega) (by omega) (zup X 2 i 0) (fun j k h => by rw [zup_ne (by omega)]; exact hX j k h) (by rw [zup_ne (by omega)]; exact h0) (fun k h1 h2 => by
        by_cases e : k = i
        · rw [zup_eq rfl e]
        · rw [zup_ne (by omega)]
          exact hk k h1 (by omega))
      refine ⟨X', ?_, r2⟩
      have h49 : ((49 : Int32) ≤ nI i) = False := eq_false (by rw [show (49 : Int32) = nI 49 from rfl, znI_le (by omega) (by omega)]; omega)
      rw [← r1, s207_2]
      simp (config := {maxSteps := 1000000}) (disch := omega) only [↓reduceIte, Int32.reduceLT, Int32.reduceLE, Int32.reduceToNatClampNeg, Int32.reduceAdd, Int32.reduceSub, Int32.reduceMul, Nat.reduceLeDiff, zEL, zup_ne, zup_eq, zT0, zT1, zT2, if_true, if_false, zneq_f, true_and, and_true, false_and, and_false, zKL, eq_self, Nat.reduceEqDiff, zite0, ite_not, zaddr, zaddl, zputr, zsb1, zsb2, zsb0, zsbm, znm1, layM1, s207_3, s207_5, s207_8, s207_9, s207_12, s207_13, s207_14, s207_15, s207_18, h49]
  have key2 : ∀ d p, p + d = n → ∀ X Y : zS, (∀ j k, j ≠ 2 → X j k = Sm j k) → (∀ k, k < 9 ∨ 25 ≤ k → X 2 k = Y 2 k) → (∀ q, q < p → X 2 (9 + q) = Sm 20 q ∧ X 2 (17 + q) = Sm 23 q) → ∃ X' : zS, zgo 207 37 [.ref 0, .int v, .int (nI p)] [] (zRm1 rd) X Lm = zgo 207 90 [.ref 0, .int v, .int (nI n)] [] (zRm1 rd) X' Lm ∧ (∀ j k, j ≠ 2 → X' j k = Sm j k) ∧ (∀ k, k < 9 ∨ 25 ≤ k → X' 2 k = Y 2 k) ∧ (∀ q, q < n → X' 2 (9 + q) = Sm 20 q ∧ X' 2 (17 + q) = Sm 23 q) := by
    intro d
    induction d with
    | zero =>
      intro p hd X Y hX h0 hk
      have hp : p = n := by omega
      subst hp
      have x8 : X 11 8 = nI p := (hX 11 8 (by decide)).trans h8
      refine ⟨X, ?_, hX, h0, hk⟩
      rw [s207_37]
      simp (config := {maxSteps := 1000000}) (disch := omega) only [↓reduceIte, Int32.reduceLT, Int32.reduceLE, Int32.reduceToNatClampNeg, Int32.reduceAdd, Int32.reduceSub, Int32.reduceMul, Nat.reduceLeDiff, zEL, zup_ne, zup_eq, zT0, zT1, zT2, if_true, if_false, zneq_f, true_and, and_true, false_and, and_false, zKL, eq_self, Nat.reduceEqDiff, zite0, ite_not, zaddr, zaddl, zputr, zsb1, zsb2, zsb0, zsbm, znm1, layM1, s207_38, s207_39, s207_42, s207_45, s207_48, s207_49, s207_52, s207_54, s207_55, s207_56, s207_57, s207_60, s207_63, s207_64, s207_65, s207_66, s207_67, s207_70, s207_72, s207_73, s207_74, s207_75, s207_78, s207_81, s207_82, s207_83, s207_84, s207_87, x8]
    | succ d ih =>
      intro p hd X Y hX h0 hk
      have x8 : X 11 8 = nI n := (hX 11 8 (by decide)).trans h8
      have x20 : X 20 p = Sm 20 p := hX 20 p (by decide)
      have x23 : X 23 p = Sm 23 p := hX 23 p (by decide)
      obtain ⟨X', r1, r2⟩ := ih (p + 1) (by omega) (zup (zup X 2 (9 + p) (Sm 20 p)) 2 (17 + p) (Sm 23 p)) Y (fun j k h => by rw [zup_ne (by omega), zup_ne (by omega)]; exact hX j k h) (fun k h => by rw [zup_ne (by omega), zup_ne (by omega)]; exact h0 k h) (fun q hq => by
        by_cases e : q = p
        · subst e
          exact ⟨by rw [zup_ne (by omega), zup_eq rfl rfl], by rw [zup_eq rfl rfl]⟩
        · rw [zup_ne (by omega), zup_ne (by omega), zup_ne (by omega), zup_ne (by omega)]
          exact hk q (by omega))
      refine ⟨X', ?_, r2⟩
      rw [← r1, s207_37]
      simp (config := {maxSteps := 1000000}) (disch := omega) only [↓reduceIte, Int32.reduceLT, Int32.reduceLE, Int32.reduceToNatClampNeg, Int32.reduceAdd, Int32.reduceSub, Int32.reduceMul, Nat.reduceLeDiff, zEL, zup_ne, zup_eq, zT0, zT1, zT2, if_true, if_false, zneq_f, true_and, and_true, false_and, and_false, zKL, eq_self, Nat.reduceEqDiff, zite0, ite_not, zaddr, zaddl, zputr, zsb1, zsb2, zsb0, zsbm, znm1, layM1, s207_38, s207_39, s207_42, s207_45, s207_48, s207_49, s207_52, s207_54, s207_55, s207_56, s207_57, s207_60, s207_63, s207_64, s207_65, s207_66, s207_67, s207_70, s207_72, s207_73, s207_74, s207_75, s207_78, s207_81, s207_82, s207_83, s207_84, s207_87, x8, x20, x23]
  have key3 : ∀ d p, p + d = m → ∀ X Y : zS, (∀ j k, j ≠ 2 → X j k = Sm j k) → (∀ k, k < 41 → X 2 k = Y 2 k) → (∀ q, q < p → X 2 (41 + q) = Sm 17 q) → ∃ X' : zS, zgo 207 92 [.ref 0, .int v, .int (nI p)] [] (zRm1 rd) X Lm = some (none, zRm1 rd, X', Lm) ∧ (∀ j k, j ≠ 2 → X' j k = Sm j k) ∧ (∀ k, k < 41 → X' 2 k = Y 2 k) ∧ (∀ q, q < m → X' 2 (41 + q) = Sm 17 q) := by
    intro d
    induction d with
    | zero =>
      intro p hd X Y hX h0 hk
      have hp : p = m := by omega
      subst hp
      have x8 : X 11 7 = nI p := (hX 11 7 (by decide)).trans h7
      refine ⟨X, ?_, hX, h0, hk⟩
      rw [s207_92]
      simp (config := {maxSteps := 1000000}) (disch := omega) only [↓reduceIte, Int32.reduceLT, Int32.reduceLE, Int32.reduceToNatClampNeg, Int32.reduceAdd, Int32.reduceSub, Int32.reduceMul, Nat.reduceLeDiff, zEL, zup_ne, zup_eq, zT0, zT1, zT2, if_true, if_false, zneq_f, true_and, and_true, false_and, and_false, zKL, eq_self, Nat.reduceEqDiff, zite0, ite_not, zaddr, zaddl, zputr, zsb1, zsb2, zsb0, zsbm, znm1, layM1, s207_93, s207_94, s207_97, s207_100, s207_103, s207_104, s207_107, s207_109, s207_110, s207_111, s207_112, s207_115, s207_118, s207_119, s207_120, s207_121, s207_124, s207_127, x8]
    | succ d ih =>
      intro p hd X Y hX h0 hk
      have x8 : X 11 7 = nI m := (hX 11 7 (by decide)).trans h7
      have x20 : X 17 p = Sm 17 p := hX 17 p (by decide)
      obtain ⟨X', r1, r2⟩ := ih (p + 1) (by omega) (zup X 2 (41 + p) (Sm 17 p)) Y (fun j k h => by rw [zup_ne (by omega)]; exact hX j k h) (fun k h => by rw [zup_ne (by omega)]; exact h0 k h) (fun q hq => by
        by_cases e : q = p
        · subst e
          rw [zup_eq rfl rfl]
        · rw [zup_ne (by omega)]
          exact hk q (by omega))
      refine ⟨X', ?_, r2⟩
      rw [← r1, s207_92]
      simp (config := {maxSteps := 1000000}) (disch := omega) only [↓reduceIte, Int32.reduceLT, Int32.reduceLE, Int32.reduceToNatClampNeg, Int32.reduceAdd, Int32.reduceSub, Int32.reduceMul, Nat.reduceLeDiff, zEL, zup_ne, zup_eq, zT0, zT1, zT2, if_true, if_false, zneq_f, true_and, and_true, false_and, and_false, zKL, eq_self, Nat.reduceEqDiff, zite0, ite_not, zaddr, zaddl, zputr, zsb1, zsb2, zsb0, zsbm, znm1, layM1, s207_93, s207_94, s207_97, s207_100, s207_103, s207_104, s207_107, s207_109, s207_110, s207_111, s207_112, s207_115, s207_118, s207_119, s207_120, s207_121, s207_124, s207_127, x8, x20]
  obtain ⟨X1, r1, r2, r3, r4⟩ := key1 48 1 (by omega) (by omega) Sm (fun _ _ _ => rfl) rfl (fun k h1 h2 => by omega)
  obtain ⟨X2, q1, q2, q3, q4⟩ := key2 n 0 (by omega) (zup (zup X1 2 1 v) 2 3 (-1)) (zup (zup X1 2 1 v) 2 3 (-1)) (fun j k h => by rw [zup_ne (by omega), zup_ne (by omega)]; exact r2 j k h) (fun _ _ => rfl) (fun q hq => by omega)
  obtain ⟨X3, p1, p2, p3, p4⟩ := key3 m 0 (by omega) X2 X2 q2 (fun _ _ => rfl) (fun q hq => by omega)
  have lo : ∀ k, k < 9 ∨ (25 ≤ k ∧ k < 41) → X3 2 k = zup (zup X1 2 1 v) 2 3 (-1) 2 k := fun k hk => (p3 k (by omega)).trans (q3 k (by omega))
  refine ⟨X3, ?_, p2, ?_, ?_, ?_, ?_, fun k hk => ?_, fun p hp => ⟨?_, ?_, ?_, ?_⟩, p4⟩
  · have a1 : zcall 207 [.ref 0, .int v] (zRm1 rd) Sm Lm = zgo 207 2 [.ref 0, .int v, .int (nI 1)] [] (zRm1 rd) Sm Lm := by
      unfold zcall
      simp (config := {maxSteps := 1000000}) (disch := omega) only [↓reduceIte, Int32.reduceLT, Int32.reduceLE, Int32.reduceToNatClampNeg, Int32.reduceAdd, Int32.reduceSub, Int32.reduceMul, Nat.reduceLeDiff, zEL, zup_ne, zup_eq, zT0, zT1, zT2, if_true, if_false, zneq_f, true_and, and_true, false_and, and_false, zKL, eq_self, Nat.reduceEqDiff, zite0, ite_not, zaddr, zaddl, zputr, zsb1, zsb2, zsb0, zsbm, znm1, ze_207, s207_0, s207_1]
      all_goals rfl
    have a2 : zgo 207 21 [.ref 0, .int v, .int (nI 49)] [] (zRm1 rd) X1 Lm = zgo 207 37 [.ref 0, .int v, .int (nI 0)] [] (zRm1 rd) (zup (zup X1 2 1 v) 2 3 (-1)) Lm := by
      simp (config := {maxSteps := 1000000}) (disch := omega) only [↓reduceIte, Int32.reduceLT, Int32.reduceLE, Int32.reduceToNatClampNeg, Int32.reduceAdd, Int32.reduceSub, Int32.reduceMul, Nat.reduceLeDiff, zEL, zup_ne, zup_eq, zT0, zT1, zT2, if_true, if_false, zneq_f, true_and, and_true, false_and, and_false, zKL, eq_self, Nat.reduceEqDiff, zite0, ite_not, zaddr, zaddl, zputr, zsb1, zsb2, zsb0, zsbm, znm1, layM1, s207_21, s207_22, s207_25, s207_26, s207_27, s207_28, s207_29, s207_32, s207_33, s207_34, s207_35, s207_36]
      all_goals rfl
    have a3 : zgo 207 90 [.ref 0, .int v, .int (nI n)] [] (zRm1 rd) X2 Lm = zgo 207 92 [.ref 0, .int v, .int (nI 0)] [] (zRm1 rd) X2 Lm := by
      simp (config := {maxSteps := 1000000}) (disch := omega) only [↓reduceIte, Int32.reduceLT, Int32.reduceLE, Int32.reduceToNatClampNeg, Int32.reduceAdd, Int32.reduceSub, Int32.reduceMul, Nat.reduceLeDiff, zEL, zup_ne, zup_eq, zT0, zT1, zT2, if_true, if_false, zneq_f, true_and, and_true, false_and, and_false, zKL, eq_self, Nat.reduceEqDiff, zite0, ite_not, zaddr, zaddl, zputr, zsb1, zsb2, zsb0, zsbm, znm1, layM1, s207_90, s207_91]
      all_goals rfl
    rw [a1, r1, a2, q1, a3, p1]
  · rw [lo 0 (by omega), zup_ne (by omega), zup_ne (by omega)]
    exact r3
  · rw [lo 1 (by omega), zup_ne (by omega), zup_eq rfl rfl]
  · rw [lo 2 (by omega), zup_ne (by omega), zup_ne (by omega)]
    exact r4 2 (by omega) (by omega)
  · rw [lo 3 (by omega), zup_eq rfl rfl]
  · rw [lo (4 + k) (by omega), zup_ne (by omega), zup_ne (by omega)]
    exact r4 (4 + k) (by omega) (by omega)
  · rw [p3 (9 + p) (by omega)]
    exact (q4 p hp).1
  · rw [p3 (17 + p) (by omega)]
    exact (q4 p hp).2
  · rw [lo (25 + p) (by omega), zup_ne (by omega), zup_ne (by omega)]
    exact r4 (25 + p) (by omega) (by omega)
  · rw [lo (33 + p) (by omega), zup_ne (by omega), zup_ne (by omega)]
    exact r4 (33 + p) (by omega) (by omega)
theorem t12_168 {s i hh : Nat} (hM : zMD c S Sm) (hs : s ≤ 65536) (hi : i < c 5) (hh24 : hh < 24) (e7 : S 7 i = nI hh) (el : ∀ j, i < j → j < c 5 → S 7 j ≠ nI hh) (e0 : Sm 2 0 = nI hh) : ∃ S' Sm' : zS, zcall 12 [.ref 168, .int (nI s), .int (nI i)] zRc S L = some (none, zRc, S', L) ∧ zcall 207 [.ref 0, .int (nI s)] (zRm1 rd) Sm Lm = some (none, zRm1 rd, Sm', Lm) ∧ zMD c S' Sm' ∧ zGD 168 c S' (Sm' 2) ∧ (∀ j k, (j < 168 ∨ 186 < j) → S' j k = S j k) ∧ (∀ j k, j ≠ 2 → Sm' j k = Sm j k) ∧ S' 168 9 = nI i ∧ Sm' 2 0 = nI hh := by
  obtain ⟨X, q1, q2, q3, q4, q5, q6, q7, q8, q9⟩ := t207 (v := nI s) (Sm := Sm) (Lm := Lm) (rd := rd) hM.2.2.1.1 hM.1.2.1 hM.2.2.1.2.1 hM.1.2.2.1
  have b0 : c 0 ≤ 8 := hM.1.2.1
  have b1 : c 1 ≤ 8 := hM.1.2.2.1
  let Y := zup (zup (zup (zup (zclear (zcopy (zclear (zclear (zcopy (zcopy S 170 8 18 8) 172 8 20 8) 174 8) 176 8) 178 8 33 8) 180 5) 168 7 0) 168 8 (nI s)) 168 9 (nI i)) 168 10 (-1)
  have hY : ∀ j k, (j < 168 ∨ 180 < j) → Y j k = S j k := fun j k hj => by
    show zup _ _ _ _ j k = _
    rw [zup_ne (by omega), zup_ne (by omega), zup_ne (by omega), zup_ne (by omega), zclear_ne (by omega), zcopy_ne (by omega), zclear_ne (by omega), zclear_ne (by omega), zcopy_ne (by omega), zcopy_ne (by omega)]
  refine ⟨Y, X, ?_, q1, zMD_fr hM (fun j k hj => hY j k (by omega)) (fun j k hj => q2 j k (by omega)), ?_, fun j k hj => hY j k (by omega), q2, by show zup _ _ _ _ _ _ = _; rw [zup_ne (by omega), zup_eq rfl rfl], q3.trans e0⟩
  · unfold zcall
    simp (config := {maxSteps := 1000000}) (disch := omega) only [↓reduceIte, Int32.reduceLT, Int32.reduceLE, Int32.reduceToNatClampNeg, Int32.reduceAdd, Int32.reduceSub, Int32.reduceMul, Nat.reduceLeDiff, zEL, zup_ne, zup_eq, zT0, zT1, zT2, if_true, if_false, zneq_f, true_and, and_true, false_and, and_false, zKL, eq_self, Nat.reduceEqDiff, zite0, ite_not, zaddr, zaddl, zputr, zsb1, zsb2, zsb0, zsbm, znm1, gM, g168, ry_169_17, ry_171_19, ry_177_32, ze_12, s12_0, s12_1, s12_4, s12_5, s12_8, s12_11, s12_14, s12_17, s12_18, s12_21, s12_22, s12_25, s12_28, s12_31, s12_34, s12_35, s12_38, s12_41, s12_42, s12_45, s12_48, s12_49, s12_52, s12_53, s12_56, s12_59, s12_62, s12_65, s12_66, s12_69, s12_72, s12_73, s12_74, s12_77, s12_78, s12_79, s12_82, s12_83, s12_84, s12_87, s12_88, s12_89, s12_92]
    all_goals rfl
  · obtain ⟨-, -, -, -, -, hP, hB, -⟩ := hM
    have u : ∀ j k, j ≠ 168 → Y j k = zclear (zcopy (zclear (zclear (zcopy (zcopy S 170 8 18 8) 172 8 20 8) 174 8) 176 8) 178 8 33 8) 180 5 j k := fun j k hj => by
      show zup _ _ _ _ j k = _
      rw [zup_ne (by omega), zup_ne (by omega), zup_ne (by omega), zup_ne (by omega)]
    refine ⟨fun p hp => ?_, fun b hb => ?_, fun k hk => ?_, ⟨?_, ?_⟩, ⟨?_, ?_⟩, ⟨?_, ?_⟩, ⟨i, hh, hi, hh24, ?_, ?_, ?_, ?_⟩⟩
    · obtain ⟨-, -, p3, p4, -, -, -, -, p9, p10, -⟩ := hP p hp
      obtain ⟨a1, a2, a3, a4⟩ := q8 p hp
      refine ⟨?_, ?_, ?_, ?_, ?_, ?_, ?_⟩
      · rw [u _ _ (by omega), zclear_ne (by omega), zcopy_ne (by omega), zclear_ne (by omega), zclear_ne (by omega), zcopy_ne (by omega), zcopy_eq rfl (by omega) (by omega), p3, a1]
      · rw [u _ _ (by omega), zclear_ne (by omega), zcopy_ne (by omega), zclear_ne (by omega), zclear_ne (by omega), zcopy_eq rfl (by omega) (by omega), zcopy_ne (by omega), p4, a2]
      · rw [u _ _ (by omega), zclear_ne (by omega), zcopy_ne (by omega), zclear_ne (by omega), zclear_eq rfl (by omega), a3]
      · rw [u _ _ (by omega), zclear_ne (by omega), zcopy_ne (by omega), zclear_eq rfl (by omega), a4]
      · rw [a1]
        exact p9
      · rw [a2]
        exact p10
      · rw [a4]
        exact ⟨0, by omega, rfl⟩
    · obtain ⟨-, -, -, p4, -, -, -, p8⟩ := hB b hb
      refine ⟨?_, ?_⟩
      · rw [u _ _ (by omega), zclear_ne (by omega), zcopy_eq rfl (by omega) (by omega), zclear_ne (by omega), zclear_ne (by omega), zcopy_ne (by omega), zcopy_ne (by omega), p4, q9 b hb]
      · rw [q9 b hb]
        exact p8
    · rw [u _ _ (by omega), zclear_eq rfl (by omega), q7 k hk]
    · show zup _ _ _ _ _ _ = _
      rw [zup_ne (by omega), zup_ne (by omega), zup_ne (by omega), zup_eq rfl rfl, q5]
    · rw [q5]
      exact ⟨0, by omega, rfl⟩
    · show zup _ _ _ _ _ _ = _
      rw [zup_ne (by omega), zup_ne (by omega), zup_eq rfl rfl, q4]
    · rw [q4]
      exact ⟨s, hs, rfl⟩
    · show zup _ _ _ _ _ _ = _
      rw [zup_eq rfl rfl, q6]
    · rw [q6]
      exact .inl rfl
    · show zup _ _ _ _ _ _ = _
      rw [zup_ne (by omega), zup_eq rfl rfl]
    · rw [hY 7 i (by omega)]
      exact e7
    · exact q3.trans e0
    · intro j h1 h2
      rw [hY 7 j (by omega)]
      exact el j h1 h2
theorem t12_187 {s i hh : Nat} (hM : zMD c S Sm) (hs : s ≤ 65536) (hi : i < c 5) (hh24 : hh < 24) (e7 : S 7 i = nI hh) (el : ∀ j, i < j → j < c 5 → S 7 j ≠ nI hh) (e0 : Sm 2 0 = nI hh) : ∃ S' Sm' : zS, zcall 12 [.ref 187, .int (nI s), .int (nI i)] zRc S L = some (none, zRc, S', L) ∧ zcall 207 [.ref 0, .int (nI s)] (zRm1 rd) Sm Lm = some (none, zRm1 rd, Sm', Lm) ∧ zMD c S' Sm' ∧ zGD 187 c S' (Sm' 2) ∧ (∀ j k, (j < 187 ∨ 205 < j) → S' j k = S j k) ∧ (∀ j k, j ≠ 2 → Sm' j k = Sm j k) ∧ S' 187 9 = nI i ∧ Sm' 2 0 = nI hh := by
  obtain ⟨X, q1, q2, q3, q4, q5, q6, q7, q8, q9⟩ := t207 (v := nI s) (Sm := Sm) (Lm := Lm) (rd := rd) hM.2.2.1.1 hM.1.2.1 hM.2.2.1.2.1 hM.1.2.2.1
  have b0 : c 0 ≤ 8 := hM.1.2.1
  have b1 : c 1 ≤ 8 := hM.1.2.2.1
  let Y := zup (zup (zup (zup (zclear (zcopy (zclear (zclear (zcopy (zcopy S 189 8 18 8) 191 8 20 8) 193 8) 195 8) 197 8 33 8) 199 5) 187 7 0) 187 8 (nI s)) 187 9 (nI i)) 187 10 (-1)
  have hY : ∀ j k, (j < 187 ∨ 199 < j) → Y j k = S j k := fun j k hj => by
    show zup _ _ _ _ j k = _
    rw [zup_ne (by omega), zup_ne (by omega), zup_ne (by omega), zup_ne (by omega), zclear_ne (by omega), zcopy_ne (by omega), zclear_ne (by omega), zclear_ne (by omega), zcopy_ne (by omega), zcopy_ne (by omega)]
  refine ⟨Y, X, ?_, q1, zMD_fr hM (fun j k hj => hY j k (by omega)) (fun j k hj => q2 j k (by omega)), ?_, fun j k hj => hY j k (by omega), q2, by show zup _ _ _ _ _ _ = _; rw [zup_ne (by omega), zup_eq rfl rfl], q3.trans e0⟩
  · unfold zcall
    simp (config := {maxSteps := 1000000}) (disch := omega) only [↓reduceIte, Int32.reduceLT, Int32.reduceLE, Int32.reduceToNatClampNeg, Int32.reduceAdd, Int32.reduceSub, Int32.reduceMul, Nat.reduceLeDiff, zEL, zup_ne, zup_eq, zT0, zT1, zT2, if_true, if_false, zneq_f, true_and, and_true, false_and, and_false, zKL, eq_self, Nat.reduceEqDiff, zite0, ite_not, zaddr, zaddl, zputr, zsb1, zsb2, zsb0, zsbm, znm1, gM, g187, ry_188_17, ry_190_19, ry_196_32, ze_12, s12_0, s12_1, s12_4, s12_5, s12_8, s12_11, s12_14, s12_17, s12_18, s12_21, s12_22, s12_25, s12_28, s12_31, s12_34, s12_35, s12_38, s12_41, s12_42, s12_45, s12_48, s12_49, s12_52, s12_53, s12_56, s12_59, s12_62, s12_65, s12_66, s12_69, s12_72, s12_73, s12_74, s12_77, s12_78, s12_79, s12_82, s12_83, s12_84, s12_87, s12_88, s12_89, s12_92]
    all_goals rfl
  · obtain ⟨-, -, -, -, -, hP, hB, -⟩ := hM
    have u : ∀ j k, j ≠ 187 → Y j k = zclear (zcopy (zclear (zclear (zcopy (zcopy S 189 8 18 8) 191 8 20 8) 193 8) 195 8) 197 8 33 8) 199 5 j k := fun j k hj => by
      show zup _ _ _ _ j k = _
      rw [zup_ne (by omega), zup_ne (by omega), zup_ne (by omega), zup_ne (by omega)]
    refine ⟨fun p hp => ?_, fun b hb => ?_, fun k hk => ?_, ⟨?_, ?_⟩, ⟨?_, ?_⟩, ⟨?_, ?_⟩, ⟨i, hh, hi, hh24, ?_, ?_, ?_, ?_⟩⟩
    · obtain ⟨-, -, p3, p4, -, -, -, -, p9, p10, -⟩ := hP p hp
      obtain ⟨a1, a2, a3, a4⟩ := q8 p hp
      refine ⟨?_, ?_, ?_, ?_, ?_, ?_, ?_⟩
      · rw [u _ _ (by omega), zclear_ne (by omega), zcopy_ne (by omega), zclear_ne (by omega), zclear_ne (by omega), zcopy_ne (by omega), zcopy_eq rfl (by omega) (by omega), p3, a1]
      · rw [u _ _ (by omega), zclear_ne (by omega), zcopy_ne (by omega), zclear_ne (by omega), zclear_ne (by omega), zcopy_eq rfl (by omega) (by omega), zcopy_ne (by omega), p4, a2]
      · rw [u _ _ (by omega), zclear_ne (by omega), zcopy_ne (by omega), zclear_ne (by omega), zclear_eq rfl (by omega), a3]
      · rw [u _ _ (by omega), zclear_ne (by omega), zcopy_ne (by omega), zclear_eq rfl (by omega), a4]
      · rw [a1]
        exact p9
      · rw [a2]
        exact p10
      · rw [a4]
        exact ⟨0, by omega, rfl⟩
    · obtain ⟨-, -, -, p4, -, -, -, p8⟩ := hB b hb
      refine ⟨?_, ?_⟩
      · rw [u _ _ (by omega), zclear_ne (by omega), zcopy_eq rfl (by omega) (by omega), zclear_ne (by omega), zclear_ne (by omega), zcopy_ne (by omega), zcopy_ne (by omega), p4, q9 b hb]
      · rw [q9 b hb]
        exact p8
    · rw [u _ _ (by omega), zclear_eq rfl (by omega), q7 k hk]
    · show zup _ _ _ _ _ _ = _
      rw [zup_ne (by omega), zup_ne (by omega), zup_ne (by omega), zup_eq rfl rfl, q5]
    · rw [q5]
      exact ⟨0, by omega, rfl⟩
    · show zup _ _ _ _ _ _ = _
      rw [zup_ne (by omega), zup_ne (by omega), zup_eq rfl rfl, q4]
    · rw [q4]
      exact ⟨s, hs, rfl⟩
    · show zup _ _ _ _ _ _ = _
      rw [zup_eq rfl rfl, q6]
    · rw [q6]
      exact .inl rfl
    · show zup _ _ _ _ _ _ = _
      rw [zup_ne (by omega), zup_eq rfl rfl]
    · rw [hY 7 i (by omega)]
      exact e7
    · exact q3.trans e0
    · intro j h1 h2
      rw [hY 7 j (by omega)]
      exact el j h1 h2
end ZGC
