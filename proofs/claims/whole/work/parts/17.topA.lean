/-! A MATCH is told: guesses -/
section ZTA
variable {c : Nat → Nat} {S Sm : zS} {L Lm : zL} {rd : Value}
/-- the tenths of a guess -/
def ztn (f h a : Nat) : Nat := if a = 0 then f else if a = 1 then h else 10 - f - h
def zgu (S Sm : zS) (g w f h : Nat) : Prop := w ≤ 99 ∧ f + h ≤ 10 ∧ S 75 g = nI w ∧ S 77 g = nI f ∧ S 79 g = nI h ∧ Sm 35 g = nI w ∧ Sm 36 g = nI f ∧ Sm 37 g = nI h
theorem zgu_of (hM : zMD c S Sm) {g : Nat} (hg : g < c 6) : ∃ w f h, zgu S Sm g w f h := by
  obtain ⟨e1, e2, e3, w, f, h, h1, h2, h3, e4, e5, e6⟩ := hM.2.2.2.2.2.2.2.2.2.2.1 g hg
  exact ⟨w, f, h, h2, h3, e1.trans e4, e2.trans e5, e3.trans e6, e4, e5, e6⟩
theorem t39 {g w f h : Nat} (hg : g < 4) (hu : zgu S Sm g w f h) {a : Nat} (ha : a < 3) : zcall 39 [.ref 73, .int (nI g), .int (nI a)] zRc S L = some (some (.int (nI (ztn f h a))), zRc, S, L) ∧ zcall 283 [.ref 0, .int (nI g), .int (nI a)] (zRm1 rd) Sm Lm = some (some (.int (nI (ztn f h a))), zRm1 rd, Sm, Lm) := by
  obtain ⟨hw, hfh, e1, e2, e3, e4, e5, e6⟩ := hu
  have z : (10 : Int32) - nI f - nI h = nI (10 - f - h) := by
    rw [show (10 : Int32) = nI 10 from rfl, znI_sub (by omega), znI_sub (by omega)]
  refine ⟨?_, ?_⟩ <;> unfold zcall ztn
  all_goals rcases (show a = 0 ∨ a = 1 ∨ a = 2 by omega) with rfl | rfl | rfl
  all_goals simp (config := {maxSteps := 1000000}) (disch := omega) only [↓reduceIte, Int32.reduceLT, Int32.reduceLE, Int32.reduceToNatClampNeg, Int32.reduceAdd, Int32.reduceSub, Int32.reduceMul, Nat.reduceLeDiff, zEL, zup_ne, zup_eq, zT0, zT1, zT2, if_true, if_false, zneq_f, true_and, and_true, false_and, and_false, zKL, eq_self, Nat.reduceEqDiff, zite0, ite_not, zaddr, zaddl, zputr, zsb1, zsb2, zsb0, zsbm, znm1, gM, layM1, ze_39, ze_283, s39_0, s39_1, s39_4, s39_5, s39_8, s39_9, s39_12, s39_13, s39_14, s39_15, s39_18, s39_19, s39_22, s39_23, s39_26, s39_29, s39_31, s39_32, s39_35, s39_36, s39_39, s39_40, s39_41, s39_44, s39_45, s39_48, s39_49, s283_0, s283_1, s283_4, s283_5, s283_8, s283_11, s283_12, s283_13, s283_16, s283_17, s283_18, s283_21, s283_22, s283_25, s283_28, s283_29, s283_30, s283_33, s283_35, s283_36, s283_39, s283_42, s283_43, s283_44, s283_45, s283_46, s283_49, s283_52, s283_53, s283_54, s283_55, e2, e3, e5, e6, z, Nat.reduceEqDiff]
  all_goals first | rfl | skip
/-- the weight behind k acts that were SEEN -/
def zpr (t : Nat → Nat) (s : Nat → Nat) : Nat → Nat
  | 0 => 1
  | k + 1 => zpr t s k * t (s k)
theorem zpr_cnt {t s : Nat → Nat} {n : Nat} (hs : ∀ k, k < n → s k < 3) : zpr t s n = t 0 ^ zcnt (fun k => decide (s k = 0)) n * t 1 ^ zcnt (fun k => decide (s k = 1)) n * t 2 ^ zcnt (fun k => decide (s k = 2)) n := by
  induction n with
  | zero => rfl
  | succ n ih =>
    have e : ∀ a, zcnt (fun k => decide (s k = a)) (n + 1) = zcnt (fun k => decide (s k = a)) n + (if s n = a then 1 else 0) := fun a => by
      show zcnt (fun k => decide (s k = a)) n + (if decide (s n = a) = true then 1 else 0) = _
      simp only [decide_eq_true_eq]
    show zpr t s n * t (s n) = _
    rw [ih (fun k hk => hs k (by omega)), e, e, e]
    rcases (show s n = 0 ∨ s n = 1 ∨ s n = 2 by have := hs n (by omega); omega) with h | h | h <;> rw [h]
    · rw [if_pos rfl, if_neg (by decide), if_neg (by decide), Nat.add_zero, Nat.add_zero, Nat.pow_succ]
      simp only [Nat.add_zero, Nat.mul_assoc, Nat.mul_comm, Nat.mul_left_comm]
    · rw [if_pos rfl, if_neg (by decide), if_neg (by decide), Nat.add_zero, Nat.add_zero, Nat.pow_succ]
      simp only [Nat.add_zero, Nat.mul_assoc, Nat.mul_comm, Nat.mul_left_comm]
    · rw [if_pos rfl, if_neg (by decide), if_neg (by decide), Nat.add_zero, Nat.add_zero, Nat.pow_succ]
      simp only [Nat.add_zero, Nat.mul_assoc, Nat.mul_comm, Nat.mul_left_comm]
theorem zpr_le {t s : Nat → Nat} (ht : ∀ a, t a ≤ 10) (k : Nat) : zpr t s k ≤ 10 ^ k := by
  induction k with
  | zero => exact Nat.le_refl _
  | succ k ih =>
    show zpr t s k * t (s k) ≤ 10 ^ (k + 1)
    rw [Nat.pow_succ]
    exact Nat.mul_le_mul ih (ht _)
theorem ztn_le {f h a : Nat} (hfh : f + h ≤ 10) : ztn f h a ≤ 10 := by
  unfold ztn
  repeat' split
  all_goals omega
theorem zi32 : ((32 : Int32).toInt64 : Int64) = 32 := by decide
theorem t40 {g w f h n : Nat} {N : Nat → Nat} (hg : g < 4) (hu : zgu S Sm g w f h) (hN : ∀ a, a < 3 → N a ≤ 14 ∧ S 292 a = nI (N a)) : zcall 40 [.ref 73, .int (nI g), .ref 291] zRc S L = some (some (.long (lN (w * (ztn f h 0 ^ N 0 * ztn f h 1 ^ N 1 * ztn f h 2 ^ N 2)))), zRc, S, L) := by
  have ht := fun a (ha : a < 3) => (t39 (L := L) (Lm := L) (rd := .null) hg hu ha).1
  have inner : ∀ a, a < 3 → ∀ d i, i + d = N a → ∀ x, zgo 40 22 [.ref 73, .int (nI g), .ref 291, .long (lN x), .retAddr 0, .int (nI a), .int (nI i)] [] zRc S L = zgo 40 50 [.ref 73, .int (nI g), .ref 291, .long (lN (x * ztn f h a ^ d)), .retAddr 0, .int (nI a), .int (nI (N a))] [] zRc S L := by
    intro a ha d
    obtain ⟨n1, n2⟩ := hN a ha
    induction d with
    | zero =>
      intro i hd x
      have hi : i = N a := by omega
      subst hi
      rw [s40_22, Nat.pow_zero, Nat.mul_one]
      simp (config := {maxSteps := 1000000}) (disch := omega) only [↓reduceIte, Int32.reduceLT, Int32.reduceLE, Int32.reduceToNatClampNeg, Int32.reduceAdd, Int32.reduceSub, Int32.reduceMul, Nat.reduceLeDiff, zEL, zup_ne, zup_eq, zT0, zT1, zT2, if_true, if_false, zneq_f, true_and, and_true, false_and, and_false, zKL, eq_self, Nat.reduceEqDiff, zite0, ite_not, zaddr, zaddl, zputr, zsb1, zsb2, zsb0, zsbm, znm1, gX, s40_24, s40_25, s40_27, s40_30, s40_33, s40_34, s40_35, s40_36, s40_38, s40_41, s40_42, s40_43, s40_44, s40_47, n2]
    | succ d ih =>
      intro i hd x
      have k := ht a ha
      have tl := @ztn_le f h a hu.2.1
      have := ih (i + 1) (by omega) (x * ztn f h a)
      rw [Nat.mul_assoc, ← Nat.pow_succ', ] at this
      rw [← this, s40_22]
      have e : (nI (ztn f h a)).toInt64 = lN (ztn f h a) := zl_i2l (by omega)
      have e2 : lN x * lN (ztn f h a) = lN (x * ztn f h a) := zl_mul
      simp (config := {maxSteps := 1000000}) (disch := omega) only [↓reduceIte, Int32.reduceLT, Int32.reduceLE, Int32.reduceToNatClampNeg, Int32.reduceAdd, Int32.reduceSub, Int32.reduceMul, Nat.reduceLeDiff, zEL, zup_ne, zup_eq, zT0, zT1, zT2, if_true, if_false, zneq_f, true_and, and_true, false_and, and_false, zKL, eq_self, Nat.reduceEqDiff, zite0, ite_not, zaddr, zaddl, zputr, zsb1, zsb2, zsb0, zsbm, znm1, gX, gM, s40_24, s40_25, s40_27, s40_30, s40_33, s40_34, s40_35, s40_36, s40_38, s40_41, s40_42, s40_43, s40_44, s40_47, n2, k, e, e2]
  have outer : ∀ a, a < 3 → ∀ x j, zgo 40 13 [.ref 73, .int (nI g), .ref 291, .long (lN x), .retAddr 0, .int (nI a), j] [] zRc S L = zgo 40 13 [.ref 73, .int (nI g), .ref 291, .long (lN (x * ztn f h a ^ N a)), .retAddr 0, .int (nI (a + 1)), .int (nI (N a))] [] zRc S L := by
    intro a ha x j
    have i0 := inner a ha (N a) 0 (by omega) x
    have i1 : zgo 40 22 [.ref 73, .int (nI g), .ref 291, .long (lN x), .retAddr 0, .int (nI a), .int 0] [] zRc S L = _ := i0
    rw [s40_13]
    have h3 : ((3 : Int32) ≤ nI a) = False := eq_false (by rw [show (3 : Int32) = nI 3 from rfl, znI_le (by omega) (by omega)]; omega)
    simp (config := {maxSteps := 1000000}) (disch := omega) only [↓reduceIte, Int32.reduceLT, Int32.reduceLE, Int32.reduceToNatClampNeg, Int32.reduceAdd, Int32.reduceSub, Int32.reduceMul, Nat.reduceLeDiff, zEL, zup_ne, zup_eq, zT0, zT1, zT2, if_true, if_false, zneq_f, true_and, and_true, false_and, and_false, zKL, eq_self, Nat.reduceEqDiff, zite0, ite_not, zaddr, zaddl, zputr, zsb1, zsb2, zsb0, zsbm, znm1, gX, s40_15, s40_16, s40_19, s40_20, h3]
    rw [i1]
    simp (config := {maxSteps := 1000000}) (disch := omega) only [↓reduceIte, Int32.reduceLT, Int32.reduceLE, Int32.reduceToNatClampNeg, Int32.reduceAdd, Int32.reduceSub, Int32.reduceMul, Nat.reduceLeDiff, zEL, zup_ne, zup_eq, zT0, zT1, zT2, if_true, if_false, zneq_f, true_and, and_true, false_and, and_false, zKL, eq_self, Nat.reduceEqDiff, zite0, ite_not, zaddr, zaddl, zputr, zsb1, zsb2, zsb0, zsbm, znm1, gX, s40_50, s40_53]
  have e1 : (nI w).toInt64 = lN w := zl_i2l (by have := hu.1; omega)
  have hu3 := hu.2.2.1
  have a1 : zcall 40 [.ref 73, .int (nI g), .ref 291] zRc S L = zgo 40 13 [.ref 73, .int (nI g), .ref 291, .long (lN w), .retAddr 0, .int (nI 0), .retAddr 0] [] zRc S L := by
    unfold zcall
    simp (config := {maxSteps := 1000000}) (disch := omega) only [↓reduceIte, Int32.reduceLT, Int32.reduceLE, Int32.reduceToNatClampNeg, Int32.reduceAdd, Int32.reduceSub, Int32.reduceMul, Nat.reduceLeDiff, zEL, zup_ne, zup_eq, zT0, zT1, zT2, if_true, if_false, zneq_f, true_and, and_true, false_and, and_false, zKL, eq_self, Nat.reduceEqDiff, zite0, ite_not, zaddr, zaddl, zputr, zsb1, zsb2, zsb0, zsbm, znm1, gM, ze_40, s40_0, s40_1, s40_4, s40_5, s40_8, s40_9, s40_10, s40_11, hu3, e1]
    all_goals rfl
  rw [a1, outer 0 (by omega), outer 1 (by omega), outer 2 (by omega), s40_13]
  have h3 : ((3 : Int32) ≤ nI (2 + 1)) = True := eq_true (by decide)
  simp (config := {maxSteps := 1000000}) (disch := omega) only [↓reduceIte, Int32.reduceLT, Int32.reduceLE, Int32.reduceToNatClampNeg, Int32.reduceAdd, Int32.reduceSub, Int32.reduceMul, Nat.reduceLeDiff, zEL, zup_ne, zup_eq, zT0, zT1, zT2, if_true, if_false, zneq_f, true_and, and_true, false_and, and_false, zKL, eq_self, Nat.reduceEqDiff, zite0, ite_not, zaddr, zaddl, zputr, zsb1, zsb2, zsb0, zsbm, znm1, s40_15, s40_16, s40_19, s40_20, s40_56, s40_57, h3]
  rw [Nat.mul_assoc, Nat.mul_assoc, Nat.mul_assoc]
theorem t284 {g w f h n : Nat} {s : Nat → Nat} (hg : g < 4) (hu : zgu S Sm g w f h) (hn : n ≤ 14) (en : Sm 0 28 = nI n) (hs : ∀ k, k < n → s k < 3 ∧ Sm 10 k = nI (s k)) : zcall 284 [.ref 0, .int (nI g)] (zRm1 rd) Sm Lm = some (some (.long (lN (w * zpr (ztn f h) s n))), zRm1 rd, Sm, Lm) := by
  have ht := fun a (ha : a < 3) => (t39 (L := Lm) (Lm := Lm) (rd := rd) hg hu ha).2
  have key : ∀ d k, k + d = n → zgo 284 14 [.ref 0, .int (nI g), .long (lN (w * zpr (ztn f h) s k)), .retAddr 0, .int (nI k)] [] (zRm1 rd) Sm Lm = some (some (.long (lN (w * zpr (ztn f h) s n))), zRm1 rd, Sm, Lm) := by
    intro d
    induction d with
    | zero =>
      intro k hd
      have hk : k = n := by omega
      subst hk
      rw [s284_14]
      simp (config := {maxSteps := 1000000}) (disch := omega) only [↓reduceIte, Int32.reduceLT, Int32.reduceLE, Int32.reduceToNatClampNeg, Int32.reduceAdd, Int32.reduceSub, Int32.reduceMul, Nat.reduceLeDiff, zEL, zup_ne, zup_eq, zT0, zT1, zT2, if_true, if_false, zneq_f, true_and, and_true, false_and, and_false, zKL, eq_self, Nat.reduceEqDiff, zite0, ite_not, zaddr, zaddl, zputr, zsb1, zsb2, zsb0, zsbm, znm1, layM1, s284_16, s284_17, s284_20, s284_23, s284_24, s284_25, s284_26, s284_27, s284_30, s284_32, s284_33, s284_36, s284_37, s284_38, s284_39, s284_42, s284_45, s284_46, en]
    | succ d ih =>
      intro k hd
      obtain ⟨s1, s2⟩ := hs k (by omega)
      have k1 := ht (s k) s1
      have tl := @ztn_le f h (s k) hu.2.1
      have := ih (k + 1) (by omega)
      rw [show zpr (ztn f h) s (k + 1) = zpr (ztn f h) s k * ztn f h (s k) from rfl, ← Nat.mul_assoc] at this
      rw [← this, s284_14]
      have e : (nI (ztn f h (s k))).toInt64 = lN (ztn f h (s k)) := zl_i2l (by omega)
      have e2 : lN (w * zpr (ztn f h) s k) * lN (ztn f h (s k)) = lN (w * zpr (ztn f h) s k * ztn f h (s k)) := zl_mul
      simp (config := {maxSteps := 1000000}) (disch := omega) only [↓reduceIte, Int32.reduceLT, Int32.reduceLE, Int32.reduceToNatClampNeg, Int32.reduceAdd, Int32.reduceSub, Int32.reduceMul, Nat.reduceLeDiff, zEL, zup_ne, zup_eq, zT0, zT1, zT2, if_true, if_false, zneq_f, true_and, and_true, false_and, and_false, zKL, eq_self, Nat.reduceEqDiff, zite0, ite_not, zaddr, zaddl, zputr, zsb1, zsb2, zsb0, zsbm, znm1, layM1, s284_16, s284_17, s284_20, s284_23, s284_24, s284_25, s284_26, s284_27, s284_30, s284_32, s284_33, s284_36, s284_37, s284_38, s284_39, s284_42, s284_45, s284_46, en, s2, k1, e, e2]
  have := key n 0 (by omega)
  rw [show zpr (ztn f h) s 0 = 1 from rfl, Nat.mul_one] at this
  have e1 : (nI w).toInt64 = lN w := zl_i2l (by have := hu.1; omega)
  have e4 := hu.2.2.2.2.2.1
  unfold zcall
  simp (config := {maxSteps := 1000000}) (disch := omega) only [↓reduceIte, Int32.reduceLT, Int32.reduceLE, Int32.reduceToNatClampNeg, Int32.reduceAdd, Int32.reduceSub, Int32.reduceMul, Nat.reduceLeDiff, zEL, zup_ne, zup_eq, zT0, zT1, zT2, if_true, if_false, zneq_f, true_and, and_true, false_and, and_false, zKL, eq_self, Nat.reduceEqDiff, zite0, ite_not, zaddr, zaddl, zputr, zsb1, zsb2, zsb0, zsbm, znm1, layM1, ze_284, s284_0, s284_1, s284_4, s284_7, s284_8, s284_9, s284_10, s284_11, s284_12, e4, e1]
  exact this
/-- LIKELY of each guess: of both -/
theorem tlik (hM : zMD c S Sm) (hS : zSE S Sm) : ∃ W : Nat → Nat, (∀ g, W g < 10000000000000000) ∧ ∀ g, g < c 6 → zcall 40 [.ref 73, .int (nI g), .ref 291] zRc S L = some (some (.long (lN (W g))), zRc, S, L) ∧ zcall 284 [.ref 0, .int (nI g)] (zRm1 rd) Sm Lm = some (some (.long (lN (W g))), zRm1 rd, Sm, Lm) := by
  obtain ⟨n, hn, -, n2, n3, n4⟩ := hS
  have hc6 : c 6 ≤ 4 := hM.1.2.2.2.2.2.2.2.2
  let s : Nat → Nat := fun k => (Sm 10 k).toInt.toNat
  have hs : ∀ k, k < n → s k < 3 ∧ Sm 10 k = nI (s k) := fun k hk => by
    obtain ⟨m, hm, em⟩ := n3 k hk
    have : s k = m := by
      show (Sm 10 k).toInt.toNat = m
      rw [em, zint_nI (by omega)]
      omega
    rw [this]
    exact ⟨by omega, em⟩
  have hcnt : ∀ (a m : Nat), a < 3 → m ≤ n → zcnt (fun k => decide (Sm 10 k = nI a)) m = zcnt (fun k => decide (s k = a)) m := fun a m ha hm => by
    induction m with
    | zero => rfl
    | succ m ih =>
      show zcnt (fun k => decide (Sm 10 k = nI a)) m + (if decide (Sm 10 m = nI a) = true then 1 else 0) = zcnt (fun k => decide (s k = a)) m + (if decide (s m = a) = true then 1 else 0)
      obtain ⟨s1, s2⟩ := hs m (by omega)
      rw [ih (by omega), s2]
      simp only [decide_eq_true_eq, znI_inj (show s m < 2147483648 by omega) (show a < 2147483648 by omega)]
  have hle : ∀ (ok : Nat → Bool) m, zcnt ok m ≤ m := fun ok m => by
    induction m with
    | zero => exact Nat.le_refl _
    | succ m ih =>
      show zcnt ok m + (if ok m = true then 1 else 0) ≤ m + 1
      split <;> omega
  have one : ∀ g, ∃ W, W < 10000000000000000 ∧ (g < c 6 → zcall 40 [.ref 73, .int (nI g), .ref 291] zRc S L = some (some (.long (lN W)), zRc, S, L) ∧ zcall 284 [.ref 0, .int (nI g)] (zRm1 rd) Sm Lm = some (some (.long (lN W)), zRm1 rd, Sm, Lm)) := fun g => by
    by_cases hg : g < c 6
    · obtain ⟨w, f, h, hu⟩ := zgu_of hM hg
      refine ⟨w * zpr (ztn f h) s n, ?_, fun _ => ⟨?_, t284 (by omega) hu hn n2 hs⟩⟩
      · have h1 := zpr_le (t := ztn f h) (s := s) (fun a => ztn_le hu.2.1) n
        have h2 : (10 : Nat) ^ n ≤ 10 ^ 14 := Nat.pow_le_pow_right (by omega) hn
        have h3 : w * zpr (ztn f h) s n ≤ 99 * 10 ^ 14 := Nat.mul_le_mul hu.1 (Nat.le_trans h1 h2)
        omega
      · rw [zpr_cnt (fun k hk => (hs k hk).1)]
        have hN : ∀ a, a < 3 → (fun a => zcnt (fun k => decide (s k = a)) n) a ≤ 14 ∧ S 292 a = nI ((fun a => zcnt (fun k => decide (s k = a)) n) a) := fun a ha => ⟨Nat.le_trans (hle _ _) hn, by rw [n4 a ha, hcnt a n ha (Nat.le_refl _)]⟩
        exact t40 (n := n) (N := fun a => zcnt (fun k => decide (s k = a)) n) (by omega) hu hN
    · exact ⟨0, by omega, fun h => absurd h hg⟩
  exact ⟨fun g => Classical.choose (one g), fun g => (Classical.choose_spec (one g)).1, fun g => (Classical.choose_spec (one g)).2⟩
theorem m_142 {p : Int32} (h : zTM c S Sm) : ∃ w : Int64, ∃ S' Sm' : zS, zcall 142 [.ref 0, .int p] zRc S L = some (some (.long w), zRc, S', L) ∧ zcall 285 [.ref 0, .int p] (zRm1 rd) Sm Lm = some (some (.long w), zRm1 rd, Sm', Lm) ∧ zTM c S' Sm' := by
  obtain ⟨X, hX⟩ : ∃ X, X = zup Sm 0 0 0 := ⟨_, rfl⟩
  have h' := zTM_t (v := 0) h
  rw [← hX] at h'
  have hc6 : c 6 ≤ 4 := h'.2.2.1.1.2.2.2.2.2.2.2.2
  have a0 : S 73 3 = nI (c 6) := h'.2.2.1.2.1.2.2.2.2.2.2
  have m0 : X 11 12 = nI (c 6) := h'.2.2.1.2.2.1.2.2.2.2.2.2
  rcases zidx p (n := c 6) (by omega) with ⟨a, ha, rfl⟩ | hp
  · have h2 := zTM_d 0 (by decide) h'
    obtain ⟨W, -, hW⟩ := tlik (L := L) (Lm := Lm) (rd := rd) h2.2.2.1 h2.2.2.2.2.2.1
    obtain ⟨w1, w2⟩ := hW a ha
    have k1 := t37a (L := L) a0 (by omega) ha
    refine ⟨lN (W a), _, _, ?_, ?_, h2⟩ <;> unfold zcall
    · simp (config := {maxSteps := 1000000}) (disch := omega) only [↓reduceIte, Int32.reduceLT, Int32.reduceLE, Int32.reduceToNatClampNeg, Int32.reduceAdd, Int32.reduceSub, Int32.reduceMul, Nat.reduceLeDiff, zEL, zup_ne, zup_eq, zT0, zT1, zT2, if_true, if_false, zneq_f, true_and, and_true, false_and, and_false, zKL, eq_self, Nat.reduceEqDiff, zite0, ite_not, zaddr, zaddl, zputr, zsb1, zsb2, zsb0, zsbm, znm1, gX, gM, g168, tEC, S142, k1, w1]
    · simp (config := {maxSteps := 1000000}) (disch := omega) only [↓reduceIte, Int32.reduceLT, Int32.reduceLE, Int32.reduceToNatClampNeg, Int32.reduceAdd, Int32.reduceSub, Int32.reduceMul, Nat.reduceLeDiff, zEL, zup_ne, zup_eq, zT0, zT1, zT2, if_true, if_false, zneq_f, true_and, and_true, false_and, and_false, zKL, eq_self, Nat.reduceEqDiff, zite0, ite_not, zaddr, zaddl, zputr, zsb1, zsb2, zsb0, zsbm, znm1, layM1, tEM1, S285, ← hX, m0, w2]
  · have k1 := t37b (L := L) a0 hp
    refine ⟨-1, _, _, ?_, ?_, zTM_d 1 (by decide) h'⟩ <;> unfold zcall
    · simp (config := {maxSteps := 1000000}) (disch := omega) only [↓reduceIte, Int32.reduceLT, Int32.reduceLE, Int32.reduceToNatClampNeg, Int32.reduceAdd, Int32.reduceSub, Int32.reduceMul, Nat.reduceLeDiff, zEL, zup_ne, zup_eq, zT0, zT1, zT2, if_true, if_false, zneq_f, true_and, and_true, false_and, and_false, zKL, eq_self, Nat.reduceEqDiff, zite0, ite_not, zaddr, zaddl, zputr, zsb1, zsb2, zsb0, zsbm, znm1, gX, gM, g168, tEC, S142, k1]
      all_goals rfl
    · rcases hp with ⟨h1, -⟩ | ⟨h1, h3⟩
      · simp (config := {maxSteps := 1000000}) (disch := omega) only [↓reduceIte, Int32.reduceLT, Int32.reduceLE, Int32.reduceToNatClampNeg, Int32.reduceAdd, Int32.reduceSub, Int32.reduceMul, Nat.reduceLeDiff, zEL, zup_ne, zup_eq, zT0, zT1, zT2, if_true, if_false, zneq_f, true_and, and_true, false_and, and_false, zKL, eq_self, Nat.reduceEqDiff, zite0, ite_not, zaddr, zaddl, zputr, zsb1, zsb2, zsb0, zsbm, znm1, layM1, tEM1, S285, ← hX, m0, h1]
        all_goals rfl
      · have h4 : (p < nI (c 6)) = False := eq_false (Int32.not_lt.mpr (of_eq_true h3))
        simp (config := {maxSteps := 1000000}) (disch := omega) only [↓reduceIte, Int32.reduceLT, Int32.reduceLE, Int32.reduceToNatClampNeg, Int32.reduceAdd, Int32.reduceSub, Int32.reduceMul, Nat.reduceLeDiff, zEL, zup_ne, zup_eq, zT0, zT1, zT2, if_true, if_false, zneq_f, true_and, and_true, false_and, and_false, zKL, eq_self, Nat.reduceEqDiff, zite0, ite_not, zaddr, zaddl, zputr, zsb1, zsb2, zsb0, zsbm, znm1, layM1, tEM1, S285, ← hX, m0, h1, h4]
        all_goals rfl
theorem zlc {a b : Nat} (ha : a < 10000000000000000) (hb : b < 10000000000000000) : lg_cmp (lN a) (lN b) = if b < a then 1 else if a = b then 0 else -1 := by
  unfold lg_cmp
  have e1 : (lN a > lN b) ↔ b < a := by
    rw [gt_iff_lt, Int64.lt_iff_toInt_lt, zl_ti (by omega), zl_ti (by omega)]
    omega
  have e2 : (lN a = lN b) ↔ a = b := by
    constructor
    · intro h
      have := congrArg Int64.toInt h
      rw [zl_ti (by omega), zl_ti (by omega)] at this
      omega
    · rintro rfl; rfl
  simp only [e1, e2]
theorem zlc_le {a b : Nat} (ha : a < 10000000000000000) (hb : b < 10000000000000000) : (lg_cmp (lN a) (lN b) ≤ 0) = (a ≤ b) := by
  rw [zlc ha hb]
  by_cases h : b < a
  · rw [if_pos h, eq_iff_iff]
    exact ⟨fun h' => absurd h' (by decide), fun h' => by omega⟩
  · rw [if_neg h, eq_iff_iff]
    refine ⟨fun _ => by omega, fun _ => ?_⟩
    split <;> decide
def zhv (W : Nat → Nat) : Nat → Nat
  | 0 => 0
  | k + 1 => if W (zhv W k) < W (k + 1) then k + 1 else zhv W k
theorem zhv_le {W : Nat → Nat} {k : Nat} : zhv W k ≤ k := by
  induction k with
  | zero => exact Nat.le_refl _
  | succ k ih =>
    show (if W (zhv W k) < W (k + 1) then k + 1 else zhv W k) ≤ k + 1
    split <;> omega
theorem t41 {n : Nat} {W : Nat → Nat} (hn0 : 1 ≤ n) (hn4 : n ≤ 4) (hn : S 73 3 = nI n) (hW0 : ∀ g, W g < 10000000000000000) (hW : ∀ g, g < n → zcall 40 [.ref 73, .int (nI g), .ref 291] zRc S L = some (some (.long (lN (W g))), zRc, S, L)) : zcall 41 [.ref 73, .ref 291] zRc S L = some (some (.int (nI (zhv W (n - 1)))), zRc, S, L) := by
  have key : ∀ d k, k + 1 + d = n → zgo 41 4 [.ref 73, .ref 291, .int (nI (zhv W k)), .int (nI (k + 1))] [] zRc S L = some (some (.int (nI (zhv W (n - 1)))), zRc, S, L) := by
    intro d
    induction d with
    | zero =>
      intro k hd
      have hk : k = n - 1 := by omega
      rw [s41_4]
      simp (config := {maxSteps := 1000000}) (disch := omega) only [↓reduceIte, Int32.reduceLT, Int32.reduceLE, Int32.reduceToNatClampNeg, Int32.reduceAdd, Int32.reduceSub, Int32.reduceMul, Nat.reduceLeDiff, zEL, zup_ne, zup_eq, zT0, zT1, zT2, if_true, if_false, zneq_f, true_and, and_true, false_and, and_false, zKL, eq_self, Nat.reduceEqDiff, zite0, ite_not, zaddr, zaddl, zputr, zsb1, zsb2, zsb0, zsbm, znm1, gM, s41_5, s41_6, s41_9, s41_12, s41_13, s41_14, s41_15, s41_18, s41_19, s41_20, s41_21, s41_24, s41_25, s41_28, s41_29, s41_30, s41_33, s41_36, s41_37, hn]
      rw [hk]
    | succ d ih =>
      intro k hd
      have w1 := hW (k + 1) (by omega)
      have hb := @zhv_le W k
      have w2 := hW (zhv W k) (by omega)
      have z := zlc_le (hW0 (k + 1)) (hW0 (zhv W k))
      have := ih (k + 1) (by omega)
      rw [show zhv W (k + 1) = if W (zhv W k) < W (k + 1) then k + 1 else zhv W k from rfl] at this
      rw [← this, s41_4]
      by_cases hc : W (zhv W k) < W (k + 1)
      · rw [if_pos hc]
        simp (config := {maxSteps := 1000000}) (disch := omega) only [↓reduceIte, Int32.reduceLT, Int32.reduceLE, Int32.reduceToNatClampNeg, Int32.reduceAdd, Int32.reduceSub, Int32.reduceMul, Nat.reduceLeDiff, zEL, zup_ne, zup_eq, zT0, zT1, zT2, if_true, if_false, zneq_f, true_and, and_true, false_and, and_false, zKL, eq_self, Nat.reduceEqDiff, zite0, ite_not, zaddr, zaddl, zputr, zsb1, zsb2, zsb0, zsbm, znm1, gM, s41_5, s41_6, s41_9, s41_12, s41_13, s41_14, s41_15, s41_18, s41_19, s41_20, s41_21, s41_24, s41_25, s41_28, s41_29, s41_30, s41_33, s41_36, s41_37, hn, w1, w2, z]
      · rw [if_neg hc]
        simp (config := {maxSteps := 1000000}) (disch := omega) only [↓reduceIte, Int32.reduceLT, Int32.reduceLE, Int32.reduceToNatClampNeg, Int32.reduceAdd, Int32.reduceSub, Int32.reduceMul, Nat.reduceLeDiff, zEL, zup_ne, zup_eq, zT0, zT1, zT2, if_true, if_false, zneq_f, true_and, and_true, false_and, and_false, zKL, eq_self, Nat.reduceEqDiff, zite0, ite_not, zaddr, zaddl, zputr, zsb1, zsb2, zsb0, zsbm, znm1, gM, s41_5, s41_6, s41_9, s41_12, s41_13, s41_14, s41_15, s41_18, s41_19, s41_20, s41_21, s41_24, s41_25, s41_28, s41_29, s41_30, s41_33, s41_36, s41_37, hn, w1, w2, z]
  have := key (n - 1) 0 (by omega)
  unfold zcall
  simp (config := {maxSteps := 1000000}) (disch := omega) only [↓reduceIte, Int32.reduceLT, Int32.reduceLE, Int32.reduceToNatClampNeg, Int32.reduceAdd, Int32.reduceSub, Int32.reduceMul, Nat.reduceLeDiff, zEL, zup_ne, zup_eq, zT0, zT1, zT2, if_true, if_false, zneq_f, true_and, and_true, false_and, and_false, zKL, eq_self, Nat.reduceEqDiff, zite0, ite_not, zaddr, zaddl, zputr, zsb1, zsb2, zsb0, zsbm, znm1, ze_41, s41_0, s41_1, s41_2, s41_3]
  exact this
theorem t286 {n : Nat} {W : Nat → Nat} (hn0 : 1 ≤ n) (hn4 : n ≤ 4) (hn : Sm 11 12 = nI n) (hW0 : ∀ g, W g < 10000000000000000) (hW : ∀ g, g < n → zcall 284 [.ref 0, .int (nI g)] (zRm1 rd) Sm Lm = some (some (.long (lN (W g))), zRm1 rd, Sm, Lm)) : zcall 286 [.ref 0] (zRm1 rd) Sm Lm = some (some (.int (nI (zhv W (n - 1)))), zRm1 rd, Sm, Lm) := by
  have key : ∀ d k, k + 1 + d = n → zgo 286 4 [.ref 0, .int (nI (zhv W k)), .int (nI (k + 1))] [] (zRm1 rd) Sm Lm = some (some (.int (nI (zhv W (n - 1)))), zRm1 rd, Sm, Lm) := by
    intro d
    induction d with
    | zero =>
      intro k hd
      have hk : k = n - 1 := by omega
      rw [s286_4]
      simp (config := {maxSteps := 1000000}) (disch := omega) only [↓reduceIte, Int32.reduceLT, Int32.reduceLE, Int32.reduceToNatClampNeg, Int32.reduceAdd, Int32.reduceSub, Int32.reduceMul, Nat.reduceLeDiff, zEL, zup_ne, zup_eq, zT0, zT1, zT2, if_true, if_false, zneq_f, true_and, and_true, false_and, and_false, zKL, eq_self, Nat.reduceEqDiff, zite0, ite_not, zaddr, zaddl, zputr, zsb1, zsb2, zsb0, zsbm, znm1, layM1, s286_5, s286_6, s286_9, s286_12, s286_15, s286_16, s286_17, s286_20, s286_21, s286_22, s286_25, s286_26, s286_29, s286_30, s286_31, s286_34, s286_37, s286_38, hn]
      rw [hk]
    | succ d ih =>
      intro k hd
      have w1 := hW (k + 1) (by omega)
      have hb := @zhv_le W k
      have w2 := hW (zhv W k) (by omega)
      have z := zlc_le (hW0 (k + 1)) (hW0 (zhv W k))
      have := ih (k + 1) (by omega)
      rw [show zhv W (k + 1) = if W (zhv W k) < W (k + 1) then k + 1 else zhv W k from rfl] at this
      rw [← this, s286_4]
      by_cases hc : W (zhv W k) < W (k + 1)
      · rw [if_pos hc]
        simp (config := {maxSteps := 1000000}) (disch := omega) only [↓reduceIte, Int32.reduceLT, Int32.reduceLE, Int32.reduceToNatClampNeg, Int32.reduceAdd, Int32.reduceSub, Int32.reduceMul, Nat.reduceLeDiff, zEL, zup_ne, zup_eq, zT0, zT1, zT2, if_true, if_false, zneq_f, true_and, and_true, false_and, and_false, zKL, eq_self, Nat.reduceEqDiff, zite0, ite_not, zaddr, zaddl, zputr, zsb1, zsb2, zsb0, zsbm, znm1, layM1, s286_5, s286_6, s286_9, s286_12, s286_15, s286_16, s286_17, s286_20, s286_21, s286_22, s286_25, s286_26, s286_29, s286_30, s286_31, s286_34, s286_37, s286_38, hn, w1, w2, z]
      · rw [if_neg hc]
        simp (config := {maxSteps := 1000000}) (disch := omega) only [↓reduceIte, Int32.reduceLT, Int32.reduceLE, Int32.reduceToNatClampNeg, Int32.reduceAdd, Int32.reduceSub, Int32.reduceMul, Nat.reduceLeDiff, zEL, zup_ne, zup_eq, zT0, zT1, zT2, if_true, if_false, zneq_f, true_and, and_true, false_and, and_false, zKL, eq_self, Nat.reduceEqDiff, zite0, ite_not, zaddr, zaddl, zputr, zsb1, zsb2, zsb0, zsbm, znm1, layM1, s286_5, s286_6, s286_9, s286_12, s286_15, s286_16, s286_17, s286_20, s286_21, s286_22, s286_25, s286_26, s286_29, s286_30, s286_31, s286_34, s286_37, s286_38, hn, w1, w2, z]
  have := key (n - 1) 0 (by omega)
  unfold zcall
  simp (config := {maxSteps := 1000000}) (disch := omega) only [↓reduceIte, Int32.reduceLT, Int32.reduceLE, Int32.reduceToNatClampNeg, Int32.reduceAdd, Int32.reduceSub, Int32.reduceMul, Nat.reduceLeDiff, zEL, zup_ne, zup_eq, zT0, zT1, zT2, if_true, if_false, zneq_f, true_and, and_true, false_and, and_false, zKL, eq_self, Nat.reduceEqDiff, zite0, ite_not, zaddr, zaddl, zputr, zsb1, zsb2, zsb0, zsbm, znm1, ze_286, s286_0, s286_1, s286_2, s286_3]
  exact this
theorem m_143 (h : zTM c S Sm) : ∃ w : Int32, ∃ S' Sm' : zS, zcall 143 [.ref 0] zRc S L = some (some (.int w), zRc, S', L) ∧ zcall 287 [.ref 0] (zRm1 rd) Sm Lm = some (some (.int w), zRm1 rd, Sm', Lm) ∧ zTM c S' Sm' := by
  obtain ⟨X, hX⟩ : ∃ X, X = zup Sm 0 0 0 := ⟨_, rfl⟩
  have h' := zTM_t (v := 0) h
  rw [← hX] at h'
  have b1 := h.2.1
  have hc6 : c 6 ≤ 4 := h'.2.2.1.1.2.2.2.2.2.2.2.2
  have a0 : S 73 3 = nI (c 6) := h'.2.2.1.2.1.2.2.2.2.2.2
  have m0 : X 11 12 = nI (c 6) := h'.2.2.1.2.2.1.2.2.2.2.2.2
  by_cases h0 : c 6 = 0
  · rw [h0] at a0 m0
    refine ⟨-1, _, _, ?_, ?_, zTM_d 6 (by decide) h'⟩ <;> unfold zcall
    · simp (config := {maxSteps := 1000000}) (disch := omega) only [↓reduceIte, Int32.reduceLT, Int32.reduceLE, Int32.reduceToNatClampNeg, Int32.reduceAdd, Int32.reduceSub, Int32.reduceMul, Nat.reduceLeDiff, zEL, zup_ne, zup_eq, zT0, zT1, zT2, if_true, if_false, zneq_f, true_and, and_true, false_and, and_false, zKL, eq_self, Nat.reduceEqDiff, zite0, ite_not, zaddr, zaddl, zputr, zsb1, zsb2, zsb0, zsbm, znm1, gX, gM, g168, tEC, S143, b1, a0]
    · simp (config := {maxSteps := 1000000}) (disch := omega) only [↓reduceIte, Int32.reduceLT, Int32.reduceLE, Int32.reduceToNatClampNeg, Int32.reduceAdd, Int32.reduceSub, Int32.reduceMul, Nat.reduceLeDiff, zEL, zup_ne, zup_eq, zT0, zT1, zT2, if_true, if_false, zneq_f, true_and, and_true, false_and, and_false, zKL, eq_self, Nat.reduceEqDiff, zite0, ite_not, zaddr, zaddl, zputr, zsb1, zsb2, zsb0, zsbm, znm1, layM1, tEM1, S287, ← hX, m0]
  · obtain ⟨W, hW0, hW⟩ := tlik (L := L) (Lm := Lm) (rd := rd) h'.2.2.1 h'.2.2.2.2.2.1
    have k1 := t41 (by omega) hc6 a0 hW0 (fun g hg => (hW g hg).1)
    have k2 := t286 (by omega) hc6 m0 hW0 (fun g hg => (hW g hg).2)
    refine ⟨nI (zhv W (c 6 - 1)), _, _, ?_, ?_, zTM_d 0 (by decide) h'⟩ <;> unfold zcall
    · simp (config := {maxSteps := 1000000}) (disch := omega) only [↓reduceIte, Int32.reduceLT, Int32.reduceLE, Int32.reduceToNatClampNeg, Int32.reduceAdd, Int32.reduceSub, Int32.reduceMul, Nat.reduceLeDiff, zEL, zup_ne, zup_eq, zT0, zT1, zT2, if_true, if_false, zneq_f, true_and, and_true, false_and, and_false, zKL, eq_self, Nat.reduceEqDiff, zite0, ite_not, zaddr, zaddl, zputr, zsb1, zsb2, zsb0, zsbm, znm1, gX, gM, g168, tEC, S143, b1, a0, k1]
    · simp (config := {maxSteps := 1000000}) (disch := omega) only [↓reduceIte, Int32.reduceLT, Int32.reduceLE, Int32.reduceToNatClampNeg, Int32.reduceAdd, Int32.reduceSub, Int32.reduceMul, Nat.reduceLeDiff, zEL, zup_ne, zup_eq, zT0, zT1, zT2, if_true, if_false, zneq_f, true_and, and_true, false_and, and_false, zKL, eq_self, Nat.reduceEqDiff, zite0, ite_not, zaddr, zaddl, zputr, zsb1, zsb2, zsb0, zsbm, znm1, layM1, tEM1, S287, ← hX, m0, k2]
theorem m_144 (h : zTM c S Sm) : ∃ w : Int32, ∃ S' Sm' : zS, zcall 144 [.ref 0] zRc S L = some (some (.int w), zRc, S', L) ∧ zcall 288 [.ref 0] (zRm1 rd) Sm Lm = some (some (.int w), zRm1 rd, Sm', Lm) ∧ zTM c S' Sm' := by
  obtain ⟨X, hX⟩ : ∃ X, X = zup Sm 0 0 0 := ⟨_, rfl⟩
  have h' := zTM_t (v := 0) h
  rw [← hX] at h'
  have b1 := h.2.1
  have hc6 : c 6 ≤ 4 := h'.2.2.1.1.2.2.2.2.2.2.2.2
  have a0 : S 73 3 = nI (c 6) := h'.2.2.1.2.1.2.2.2.2.2.2
  have m0 : X 11 12 = nI (c 6) := h'.2.2.1.2.2.1.2.2.2.2.2.2
  by_cases h0 : c 6 = 0
  · rw [h0] at a0 m0
    refine ⟨-1, _, _, ?_, ?_, zTM_d 6 (by decide) h'⟩ <;> unfold zcall
    · simp (config := {maxSteps := 1000000}) (disch := omega) only [↓reduceIte, Int32.reduceLT, Int32.reduceLE, Int32.reduceToNatClampNeg, Int32.reduceAdd, Int32.reduceSub, Int32.reduceMul, Nat.reduceLeDiff, zEL, zup_ne, zup_eq, zT0, zT1, zT2, if_true, if_false, zneq_f, true_and, and_true, false_and, and_false, zKL, eq_self, Nat.reduceEqDiff, zite0, ite_not, zaddr, zaddl, zputr, zsb1, zsb2, zsb0, zsbm, znm1, gX, gM, g168, tEC, S144, b1, a0]
    · simp (config := {maxSteps := 1000000}) (disch := omega) only [↓reduceIte, Int32.reduceLT, Int32.reduceLE, Int32.reduceToNatClampNeg, Int32.reduceAdd, Int32.reduceSub, Int32.reduceMul, Nat.reduceLeDiff, zEL, zup_ne, zup_eq, zT0, zT1, zT2, if_true, if_false, zneq_f, true_and, and_true, false_and, and_false, zKL, eq_self, Nat.reduceEqDiff, zite0, ite_not, zaddr, zaddl, zputr, zsb1, zsb2, zsb0, zsbm, znm1, layM1, tEM1, S288, ← hX, m0]
  · obtain ⟨W, hW0, hW⟩ := tlik (L := L) (Lm := Lm) (rd := rd) h'.2.2.1 h'.2.2.2.2.2.1
    have k1 := t41 (by omega) hc6 a0 hW0 (fun g hg => (hW g hg).1)
    have k2 := t286 (by omega) hc6 m0 hW0 (fun g hg => (hW g hg).2)
    have hg := @zhv_le W (c 6 - 1)
    generalize zhv W (c 6 - 1) = g at k1 k2 hg
    obtain ⟨w, f, hi, hu⟩ := zgu_of h'.2.2.1 (show g < c 6 by omega)
    have t0 := t39 (L := L) (Lm := Lm) (rd := rd) (show g < 4 by omega) hu (a := 0) (by omega)
    have t1 := t39 (L := L) (Lm := Lm) (rd := rd) (show g < 4 by omega) hu (a := 1) (by omega)
    have t2 := t39 (L := L) (Lm := Lm) (rd := rd) (show g < 4 by omega) hu (a := 2) (by omega)
    have l0 := @ztn_le f hi 0 hu.2.1
    have l1 := @ztn_le f hi 1 hu.2.1
    have l2 := @ztn_le f hi 2 hu.2.1
    generalize ztn f hi 0 = x0 at t0 l0
    generalize ztn f hi 1 = x1 at t1 l1
    generalize ztn f hi 2 = x2 at t2 l2
    obtain ⟨c0, m0'⟩ := t0
    obtain ⟨c1, m1'⟩ := t1
    obtain ⟨c2, m2'⟩ := t2
    have c0 : zcall 39 [.ref 73, .int (nI g), .int 0] zRc S L = _ := c0
    have c1 : zcall 39 [.ref 73, .int (nI g), .int 1] zRc S L = _ := c1
    have c2 : zcall 39 [.ref 73, .int (nI g), .int 2] zRc S L = _ := c2
    have m0' : zcall 283 [.ref 0, .int (nI g), .int 0] (zRm1 rd) X Lm = _ := m0'
    have m1' : zcall 283 [.ref 0, .int (nI g), .int 1] (zRm1 rd) X Lm = _ := m1'
    have m2' : zcall 283 [.ref 0, .int (nI g), .int 2] (zRm1 rd) X Lm = _ := m2'
    have fin : ∀ v : Int32, zcall 42 [.ref 73, .int (nI g)] zRc S L = some (some (.int v), zRc, S, L) → zgo 288 35 [.ref 0, .retAddr 0, .retAddr 0] [] (zRm1 rd) X Lm = zgo 288 73 [.ref 0, .int v, .int 3] [] (zRm1 rd) X Lm → ∃ w : Int32, ∃ S' Sm' : zS, zcall 144 [.ref 0] zRc S L = some (some (.int w), zRc, S', L) ∧ zcall 288 [.ref 0] (zRm1 rd) Sm Lm = some (some (.int w), zRm1 rd, Sm', Lm) ∧ zTM c S' Sm' := fun v k3 k4 => by
      refine ⟨v, _, _, ?_, ?_, zTM_d 0 (by decide) h'⟩ <;> unfold zcall
      · simp (config := {maxSteps := 1000000}) (disch := omega) only [↓reduceIte, Int32.reduceLT, Int32.reduceLE, Int32.reduceToNatClampNeg, Int32.reduceAdd, Int32.reduceSub, Int32.reduceMul, Nat.reduceLeDiff, zEL, zup_ne, zup_eq, zT0, zT1, zT2, if_true, if_false, zneq_f, true_and, and_true, false_and, and_false, zKL, eq_self, Nat.reduceEqDiff, zite0, ite_not, zaddr, zaddl, zputr, zsb1, zsb2, zsb0, zsbm, znm1, gX, gM, g168, tEC, S144, b1, a0, k1, k3]
      · simp (config := {maxSteps := 1000000}) (disch := omega) only [↓reduceIte, Int32.reduceLT, Int32.reduceLE, Int32.reduceToNatClampNeg, Int32.reduceAdd, Int32.reduceSub, Int32.reduceMul, Nat.reduceLeDiff, zEL, zup_ne, zup_eq, zT0, zT1, zT2, if_true, if_false, zneq_f, true_and, and_true, false_and, and_false, zKL, eq_self, Nat.reduceEqDiff, zite0, ite_not, zaddr, zaddl, zputr, zsb1, zsb2, zsb0, zsbm, znm1, layM1, tEM1, ze_288, s288_0, s288_1, s288_2, s288_5, s288_6, s288_9, s288_9N, s288_12, s288_13, s288_14, s288_17, s288_18, s288_19, s288_22, s288_25, s288_28, s288_29, s288_31, s288_34, ← hX, m0]
        rw [k4]
        simp (config := {maxSteps := 1000000}) (disch := omega) only [↓reduceIte, Int32.reduceLT, Int32.reduceLE, Int32.reduceToNatClampNeg, Int32.reduceAdd, Int32.reduceSub, Int32.reduceMul, Nat.reduceLeDiff, zEL, zup_ne, zup_eq, zT0, zT1, zT2, if_true, if_false, zneq_f, true_and, and_true, false_and, and_false, zKL, eq_self, Nat.reduceEqDiff, zite0, ite_not, zaddr, zaddl, zputr, zsb1, zsb2, zsb0, zsbm, znm1, layM1, tEM1, s288_73, s288_74, s288_75, s288_78]
    by_cases h1 : x0 < x1
    · by_cases h2 : x1 < x2
      · refine fin 2 ?_ ?_
        · unfold zcall
          simp (config := {maxSteps := 1000000}) (disch := omega) only [↓reduceIte, Int32.reduceLT, Int32.reduceLE, Int32.reduceToNatClampNeg, Int32.reduceAdd, Int32.reduceSub, Int32.reduceMul, Nat.reduceLeDiff, zEL, zup_ne, zup_eq, zT0, zT1, zT2, if_true, if_false, zneq_f, true_and, and_true, false_and, and_false, zKL, eq_self, Nat.reduceEqDiff, zite0, ite_not, zaddr, zaddl, zputr, zsb1, zsb2, zsb0, zsbm, znm1, gM, S42, s42_4, c0, c1, c2]
        · simp (config := {maxSteps := 1000000}) (disch := omega) only [↓reduceIte, Int32.reduceLT, Int32.reduceLE, Int32.reduceToNatClampNeg, Int32.reduceAdd, Int32.reduceSub, Int32.reduceMul, Nat.reduceLeDiff, zEL, zup_ne, zup_eq, zT0, zT1, zT2, if_true, if_false, zneq_f, true_and, and_true, false_and, and_false, zKL, eq_self, Nat.reduceEqDiff, zite0, ite_not, zaddr, zaddl, zputr, zsb1, zsb2, zsb0, zsbm, znm1, layM1, s288_35, s288_36, s288_37, s288_38, s288_39, s288_40, s288_41, s288_44, s288_45, s288_46, s288_49, s288_50, s288_53, s288_54, s288_55, s288_58, s288_59, s288_62, s288_65, s288_66, s288_67, s288_70, k2, m0', m1', m2']
      · refine fin 1 ?_ ?_
        · unfold zcall
          simp (config := {maxSteps := 1000000}) (disch := omega) only [↓reduceIte, Int32.reduceLT, Int32.reduceLE, Int32.reduceToNatClampNeg, Int32.reduceAdd, Int32.reduceSub, Int32.reduceMul, Nat.reduceLeDiff, zEL, zup_ne, zup_eq, zT0, zT1, zT2, if_true, if_false, zneq_f, true_and, and_true, false_and, and_false, zKL, eq_self, Nat.reduceEqDiff, zite0, ite_not, zaddr, zaddl, zputr, zsb1, zsb2, zsb0, zsbm, znm1, gM, S42, s42_4, c0, c1, c2]
        · simp (config := {maxSteps := 1000000}) (disch := omega) only [↓reduceIte, Int32.reduceLT, Int32.reduceLE, Int32.reduceToNatClampNeg, Int32.reduceAdd, Int32.reduceSub, Int32.reduceMul, Nat.reduceLeDiff, zEL, zup_ne, zup_eq, zT0, zT1, zT2, if_true, if_false, zneq_f, true_and, and_true, false_and, and_false, zKL, eq_self, Nat.reduceEqDiff, zite0, ite_not, zaddr, zaddl, zputr, zsb1, zsb2, zsb0, zsbm, znm1, layM1, s288_35, s288_36, s288_37, s288_38, s288_39, s288_40, s288_41, s288_44, s288_45, s288_46, s288_49, s288_50, s288_53, s288_54, s288_55, s288_58, s288_59, s288_62, s288_65, s288_66, s288_67, s288_70, k2, m0', m1', m2']
    · by_cases h2 : x0 < x2
      · refine fin 2 ?_ ?_
        · unfold zcall
          simp (config := {maxSteps := 1000000}) (disch := omega) only [↓reduceIte, Int32.reduceLT, Int32.reduceLE, Int32.reduceToNatClampNeg, Int32.reduceAdd, Int32.reduceSub, Int32.reduceMul, Nat.reduceLeDiff, zEL, zup_ne, zup_eq, zT0, zT1, zT2, if_true, if_false, zneq_f, true_and, and_true, false_and, and_false, zKL, eq_self, Nat.reduceEqDiff, zite0, ite_not, zaddr, zaddl, zputr, zsb1, zsb2, zsb0, zsbm, znm1, gM, S42, s42_4, c0, c1, c2]
        · simp (config := {maxSteps := 1000000}) (disch := omega) only [↓reduceIte, Int32.reduceLT, Int32.reduceLE, Int32.reduceToNatClampNeg, Int32.reduceAdd, Int32.reduceSub, Int32.reduceMul, Nat.reduceLeDiff, zEL, zup_ne, zup_eq, zT0, zT1, zT2, if_true, if_false, zneq_f, true_and, and_true, false_and, and_false, zKL, eq_self, Nat.reduceEqDiff, zite0, ite_not, zaddr, zaddl, zputr, zsb1, zsb2, zsb0, zsbm, znm1, layM1, s288_35, s288_36, s288_37, s288_38, s288_39, s288_40, s288_41, s288_44, s288_45, s288_46, s288_49, s288_50, s288_53, s288_54, s288_55, s288_58, s288_59, s288_62, s288_65, s288_66, s288_67, s288_70, k2, m0', m1', m2']
      · refine fin 0 ?_ ?_
        · unfold zcall
          simp (config := {maxSteps := 1000000}) (disch := omega) only [↓reduceIte, Int32.reduceLT, Int32.reduceLE, Int32.reduceToNatClampNeg, Int32.reduceAdd, Int32.reduceSub, Int32.reduceMul, Nat.reduceLeDiff, zEL, zup_ne, zup_eq, zT0, zT1, zT2, if_true, if_false, zneq_f, true_and, and_true, false_and, and_false, zKL, eq_self, Nat.reduceEqDiff, zite0, ite_not, zaddr, zaddl, zputr, zsb1, zsb2, zsb0, zsbm, znm1, gM, S42, s42_4, c0, c1, c2]
        · simp (config := {maxSteps := 1000000}) (disch := omega) only [↓reduceIte, Int32.reduceLT, Int32.reduceLE, Int32.reduceToNatClampNeg, Int32.reduceAdd, Int32.reduceSub, Int32.reduceMul, Nat.reduceLeDiff, zEL, zup_ne, zup_eq, zT0, zT1, zT2, if_true, if_false, zneq_f, true_and, and_true, false_and, and_false, zKL, eq_self, Nat.reduceEqDiff, zite0, ite_not, zaddr, zaddl, zputr, zsb1, zsb2, zsb0, zsbm, znm1, layM1, s288_35, s288_36, s288_37, s288_38, s288_39, s288_40, s288_41, s288_44, s288_45, s288_46, s288_49, s288_50, s288_53, s288_54, s288_55, s288_58, s288_59, s288_62, s288_65, s288_66, s288_67, s288_70, k2, m0', m1', m2']
theorem m_141 {v : Int32} (h : zTM c S Sm) : ∃ w : Int32, ∃ S' Sm' : zS, zcall 141 [.ref 0, .int v] zRc S L = some (some (.int w), zRc, S', L) ∧ zcall 282 [.ref 0, .int v] (zRm1 rd) Sm Lm = some (some (.int w), zRm1 rd, Sm', Lm) ∧ zTM c S' Sm' := by
  obtain ⟨X, hX⟩ : ∃ X, X = zup Sm 0 0 0 := ⟨_, rfl⟩
  have h' := zTM_t (v := 0) h
  rw [← hX] at h'
  have b1 := h.2.1
  have hh := h'
  obtain ⟨⟨a1, a2, a3, n, hn, a4, a5, a6⟩, -, hM, hG, ⟨mk, hmk, m1, m2, m3⟩, ⟨se, hse, s1, s2, s3, s4⟩, ro⟩ := h'
  have b0 : c 0 ≤ 8 := hM.1.2.1
  have b2 : c 1 ≤ 8 := hM.1.2.2.1
  rcases zrng v 2 (by omega) 2 3 rfl rfl with ⟨a, ha, rfl, d1, d2, d3, d4, d5, d6⟩ | ⟨d1, d2, d3, d4, d5, d6⟩ | ⟨d1, d2, d3, d4, d5, d6⟩
  · by_cases hse14 : se = 14
    · subst hse14
      have e1 : (nI 14 < 14) = False := by decide
      have e2 : (nI 14 = 14) = True := by decide
      refine ⟨-1, _, _, ?_, ?_, zTM_d 3 (by decide) hh⟩ <;> unfold zcall
      · simp (config := {maxSteps := 1000000}) (disch := omega) only [↓reduceIte, Int32.reduceLT, Int32.reduceLE, Int32.reduceToNatClampNeg, Int32.reduceAdd, Int32.reduceSub, Int32.reduceMul, Nat.reduceLeDiff, zEL, zup_ne, zup_eq, zT0, zT1, zT2, if_true, if_false, zneq_f, true_and, and_true, false_and, and_false, zKL, eq_self, Nat.reduceEqDiff, zite0, ite_not, zaddr, zaddl, zputr, zsb1, zsb2, zsb0, zsbm, znm1, gX, g168, tEC, S141, b1, d1, d6, s1, e1]
      · simp (config := {maxSteps := 1000000}) (disch := omega) only [↓reduceIte, Int32.reduceLT, Int32.reduceLE, Int32.reduceToNatClampNeg, Int32.reduceAdd, Int32.reduceSub, Int32.reduceMul, Nat.reduceLeDiff, zEL, zup_ne, zup_eq, zT0, zT1, zT2, if_true, if_false, zneq_f, true_and, and_true, false_and, and_false, zKL, eq_self, Nat.reduceEqDiff, zite0, ite_not, zaddr, zaddl, zputr, zsb1, zsb2, zsb0, zsbm, znm1, layM1, tEM1, S282, ← hX, t173, d2, d3, s2, e2]
    · have e1 : (nI se < 14) = True := eq_true (by rw [show (14 : Int32) = nI 14 from rfl, znI_lt (by omega) (by omega)]; omega)
      have e2 : (nI se = 14) = False := eq_false (by rw [show (14 : Int32) = nI 14 from rfl, znI_inj (by omega) (by omega)]; omega)
      have cl : ∀ (b : Nat), zcnt (fun k => decide (X 10 k = nI b)) se ≤ se := fun b => by
        clear s3 s4 hse s1 s2 hse14 e1 e2
        induction se with
        | zero => exact Nat.le_refl _
        | succ m ih =>
          show zcnt (fun k => decide (X 10 k = nI b)) m + (if decide (X 10 m = nI b) = true then 1 else 0) ≤ m + 1
          have := ih
          split <;> omega
      have h1 : zTM c (zup (zup S 292 a (S 292 a + 1)) 0 12 (nI (se + 1))) (zup (zup X 10 se (nI a)) 0 28 (nI (se + 1))) := by
        have u1 : ∀ j k, j ≠ 292 → (j ≠ 0 ∨ k ≠ 12) → zup (zup S 292 a (S 292 a + 1)) 0 12 (nI (se + 1)) j k = S j k := fun j k h1 h2 => by rw [zup_ne (by omega), zup_ne (by omega)]
        have u2 : ∀ j k, j ≠ 10 → (j ≠ 0 ∨ k ≠ 28) → zup (zup X 10 se (nI a)) 0 28 (nI (se + 1)) j k = X j k := fun j k h1 h2 => by rw [zup_ne (by omega), zup_ne (by omega)]
        refine ⟨⟨?_, ?_, ?_, n, hn, ?_, ?_, fun i hi => ?_⟩, ?_, zMD_fr2 hM (fun j k hj => u1 j k (by omega) (by omega)) (fun j k hj => u2 j k (by omega) (by omega)), zGD_fr hG b0 b2 (fun j k hj => u1 j k (by omega) (by omega)) (fun k hk => u2 2 k (by omega) (by omega)), ⟨mk, hmk, ?_, ?_, fun m hm => zGD_fr (m3 m hm) b0 b2 (fun j k hj => u1 j k (by omega) (by omega)) (fun k hk => u2 3 _ (by omega) (by omega))⟩, ⟨se + 1, by omega, zup_eq rfl rfl, zup_eq rfl rfl, fun k hk => ?_, fun b hb => ?_⟩, zRO_fr ro (fun j k hj => u1 j k (by omega) (by omega))⟩
        · rw [u1 _ _ (by decide) (by decide), u2 _ _ (by decide) (by decide)]
          exact a1
        · rw [u1 _ _ (by decide) (by decide), u1 _ _ (by decide) (by decide), u2 _ _ (by decide) (by decide)]
          exact a2
        · rw [u1 _ _ (by decide) (by decide), u2 _ _ (by decide) (by decide)]
          exact a3
        · rw [u1 _ _ (by decide) (by decide)]
          exact a4
        · rw [u2 _ _ (by decide) (by decide)]
          exact a5
        · rw [u1 _ _ (by decide) (by omega), u2 _ _ (by decide) (by omega)]
          exact a6 i hi
        · rw [u1 _ _ (by decide) (by decide)]
          exact b1
        · rw [u1 _ _ (by decide) (by decide)]
          exact m1
        · rw [u2 _ _ (by decide) (by decide)]
          exact m2
        · rw [zup_ne (by omega)]
          by_cases e : k = se
          · rw [zup_eq rfl e]
            exact ⟨a, by omega, rfl⟩
          · rw [zup_ne (by omega)]
            exact s3 k (by omega)
        · have e10 : ∀ k, zup (zup X 10 se (nI a)) 0 28 (nI (se + 1)) 10 k = if k = se then nI a else X 10 k := fun k => by
            rw [zup_ne (by omega)]
            by_cases e : k = se
            · rw [zup_eq rfl e, if_pos e]
            · rw [zup_ne (by omega), if_neg e]
          have ec : ∀ m, m ≤ se → zcnt (fun k => decide (zup (zup X 10 se (nI a)) 0 28 (nI (se + 1)) 10 k = nI b)) m = zcnt (fun k => decide (X 10 k = nI b)) m := fun m hm => by
            induction m with
            | zero => rfl
            | succ m ih =>
              have h9 : zup (zup X 10 se (nI a)) 0 28 (nI (se + 1)) 10 m = X 10 m := by rw [e10, if_neg (by omega)]
              show zcnt _ m + (if decide (zup (zup X 10 se (nI a)) 0 28 (nI (se + 1)) 10 m = nI b) = true then 1 else 0) = zcnt _ m + (if decide (X 10 m = nI b) = true then 1 else 0)
              rw [ih (by omega), h9]
          show _ = nI (zcnt (fun k => decide (zup (zup X 10 se (nI a)) 0 28 (nI (se + 1)) 10 k = nI b)) se + (if decide (zup (zup X 10 se (nI a)) 0 28 (nI (se + 1)) 10 se = nI b) = true then 1 else 0))
          rw [ec se (Nat.le_refl _), e10, if_pos rfl, zup_ne (by omega)]
          simp only [decide_eq_true_eq, znI_inj (show a < 2147483648 by omega) (show b < 2147483648 by omega)]
          by_cases e : a = b
          · subst e
            rw [if_pos rfl, zup_eq rfl rfl, s4 a hb, znI_s]
          · rw [if_neg e, zup_ne (by omega), s4 b hb, Nat.add_zero]
      refine ⟨nI (se + 1), _, _, ?_, ?_, zTM_d 0 (by decide) h1⟩ <;> unfold zcall
      · have z := zaddr (S := S) (k := 292) (n := 3) (a := a) (v := 1) (by omega) (by omega)
        simp (config := {maxSteps := 1000000}) (disch := omega) only [↓reduceIte, Int32.reduceLT, Int32.reduceLE, Int32.reduceToNatClampNeg, Int32.reduceAdd, Int32.reduceSub, Int32.reduceMul, Nat.reduceLeDiff, zEL, zup_ne, zup_eq, zT0, zT1, zT2, if_true, if_false, zneq_f, true_and, and_true, false_and, and_false, zKL, eq_self, Nat.reduceEqDiff, zite0, ite_not, zaddr, zaddl, zputr, zsb1, zsb2, zsb0, zsbm, znm1, gX, g168, tEC, S141, b1, d1, d6, s1, e1, z]
      · simp (config := {maxSteps := 1000000}) (disch := omega) only [↓reduceIte, Int32.reduceLT, Int32.reduceLE, Int32.reduceToNatClampNeg, Int32.reduceAdd, Int32.reduceSub, Int32.reduceMul, Nat.reduceLeDiff, zEL, zup_ne, zup_eq, zT0, zT1, zT2, if_true, if_false, zneq_f, true_and, and_true, false_and, and_false, zKL, eq_self, Nat.reduceEqDiff, zite0, ite_not, zaddr, zaddl, zputr, zsb1, zsb2, zsb0, zsbm, znm1, layM1, tEM1, S282, ← hX, t173, d2, d3, s2, e2]
  · refine ⟨-1, _, _, ?_, ?_, zTM_d 2 (by decide) hh⟩ <;> unfold zcall
    · simp (config := {maxSteps := 1000000}) (disch := omega) only [↓reduceIte, Int32.reduceLT, Int32.reduceLE, Int32.reduceToNatClampNeg, Int32.reduceAdd, Int32.reduceSub, Int32.reduceMul, Nat.reduceLeDiff, zEL, zup_ne, zup_eq, zT0, zT1, zT2, if_true, if_false, zneq_f, true_and, and_true, false_and, and_false, zKL, eq_self, Nat.reduceEqDiff, zite0, ite_not, zaddr, zaddl, zputr, zsb1, zsb2, zsb0, zsbm, znm1, gX, g168, tEC, S141, b1, d1]
    · simp (config := {maxSteps := 1000000}) (disch := omega) only [↓reduceIte, Int32.reduceLT, Int32.reduceLE, Int32.reduceToNatClampNeg, Int32.reduceAdd, Int32.reduceSub, Int32.reduceMul, Nat.reduceLeDiff, zEL, zup_ne, zup_eq, zT0, zT1, zT2, if_true, if_false, zneq_f, true_and, and_true, false_and, and_false, zKL, eq_self, Nat.reduceEqDiff, zite0, ite_not, zaddr, zaddl, zputr, zsb1, zsb2, zsb0, zsbm, znm1, layM1, tEM1, S282, ← hX, t173, d2]
  · refine ⟨-1, _, _, ?_, ?_, zTM_d 2 (by decide) hh⟩ <;> unfold zcall
    · simp (config := {maxSteps := 1000000}) (disch := omega) only [↓reduceIte, Int32.reduceLT, Int32.reduceLE, Int32.reduceToNatClampNeg, Int32.reduceAdd, Int32.reduceSub, Int32.reduceMul, Nat.reduceLeDiff, zEL, zup_ne, zup_eq, zT0, zT1, zT2, if_true, if_false, zneq_f, true_and, and_true, false_and, and_false, zKL, eq_self, Nat.reduceEqDiff, zite0, ite_not, zaddr, zaddl, zputr, zsb1, zsb2, zsb0, zsbm, znm1, gX, g168, tEC, S141, b1, d1, d6]
    · simp (config := {maxSteps := 1000000}) (disch := omega) only [↓reduceIte, Int32.reduceLT, Int32.reduceLE, Int32.reduceToNatClampNeg, Int32.reduceAdd, Int32.reduceSub, Int32.reduceMul, Nat.reduceLeDiff, zEL, zup_ne, zup_eq, zT0, zT1, zT2, if_true, if_false, zneq_f, true_and, and_true, false_and, and_false, zKL, eq_self, Nat.reduceEqDiff, zite0, ite_not, zaddr, zaddl, zputr, zsb1, zsb2, zsb0, zsbm, znm1, layM1, tEM1, S282, ← hX, t173, d2, d3]
end ZTA
