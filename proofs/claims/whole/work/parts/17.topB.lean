/-! dash, runners: with a MATCH or without -/
section ZTB
variable {c : Nat → Nat} {S Sm : zS} {L Lm : zL} {rd : Value}
def zgr (c d : Nat) : Nat → Nat → Nat
  | 0, 0 => 1
  | 0, _ + 1 => 0
  | t + 1, 0 => zgr c d t 0 * d
  | t + 1, k + 1 => zgr c d t (k + 1) * d + zgr c d t k * c
def zbn : Nat → Nat → Nat
  | _, 0 => 1
  | 0, _ + 1 => 0
  | t + 1, k + 1 => zbn t k + zbn t (k + 1)
theorem zbn_0 {t k : Nat} (h : t < k) : zbn t k = 0 := by
  induction t generalizing k with
  | zero =>
    cases k with
    | zero => omega
    | succ k => rfl
  | succ t ih =>
    cases k with
    | zero => omega
    | succ k =>
      show zbn t k + zbn t (k + 1) = 0
      rw [ih (by omega), ih (by omega)]
theorem zgr_0 {c d t k : Nat} (h : t < k) : zgr c d t k = 0 := by
  induction t generalizing k with
  | zero =>
    cases k with
    | zero => omega
    | succ k => rfl
  | succ t ih =>
    cases k with
    | zero => omega
    | succ k =>
      show zgr c d t (k + 1) * d + zgr c d t k * c = 0
      rw [ih (by omega), ih (by omega), Nat.zero_mul, Nat.zero_mul]
theorem zgr_b {c d t k : Nat} (h : k ≤ t) : zgr c d t k = zbn t k * c ^ k * d ^ (t - k) := by
  induction t generalizing k with
  | zero =>
    have hk : k = 0 := by omega
    subst hk
    rfl
  | succ t ih =>
    cases k with
    | zero =>
      show zgr c d t 0 * d = _
      rw [ih (by omega)]
      show zbn t 0 * c ^ 0 * d ^ (t - 0) * d = zbn (t + 1) 0 * c ^ 0 * d ^ (t + 1 - 0)
      rw [show zbn t 0 = 1 by cases t <;> rfl, show zbn (t + 1) 0 = 1 from rfl, Nat.sub_zero, Nat.sub_zero, Nat.pow_succ, Nat.mul_assoc]
    | succ k =>
      show zgr c d t (k + 1) * d + zgr c d t k * c = (zbn t k + zbn t (k + 1)) * c ^ (k + 1) * d ^ (t + 1 - (k + 1))
      rw [show t + 1 - (k + 1) = t - k by omega, ih (show k ≤ t by omega)]
      by_cases hk : k + 1 ≤ t
      · rw [ih hk, show t - k = t - (k + 1) + 1 by omega, Nat.pow_succ c, Nat.pow_succ d]
        generalize d ^ (t - (k + 1)) = e
        generalize c ^ k = f
        rw [Nat.add_mul, Nat.add_mul, Nat.add_comm]
        simp only [Nat.mul_assoc, Nat.mul_comm, Nat.mul_left_comm]
      · rw [zgr_0 (by omega), zbn_0 (show t < k + 1 by omega), Nat.zero_mul, Nat.zero_add, Nat.add_zero, Nat.pow_succ]
        simp only [Nat.mul_assoc, Nat.mul_comm, Nat.mul_left_comm]
def zsu (f : Nat → Nat) : Nat → Nat
  | 0 => 0
  | k + 1 => zsu f k + f k
theorem zsu_0 {f : Nat → Nat} {m n : Nat} (hf : ∀ k, m ≤ k → f k = 0) (h : m ≤ n) : zsu f n = zsu f m := by
  induction n with
  | zero => rw [show m = 0 by omega]
  | succ n ih =>
    by_cases e : m = n + 1
    · rw [e]
    · show zsu f n + f n = _
      rw [hf n (by omega), Nat.add_zero, ih (by omega)]
/-- the choices, as the class makes them -/
def zch (th : Nat) : Nat → Nat
  | 0 => 1
  | h + 1 => zch th h * (th - h) / (h + 1)
theorem zch_b : ((List.range 9).all fun th => (List.range 10).all fun h => decide (zch th h ≤ 100) && (decide (th < h) || decide (zch th h = zbn th h))) = true := by decide +kernel
theorem zch_of {th h : Nat} (h1 : th ≤ 8) (h2 : h ≤ 9) : zch th h ≤ 100 ∧ (h ≤ th → zch th h = zbn th h) := by
  have := List.all_eq_true.mp (List.all_eq_true.mp zch_b th (List.mem_range.mpr (by omega))) h (List.mem_range.mpr (by omega))
  simp only [Bool.and_eq_true, Bool.or_eq_true, decide_eq_true_eq] at this
  exact ⟨this.1, fun h3 => by rcases this.2 with h4 | h4; omega; exact h4⟩
/-- DASH -/
def zda (c th : Nat) (run : Nat) : Nat := zsu (zgr c (100 - c) th) run
theorem t161 {x k : Nat} {R : List zE} (hx : x ≤ 100) (hk : k ≤ 8) : zcall 161 [.int (nI x), .int (nI k)] R S L = some (some (.long (lN (x ^ k))), R, S, L) := by
  have key : ∀ d i, i + d = k → zgo 161 5 [.int (nI x), .int (nI k), .long (lN (x ^ i)), .retAddr 0, .int (nI i)] [] R S L = some (some (.long (lN (x ^ k))), R, S, L) := by
    intro d
    induction d with
    | zero =>
      intro i hd
      have hi : i = k := by omega
      subst hi
      rw [s161_5]
      simp (config := {maxSteps := 1000000}) (disch := omega) only [↓reduceIte, Int32.reduceLT, Int32.reduceLE, Int32.reduceToNatClampNeg, Int32.reduceAdd, Int32.reduceSub, Int32.reduceMul, Nat.reduceLeDiff, zEL, zup_ne, zup_eq, zT0, zT1, zT2, if_true, if_false, zneq_f, true_and, and_true, false_and, and_false, zKL, eq_self, Nat.reduceEqDiff, zite0, ite_not, zaddr, zaddl, zputr, zsb1, zsb2, zsb0, zsbm, znm1, s161_7, s161_8, s161_11, s161_12, s161_13, s161_14, s161_15, s161_16, s161_19, s161_22, s161_23]
    | succ d ih =>
      intro i hd
      have := ih (i + 1) (by omega)
      rw [Nat.pow_succ] at this
      have e : (nI x).toInt64 = lN x := zl_i2l (by omega)
      have e2 : lN (x ^ i) * lN x = lN (x ^ i * x) := zl_mul
      rw [← this, s161_5]
      simp (config := {maxSteps := 1000000}) (disch := omega) only [↓reduceIte, Int32.reduceLT, Int32.reduceLE, Int32.reduceToNatClampNeg, Int32.reduceAdd, Int32.reduceSub, Int32.reduceMul, Nat.reduceLeDiff, zEL, zup_ne, zup_eq, zT0, zT1, zT2, if_true, if_false, zneq_f, true_and, and_true, false_and, and_false, zKL, eq_self, Nat.reduceEqDiff, zite0, ite_not, zaddr, zaddl, zputr, zsb1, zsb2, zsb0, zsbm, znm1, s161_7, s161_8, s161_11, s161_12, s161_13, s161_14, s161_15, s161_16, s161_19, s161_22, s161_23, e, e2]
  have := key k 0 (by omega)
  unfold zcall
  simp (config := {maxSteps := 1000000}) (disch := omega) only [↓reduceIte, Int32.reduceLT, Int32.reduceLE, Int32.reduceToNatClampNeg, Int32.reduceAdd, Int32.reduceSub, Int32.reduceMul, Nat.reduceLeDiff, zEL, zup_ne, zup_eq, zT0, zT1, zT2, if_true, if_false, zneq_f, true_and, and_true, false_and, and_false, zKL, eq_self, Nat.reduceEqDiff, zite0, ite_not, zaddr, zaddl, zputr, zsb1, zsb2, zsb0, zsbm, znm1, ze_161, s161_0, s161_1, s161_2, s161_3]
  exact this
theorem t160 {run th cc : Nat} {R : List zE} (hr : run ≤ 9) (ht : th ≤ 8) (hc : cc ≤ 100) : zcall 160 [.int (nI run), .int (nI th), .int (nI cc)] R S L = some (some (.long (lN (zda cc th run))), R, S, L) := by
  let f : Nat → Nat := zgr cc (100 - cc) th
  have fin : zsu f (min run (th + 1)) = zda cc th run := by
    by_cases h : run ≤ th + 1
    · rw [Nat.min_eq_left h]
      rfl
    · rw [Nat.min_eq_right (by omega)]
      exact (zsu_0 (fun k hk => zgr_0 (by omega)) (by omega)).symm
  have key : ∀ d h, h + d = min run (th + 1) → zgo 160 8 [.int (nI run), .int (nI th), .int (nI cc), .long (lN (zsu f h)), .retAddr 0, .long (lN (zch th h)), .retAddr 0, .int (nI h)] [] R S L = some (some (.long (lN (zda cc th run))), R, S, L) := by
    intro d
    induction d with
    | zero =>
      intro h hd
      rw [s160_8, ← fin]
      have hh : h = min run (th + 1) := by omega
      rw [← hh]
      by_cases hr1 : run ≤ h
      · simp (config := {maxSteps := 1000000}) (disch := omega) only [↓reduceIte, Int32.reduceLT, Int32.reduceLE, Int32.reduceToNatClampNeg, Int32.reduceAdd, Int32.reduceSub, Int32.reduceMul, Nat.reduceLeDiff, zEL, zup_ne, zup_eq, zT0, zT1, zT2, if_true, if_false, zneq_f, true_and, and_true, false_and, and_false, zKL, eq_self, Nat.reduceEqDiff, zite0, ite_not, zaddr, zaddl, zputr, zsb1, zsb2, zsb0, zsbm, znm1, s160_10, s160_11, s160_14, s160_16, s160_17, s160_20, s160_21, s160_23, s160_24, s160_26, s160_29, s160_30, s160_32, s160_33, s160_34, s160_35, s160_37, s160_38, s160_41, s160_42, s160_43, s160_44, s160_46, s160_47, s160_49, s160_50, s160_51, s160_52, s160_54, s160_55, s160_56, s160_57, s160_58, s160_60, s160_63, s160_66, s160_67]
      · have h2 : th < h := by omega
        simp (config := {maxSteps := 1000000}) (disch := omega) only [↓reduceIte, Int32.reduceLT, Int32.reduceLE, Int32.reduceToNatClampNeg, Int32.reduceAdd, Int32.reduceSub, Int32.reduceMul, Nat.reduceLeDiff, zEL, zup_ne, zup_eq, zT0, zT1, zT2, if_true, if_false, zneq_f, true_and, and_true, false_and, and_false, zKL, eq_self, Nat.reduceEqDiff, zite0, ite_not, zaddr, zaddl, zputr, zsb1, zsb2, zsb0, zsbm, znm1, s160_10, s160_11, s160_14, s160_16, s160_17, s160_20, s160_21, s160_23, s160_24, s160_26, s160_29, s160_30, s160_32, s160_33, s160_34, s160_35, s160_37, s160_38, s160_41, s160_42, s160_43, s160_44, s160_46, s160_47, s160_49, s160_50, s160_51, s160_52, s160_54, s160_55, s160_56, s160_57, s160_58, s160_60, s160_63, s160_66, s160_67]
    | succ d ih =>
      intro h hd
      obtain ⟨c1, c2⟩ := zch_of (th := th) (h := h) ht (by omega)
      have c2 := c2 (by omega)
      have p1 := t161 (S := S) (L := L) (R := R) (x := cc) (k := h) hc (by omega)
      have p2 := t161 (S := S) (L := L) (R := R) (x := 100 - cc) (k := th - h) (by omega) (by omega)
      have e1 := z100s hc
      have e2 : nI th - nI h = nI (th - h) := znI_sub (by omega)
      have e3 : (nI (th - h)).toInt64 = lN (th - h) := zl_i2l (by omega)
      have e4 : (nI (h + 1)).toInt64 = lN (h + 1) := zl_i2l (by omega)
      have e5 : lN (zch th h) * lN (cc ^ h) = lN (zch th h * cc ^ h) := zl_mul
      have e6 : lN (zch th h * cc ^ h) * lN ((100 - cc) ^ (th - h)) = lN (zch th h * cc ^ h * (100 - cc) ^ (th - h)) := zl_mul
      have e7 : lN (zsu f h) + lN (zch th h * cc ^ h * (100 - cc) ^ (th - h)) = lN (zsu f (h + 1)) := by
        rw [zl_add, c2]
        congr 1
        show zsu f h + _ = zsu f h + f h
        rw [show f h = _ from zgr_b (show h ≤ th by omega)]
      have e8 : lN (zch th h) * lN (th - h) = lN (zch th h * (th - h)) := zl_mul
      have hm : zch th h * (th - h) ≤ 800 := Nat.mul_le_mul c1 (show th - h ≤ 8 by omega)
      have e9 : lN (zch th h * (th - h)) / lN (h + 1) = lN (zch th (h + 1)) := by
        rw [zl_div (by omega) (by omega)]
        rfl
      have e10 : (lN (h + 1) = 0) = False := eq_false (fun h9 => by
        have := congrArg Int64.toInt h9
        rw [zl_ti (by omega), show (0 : Int64).toInt = 0 from rfl] at this
        omega)
      rw [← ih (h + 1) (by omega), s160_8]
      generalize zsu f (h + 1) = u at e7
      generalize zsu f h = u0 at e7
      simp (config := {maxSteps := 1000000}) (disch := omega) only [↓reduceIte, Int32.reduceLT, Int32.reduceLE, Int32.reduceToNatClampNeg, Int32.reduceAdd, Int32.reduceSub, Int32.reduceMul, Nat.reduceLeDiff, zEL, zup_ne, zup_eq, zT0, zT1, zT2, if_true, if_false, zneq_f, true_and, and_true, false_and, and_false, zKL, eq_self, Nat.reduceEqDiff, zite0, ite_not, zaddr, zaddl, zputr, zsb1, zsb2, zsb0, zsbm, znm1, s160_10, s160_11, s160_14, s160_16, s160_17, s160_20, s160_21, s160_23, s160_24, s160_26, s160_29, s160_30, s160_32, s160_33, s160_34, s160_35, s160_37, s160_38, s160_41, s160_42, s160_43, s160_44, s160_46, s160_47, s160_49, s160_50, s160_51, s160_52, s160_54, s160_55, s160_56, s160_57, s160_58, s160_60, s160_63, s160_66, s160_67, p1, p2, e1, e2, e3, e4, e5, e6, e7, e8, e9, e10]
  have := key (min run (th + 1)) 0 (by omega)
  unfold zcall
  simp (config := {maxSteps := 1000000}) (disch := omega) only [↓reduceIte, Int32.reduceLT, Int32.reduceLE, Int32.reduceToNatClampNeg, Int32.reduceAdd, Int32.reduceSub, Int32.reduceMul, Nat.reduceLeDiff, zEL, zup_ne, zup_eq, zT0, zT1, zT2, if_true, if_false, zneq_f, true_and, and_true, false_and, and_false, zKL, eq_self, Nat.reduceEqDiff, zite0, ite_not, zaddr, zaddl, zputr, zsb1, zsb2, zsb0, zsbm, znm1, ze_160, s160_0, s160_1, s160_2, s160_3, s160_5, s160_6]
  exact this
theorem t259_0 {run th cc : Nat} (hr : run ≤ 9) (ht : th ≤ 8) (hc : cc ≤ 100) : ∃ Y : zL, zcall 259 [.ref 0, .int (nI run), .int (nI th), .int (nI cc)] (zRm0 rd) Sm Lm = some (some (.long (lN (zda cc th run))), zRm0 rd, Sm, Y) := by
  let f : Nat → Nat → Nat := zgr cc (100 - cc)
  have e1 := z100s hc
  have key1 : ∀ d k, k + d = 9 → ∀ Y : zL, (∀ i, i < k → Y 7 i = lN (f 0 i)) → ∀ j1 j2, ∃ Y' : zL, zgo 259 3 [.ref 0, .int (nI run), .int (nI th), .int (nI cc), .int (nI k), j1, j2] [] (zRm0 rd) Sm Y = zgo 259 33 [.ref 0, .int (nI run), .int (nI th), .int (nI cc), .int (nI 9), j1, j2] [] (zRm0 rd) Sm Y' ∧ ∀ i, i < 9 → Y' 7 i = lN (f 0 i) := by
    intro d
    induction d with
    | zero =>
      intro k hd Y hY j1 j2
      have hk : k = 9 := by omega
      subst hk
      refine ⟨Y, ?_, hY⟩
      rw [s259_3]
      simp (config := {maxSteps := 1000000}) (disch := omega) only [↓reduceIte, Int32.reduceLT, Int32.reduceLE, Int32.reduceToNatClampNeg, Int32.reduceAdd, Int32.reduceSub, Int32.reduceMul, Nat.reduceLeDiff, zEL, zup_ne, zup_eq, zT0, zT1, zT2, if_true, if_false, zneq_f, true_and, and_true, false_and, and_false, zKL, eq_self, Nat.reduceEqDiff, zite0, ite_not, zaddr, zaddl, zputr, zsb1, zsb2, zsb0, zsbm, znm1, s259_5, s259_7, s259_10, s259_11, s259_14, s259_16, s259_18, s259_21, s259_22, s259_25, s259_26, s259_27, s259_30, show ((9 : Int32) ≤ nI 9) = True from eq_true (by decide)]
    | succ d ih =>
      intro k hd Y hY j1 j2
      have h9 : ((9 : Int32) ≤ nI k) = False := eq_false (by rw [show (9 : Int32) = nI 9 from rfl, znI_le (by omega) (by omega)]; omega)
      obtain ⟨Y', r1, r2⟩ := ih (k + 1) (by omega) (zup Y 7 k (lN (f 0 k))) (fun i hi => by
        by_cases e : i = k
        · rw [zup_eq rfl e, e]
        · rw [zup_ne (by omega)]
          exact hY i (by omega)) j1 j2
      refine ⟨Y', ?_, r2⟩
      rw [← r1, s259_3]
      cases k with
      | zero =>
        simp (config := {maxSteps := 1000000}) (disch := omega) only [↓reduceIte, Int32.reduceLT, Int32.reduceLE, Int32.reduceToNatClampNeg, Int32.reduceAdd, Int32.reduceSub, Int32.reduceMul, Nat.reduceLeDiff, zEL, zup_ne, zup_eq, zT0, zT1, zT2, if_true, if_false, zneq_f, true_and, and_true, false_and, and_false, zKL, eq_self, Nat.reduceEqDiff, zite0, ite_not, zaddr, zaddl, zputr, zsb1, zsb2, zsb0, zsbm, znm1, layM0, s259_5, s259_7, s259_10, s259_11, s259_14, s259_16, s259_18, s259_21, s259_22, s259_25, s259_26, s259_27, s259_30, h9]
        all_goals rfl
      | succ k =>
        simp (config := {maxSteps := 1000000}) (disch := omega) only [↓reduceIte, Int32.reduceLT, Int32.reduceLE, Int32.reduceToNatClampNeg, Int32.reduceAdd, Int32.reduceSub, Int32.reduceMul, Nat.reduceLeDiff, zEL, zup_ne, zup_eq, zT0, zT1, zT2, if_true, if_false, zneq_f, true_and, and_true, false_and, and_false, zKL, eq_self, Nat.reduceEqDiff, zite0, ite_not, zaddr, zaddl, zputr, zsb1, zsb2, zsb0, zsbm, znm1, layM0, s259_5, s259_7, s259_10, s259_11, s259_14, s259_16, s259_18, s259_21, s259_22, s259_25, s259_26, s259_27, s259_30, h9]
        all_goals rfl
  have inner : ∀ t k, k ≤ 9 → ∀ Y : zL, (∀ i, i < k → Y 7 i = lN (f t i)) → (∀ i, k ≤ i → i < 9 → Y 7 i = lN (f (t + 1) i)) → ∀ j2, ∃ Y' : zL, ∃ j1, zgo 259 46 [.ref 0, .int (nI run), .int (nI th), .int (nI cc), .int (nI t), .int (nI k - 1), j2] [] (zRm0 rd) Sm Y = zgo 259 99 [.ref 0, .int (nI run), .int (nI th), .int (nI cc), .int (nI t), j1, j2] [] (zRm0 rd) Sm Y' ∧ ∀ i, i < 9 → Y' 7 i = lN (f (t + 1) i) := by
    intro t k
    induction k with
    | zero =>
      intro hk Y h1 h2 j2
      refine ⟨Y, .int (-1), ?_, fun i hi => h2 i (by omega) hi⟩
      have hl : (-1 : Int32) < 0 := by decide
      rw [s259_46, zsb0]
      simp (config := {maxSteps := 1000000}) (disch := omega) only [↓reduceIte, Int32.reduceLT, Int32.reduceLE, Int32.reduceToNatClampNeg, Int32.reduceAdd, Int32.reduceSub, Int32.reduceMul, Nat.reduceLeDiff, zEL, zup_ne, zup_eq, zT0, zT1, zT2, if_true, if_false, zneq_f, true_and, and_true, false_and, and_false, zKL, eq_self, Nat.reduceEqDiff, zite0, ite_not, zaddr, zaddl, zputr, zsb1, zsb2, zsb0, zsbm, znm1, s259_48, s259_51, s259_52, s259_55, s259_57, s259_58, s259_61, s259_63, s259_64, s259_66, s259_67, s259_68, s259_69, s259_70, s259_72, s259_75, s259_76, s259_79, s259_81, s259_82, s259_83, s259_84, s259_85, s259_86, s259_87, s259_90, s259_91, s259_92, s259_93, s259_96, hl]
    | succ k ih =>
      intro hk Y h1 h2 j2
      obtain ⟨Y', j1, r1, r2⟩ := ih (by omega) (zup Y 7 k (lN (f (t + 1) k))) (fun i hi => by rw [zup_ne (by omega)]; exact h1 i (by omega)) (fun i h3 h4 => by
        by_cases e : i = k
        · rw [zup_eq rfl e, e]
        · rw [zup_ne (by omega)]
          exact h2 i (by omega) h4) j2
      refine ⟨Y', j1, ?_, r2⟩
      have y0 := h1 k (by omega)
      have e2 : (nI (100 - cc)).toInt64 = lN (100 - cc) := zl_i2l (by omega)
      have e3 : (nI cc).toInt64 = lN cc := zl_i2l (by omega)
      have e9 : nI k + -1 = nI k - 1 := by rw [Int32.sub_eq_add_neg]
      rw [← r1, s259_46, zsb1]
      cases k with
      | zero =>
        have e4 : lN (f t 0) * lN (100 - cc) = lN (f (t + 1) 0) := zl_mul
        have e5 : lN (f (t + 1) 0) + 0 = lN (f (t + 1) 0) := Int64.add_zero _
        simp (config := {maxSteps := 1000000}) (disch := omega) only [↓reduceIte, Int32.reduceLT, Int32.reduceLE, Int32.reduceToNatClampNeg, Int32.reduceAdd, Int32.reduceSub, Int32.reduceMul, Nat.reduceLeDiff, zEL, zup_ne, zup_eq, zT0, zT1, zT2, if_true, if_false, zneq_f, true_and, and_true, false_and, and_false, zKL, eq_self, Nat.reduceEqDiff, zite0, ite_not, zaddr, zaddl, zputr, zsb1, zsb2, zsb0, zsbm, znm1, layM0, s259_48, s259_51, s259_52, s259_55, s259_57, s259_58, s259_61, s259_63, s259_64, s259_66, s259_67, s259_68, s259_69, s259_70, s259_72, s259_75, s259_76, s259_79, s259_81, s259_82, s259_83, s259_84, s259_85, s259_86, s259_87, s259_90, s259_91, s259_92, s259_93, s259_96, y0, e1, e2, e4, e5, e9]
      | succ k =>
        have y1 := h1 k (by omega)
        have e4 : lN (f t (k + 1)) * lN (100 - cc) + lN (f t k) * lN cc = lN (f (t + 1) (k + 1)) := by
          rw [zl_mul, zl_mul, zl_add]
          rfl
        simp (config := {maxSteps := 1000000}) (disch := omega) only [↓reduceIte, Int32.reduceLT, Int32.reduceLE, Int32.reduceToNatClampNeg, Int32.reduceAdd, Int32.reduceSub, Int32.reduceMul, Nat.reduceLeDiff, zEL, zup_ne, zup_eq, zT0, zT1, zT2, if_true, if_false, zneq_f, true_and, and_true, false_and, and_false, zKL, eq_self, Nat.reduceEqDiff, zite0, ite_not, zaddr, zaddl, zputr, zsb1, zsb2, zsb0, zsbm, znm1, layM0, s259_48, s259_51, s259_52, s259_55, s259_57, s259_58, s259_61, s259_63, s259_64, s259_66, s259_67, s259_68, s259_69, s259_70, s259_72, s259_75, s259_76, s259_79, s259_81, s259_82, s259_83, s259_84, s259_85, s259_86, s259_87, s259_90, s259_91, s259_92, s259_93, s259_96, y0, y1, e1, e2, e3, e4, e9]
  have key2 : ∀ d t, t + d = th → ∀ Y : zL, (∀ i, i < 9 → Y 7 i = lN (f t i)) → ∀ j1 j2, ∃ Y' : zL, ∃ j1', zgo 259 36 [.ref 0, .int (nI run), .int (nI th), .int (nI cc), .int (nI t), j1, j2] [] (zRm0 rd) Sm Y = zgo 259 105 [.ref 0, .int (nI run), .int (nI th), .int (nI cc), .int (nI th), j1', j2] [] (zRm0 rd) Sm Y' ∧ ∀ i, i < 9 → Y' 7 i = lN (f th i) := by
    intro d
    induction d with
    | zero =>
      intro t hd Y hY j1 j2
      have hk : t = th := by omega
      subst hk
      refine ⟨Y, j1, ?_, hY⟩
      rw [s259_36]
      simp (config := {maxSteps := 1000000}) (disch := omega) only [↓reduceIte, Int32.reduceLT, Int32.reduceLE, Int32.reduceToNatClampNeg, Int32.reduceAdd, Int32.reduceSub, Int32.reduceMul, Nat.reduceLeDiff, zEL, zup_ne, zup_eq, zT0, zT1, zT2, if_true, if_false, zneq_f, true_and, and_true, false_and, and_false, zKL, eq_self, Nat.reduceEqDiff, zite0, ite_not, zaddr, zaddl, zputr, zsb1, zsb2, zsb0, zsbm, znm1, s259_38, s259_39, s259_42, s259_44]
    | succ d ih =>
      intro t hd Y hY j1 j2
      obtain ⟨Y1, j1', r1, r2⟩ := inner t 9 (by omega) Y hY (fun i h1 h2 => by omega) j2
      obtain ⟨Y2, j2', q1, q2⟩ := ih (t + 1) (by omega) Y1 r2 j1' j2
      refine ⟨Y2, j2', ?_, q2⟩
      rw [s259_36]
      have r1 : zgo 259 46 [.ref 0, .int (nI run), .int (nI th), .int (nI cc), .int (nI t), .int 8, j2] [] (zRm0 rd) Sm Y = _ := r1
      simp (config := {maxSteps := 1000000}) (disch := omega) only [↓reduceIte, Int32.reduceLT, Int32.reduceLE, Int32.reduceToNatClampNeg, Int32.reduceAdd, Int32.reduceSub, Int32.reduceMul, Nat.reduceLeDiff, zEL, zup_ne, zup_eq, zT0, zT1, zT2, if_true, if_false, zneq_f, true_and, and_true, false_and, and_false, zKL, eq_self, Nat.reduceEqDiff, zite0, ite_not, zaddr, zaddl, zputr, zsb1, zsb2, zsb0, zsbm, znm1, s259_38, s259_39, s259_42, s259_44]
      rw [r1, ← q1]
      simp (config := {maxSteps := 1000000}) (disch := omega) only [↓reduceIte, Int32.reduceLT, Int32.reduceLE, Int32.reduceToNatClampNeg, Int32.reduceAdd, Int32.reduceSub, Int32.reduceMul, Nat.reduceLeDiff, zEL, zup_ne, zup_eq, zT0, zT1, zT2, if_true, if_false, zneq_f, true_and, and_true, false_and, and_false, zKL, eq_self, Nat.reduceEqDiff, zite0, ite_not, zaddr, zaddl, zputr, zsb1, zsb2, zsb0, zsbm, znm1, s259_99, s259_102]
  have key3 : ∀ d k, k + d = run → ∀ Y : zL, (∀ i, i < 9 → Y 7 i = lN (f th i)) → zgo 259 111 [.ref 0, .int (nI run), .int (nI th), .int (nI cc), .long (lN (zsu (f th) k)), .retAddr 0, .int (nI k)] [] (zRm0 rd) Sm Y = some (some (.long (lN (zda cc th run))), zRm0 rd, Sm, Y) := by
    intro d
    induction d with
    | zero =>
      intro k hd Y hY
      have hk : k = run := by omega
      subst hk
      rw [s259_111]
      by_cases h9 : k = 9
      · subst h9
        simp (config := {maxSteps := 1000000}) (disch := omega) only [↓reduceIte, Int32.reduceLT, Int32.reduceLE, Int32.reduceToNatClampNeg, Int32.reduceAdd, Int32.reduceSub, Int32.reduceMul, Nat.reduceLeDiff, zEL, zup_ne, zup_eq, zT0, zT1, zT2, if_true, if_false, zneq_f, true_and, and_true, false_and, and_false, zKL, eq_self, Nat.reduceEqDiff, zite0, ite_not, zaddr, zaddl, zputr, zsb1, zsb2, zsb0, zsbm, znm1, layM0, s259_113, s259_115, s259_118, s259_120, s259_121, s259_124, s259_126, s259_127, s259_130, s259_132, s259_133, s259_134, s259_136, s259_139, s259_142, s259_144, show ((9 : Int32) ≤ nI 9) = True from eq_true (by decide)]
        all_goals rfl
      · have h9 : ((9 : Int32) ≤ nI k) = False := eq_false (by rw [show (9 : Int32) = nI 9 from rfl, znI_le (by omega) (by omega)]; omega)
        simp (config := {maxSteps := 1000000}) (disch := omega) only [↓reduceIte, Int32.reduceLT, Int32.reduceLE, Int32.reduceToNatClampNeg, Int32.reduceAdd, Int32.reduceSub, Int32.reduceMul, Nat.reduceLeDiff, zEL, zup_ne, zup_eq, zT0, zT1, zT2, if_true, if_false, zneq_f, true_and, and_true, false_and, and_false, zKL, eq_self, Nat.reduceEqDiff, zite0, ite_not, zaddr, zaddl, zputr, zsb1, zsb2, zsb0, zsbm, znm1, layM0, s259_113, s259_115, s259_118, s259_120, s259_121, s259_124, s259_126, s259_127, s259_130, s259_132, s259_133, s259_134, s259_136, s259_139, s259_142, s259_144, h9]
        all_goals rfl
    | succ d ih =>
      intro k hd Y hY
      have y0 := hY k (by omega)
      have h9 : ((9 : Int32) ≤ nI k) = False := eq_false (by rw [show (9 : Int32) = nI 9 from rfl, znI_le (by omega) (by omega)]; omega)
      have e : lN (zsu (f th) k) + lN (f th k) = lN (zsu (f th) (k + 1)) := zl_add
      rw [← ih (k + 1) (by omega) Y hY, s259_111]
      simp (config := {maxSteps := 1000000}) (disch := omega) only [↓reduceIte, Int32.reduceLT, Int32.reduceLE, Int32.reduceToNatClampNeg, Int32.reduceAdd, Int32.reduceSub, Int32.reduceMul, Nat.reduceLeDiff, zEL, zup_ne, zup_eq, zT0, zT1, zT2, if_true, if_false, zneq_f, true_and, and_true, false_and, and_false, zKL, eq_self, Nat.reduceEqDiff, zite0, ite_not, zaddr, zaddl, zputr, zsb1, zsb2, zsb0, zsbm, znm1, layM0, s259_113, s259_115, s259_118, s259_120, s259_121, s259_124, s259_126, s259_127, s259_130, s259_132, s259_133, s259_134, s259_136, s259_139, s259_142, s259_144, h9, y0, e]
  obtain ⟨Y1, r1, r2⟩ := key1 9 0 (by omega) Lm (fun i hi => by omega) (.retAddr 0) (.retAddr 0)
  obtain ⟨Y2, j1, q1, q2⟩ := key2 th 0 (by omega) Y1 r2 (.retAddr 0) (.retAddr 0)
  have p := key3 run 0 (by omega) Y2 q2
  refine ⟨Y2, ?_⟩
  rw [← p]
  have a1 : zcall 259 [.ref 0, .int (nI run), .int (nI th), .int (nI cc)] (zRm0 rd) Sm Lm = zgo 259 3 [.ref 0, .int (nI run), .int (nI th), .int (nI cc), .int (nI 0), .retAddr 0, .retAddr 0] [] (zRm0 rd) Sm Lm := by
    unfold zcall
    simp (config := {maxSteps := 1000000}) (disch := omega) only [↓reduceIte, Int32.reduceLT, Int32.reduceLE, Int32.reduceToNatClampNeg, Int32.reduceAdd, Int32.reduceSub, Int32.reduceMul, Nat.reduceLeDiff, zEL, zup_ne, zup_eq, zT0, zT1, zT2, if_true, if_false, zneq_f, true_and, and_true, false_and, and_false, zKL, eq_self, Nat.reduceEqDiff, zite0, ite_not, zaddr, zaddl, zputr, zsb1, zsb2, zsb0, zsbm, znm1, ze_259, s259_0, s259_1]
    all_goals rfl
  have a2 : zgo 259 33 [.ref 0, .int (nI run), .int (nI th), .int (nI cc), .int (nI 9), .retAddr 0, .retAddr 0] [] (zRm0 rd) Sm Y1 = zgo 259 36 [.ref 0, .int (nI run), .int (nI th), .int (nI cc), .int (nI 0), .retAddr 0, .retAddr 0] [] (zRm0 rd) Sm Y1 := by
    simp (config := {maxSteps := 1000000}) (disch := omega) only [↓reduceIte, Int32.reduceLT, Int32.reduceLE, Int32.reduceToNatClampNeg, Int32.reduceAdd, Int32.reduceSub, Int32.reduceMul, Nat.reduceLeDiff, zEL, zup_ne, zup_eq, zT0, zT1, zT2, if_true, if_false, zneq_f, true_and, and_true, false_and, and_false, zKL, eq_self, Nat.reduceEqDiff, zite0, ite_not, zaddr, zaddl, zputr, zsb1, zsb2, zsb0, zsbm, znm1, s259_33, s259_34]
    all_goals rfl
  rw [a1, r1, a2, q1]
  simp (config := {maxSteps := 1000000}) (disch := omega) only [↓reduceIte, Int32.reduceLT, Int32.reduceLE, Int32.reduceToNatClampNeg, Int32.reduceAdd, Int32.reduceSub, Int32.reduceMul, Nat.reduceLeDiff, zEL, zup_ne, zup_eq, zT0, zT1, zT2, if_true, if_false, zneq_f, true_and, and_true, false_and, and_false, zKL, eq_self, Nat.reduceEqDiff, zite0, ite_not, zaddr, zaddl, zputr, zsb1, zsb2, zsb0, zsbm, znm1, s259_105, s259_106, s259_108, s259_109]
  all_goals rfl
theorem t259_1 {run th cc : Nat} (hr : run ≤ 9) (ht : th ≤ 8) (hc : cc ≤ 100) : ∃ Y : zL, zcall 259 [.ref 0, .int (nI run), .int (nI th), .int (nI cc)] (zRm1 rd) Sm Lm = some (some (.long (lN (zda cc th run))), zRm1 rd, Sm, Y) := by
  let f : Nat → Nat → Nat := zgr cc (100 - cc)
  have e1 := z100s hc
  have key1 : ∀ d k, k + d = 9 → ∀ Y : zL, (∀ i, i < k → Y 7 i = lN (f 0 i)) → ∀ j1 j2, ∃ Y' : zL, zgo 259 3 [.ref 0, .int (nI run), .int (nI th), .int (nI cc), .int (nI k), j1, j2] [] (zRm1 rd) Sm Y = zgo 259 33 [.ref 0, .int (nI run), .int (nI th), .int (nI cc), .int (nI 9), j1, j2] [] (zRm1 rd) Sm Y' ∧ ∀ i, i < 9 → Y' 7 i = lN (f 0 i) := by
    intro d
    induction d with
    | zero =>
      intro k hd Y hY j1 j2
      have hk : k = 9 := by omega
      subst hk
      refine ⟨Y, ?_, hY⟩
      rw [s259_3]
      simp (config := {maxSteps := 1000000}) (disch := omega) only [↓reduceIte, Int32.reduceLT, Int32.reduceLE, Int32.reduceToNatClampNeg, Int32.reduceAdd, Int32.reduceSub, Int32.reduceMul, Nat.reduceLeDiff, zEL, zup_ne, zup_eq, zT0, zT1, zT2, if_true, if_false, zneq_f, true_and, and_true, false_and, and_false, zKL, eq_self, Nat.reduceEqDiff, zite0, ite_not, zaddr, zaddl, zputr, zsb1, zsb2, zsb0, zsbm, znm1, s259_5, s259_7, s259_10, s259_11, s259_14, s259_16, s259_18, s259_21, s259_22, s259_25, s259_26, s259_27, s259_30, show ((9 : Int32) ≤ nI 9) = True from eq_true (by decide)]
    | succ d ih =>
      intro k hd Y hY j1 j2
      have h9 : ((9 : Int32) ≤ nI k) = False := eq_false (by rw [show (9 : Int32) = nI 9 from rfl, znI_le (by omega) (by omega)]; omega)
      obtain ⟨Y', r1, r2⟩ := ih (k + 1) (by omega) (zup Y 7 k (lN (f 0 k))) (fun i hi => by
        by_cases e : i = k
        · rw [zup_eq rfl e, e]
        · rw [zup_ne (by omega)]
          exact hY i (by omega)) j1 j2
      refine ⟨Y', ?_, r2⟩
      rw [← r1, s259_3]
      cases k with
      | zero =>
        simp (config := {maxSteps := 1000000}) (disch := omega) only [↓reduceIte, Int32.reduceLT, Int32.reduceLE, Int32.reduceToNatClampNeg, Int32.reduceAdd, Int32.reduceSub, Int32.reduceMul, Nat.reduceLeDiff, zEL, zup_ne, zup_eq, zT0, zT1, zT2, if_true, if_false, zneq_f, true_and, and_true, false_and, and_false, zKL, eq_self, Nat.reduceEqDiff, zite0, ite_not, zaddr, zaddl, zputr, zsb1, zsb2, zsb0, zsbm, znm1, layM1, s259_5, s259_7, s259_10, s259_11, s259_14, s259_16, s259_18, s259_21, s259_22, s259_25, s259_26, s259_27, s259_30, h9]
        all_goals rfl
      | succ k =>
        simp (config := {maxSteps := 1000000}) (disch := omega) only [↓reduceIte, Int32.reduceLT, Int32.reduceLE, Int32.reduceToNatClampNeg, Int32.reduceAdd, Int32.reduceSub, Int32.reduceMul, Nat.reduceLeDiff, zEL, zup_ne, zup_eq, zT0, zT1, zT2, if_true, if_false, zneq_f, true_and, and_true, false_and, and_false, zKL, eq_self, Nat.reduceEqDiff, zite0, ite_not, zaddr, zaddl, zputr, zsb1, zsb2, zsb0, zsbm, znm1, layM1, s259_5, s259_7, s259_10, s259_11, s259_14, s259_16, s259_18, s259_21, s259_22, s259_25, s259_26, s259_27, s259_30, h9]
        all_goals rfl
  have inner : ∀ t k, k ≤ 9 → ∀ Y : zL, (∀ i, i < k → Y 7 i = lN (f t i)) → (∀ i, k ≤ i → i < 9 → Y 7 i = lN (f (t + 1) i)) → ∀ j2, ∃ Y' : zL, ∃ j1, zgo 259 46 [.ref 0, .int (nI run), .int (nI th), .int (nI cc), .int (nI t), .int (nI k - 1), j2] [] (zRm1 rd) Sm Y = zgo 259 99 [.ref 0, .int (nI run), .int (nI th), .int (nI cc), .int (nI t), j1, j2] [] (zRm1 rd) Sm Y' ∧ ∀ i, i < 9 → Y' 7 i = lN (f (t + 1) i) := by
    intro t k
    induction k with
    | zero =>
      intro hk Y h1 h2 j2
      refine ⟨Y, .int (-1), ?_, fun i hi => h2 i (by omega) hi⟩
      have hl : (-1 : Int32) < 0 := by decide
      rw [s259_46, zsb0]
      simp (config := {maxSteps := 1000000}) (disch := omega) only [↓reduceIte, Int32.reduceLT, Int32.reduceLE, Int32.reduceToNatClampNeg, Int32.reduceAdd, Int32.reduceSub, Int32.reduceMul, Nat.reduceLeDiff, zEL, zup_ne, zup_eq, zT0, zT1, zT2, if_true, if_false, zneq_f, true_and, and_true, false_and, and_false, zKL, eq_self, Nat.reduceEqDiff, zite0, ite_not, zaddr, zaddl, zputr, zsb1, zsb2, zsb0, zsbm, znm1, s259_48, s259_51, s259_52, s259_55, s259_57, s259_58, s259_61, s259_63, s259_64, s259_66, s259_67, s259_68, s259_69, s259_70, s259_72, s259_75, s259_76, s259_79, s259_81, s259_82, s259_83, s259_84, s259_85, s259_86, s259_87, s259_90, s259_91, s259_92, s259_93, s259_96, hl]
    | succ k ih =>
      intro hk Y h1 h2 j2
      obtain ⟨Y', j1, r1, r2⟩ := ih (by omega) (zup Y 7 k (lN (f (t + 1) k))) (fun i hi => by rw [zup_ne (by omega)]; exact h1 i (by omega)) (fun i h3 h4 => by
        by_cases e : i = k
        · rw [zup_eq rfl e, e]
        · rw [zup_ne (by omega)]
          exact h2 i (by omega) h4) j2
      refine ⟨Y', j1, ?_, r2⟩
      have y0 := h1 k (by omega)
      have e2 : (nI (100 - cc)).toInt64 = lN (100 - cc) := zl_i2l (by omega)
      have e3 : (nI cc).toInt64 = lN cc := zl_i2l (by omega)
      have e9 : nI k + -1 = nI k - 1 := by rw [Int32.sub_eq_add_neg]
      rw [← r1, s259_46, zsb1]
      cases k with
      | zero =>
        have e4 : lN (f t 0) * lN (100 - cc) = lN (f (t + 1) 0) := zl_mul
        have e5 : lN (f (t + 1) 0) + 0 = lN (f (t + 1) 0) := Int64.add_zero _
        simp (config := {maxSteps := 1000000}) (disch := omega) only [↓reduceIte, Int32.reduceLT, Int32.reduceLE, Int32.reduceToNatClampNeg, Int32.reduceAdd, Int32.reduceSub, Int32.reduceMul, Nat.reduceLeDiff, zEL, zup_ne, zup_eq, zT0, zT1, zT2, if_true, if_false, zneq_f, true_and, and_true, false_and, and_false, zKL, eq_self, Nat.reduceEqDiff, zite0, ite_not, zaddr, zaddl, zputr, zsb1, zsb2, zsb0, zsbm, znm1, layM1, s259_48, s259_51, s259_52, s259_55, s259_57, s259_58, s259_61, s259_63, s259_64, s259_66, s259_67, s259_68, s259_69, s259_70, s259_72, s259_75, s259_76, s259_79, s259_81, s259_82, s259_83, s259_84, s259_85, s259_86, s259_87, s259_90, s259_91, s259_92, s259_93, s259_96, y0, e1, e2, e4, e5, e9]
      | succ k =>
        have y1 := h1 k (by omega)
        have e4 : lN (f t (k + 1)) * lN (100 - cc) + lN (f t k) * lN cc = lN (f (t + 1) (k + 1)) := by
          rw [zl_mul, zl_mul, zl_add]
          rfl
        simp (config := {maxSteps := 1000000}) (disch := omega) only [↓reduceIte, Int32.reduceLT, Int32.reduceLE, Int32.reduceToNatClampNeg, Int32.reduceAdd, Int32.reduceSub, Int32.reduceMul, Nat.reduceLeDiff, zEL, zup_ne, zup_eq, zT0, zT1, zT2, if_true, if_false, zneq_f, true_and, and_true, false_and, and_false, zKL, eq_self, Nat.reduceEqDiff, zite0, ite_not, zaddr, zaddl, zputr, zsb1, zsb2, zsb0, zsbm, znm1, layM1, s259_48, s259_51, s259_52, s259_55, s259_57, s259_58, s259_61, s259_63, s259_64, s259_66, s259_67, s259_68, s259_69, s259_70, s259_72, s259_75, s259_76, s259_79, s259_81, s259_82, s259_83, s259_84, s259_85, s259_86, s259_87, s259_90, s259_91, s259_92, s259_93, s259_96, y0, y1, e1, e2, e3, e4, e9]
  have key2 : ∀ d t, t + d = th → ∀ Y : zL, (∀ i, i < 9 → Y 7 i = lN (f t i)) → ∀ j1 j2, ∃ Y' : zL, ∃ j1', zgo 259 36 [.ref 0, .int (nI run), .int (nI th), .int (nI cc), .int (nI t), j1, j2] [] (zRm1 rd) Sm Y = zgo 259 105 [.ref 0, .int (nI run), .int (nI th), .int (nI cc), .int (nI th), j1', j2] [] (zRm1 rd) Sm Y' ∧ ∀ i, i < 9 → Y' 7 i = lN (f th i) := by
    intro d
    induction d with
    | zero =>
      intro t hd Y hY j1 j2
      have hk : t = th := by omega
      subst hk
      refine ⟨Y, j1, ?_, hY⟩
      rw [s259_36]
      simp (config := {maxSteps := 1000000}) (disch := omega) only [↓reduceIte, Int32.reduceLT, Int32.reduceLE, Int32.reduceToNatClampNeg, Int32.reduceAdd, Int32.reduceSub, Int32.reduceMul, Nat.reduceLeDiff, zEL, zup_ne, zup_eq, zT0, zT1, zT2, if_true, if_false, zneq_f, true_and, and_true, false_and, and_false, zKL, eq_self, Nat.reduceEqDiff, zite0, ite_not, zaddr, zaddl, zputr, zsb1, zsb2, zsb0, zsbm, znm1, s259_38, s259_39, s259_42, s259_44]
    | succ d ih =>
      intro t hd Y hY j1 j2
      obtain ⟨Y1, j1', r1, r2⟩ := inner t 9 (by omega) Y hY (fun i h1 h2 => by omega) j2
      obtain ⟨Y2, j2', q1, q2⟩ := ih (t + 1) (by omega) Y1 r2 j1' j2
      refine ⟨Y2, j2', ?_, q2⟩
      rw [s259_36]
      have r1 : zgo 259 46 [.ref 0, .int (nI run), .int (nI th), .int (nI cc), .int (nI t), .int 8, j2] [] (zRm1 rd) Sm Y = _ := r1
      simp (config := {maxSteps := 1000000}) (disch := omega) only [↓reduceIte, Int32.reduceLT, Int32.reduceLE, Int32.reduceToNatClampNeg, Int32.reduceAdd, Int32.reduceSub, Int32.reduceMul, Nat.reduceLeDiff, zEL, zup_ne, zup_eq, zT0, zT1, zT2, if_true, if_false, zneq_f, true_and, and_true, false_and, and_false, zKL, eq_self, Nat.reduceEqDiff, zite0, ite_not, zaddr, zaddl, zputr, zsb1, zsb2, zsb0, zsbm, znm1, s259_38, s259_39, s259_42, s259_44]
      rw [r1, ← q1]
      simp (config := {maxSteps := 1000000}) (disch := omega) only [↓reduceIte, Int32.reduceLT, Int32.reduceLE, Int32.reduceToNatClampNeg, Int32.reduceAdd, Int32.reduceSub, Int32.reduceMul, Nat.reduceLeDiff, zEL, zup_ne, zup_eq, zT0, zT1, zT2, if_true, if_false, zneq_f, true_and, and_true, false_and, and_false, zKL, eq_self, Nat.reduceEqDiff, zite0, ite_not, zaddr, zaddl, zputr, zsb1, zsb2, zsb0, zsbm, znm1, s259_99, s259_102]
  have key3 : ∀ d k, k + d = run → ∀ Y : zL, (∀ i, i < 9 → Y 7 i = lN (f th i)) → zgo 259 111 [.ref 0, .int (nI run), .int (nI th), .int (nI cc), .long (lN (zsu (f th) k)), .retAddr 0, .int (nI k)] [] (zRm1 rd) Sm Y = some (some (.long (lN (zda cc th run))), zRm1 rd, Sm, Y) := by
    intro d
    induction d with
    | zero =>
      intro k hd Y hY
      have hk : k = run := by omega
      subst hk
      rw [s259_111]
      by_cases h9 : k = 9
      · subst h9
        simp (config := {maxSteps := 1000000}) (disch := omega) only [↓reduceIte, Int32.reduceLT, Int32.reduceLE, Int32.reduceToNatClampNeg, Int32.reduceAdd, Int32.reduceSub, Int32.reduceMul, Nat.reduceLeDiff, zEL, zup_ne, zup_eq, zT0, zT1, zT2, if_true, if_false, zneq_f, true_and, and_true, false_and, and_false, zKL, eq_self, Nat.reduceEqDiff, zite0, ite_not, zaddr, zaddl, zputr, zsb1, zsb2, zsb0, zsbm, znm1, layM1, s259_113, s259_115, s259_118, s259_120, s259_121, s259_124, s259_126, s259_127, s259_130, s259_132, s259_133, s259_134, s259_136, s259_139, s259_142, s259_144, show ((9 : Int32) ≤ nI 9) = True from eq_true (by decide)]
        all_goals rfl
      · have h9 : ((9 : Int32) ≤ nI k) = False := eq_false (by rw [show (9 : Int32) = nI 9 from rfl, znI_le (by omega) (by omega)]; omega)
        simp (config := {maxSteps := 1000000}) (disch := omega) only [↓reduceIte, Int32.reduceLT, Int32.reduceLE, Int32.reduceToNatClampNeg, Int32.reduceAdd, Int32.reduceSub, Int32.reduceMul, Nat.reduceLeDiff, zEL, zup_ne, zup_eq, zT0, zT1, zT2, if_true, if_false, zneq_f, true_and, and_true, false_and, and_false, zKL, eq_self, Nat.reduceEqDiff, zite0, ite_not, zaddr, zaddl, zputr, zsb1, zsb2, zsb0, zsbm, znm1, layM1, s259_113, s259_115, s259_118, s259_120, s259_121, s259_124, s259_126, s259_127, s259_130, s259_132, s259_133, s259_134, s259_136, s259_139, s259_142, s259_144, h9]
        all_goals rfl
    | succ d ih =>
      intro k hd Y hY
      have y0 := hY k (by omega)
      have h9 : ((9 : Int32) ≤ nI k) = False := eq_false (by rw [show (9 : Int32) = nI 9 from rfl, znI_le (by omega) (by omega)]; omega)
      have e : lN (zsu (f th) k) + lN (f th k) = lN (zsu (f th) (k + 1)) := zl_add
      rw [← ih (k + 1) (by omega) Y hY, s259_111]
      simp (config := {maxSteps := 1000000}) (disch := omega) only [↓reduceIte, Int32.reduceLT, Int32.reduceLE, Int32.reduceToNatClampNeg, Int32.reduceAdd, Int32.reduceSub, Int32.reduceMul, Nat.reduceLeDiff, zEL, zup_ne, zup_eq, zT0, zT1, zT2, if_true, if_false, zneq_f, true_and, and_true, false_and, and_false, zKL, eq_self, Nat.reduceEqDiff, zite0, ite_not, zaddr, zaddl, zputr, zsb1, zsb2, zsb0, zsbm, znm1, layM1, s259_113, s259_115, s259_118, s259_120, s259_121, s259_124, s259_126, s259_127, s259_130, s259_132, s259_133, s259_134, s259_136, s259_139, s259_142, s259_144, h9, y0, e]
  obtain ⟨Y1, r1, r2⟩ := key1 9 0 (by omega) Lm (fun i hi => by omega) (.retAddr 0) (.retAddr 0)
  obtain ⟨Y2, j1, q1, q2⟩ := key2 th 0 (by omega) Y1 r2 (.retAddr 0) (.retAddr 0)
  have p := key3 run 0 (by omega) Y2 q2
  refine ⟨Y2, ?_⟩
  rw [← p]
  have a1 : zcall 259 [.ref 0, .int (nI run), .int (nI th), .int (nI cc)] (zRm1 rd) Sm Lm = zgo 259 3 [.ref 0, .int (nI run), .int (nI th), .int (nI cc), .int (nI 0), .retAddr 0, .retAddr 0] [] (zRm1 rd) Sm Lm := by
    unfold zcall
    simp (config := {maxSteps := 1000000}) (disch := omega) only [↓reduceIte, Int32.reduceLT, Int32.reduceLE, Int32.reduceToNatClampNeg, Int32.reduceAdd, Int32.reduceSub, Int32.reduceMul, Nat.reduceLeDiff, zEL, zup_ne, zup_eq, zT0, zT1, zT2, if_true, if_false, zneq_f, true_and, and_true, false_and, and_false, zKL, eq_self, Nat.reduceEqDiff, zite0, ite_not, zaddr, zaddl, zputr, zsb1, zsb2, zsb0, zsbm, znm1, ze_259, s259_0, s259_1]
    all_goals rfl
  have a2 : zgo 259 33 [.ref 0, .int (nI run), .int (nI th), .int (nI cc), .int (nI 9), .retAddr 0, .retAddr 0] [] (zRm1 rd) Sm Y1 = zgo 259 36 [.ref 0, .int (nI run), .int (nI th), .int (nI cc), .int (nI 0), .retAddr 0, .retAddr 0] [] (zRm1 rd) Sm Y1 := by
    simp (config := {maxSteps := 1000000}) (disch := omega) only [↓reduceIte, Int32.reduceLT, Int32.reduceLE, Int32.reduceToNatClampNeg, Int32.reduceAdd, Int32.reduceSub, Int32.reduceMul, Nat.reduceLeDiff, zEL, zup_ne, zup_eq, zT0, zT1, zT2, if_true, if_false, zneq_f, true_and, and_true, false_and, and_false, zKL, eq_self, Nat.reduceEqDiff, zite0, ite_not, zaddr, zaddl, zputr, zsb1, zsb2, zsb0, zsbm, znm1, s259_33, s259_34]
    all_goals rfl
  rw [a1, r1, a2, q1]
  simp (config := {maxSteps := 1000000}) (disch := omega) only [↓reduceIte, Int32.reduceLT, Int32.reduceLE, Int32.reduceToNatClampNeg, Int32.reduceAdd, Int32.reduceSub, Int32.reduceMul, Nat.reduceLeDiff, zEL, zup_ne, zup_eq, zT0, zT1, zT2, if_true, if_false, zneq_f, true_and, and_true, false_and, and_false, zKL, eq_self, Nat.reduceEqDiff, zite0, ite_not, zaddr, zaddl, zputr, zsb1, zsb2, zsb0, zsbm, znm1, s259_105, s259_106, s259_108, s259_109]
  all_goals rfl
end ZTB
