/-! THE TEXT: words -/
section ZP4
variable {S Sm : zS} {L Lm : zL} {R : List zE} {n B p q : Nat} {b : Nat → Nat}
def zallb (ok : Nat → Bool) : Nat → Bool
  | 0 => true
  | k + 1 => zallb ok k && ok k
theorem zallb_f {ok : Nat → Bool} {k m : Nat} (h : k < m) (hk : ok k = false) : zallb ok m = false := by
  induction m with
  | zero => omega
  | succ m ih =>
    show (zallb ok m && ok m) = false
    by_cases e : k = m
    · subst e
      rw [hk, Bool.and_false]
    · rw [ih (by omega), Bool.false_and]
theorem zallb_iff {ok : Nat → Bool} {m : Nat} : zallb ok m = true ↔ ∀ i, i < m → ok i = true := by
  induction m with
  | zero => exact ⟨fun _ i h => by omega, fun _ => rfl⟩
  | succ m ih =>
    show (zallb ok m && ok m) = true ↔ _
    rw [Bool.and_eq_true, ih]
    constructor
    · intro h i hi
      by_cases e : i = m
      · rw [e]
        exact h.2
      · exact h.1 i (by omega)
    · intro h
      exact ⟨fun i hi => h i (by omega), h m (by omega)⟩
/-- is the TOKEN this word -/
def zW (b : Nat → Nat) (n p q : Nat) (W : List Nat) : Bool := decide (zkN b n p q = 1) && (decide (q - p = W.length) && zallb (fun i => decide (b (p + i) = W.getD i 0)) W.length)
theorem zkN_1 (h : zkN b n p q = 1) : p < n ∨ n < p := by
  unfold zkN at h
  split at h
  · omega
  · omega
theorem zTK_w (h : zTKc n b p q S) (hk : zkN b n p q = 1) : p < q ∧ q ≤ n ∧ q - p ≤ 8 ∧ (∀ i, p ≤ i → i < q → 97 ≤ b i ∧ b i ≤ 122) ∧ S 1 4 = nI q := by
  obtain ⟨h1, h3, h4, h5, h6, h7⟩ := h
  have hp : ¬ p = n := fun e => by rw [zkN, if_pos e] at hk; omega
  obtain ⟨q1, q2, q3, q4⟩ := h4 (by omega)
  have hr := @zkd_r (b p)
  have hkp : zkd (b p) = 1 ∧ q - p ≤ 8 := by
    rw [zkN, if_neg hp] at hk
    split at hk
    · rename_i e
      split at hk
      · rename_i e2
        exact ⟨e, e2⟩
      · omega
    · split at hk
      · split at hk <;> omega
      · omega
  refine ⟨by omega, q2, hkp.2, fun i h9 h10 => ?_, ?_⟩
  · by_cases e : i = p
    · rw [e]
      exact zkd_1.mp hkp.1
    · exact zkd_1.mp ((q3 i (by omega) h10).trans hkp.1)
  · rw [h7, zaN, if_neg hp, if_pos hkp.1]
theorem t92 {r : Nat} {W : List Nat} (hr : ztext r = some (W.map nI)) (hW : W.length ≤ 8) (hW2 : ∀ i, W.getD i 0 ≤ 255) (h : zTKc n b p q S) : zcall 92 [.ref 1, .ref r] zRc S L = some (some (.int (zbi (zW b n p q W))), zRc, S, L) := by
  have hlen : (W.map nI).length = W.length := List.length_map ..
  have hget : ∀ i, i < W.length → (W.map nI).getD i 0 = nI (W.getD i 0) := fun i hi => by
    rw [List.getD_eq_getElem?_getD, List.getD_eq_getElem?_getD, List.getElem?_map]
    rw [List.getElem?_eq_getElem hi]
    rfl
  have h6 := h.2.2.2.2.1
  have h3 := h.2.2.2.1
  unfold zW
  by_cases hk : zkN b n p q = 1
  · obtain ⟨w1, w2, w3, w4, w5⟩ := zTK_w h hk
    obtain ⟨hn, -, hb⟩ := h.1
    rw [hk] at h6
    have hqp : nI q - nI p = nI (q - p) := znI_sub (by omega)
    rw [decide_eq_true hk, Bool.true_and]
    by_cases hl : q - p = W.length
    · rw [decide_eq_true hl, Bool.true_and]
      have key : ∀ d i, i + d = W.length → zallb (fun i => decide (b (p + i) = W.getD i 0)) i = true → zgo 92 28 [.ref 1, .ref r, .int (nI i)] [] zRc S L = some (some (.int (zbi (zallb (fun i => decide (b (p + i) = W.getD i 0)) W.length))), zRc, S, L) := by
        intro d
        induction d with
        | zero =>
          intro i hd hz
          have hi : i = W.length := by omega
          subst hi
          rw [hz, s92_28]
          simp (config := {maxSteps := 1000000}) (disch := omega) only [↓reduceIte, Int32.reduceLT, Int32.reduceLE, Int32.reduceToNatClampNeg, Int32.reduceAdd, Int32.reduceSub, Int32.reduceMul, Nat.reduceLeDiff, zEL, zup_ne, zup_eq, zT0, zT1, zT2, if_true, if_false, zneq_f, true_and, and_true, false_and, and_false, zKL, eq_self, Nat.reduceEqDiff, zite0, ite_not, zaddr, zaddl, zputr, zsb1, zsb2, zsb0, zsbm, znm1, gX, s92_29, s92_30, s92_33, s92_36, s92_37, s92_40, s92_41, s92_44, s92_45, s92_46, s92_49, s92_50, s92_51, s92_54, s92_57, s92_58, s92_59, s92_62, s92_65, s92_66, hr, hlen]
          all_goals rfl
        | succ d ih =>
          intro i hd hz
          obtain ⟨b1, b2⟩ := hb (p + i) (by omega)
          have hg := hget i (by omega)
          have hw := hW2 i
          by_cases e : b (p + i) = W.getD i 0
          · have := ih (i + 1) (by omega) (by show (zallb _ i && decide (b (p + i) = W.getD i 0)) = true; rw [hz, decide_eq_true e]; rfl)
            rw [← this, s92_28]
            simp (config := {maxSteps := 1000000}) (disch := omega) only [↓reduceIte, Int32.reduceLT, Int32.reduceLE, Int32.reduceToNatClampNeg, Int32.reduceAdd, Int32.reduceSub, Int32.reduceMul, Nat.reduceLeDiff, zEL, zup_ne, zup_eq, zT0, zT1, zT2, if_true, if_false, zneq_f, true_and, and_true, false_and, and_false, zKL, eq_self, Nat.reduceEqDiff, zite0, ite_not, zaddr, zaddl, zputr, zsb1, zsb2, zsb0, zsbm, znm1, gX, s92_29, s92_30, s92_33, s92_36, s92_37, s92_40, s92_41, s92_44, s92_45, s92_46, s92_49, s92_50, s92_51, s92_54, s92_57, s92_58, s92_59, s92_62, s92_65, s92_66, hr, hlen, h3, zadd_nI, b2, hg, e]
          · rw [zallb_f (show i < W.length by omega) (decide_eq_false e), s92_28]
            simp (config := {maxSteps := 1000000}) (disch := omega) only [↓reduceIte, Int32.reduceLT, Int32.reduceLE, Int32.reduceToNatClampNeg, Int32.reduceAdd, Int32.reduceSub, Int32.reduceMul, Nat.reduceLeDiff, zEL, zup_ne, zup_eq, zT0, zT1, zT2, if_true, if_false, zneq_f, true_and, and_true, false_and, and_false, zKL, eq_self, Nat.reduceEqDiff, zite0, ite_not, zaddr, zaddl, zputr, zsb1, zsb2, zsb0, zsbm, znm1, gX, s92_29, s92_30, s92_33, s92_36, s92_37, s92_40, s92_41, s92_44, s92_45, s92_46, s92_49, s92_50, s92_51, s92_54, s92_57, s92_58, s92_59, s92_62, s92_65, s92_66, hr, hlen, h3, zadd_nI, b2, hg, e]
            all_goals rfl
      have := key W.length 0 (by omega) rfl
      unfold zcall
      simp (config := {maxSteps := 1000000}) (disch := omega) only [↓reduceIte, Int32.reduceLT, Int32.reduceLE, Int32.reduceToNatClampNeg, Int32.reduceAdd, Int32.reduceSub, Int32.reduceMul, Nat.reduceLeDiff, zEL, zup_ne, zup_eq, zT0, zT1, zT2, if_true, if_false, zneq_f, true_and, and_true, false_and, and_false, zKL, eq_self, Nat.reduceEqDiff, zite0, ite_not, zaddr, zaddl, zputr, zsb1, zsb2, zsb0, zsbm, znm1, gX, ze_92, s92_0, s92_1, s92_4, s92_5, s92_8, s92_9, s92_12, s92_13, s92_16, s92_17, s92_18, s92_21, s92_24, s92_25, s92_26, s92_27, h6, w5, h3, hqp, hr, hlen, hl]
      exact this
    · rw [decide_eq_false hl, Bool.false_and]
      unfold zcall
      simp (config := {maxSteps := 1000000}) (disch := omega) only [↓reduceIte, Int32.reduceLT, Int32.reduceLE, Int32.reduceToNatClampNeg, Int32.reduceAdd, Int32.reduceSub, Int32.reduceMul, Nat.reduceLeDiff, zEL, zup_ne, zup_eq, zT0, zT1, zT2, if_true, if_false, zneq_f, true_and, and_true, false_and, and_false, zKL, eq_self, Nat.reduceEqDiff, zite0, ite_not, zaddr, zaddl, zputr, zsb1, zsb2, zsb0, zsbm, znm1, gX, ze_92, s92_0, s92_1, s92_4, s92_5, s92_8, s92_9, s92_12, s92_13, s92_16, s92_17, s92_18, s92_21, s92_24, s92_25, s92_26, s92_27, h6, w5, h3, hqp, hr, hlen, hl]
      all_goals rfl
  · rw [decide_eq_false hk, Bool.false_and]
    have hk9 : zkN b n p q ≤ 5 := by
      unfold zkN
      have := @zkd_r (b p)
      repeat' split
      all_goals omega
    unfold zcall
    simp (config := {maxSteps := 1000000}) (disch := omega) only [↓reduceIte, Int32.reduceLT, Int32.reduceLE, Int32.reduceToNatClampNeg, Int32.reduceAdd, Int32.reduceSub, Int32.reduceMul, Nat.reduceLeDiff, zEL, zup_ne, zup_eq, zT0, zT1, zT2, if_true, if_false, zneq_f, true_and, and_true, false_and, and_false, zKL, eq_self, Nat.reduceEqDiff, zite0, ite_not, zaddr, zaddl, zputr, zsb1, zsb2, zsb0, zsbm, znm1, gX, ze_92, s92_0, s92_1, s92_4, s92_5, s92_8, s92_9, s92_12, s92_13, s92_16, s92_17, s92_18, s92_21, s92_24, s92_25, s92_26, s92_27, h6]
    all_goals rfl
theorem m178 {r : Nat} {W : List Nat} (hr : ztext r = some (W.map nI)) (hW : W.length ≤ 8) (hW2 : ∀ i, i < W.length → 97 ≤ W.getD i 0 ∧ W.getD i 0 ≤ 122) : zcall 178 [.ref r] R Sm Lm = some (some (.long (lN (zco (fun i => W.getD i 0) 0 W.length))), R, Sm, Lm) := by
  have hlen : (W.map nI).length = W.length := List.length_map ..
  have hget : ∀ i, i < W.length → (W.map nI).getD i 0 = nI (W.getD i 0) := fun i hi => by
    rw [List.getD_eq_getElem?_getD, List.getD_eq_getElem?_getD, List.getElem?_map]
    rw [List.getElem?_eq_getElem hi]
    rfl
  have key : ∀ d i, i + d = W.length → zgo 178 4 [.ref r, .long (lN (zco (fun i => W.getD i 0) 0 i)), .retAddr 0, .int (nI i)] [] R Sm Lm = some (some (.long (lN (zco (fun i => W.getD i 0) 0 W.length))), R, Sm, Lm) := by
    intro d
    induction d with
    | zero =>
      intro i hd
      have hi : i = W.length := by omega
      subst hi
      rw [s178_4]
      simp (config := {maxSteps := 1000000}) (disch := omega) only [↓reduceIte, Int32.reduceLT, Int32.reduceLE, Int32.reduceToNatClampNeg, Int32.reduceAdd, Int32.reduceSub, Int32.reduceMul, Nat.reduceLeDiff, zEL, zup_ne, zup_eq, zT0, zT1, zT2, if_true, if_false, zneq_f, true_and, and_true, false_and, and_false, zKL, eq_self, Nat.reduceEqDiff, zite0, ite_not, zaddr, zaddl, zputr, zsb1, zsb2, zsb0, zsbm, znm1, s178_5, s178_6, s178_9, s178_12, s178_15, s178_16, s178_17, s178_18, s178_19, s178_22, s178_24, s178_25, s178_26, s178_27, s178_28, s178_29, s178_30, s178_33, s178_36, s178_37, hr, hlen]
    | succ d ih =>
      intro i hd
      have hg := hget i (by omega)
      obtain ⟨w1, w2⟩ := hW2 i (by omega)
      have h97 : nI (W.getD i 0) - 97 = nI (W.getD i 0 - 97) := by rw [show (97 : Int32) = nI 97 from rfl, znI_sub (by omega)]
      have e1 : (nI (W.getD i 0 - 97 + 1)).toInt64 = lN (W.getD i 0 - 96) := by rw [zl_i2l (by omega), show W.getD i 0 - 97 + 1 = W.getD i 0 - 96 by omega]
      have e2 : 32 * lN (zco (fun i => W.getD i 0) 0 i) + lN (W.getD i 0 - 96) = lN (zco (fun i => W.getD i 0) 0 (i + 1)) := by
        rw [show (32 : Int64) = lN 32 from rfl, zl_mul, zl_add]
        congr 1
        show _ = zco (fun i => W.getD i 0) 0 i * 32 + (W.getD (0 + i) 0 - 96)
        rw [Nat.zero_add, Nat.mul_comm]
      rw [← ih (i + 1) (by omega), s178_4]
      generalize zco (fun i => W.getD i 0) 0 (i + 1) = y at e2
      generalize zco (fun i => W.getD i 0) 0 i = x at e2
      generalize W.getD i 0 = w at hg w1 w2 h97 e1 e2
      simp (config := {maxSteps := 1000000}) (disch := omega) only [↓reduceIte, Int32.reduceLT, Int32.reduceLE, Int32.reduceToNatClampNeg, Int32.reduceAdd, Int32.reduceSub, Int32.reduceMul, Nat.reduceLeDiff, zEL, zup_ne, zup_eq, zT0, zT1, zT2, if_true, if_false, zneq_f, true_and, and_true, false_and, and_false, zKL, eq_self, Nat.reduceEqDiff, zite0, ite_not, zaddr, zaddl, zputr, zsb1, zsb2, zsb0, zsbm, znm1, s178_5, s178_6, s178_9, s178_12, s178_15, s178_16, s178_17, s178_18, s178_19, s178_22, s178_24, s178_25, s178_26, s178_27, s178_28, s178_29, s178_30, s178_33, s178_36, s178_37, hr, hlen, hg, h97, e1, e2]
  have := key W.length 0 (by omega)
  unfold zcall
  simp (config := {maxSteps := 1000000}) (disch := omega) only [↓reduceIte, Int32.reduceLT, Int32.reduceLE, Int32.reduceToNatClampNeg, Int32.reduceAdd, Int32.reduceSub, Int32.reduceMul, Nat.reduceLeDiff, zEL, zup_ne, zup_eq, zT0, zT1, zT2, if_true, if_false, zneq_f, true_and, and_true, false_and, and_false, zKL, eq_self, Nat.reduceEqDiff, zite0, ite_not, zaddr, zaddl, zputr, zsb1, zsb2, zsb0, zsbm, znm1, ze_178, s178_0, s178_1, s178_2, s178_3]
  exact this
theorem zco_inj {b' : Nat → Nat} {p' : Nat} : ∀ k k', (∀ i, i < k → 97 ≤ b (p + i) ∧ b (p + i) ≤ 122) → (∀ i, i < k' → 97 ≤ b' (p' + i) ∧ b' (p' + i) ≤ 122) → zco b p k = zco b' p' k' → k = k' ∧ ∀ i, i < k → b (p + i) = b' (p' + i) := by
  intro k
  induction k with
  | zero =>
    intro k' h1 h2 h
    cases k' with
    | zero => exact ⟨rfl, fun i hi => by omega⟩
    | succ k' =>
      have h3 := h2 k' (by omega)
      have h : 0 = zco b' p' k' * 32 + (b' (p' + k') - 96) := h
      omega
  | succ k ih =>
    intro k' h1 h2 h
    have h4 := h1 k (by omega)
    cases k' with
    | zero =>
      have h : zco b p k * 32 + (b (p + k) - 96) = 0 := h
      omega
    | succ k' =>
      have h3 := h2 k' (by omega)
      have h : zco b p k * 32 + (b (p + k) - 96) = zco b' p' k' * 32 + (b' (p' + k') - 96) := h
      obtain ⟨e1, e2⟩ := ih k' (fun i hi => h1 i (by omega)) (fun i hi => h2 i (by omega)) (by omega)
      refine ⟨by omega, fun i hi => ?_⟩
      by_cases e : i = k
      · subst e
        rw [← e1] at h
        have e3 : zco b p i = zco b' p' i := by
          rw [← e1] at h3
          omega
        subst e1
        omega
      · exact e2 i (by omega)
theorem zco_c {k : Nat} {b' : Nat → Nat} {p' : Nat} (h : ∀ i, i < k → b (p + i) = b' (p' + i)) : zco b p k = zco b' p' k := by
  induction k with
  | zero => rfl
  | succ k ih =>
    show zco b p k * 32 + (b (p + k) - 96) = zco b' p' k * 32 + (b' (p' + k) - 96)
    rw [ih (fun i hi => h i (by omega)), h k (by omega)]
theorem zco_b {p k : Nat} (hk : k ≤ 8) (h : ∀ i, i < k → 97 ≤ b (p + i) ∧ b (p + i) ≤ 122) : zco b p k < 10000000000000000 := by
  have h1 := zco_le h
  have h2 : (32 : Nat) ^ k ≤ 32 ^ 8 := Nat.pow_le_pow_right (by omega) hk
  have h3 : (32 : Nat) ^ 8 = 1099511627776 := by decide
  omega
theorem m181 {r : Nat} {W : List Nat} (hR : zLT R) (hr : ztext r = some (W.map nI)) (hW : W.length ≤ 8) (hW2 : ∀ i, i < W.length → 97 ≤ W.getD i 0 ∧ W.getD i 0 ≤ 122) (h : zTK n b p q S Sm Lm) : zcall 181 [.ref 0, .ref r] R Sm Lm = some (some (.int (zbi (zW b n p q W))), R, Sm, Lm) := by
  have r0 := hR
  unfold zLT at r0
  obtain ⟨-, m9, -, -, -, m15, -⟩ := h.2.2
  have k1 := m178 (R := R) (Sm := Sm) (Lm := Lm) hr hW hW2
  unfold zW
  by_cases hk : zkN b n p q = 1
  · obtain ⟨w1, w2, w3, w4, w5⟩ := zTK_w h.1 hk
    rw [decide_eq_true hk, Bool.true_and]
    rw [hk] at m9
    have m9 : Sm 0 9 = 2 := m9
    have m15 := m15 hk
    have hl1 := zco_b (b := b) (p := p) (k := q - p) w3 (fun i hi => w4 (p + i) (by omega) (by omega))
    have hl2 := zco_b (b := fun i => W.getD i 0) (p := 0) (k := W.length) hW (fun i hi => by rw [Nat.zero_add]; exact hW2 i hi)
    have hc := zlc hl1 hl2
    by_cases he : zco b p (q - p) = zco (fun i => W.getD i 0) 0 W.length
    · obtain ⟨e1, e2⟩ := zco_inj (b := b) (b' := fun i => W.getD i 0) (p := p) (p' := 0) (q - p) W.length (fun i hi => w4 (p + i) (by omega) (by omega)) (fun i hi => by rw [Nat.zero_add]; exact hW2 i hi) he
      rw [decide_eq_true e1, Bool.true_and, zallb_iff.mpr (fun i hi => decide_eq_true (by have := e2 i (by omega); rw [Nat.zero_add] at this; exact this))]
      rw [if_neg (by omega), if_pos he] at hc
      unfold zcall
      simp (config := {maxSteps := 1000000}) (disch := omega) only [↓reduceIte, Int32.reduceLT, Int32.reduceLE, Int32.reduceToNatClampNeg, Int32.reduceAdd, Int32.reduceSub, Int32.reduceMul, Nat.reduceLeDiff, zEL, zup_ne, zup_eq, zT0, zT1, zT2, if_true, if_false, zneq_f, true_and, and_true, false_and, and_false, zKL, eq_self, Nat.reduceEqDiff, zite0, ite_not, zaddr, zaddl, zputr, zsb1, zsb2, zsb0, zsbm, znm1, r0, ze_181, s181_0, s181_1, s181_4, s181_5, s181_8, s181_9, s181_12, s181_13, s181_16, s181_17, s181_20, s181_21, s181_24, s181_25, m9, m15, k1, hc]
      all_goals rfl
    · have hf : (decide (q - p = W.length) && zallb (fun i => decide (b (p + i) = W.getD i 0)) W.length) = false := by
        apply Bool.eq_false_iff.mpr
        intro h9
        rw [Bool.and_eq_true, decide_eq_true_eq, zallb_iff] at h9
        refine he ?_
        rw [h9.1]
        exact zco_c (fun i hi => by rw [Nat.zero_add]; exact of_decide_eq_true (h9.2 i hi))
      rw [hf]
      have hc2 : (lg_cmp (lN (zco b p (q - p))) (lN (zco (fun i => W.getD i 0) 0 W.length)) = 0) = False := eq_false (fun h9 => by
        rw [hc] at h9
        split at h9
        all_goals first | exact absurd h9 (by decide) | (rw [if_neg he] at h9; exact absurd h9 (by decide)))
      unfold zcall
      simp (config := {maxSteps := 1000000}) (disch := omega) only [↓reduceIte, Int32.reduceLT, Int32.reduceLE, Int32.reduceToNatClampNeg, Int32.reduceAdd, Int32.reduceSub, Int32.reduceMul, Nat.reduceLeDiff, zEL, zup_ne, zup_eq, zT0, zT1, zT2, if_true, if_false, r0, ze_181, s181_0, s181_1, s181_4, s181_5, s181_8, s181_9, s181_12, s181_13, s181_16, s181_17, s181_20, s181_21, s181_24, s181_25, m9, m15, k1, hc2]
      all_goals rfl
  · rw [decide_eq_false hk, Bool.false_and]
    have m92 : (nI (zst (zkN b n p q)) = 2) = False := by
      have hk9 : zkN b n p q ≤ 5 := by
        unfold zkN
        have := @zkd_r (b p)
        repeat' split
        all_goals omega
      unfold zst
      rcases (show zkN b n p q = 0 ∨ zkN b n p q = 2 ∨ zkN b n p q = 3 ∨ zkN b n p q = 4 ∨ zkN b n p q = 5 by omega) with e | e | e | e | e <;> rw [e] <;> decide
    unfold zcall
    simp (config := {maxSteps := 1000000}) (disch := omega) only [↓reduceIte, Int32.reduceLT, Int32.reduceLE, Int32.reduceToNatClampNeg, Int32.reduceAdd, Int32.reduceSub, Int32.reduceMul, Nat.reduceLeDiff, zEL, zup_ne, zup_eq, zT0, zT1, zT2, if_true, if_false, r0, ze_181, s181_0, s181_1, s181_4, s181_5, s181_8, s181_9, s181_12, s181_13, s181_16, s181_17, s181_20, s181_21, s181_24, s181_25, m9, m92]
    all_goals rfl
/-- a FAULT stands: no word is any -/
theorem m181F {r : Nat} (hR : zLT R) (h : Sm 0 9 = 5) : zcall 181 [.ref 0, .ref r] R Sm Lm = some (some (.int 0), R, Sm, Lm) := by
  have r0 := hR
  unfold zLT at r0
  unfold zcall
  simp (config := {maxSteps := 1000000}) (disch := omega) only [↓reduceIte, Int32.reduceLT, Int32.reduceLE, Int32.reduceToNatClampNeg, Int32.reduceAdd, Int32.reduceSub, Int32.reduceMul, Nat.reduceLeDiff, zEL, zup_ne, zup_eq, zT0, zT1, zT2, if_true, if_false, r0, ze_181, s181_0, s181_1, s181_4, s181_5, s181_8, s181_9, s181_12, s181_13, s181_16, s181_17, s181_20, s181_21, s181_24, s181_25, h]
def zw_law : List Nat := [108, 97, 119]
theorem zwl_law : zw_law.length ≤ 8 ∧ (∀ i, zw_law.getD i 0 ≤ 255) ∧ ∀ i, i < zw_law.length → 97 ≤ zw_law.getD i 0 ∧ zw_law.getD i 0 ≤ 122 := by
  have h : zw_law.length ≤ 8 ∧ (∀ x ∈ zw_law, 97 ≤ x ∧ x ≤ 122) := by decide
  refine ⟨h.1, fun i => ?_, fun i hi => ?_⟩
  · by_cases hi : i < zw_law.length
    · have := h.2 (zw_law.getD i 0) (by rw [List.getD_eq_getElem?_getD, List.getElem?_eq_getElem hi]; exact List.getElem_mem hi)
      omega
    · rw [List.getD_eq_getElem?_getD, List.getElem?_eq_none (by omega)]
      exact Nat.zero_le _
  · exact h.2 (zw_law.getD i 0) (by rw [List.getD_eq_getElem?_getD, List.getElem?_eq_getElem hi]; exact List.getElem_mem hi)
theorem cw_law (h : zTKc n b p q S) : zcall 92 [.ref 1, .ref 1000032] zRc S L = some (some (.int (zbi (zW b n p q zw_law))), zRc, S, L) := t92 (by decide +kernel) zwl_law.1 zwl_law.2.1 h
theorem mw_law (hR : zLT R) (h : zTK n b p q S Sm Lm) : zcall 181 [.ref 0, .ref 1000001] R Sm Lm = some (some (.int (zbi (zW b n p q zw_law))), R, Sm, Lm) := m181 hR (by decide +kernel) zwl_law.1 zwl_law.2.2 h
def zw_snow : List Nat := [115, 110, 111, 119]
theorem zwl_snow : zw_snow.length ≤ 8 ∧ (∀ i, zw_snow.getD i 0 ≤ 255) ∧ ∀ i, i < zw_snow.length → 97 ≤ zw_snow.getD i 0 ∧ zw_snow.getD i 0 ≤ 122 := by
  have h : zw_snow.length ≤ 8 ∧ (∀ x ∈ zw_snow, 97 ≤ x ∧ x ≤ 122) := by decide
  refine ⟨h.1, fun i => ?_, fun i hi => ?_⟩
  · by_cases hi : i < zw_snow.length
    · have := h.2 (zw_snow.getD i 0) (by rw [List.getD_eq_getElem?_getD, List.getElem?_eq_getElem hi]; exact List.getElem_mem hi)
      omega
    · rw [List.getD_eq_getElem?_getD, List.getElem?_eq_none (by omega)]
      exact Nat.zero_le _
  · exact h.2 (zw_snow.getD i 0) (by rw [List.getD_eq_getElem?_getD, List.getElem?_eq_getElem hi]; exact List.getElem_mem hi)
theorem cw_snow (h : zTKc n b p q S) : zcall 92 [.ref 1, .ref 1000033] zRc S L = some (some (.int (zbi (zW b n p q zw_snow))), zRc, S, L) := t92 (by decide +kernel) zwl_snow.1 zwl_snow.2.1 h
theorem mw_snow (hR : zLT R) (h : zTK n b p q S Sm Lm) : zcall 181 [.ref 0, .ref 1000002] R Sm Lm = some (some (.int (zbi (zW b n p q zw_snow))), R, Sm, Lm) := m181 hR (by decide +kernel) zwl_snow.1 zwl_snow.2.2 h
def zw_referee : List Nat := [114, 101, 102, 101, 114, 101, 101]
theorem zwl_referee : zw_referee.length ≤ 8 ∧ (∀ i, zw_referee.getD i 0 ≤ 255) ∧ ∀ i, i < zw_referee.length → 97 ≤ zw_referee.getD i 0 ∧ zw_referee.getD i 0 ≤ 122 := by
  have h : zw_referee.length ≤ 8 ∧ (∀ x ∈ zw_referee, 97 ≤ x ∧ x ≤ 122) := by decide
  refine ⟨h.1, fun i => ?_, fun i hi => ?_⟩
  · by_cases hi : i < zw_referee.length
    · have := h.2 (zw_referee.getD i 0) (by rw [List.getD_eq_getElem?_getD, List.getElem?_eq_getElem hi]; exact List.getElem_mem hi)
      omega
    · rw [List.getD_eq_getElem?_getD, List.getElem?_eq_none (by omega)]
      exact Nat.zero_le _
  · exact h.2 (zw_referee.getD i 0) (by rw [List.getD_eq_getElem?_getD, List.getElem?_eq_getElem hi]; exact List.getElem_mem hi)
theorem cw_referee (h : zTKc n b p q S) : zcall 92 [.ref 1, .ref 1000034] zRc S L = some (some (.int (zbi (zW b n p q zw_referee))), zRc, S, L) := t92 (by decide +kernel) zwl_referee.1 zwl_referee.2.1 h
theorem mw_referee (hR : zLT R) (h : zTK n b p q S Sm Lm) : zcall 181 [.ref 0, .ref 1000003] R Sm Lm = some (some (.int (zbi (zW b n p q zw_referee))), R, Sm, Lm) := m181 hR (by decide +kernel) zwl_referee.1 zwl_referee.2.2 h
def zw_block : List Nat := [98, 108, 111, 99, 107]
theorem zwl_block : zw_block.length ≤ 8 ∧ (∀ i, zw_block.getD i 0 ≤ 255) ∧ ∀ i, i < zw_block.length → 97 ≤ zw_block.getD i 0 ∧ zw_block.getD i 0 ≤ 122 := by
  have h : zw_block.length ≤ 8 ∧ (∀ x ∈ zw_block, 97 ≤ x ∧ x ≤ 122) := by decide
  refine ⟨h.1, fun i => ?_, fun i hi => ?_⟩
  · by_cases hi : i < zw_block.length
    · have := h.2 (zw_block.getD i 0) (by rw [List.getD_eq_getElem?_getD, List.getElem?_eq_getElem hi]; exact List.getElem_mem hi)
      omega
    · rw [List.getD_eq_getElem?_getD, List.getElem?_eq_none (by omega)]
      exact Nat.zero_le _
  · exact h.2 (zw_block.getD i 0) (by rw [List.getD_eq_getElem?_getD, List.getElem?_eq_getElem hi]; exact List.getElem_mem hi)
theorem cw_block (h : zTKc n b p q S) : zcall 92 [.ref 1, .ref 1000035] zRc S L = some (some (.int (zbi (zW b n p q zw_block))), zRc, S, L) := t92 (by decide +kernel) zwl_block.1 zwl_block.2.1 h
theorem mw_block (hR : zLT R) (h : zTK n b p q S Sm Lm) : zcall 181 [.ref 0, .ref 1000004] R Sm Lm = some (some (.int (zbi (zW b n p q zw_block))), R, Sm, Lm) := m181 hR (by decide +kernel) zwl_block.1 zwl_block.2.2 h
def zw_player : List Nat := [112, 108, 97, 121, 101, 114]
theorem zwl_player : zw_player.length ≤ 8 ∧ (∀ i, zw_player.getD i 0 ≤ 255) ∧ ∀ i, i < zw_player.length → 97 ≤ zw_player.getD i 0 ∧ zw_player.getD i 0 ≤ 122 := by
  have h : zw_player.length ≤ 8 ∧ (∀ x ∈ zw_player, 97 ≤ x ∧ x ≤ 122) := by decide
  refine ⟨h.1, fun i => ?_, fun i hi => ?_⟩
  · by_cases hi : i < zw_player.length
    · have := h.2 (zw_player.getD i 0) (by rw [List.getD_eq_getElem?_getD, List.getElem?_eq_getElem hi]; exact List.getElem_mem hi)
      omega
    · rw [List.getD_eq_getElem?_getD, List.getElem?_eq_none (by omega)]
      exact Nat.zero_le _
  · exact h.2 (zw_player.getD i 0) (by rw [List.getD_eq_getElem?_getD, List.getElem?_eq_getElem hi]; exact List.getElem_mem hi)
theorem cw_player (h : zTKc n b p q S) : zcall 92 [.ref 1, .ref 1000037] zRc S L = some (some (.int (zbi (zW b n p q zw_player))), zRc, S, L) := t92 (by decide +kernel) zwl_player.1 zwl_player.2.1 h
theorem mw_player (hR : zLT R) (h : zTK n b p q S Sm Lm) : zcall 181 [.ref 0, .ref 1000005] R Sm Lm = some (some (.int (zbi (zW b n p q zw_player))), R, Sm, Lm) := m181 hR (by decide +kernel) zwl_player.1 zwl_player.2.2 h
def zw_site : List Nat := [115, 105, 116, 101]
theorem zwl_site : zw_site.length ≤ 8 ∧ (∀ i, zw_site.getD i 0 ≤ 255) ∧ ∀ i, i < zw_site.length → 97 ≤ zw_site.getD i 0 ∧ zw_site.getD i 0 ≤ 122 := by
  have h : zw_site.length ≤ 8 ∧ (∀ x ∈ zw_site, 97 ≤ x ∧ x ≤ 122) := by decide
  refine ⟨h.1, fun i => ?_, fun i hi => ?_⟩
  · by_cases hi : i < zw_site.length
    · have := h.2 (zw_site.getD i 0) (by rw [List.getD_eq_getElem?_getD, List.getElem?_eq_getElem hi]; exact List.getElem_mem hi)
      omega
    · rw [List.getD_eq_getElem?_getD, List.getElem?_eq_none (by omega)]
      exact Nat.zero_le _
  · exact h.2 (zw_site.getD i 0) (by rw [List.getD_eq_getElem?_getD, List.getElem?_eq_getElem hi]; exact List.getElem_mem hi)
theorem cw_site (h : zTKc n b p q S) : zcall 92 [.ref 1, .ref 1000038] zRc S L = some (some (.int (zbi (zW b n p q zw_site))), zRc, S, L) := t92 (by decide +kernel) zwl_site.1 zwl_site.2.1 h
theorem mw_site (hR : zLT R) (h : zTK n b p q S Sm Lm) : zcall 181 [.ref 0, .ref 1000006] R Sm Lm = some (some (.int (zbi (zW b n p q zw_site))), R, Sm, Lm) := m181 hR (by decide +kernel) zwl_site.1 zwl_site.2.2 h
def zw_print : List Nat := [112, 114, 105, 110, 116]
theorem zwl_print : zw_print.length ≤ 8 ∧ (∀ i, zw_print.getD i 0 ≤ 255) ∧ ∀ i, i < zw_print.length → 97 ≤ zw_print.getD i 0 ∧ zw_print.getD i 0 ≤ 122 := by
  have h : zw_print.length ≤ 8 ∧ (∀ x ∈ zw_print, 97 ≤ x ∧ x ≤ 122) := by decide
  refine ⟨h.1, fun i => ?_, fun i hi => ?_⟩
  · by_cases hi : i < zw_print.length
    · have := h.2 (zw_print.getD i 0) (by rw [List.getD_eq_getElem?_getD, List.getElem?_eq_getElem hi]; exact List.getElem_mem hi)
      omega
    · rw [List.getD_eq_getElem?_getD, List.getElem?_eq_none (by omega)]
      exact Nat.zero_le _
  · exact h.2 (zw_print.getD i 0) (by rw [List.getD_eq_getElem?_getD, List.getElem?_eq_getElem hi]; exact List.getElem_mem hi)
theorem cw_print (h : zTKc n b p q S) : zcall 92 [.ref 1, .ref 1000040] zRc S L = some (some (.int (zbi (zW b n p q zw_print))), zRc, S, L) := t92 (by decide +kernel) zwl_print.1 zwl_print.2.1 h
theorem mw_print (hR : zLT R) (h : zTK n b p q S Sm Lm) : zcall 181 [.ref 0, .ref 1000007] R Sm Lm = some (some (.int (zbi (zW b n p q zw_print))), R, Sm, Lm) := m181 hR (by decide +kernel) zwl_print.1 zwl_print.2.2 h
def zw_at : List Nat := [97, 116]
theorem zwl_at : zw_at.length ≤ 8 ∧ (∀ i, zw_at.getD i 0 ≤ 255) ∧ ∀ i, i < zw_at.length → 97 ≤ zw_at.getD i 0 ∧ zw_at.getD i 0 ≤ 122 := by
  have h : zw_at.length ≤ 8 ∧ (∀ x ∈ zw_at, 97 ≤ x ∧ x ≤ 122) := by decide
  refine ⟨h.1, fun i => ?_, fun i hi => ?_⟩
  · by_cases hi : i < zw_at.length
    · have := h.2 (zw_at.getD i 0) (by rw [List.getD_eq_getElem?_getD, List.getElem?_eq_getElem hi]; exact List.getElem_mem hi)
      omega
    · rw [List.getD_eq_getElem?_getD, List.getElem?_eq_none (by omega)]
      exact Nat.zero_le _
  · exact h.2 (zw_at.getD i 0) (by rw [List.getD_eq_getElem?_getD, List.getElem?_eq_getElem hi]; exact List.getElem_mem hi)
theorem cw_at (h : zTKc n b p q S) : zcall 92 [.ref 1, .ref 1000041] zRc S L = some (some (.int (zbi (zW b n p q zw_at))), zRc, S, L) := t92 (by decide +kernel) zwl_at.1 zwl_at.2.1 h
theorem mw_at (hR : zLT R) (h : zTK n b p q S Sm Lm) : zcall 181 [.ref 0, .ref 1000008] R Sm Lm = some (some (.int (zbi (zW b n p q zw_at))), R, Sm, Lm) := m181 hR (by decide +kernel) zwl_at.1 zwl_at.2.2 h
def zw_guess : List Nat := [103, 117, 101, 115, 115]
theorem zwl_guess : zw_guess.length ≤ 8 ∧ (∀ i, zw_guess.getD i 0 ≤ 255) ∧ ∀ i, i < zw_guess.length → 97 ≤ zw_guess.getD i 0 ∧ zw_guess.getD i 0 ≤ 122 := by
  have h : zw_guess.length ≤ 8 ∧ (∀ x ∈ zw_guess, 97 ≤ x ∧ x ≤ 122) := by decide
  refine ⟨h.1, fun i => ?_, fun i hi => ?_⟩
  · by_cases hi : i < zw_guess.length
    · have := h.2 (zw_guess.getD i 0) (by rw [List.getD_eq_getElem?_getD, List.getElem?_eq_getElem hi]; exact List.getElem_mem hi)
      omega
    · rw [List.getD_eq_getElem?_getD, List.getElem?_eq_none (by omega)]
      exact Nat.zero_le _
  · exact h.2 (zw_guess.getD i 0) (by rw [List.getD_eq_getElem?_getD, List.getElem?_eq_getElem hi]; exact List.getElem_mem hi)
theorem cw_guess (h : zTKc n b p q S) : zcall 92 [.ref 1, .ref 1000042] zRc S L = some (some (.int (zbi (zW b n p q zw_guess))), zRc, S, L) := t92 (by decide +kernel) zwl_guess.1 zwl_guess.2.1 h
theorem mw_guess (hR : zLT R) (h : zTK n b p q S Sm Lm) : zcall 181 [.ref 0, .ref 1000009] R Sm Lm = some (some (.int (zbi (zW b n p q zw_guess))), R, Sm, Lm) := m181 hR (by decide +kernel) zwl_guess.1 zwl_guess.2.2 h
def zw_left : List Nat := [108, 101, 102, 116]
theorem zwl_left : zw_left.length ≤ 8 ∧ (∀ i, zw_left.getD i 0 ≤ 255) ∧ ∀ i, i < zw_left.length → 97 ≤ zw_left.getD i 0 ∧ zw_left.getD i 0 ≤ 122 := by
  have h : zw_left.length ≤ 8 ∧ (∀ x ∈ zw_left, 97 ≤ x ∧ x ≤ 122) := by decide
  refine ⟨h.1, fun i => ?_, fun i hi => ?_⟩
  · by_cases hi : i < zw_left.length
    · have := h.2 (zw_left.getD i 0) (by rw [List.getD_eq_getElem?_getD, List.getElem?_eq_getElem hi]; exact List.getElem_mem hi)
      omega
    · rw [List.getD_eq_getElem?_getD, List.getElem?_eq_none (by omega)]
      exact Nat.zero_le _
  · exact h.2 (zw_left.getD i 0) (by rw [List.getD_eq_getElem?_getD, List.getElem?_eq_getElem hi]; exact List.getElem_mem hi)
theorem cw_left (h : zTKc n b p q S) : zcall 92 [.ref 1, .ref 1000055] zRc S L = some (some (.int (zbi (zW b n p q zw_left))), zRc, S, L) := t92 (by decide +kernel) zwl_left.1 zwl_left.2.1 h
theorem mw_left (hR : zLT R) (h : zTK n b p q S Sm Lm) : zcall 181 [.ref 0, .ref 1000010] R Sm Lm = some (some (.int (zbi (zW b n p q zw_left))), R, Sm, Lm) := m181 hR (by decide +kernel) zwl_left.1 zwl_left.2.2 h
def zw_right : List Nat := [114, 105, 103, 104, 116]
theorem zwl_right : zw_right.length ≤ 8 ∧ (∀ i, zw_right.getD i 0 ≤ 255) ∧ ∀ i, i < zw_right.length → 97 ≤ zw_right.getD i 0 ∧ zw_right.getD i 0 ≤ 122 := by
  have h : zw_right.length ≤ 8 ∧ (∀ x ∈ zw_right, 97 ≤ x ∧ x ≤ 122) := by decide
  refine ⟨h.1, fun i => ?_, fun i hi => ?_⟩
  · by_cases hi : i < zw_right.length
    · have := h.2 (zw_right.getD i 0) (by rw [List.getD_eq_getElem?_getD, List.getElem?_eq_getElem hi]; exact List.getElem_mem hi)
      omega
    · rw [List.getD_eq_getElem?_getD, List.getElem?_eq_none (by omega)]
      exact Nat.zero_le _
  · exact h.2 (zw_right.getD i 0) (by rw [List.getD_eq_getElem?_getD, List.getElem?_eq_getElem hi]; exact List.getElem_mem hi)
theorem cw_right (h : zTKc n b p q S) : zcall 92 [.ref 1, .ref 1000054] zRc S L = some (some (.int (zbi (zW b n p q zw_right))), zRc, S, L) := t92 (by decide +kernel) zwl_right.1 zwl_right.2.1 h
theorem mw_right (hR : zLT R) (h : zTK n b p q S Sm Lm) : zcall 181 [.ref 0, .ref 1000011] R Sm Lm = some (some (.int (zbi (zW b n p q zw_right))), R, Sm, Lm) := m181 hR (by decide +kernel) zwl_right.1 zwl_right.2.2 h
def zw_flat : List Nat := [102, 108, 97, 116]
theorem zwl_flat : zw_flat.length ≤ 8 ∧ (∀ i, zw_flat.getD i 0 ≤ 255) ∧ ∀ i, i < zw_flat.length → 97 ≤ zw_flat.getD i 0 ∧ zw_flat.getD i 0 ≤ 122 := by
  have h : zw_flat.length ≤ 8 ∧ (∀ x ∈ zw_flat, 97 ≤ x ∧ x ≤ 122) := by decide
  refine ⟨h.1, fun i => ?_, fun i hi => ?_⟩
  · by_cases hi : i < zw_flat.length
    · have := h.2 (zw_flat.getD i 0) (by rw [List.getD_eq_getElem?_getD, List.getElem?_eq_getElem hi]; exact List.getElem_mem hi)
      omega
    · rw [List.getD_eq_getElem?_getD, List.getElem?_eq_none (by omega)]
      exact Nat.zero_le _
  · exact h.2 (zw_flat.getD i 0) (by rw [List.getD_eq_getElem?_getD, List.getElem?_eq_getElem hi]; exact List.getElem_mem hi)
theorem cw_flat (h : zTKc n b p q S) : zcall 92 [.ref 1, .ref 1000056] zRc S L = some (some (.int (zbi (zW b n p q zw_flat))), zRc, S, L) := t92 (by decide +kernel) zwl_flat.1 zwl_flat.2.1 h
theorem mw_flat (hR : zLT R) (h : zTK n b p q S Sm Lm) : zcall 181 [.ref 0, .ref 1000012] R Sm Lm = some (some (.int (zbi (zW b n p q zw_flat))), R, Sm, Lm) := m181 hR (by decide +kernel) zwl_flat.1 zwl_flat.2.2 h
def zw_high : List Nat := [104, 105, 103, 104]
theorem zwl_high : zw_high.length ≤ 8 ∧ (∀ i, zw_high.getD i 0 ≤ 255) ∧ ∀ i, i < zw_high.length → 97 ≤ zw_high.getD i 0 ∧ zw_high.getD i 0 ≤ 122 := by
  have h : zw_high.length ≤ 8 ∧ (∀ x ∈ zw_high, 97 ≤ x ∧ x ≤ 122) := by decide
  refine ⟨h.1, fun i => ?_, fun i hi => ?_⟩
  · by_cases hi : i < zw_high.length
    · have := h.2 (zw_high.getD i 0) (by rw [List.getD_eq_getElem?_getD, List.getElem?_eq_getElem hi]; exact List.getElem_mem hi)
      omega
    · rw [List.getD_eq_getElem?_getD, List.getElem?_eq_none (by omega)]
      exact Nat.zero_le _
  · exact h.2 (zw_high.getD i 0) (by rw [List.getD_eq_getElem?_getD, List.getElem?_eq_getElem hi]; exact List.getElem_mem hi)
theorem cw_high (h : zTKc n b p q S) : zcall 92 [.ref 1, .ref 1000057] zRc S L = some (some (.int (zbi (zW b n p q zw_high))), zRc, S, L) := t92 (by decide +kernel) zwl_high.1 zwl_high.2.1 h
theorem mw_high (hR : zLT R) (h : zTK n b p q S Sm Lm) : zcall 181 [.ref 0, .ref 1000013] R Sm Lm = some (some (.int (zbi (zW b n p q zw_high))), R, Sm, Lm) := m181 hR (by decide +kernel) zwl_high.1 zwl_high.2.2 h
def zw_rolls : List Nat := [114, 111, 108, 108, 115]
theorem zwl_rolls : zw_rolls.length ≤ 8 ∧ (∀ i, zw_rolls.getD i 0 ≤ 255) ∧ ∀ i, i < zw_rolls.length → 97 ≤ zw_rolls.getD i 0 ∧ zw_rolls.getD i 0 ≤ 122 := by
  have h : zw_rolls.length ≤ 8 ∧ (∀ x ∈ zw_rolls, 97 ≤ x ∧ x ≤ 122) := by decide
  refine ⟨h.1, fun i => ?_, fun i hi => ?_⟩
  · by_cases hi : i < zw_rolls.length
    · have := h.2 (zw_rolls.getD i 0) (by rw [List.getD_eq_getElem?_getD, List.getElem?_eq_getElem hi]; exact List.getElem_mem hi)
      omega
    · rw [List.getD_eq_getElem?_getD, List.getElem?_eq_none (by omega)]
      exact Nat.zero_le _
  · exact h.2 (zw_rolls.getD i 0) (by rw [List.getD_eq_getElem?_getD, List.getElem?_eq_getElem hi]; exact List.getElem_mem hi)
theorem cw_rolls (h : zTKc n b p q S) : zcall 92 [.ref 1, .ref 1000058] zRc S L = some (some (.int (zbi (zW b n p q zw_rolls))), zRc, S, L) := t92 (by decide +kernel) zwl_rolls.1 zwl_rolls.2.1 h
theorem mw_rolls (hR : zLT R) (h : zTK n b p q S Sm Lm) : zcall 181 [.ref 0, .ref 1000014] R Sm Lm = some (some (.int (zbi (zW b n p q zw_rolls))), R, Sm, Lm) := m181 hR (by decide +kernel) zwl_rolls.1 zwl_rolls.2.2 h
def zw_makes : List Nat := [109, 97, 107, 101, 115]
theorem zwl_makes : zw_makes.length ≤ 8 ∧ (∀ i, zw_makes.getD i 0 ≤ 255) ∧ ∀ i, i < zw_makes.length → 97 ≤ zw_makes.getD i 0 ∧ zw_makes.getD i 0 ≤ 122 := by
  have h : zw_makes.length ≤ 8 ∧ (∀ x ∈ zw_makes, 97 ≤ x ∧ x ≤ 122) := by decide
  refine ⟨h.1, fun i => ?_, fun i hi => ?_⟩
  · by_cases hi : i < zw_makes.length
    · have := h.2 (zw_makes.getD i 0) (by rw [List.getD_eq_getElem?_getD, List.getElem?_eq_getElem hi]; exact List.getElem_mem hi)
      omega
    · rw [List.getD_eq_getElem?_getD, List.getElem?_eq_none (by omega)]
      exact Nat.zero_le _
  · exact h.2 (zw_makes.getD i 0) (by rw [List.getD_eq_getElem?_getD, List.getElem?_eq_getElem hi]; exact List.getElem_mem hi)
theorem cw_makes (h : zTKc n b p q S) : zcall 92 [.ref 1, .ref 1000059] zRc S L = some (some (.int (zbi (zW b n p q zw_makes))), zRc, S, L) := t92 (by decide +kernel) zwl_makes.1 zwl_makes.2.1 h
theorem mw_makes (hR : zLT R) (h : zTK n b p q S Sm Lm) : zcall 181 [.ref 0, .ref 1000015] R Sm Lm = some (some (.int (zbi (zW b n p q zw_makes))), R, Sm, Lm) := m181 hR (by decide +kernel) zwl_makes.1 zwl_makes.2.2 h
def zw_goes : List Nat := [103, 111, 101, 115]
theorem zwl_goes : zw_goes.length ≤ 8 ∧ (∀ i, zw_goes.getD i 0 ≤ 255) ∧ ∀ i, i < zw_goes.length → 97 ≤ zw_goes.getD i 0 ∧ zw_goes.getD i 0 ≤ 122 := by
  have h : zw_goes.length ≤ 8 ∧ (∀ x ∈ zw_goes, 97 ≤ x ∧ x ≤ 122) := by decide
  refine ⟨h.1, fun i => ?_, fun i hi => ?_⟩
  · by_cases hi : i < zw_goes.length
    · have := h.2 (zw_goes.getD i 0) (by rw [List.getD_eq_getElem?_getD, List.getElem?_eq_getElem hi]; exact List.getElem_mem hi)
      omega
    · rw [List.getD_eq_getElem?_getD, List.getElem?_eq_none (by omega)]
      exact Nat.zero_le _
  · exact h.2 (zw_goes.getD i 0) (by rw [List.getD_eq_getElem?_getD, List.getElem?_eq_getElem hi]; exact List.getElem_mem hi)
theorem cw_goes (h : zTKc n b p q S) : zcall 92 [.ref 1, .ref 1000060] zRc S L = some (some (.int (zbi (zW b n p q zw_goes))), zRc, S, L) := t92 (by decide +kernel) zwl_goes.1 zwl_goes.2.1 h
theorem mw_goes (hR : zLT R) (h : zTK n b p q S Sm Lm) : zcall 181 [.ref 0, .ref 1000016] R Sm Lm = some (some (.int (zbi (zW b n p q zw_goes))), R, Sm, Lm) := m181 hR (by decide +kernel) zwl_goes.1 zwl_goes.2.2 h
def zw_ducks : List Nat := [100, 117, 99, 107, 115]
theorem zwl_ducks : zw_ducks.length ≤ 8 ∧ (∀ i, zw_ducks.getD i 0 ≤ 255) ∧ ∀ i, i < zw_ducks.length → 97 ≤ zw_ducks.getD i 0 ∧ zw_ducks.getD i 0 ≤ 122 := by
  have h : zw_ducks.length ≤ 8 ∧ (∀ x ∈ zw_ducks, 97 ≤ x ∧ x ≤ 122) := by decide
  refine ⟨h.1, fun i => ?_, fun i hi => ?_⟩
  · by_cases hi : i < zw_ducks.length
    · have := h.2 (zw_ducks.getD i 0) (by rw [List.getD_eq_getElem?_getD, List.getElem?_eq_getElem hi]; exact List.getElem_mem hi)
      omega
    · rw [List.getD_eq_getElem?_getD, List.getElem?_eq_none (by omega)]
      exact Nat.zero_le _
  · exact h.2 (zw_ducks.getD i 0) (by rw [List.getD_eq_getElem?_getD, List.getElem?_eq_getElem hi]; exact List.getElem_mem hi)
theorem cw_ducks (h : zTKc n b p q S) : zcall 92 [.ref 1, .ref 1000061] zRc S L = some (some (.int (zbi (zW b n p q zw_ducks))), zRc, S, L) := t92 (by decide +kernel) zwl_ducks.1 zwl_ducks.2.1 h
theorem mw_ducks (hR : zLT R) (h : zTK n b p q S Sm Lm) : zcall 181 [.ref 0, .ref 1000017] R Sm Lm = some (some (.int (zbi (zW b n p q zw_ducks))), R, Sm, Lm) := m181 hR (by decide +kernel) zwl_ducks.1 zwl_ducks.2.2 h
def zw_of : List Nat := [111, 102]
theorem zwl_of : zw_of.length ≤ 8 ∧ (∀ i, zw_of.getD i 0 ≤ 255) ∧ ∀ i, i < zw_of.length → 97 ≤ zw_of.getD i 0 ∧ zw_of.getD i 0 ≤ 122 := by
  have h : zw_of.length ≤ 8 ∧ (∀ x ∈ zw_of, 97 ≤ x ∧ x ≤ 122) := by decide
  refine ⟨h.1, fun i => ?_, fun i hi => ?_⟩
  · by_cases hi : i < zw_of.length
    · have := h.2 (zw_of.getD i 0) (by rw [List.getD_eq_getElem?_getD, List.getElem?_eq_getElem hi]; exact List.getElem_mem hi)
      omega
    · rw [List.getD_eq_getElem?_getD, List.getElem?_eq_none (by omega)]
      exact Nat.zero_le _
  · exact h.2 (zw_of.getD i 0) (by rw [List.getD_eq_getElem?_getD, List.getElem?_eq_getElem hi]; exact List.getElem_mem hi)
theorem cw_of (h : zTKc n b p q S) : zcall 92 [.ref 1, .ref 1000053] zRc S L = some (some (.int (zbi (zW b n p q zw_of))), zRc, S, L) := t92 (by decide +kernel) zwl_of.1 zwl_of.2.1 h
theorem mw_of (hR : zLT R) (h : zTK n b p q S Sm Lm) : zcall 181 [.ref 0, .ref 1000018] R Sm Lm = some (some (.int (zbi (zW b n p q zw_of))), R, Sm, Lm) := m181 hR (by decide +kernel) zwl_of.1 zwl_of.2.2 h
def zw_carry : List Nat := [99, 97, 114, 114, 121]
theorem zwl_carry : zw_carry.length ≤ 8 ∧ (∀ i, zw_carry.getD i 0 ≤ 255) ∧ ∀ i, i < zw_carry.length → 97 ≤ zw_carry.getD i 0 ∧ zw_carry.getD i 0 ≤ 122 := by
  have h : zw_carry.length ≤ 8 ∧ (∀ x ∈ zw_carry, 97 ≤ x ∧ x ≤ 122) := by decide
  refine ⟨h.1, fun i => ?_, fun i hi => ?_⟩
  · by_cases hi : i < zw_carry.length
    · have := h.2 (zw_carry.getD i 0) (by rw [List.getD_eq_getElem?_getD, List.getElem?_eq_getElem hi]; exact List.getElem_mem hi)
      omega
    · rw [List.getD_eq_getElem?_getD, List.getElem?_eq_none (by omega)]
      exact Nat.zero_le _
  · exact h.2 (zw_carry.getD i 0) (by rw [List.getD_eq_getElem?_getD, List.getElem?_eq_getElem hi]; exact List.getElem_mem hi)
theorem cw_carry (h : zTKc n b p q S) : zcall 92 [.ref 1, .ref 1000043] zRc S L = some (some (.int (zbi (zW b n p q zw_carry))), zRc, S, L) := t92 (by decide +kernel) zwl_carry.1 zwl_carry.2.1 h
theorem mw_carry (hR : zLT R) (h : zTK n b p q S Sm Lm) : zcall 181 [.ref 0, .ref 1000019] R Sm Lm = some (some (.int (zbi (zW b n p q zw_carry))), R, Sm, Lm) := m181 hR (by decide +kernel) zwl_carry.1 zwl_carry.2.2 h
def zw_line : List Nat := [108, 105, 110, 101]
theorem zwl_line : zw_line.length ≤ 8 ∧ (∀ i, zw_line.getD i 0 ≤ 255) ∧ ∀ i, i < zw_line.length → 97 ≤ zw_line.getD i 0 ∧ zw_line.getD i 0 ≤ 122 := by
  have h : zw_line.length ≤ 8 ∧ (∀ x ∈ zw_line, 97 ≤ x ∧ x ≤ 122) := by decide
  refine ⟨h.1, fun i => ?_, fun i hi => ?_⟩
  · by_cases hi : i < zw_line.length
    · have := h.2 (zw_line.getD i 0) (by rw [List.getD_eq_getElem?_getD, List.getElem?_eq_getElem hi]; exact List.getElem_mem hi)
      omega
    · rw [List.getD_eq_getElem?_getD, List.getElem?_eq_none (by omega)]
      exact Nat.zero_le _
  · exact h.2 (zw_line.getD i 0) (by rw [List.getD_eq_getElem?_getD, List.getElem?_eq_getElem hi]; exact List.getElem_mem hi)
theorem cw_line (h : zTKc n b p q S) : zcall 92 [.ref 1, .ref 1000044] zRc S L = some (some (.int (zbi (zW b n p q zw_line))), zRc, S, L) := t92 (by decide +kernel) zwl_line.1 zwl_line.2.1 h
theorem mw_line (hR : zLT R) (h : zTK n b p q S Sm Lm) : zcall 181 [.ref 0, .ref 1000020] R Sm Lm = some (some (.int (zbi (zW b n p q zw_line))), R, Sm, Lm) := m181 hR (by decide +kernel) zwl_line.1 zwl_line.2.2 h
def zw_tenths : List Nat := [116, 101, 110, 116, 104, 115]
theorem zwl_tenths : zw_tenths.length ≤ 8 ∧ (∀ i, zw_tenths.getD i 0 ≤ 255) ∧ ∀ i, i < zw_tenths.length → 97 ≤ zw_tenths.getD i 0 ∧ zw_tenths.getD i 0 ≤ 122 := by
  have h : zw_tenths.length ≤ 8 ∧ (∀ x ∈ zw_tenths, 97 ≤ x ∧ x ≤ 122) := by decide
  refine ⟨h.1, fun i => ?_, fun i hi => ?_⟩
  · by_cases hi : i < zw_tenths.length
    · have := h.2 (zw_tenths.getD i 0) (by rw [List.getD_eq_getElem?_getD, List.getElem?_eq_getElem hi]; exact List.getElem_mem hi)
      omega
    · rw [List.getD_eq_getElem?_getD, List.getElem?_eq_none (by omega)]
      exact Nat.zero_le _
  · exact h.2 (zw_tenths.getD i 0) (by rw [List.getD_eq_getElem?_getD, List.getElem?_eq_getElem hi]; exact List.getElem_mem hi)
theorem cw_tenths (h : zTKc n b p q S) : zcall 92 [.ref 1, .ref 1000045] zRc S L = some (some (.int (zbi (zW b n p q zw_tenths))), zRc, S, L) := t92 (by decide +kernel) zwl_tenths.1 zwl_tenths.2.1 h
theorem mw_tenths (hR : zLT R) (h : zTK n b p q S Sm Lm) : zcall 181 [.ref 0, .ref 1000021] R Sm Lm = some (some (.int (zbi (zW b n p q zw_tenths))), R, Sm, Lm) := m181 hR (by decide +kernel) zwl_tenths.1 zwl_tenths.2.2 h
def zw_thaws : List Nat := [116, 104, 97, 119, 115]
theorem zwl_thaws : zw_thaws.length ≤ 8 ∧ (∀ i, zw_thaws.getD i 0 ≤ 255) ∧ ∀ i, i < zw_thaws.length → 97 ≤ zw_thaws.getD i 0 ∧ zw_thaws.getD i 0 ≤ 122 := by
  have h : zw_thaws.length ≤ 8 ∧ (∀ x ∈ zw_thaws, 97 ≤ x ∧ x ≤ 122) := by decide
  refine ⟨h.1, fun i => ?_, fun i hi => ?_⟩
  · by_cases hi : i < zw_thaws.length
    · have := h.2 (zw_thaws.getD i 0) (by rw [List.getD_eq_getElem?_getD, List.getElem?_eq_getElem hi]; exact List.getElem_mem hi)
      omega
    · rw [List.getD_eq_getElem?_getD, List.getElem?_eq_none (by omega)]
      exact Nat.zero_le _
  · exact h.2 (zw_thaws.getD i 0) (by rw [List.getD_eq_getElem?_getD, List.getElem?_eq_getElem hi]; exact List.getElem_mem hi)
theorem cw_thaws (h : zTKc n b p q S) : zcall 92 [.ref 1, .ref 1000046] zRc S L = some (some (.int (zbi (zW b n p q zw_thaws))), zRc, S, L) := t92 (by decide +kernel) zwl_thaws.1 zwl_thaws.2.1 h
theorem mw_thaws (hR : zLT R) (h : zTK n b p q S Sm Lm) : zcall 181 [.ref 0, .ref 1000022] R Sm Lm = some (some (.int (zbi (zW b n p q zw_thaws))), R, Sm, Lm) := m181 hR (by decide +kernel) zwl_thaws.1 zwl_thaws.2.2 h
def zw_wet : List Nat := [119, 101, 116]
theorem zwl_wet : zw_wet.length ≤ 8 ∧ (∀ i, zw_wet.getD i 0 ≤ 255) ∧ ∀ i, i < zw_wet.length → 97 ≤ zw_wet.getD i 0 ∧ zw_wet.getD i 0 ≤ 122 := by
  have h : zw_wet.length ≤ 8 ∧ (∀ x ∈ zw_wet, 97 ≤ x ∧ x ≤ 122) := by decide
  refine ⟨h.1, fun i => ?_, fun i hi => ?_⟩
  · by_cases hi : i < zw_wet.length
    · have := h.2 (zw_wet.getD i 0) (by rw [List.getD_eq_getElem?_getD, List.getElem?_eq_getElem hi]; exact List.getElem_mem hi)
      omega
    · rw [List.getD_eq_getElem?_getD, List.getElem?_eq_none (by omega)]
      exact Nat.zero_le _
  · exact h.2 (zw_wet.getD i 0) (by rw [List.getD_eq_getElem?_getD, List.getElem?_eq_getElem hi]; exact List.getElem_mem hi)
theorem cw_wet (h : zTKc n b p q S) : zcall 92 [.ref 1, .ref 1000047] zRc S L = some (some (.int (zbi (zW b n p q zw_wet))), zRc, S, L) := t92 (by decide +kernel) zwl_wet.1 zwl_wet.2.1 h
theorem mw_wet (hR : zLT R) (h : zTK n b p q S Sm Lm) : zcall 181 [.ref 0, .ref 1000023] R Sm Lm = some (some (.int (zbi (zW b n p q zw_wet))), R, Sm, Lm) := m181 hR (by decide +kernel) zwl_wet.1 zwl_wet.2.2 h
def zw_deep : List Nat := [100, 101, 101, 112]
theorem zwl_deep : zw_deep.length ≤ 8 ∧ (∀ i, zw_deep.getD i 0 ≤ 255) ∧ ∀ i, i < zw_deep.length → 97 ≤ zw_deep.getD i 0 ∧ zw_deep.getD i 0 ≤ 122 := by
  have h : zw_deep.length ≤ 8 ∧ (∀ x ∈ zw_deep, 97 ≤ x ∧ x ≤ 122) := by decide
  refine ⟨h.1, fun i => ?_, fun i hi => ?_⟩
  · by_cases hi : i < zw_deep.length
    · have := h.2 (zw_deep.getD i 0) (by rw [List.getD_eq_getElem?_getD, List.getElem?_eq_getElem hi]; exact List.getElem_mem hi)
      omega
    · rw [List.getD_eq_getElem?_getD, List.getElem?_eq_none (by omega)]
      exact Nat.zero_le _
  · exact h.2 (zw_deep.getD i 0) (by rw [List.getD_eq_getElem?_getD, List.getElem?_eq_getElem hi]; exact List.getElem_mem hi)
theorem cw_deep (h : zTKc n b p q S) : zcall 92 [.ref 1, .ref 1000048] zRc S L = some (some (.int (zbi (zW b n p q zw_deep))), zRc, S, L) := t92 (by decide +kernel) zwl_deep.1 zwl_deep.2.1 h
theorem mw_deep (hR : zLT R) (h : zTK n b p q S Sm Lm) : zcall 181 [.ref 0, .ref 1000024] R Sm Lm = some (some (.int (zbi (zW b n p q zw_deep))), R, Sm, Lm) := m181 hR (by decide +kernel) zwl_deep.1 zwl_deep.2.2 h
def zw_sees : List Nat := [115, 101, 101, 115]
theorem zwl_sees : zw_sees.length ≤ 8 ∧ (∀ i, zw_sees.getD i 0 ≤ 255) ∧ ∀ i, i < zw_sees.length → 97 ≤ zw_sees.getD i 0 ∧ zw_sees.getD i 0 ≤ 122 := by
  have h : zw_sees.length ≤ 8 ∧ (∀ x ∈ zw_sees, 97 ≤ x ∧ x ≤ 122) := by decide
  refine ⟨h.1, fun i => ?_, fun i hi => ?_⟩
  · by_cases hi : i < zw_sees.length
    · have := h.2 (zw_sees.getD i 0) (by rw [List.getD_eq_getElem?_getD, List.getElem?_eq_getElem hi]; exact List.getElem_mem hi)
      omega
    · rw [List.getD_eq_getElem?_getD, List.getElem?_eq_none (by omega)]
      exact Nat.zero_le _
  · exact h.2 (zw_sees.getD i 0) (by rw [List.getD_eq_getElem?_getD, List.getElem?_eq_getElem hi]; exact List.getElem_mem hi)
theorem cw_sees (h : zTKc n b p q S) : zcall 92 [.ref 1, .ref 1000049] zRc S L = some (some (.int (zbi (zW b n p q zw_sees))), zRc, S, L) := t92 (by decide +kernel) zwl_sees.1 zwl_sees.2.1 h
theorem mw_sees (hR : zLT R) (h : zTK n b p q S Sm Lm) : zcall 181 [.ref 0, .ref 1000025] R Sm Lm = some (some (.int (zbi (zW b n p q zw_sees))), R, Sm, Lm) := m181 hR (by decide +kernel) zwl_sees.1 zwl_sees.2.2 h
def zw_strong : List Nat := [115, 116, 114, 111, 110, 103]
theorem zwl_strong : zw_strong.length ≤ 8 ∧ (∀ i, zw_strong.getD i 0 ≤ 255) ∧ ∀ i, i < zw_strong.length → 97 ≤ zw_strong.getD i 0 ∧ zw_strong.getD i 0 ≤ 122 := by
  have h : zw_strong.length ≤ 8 ∧ (∀ x ∈ zw_strong, 97 ≤ x ∧ x ≤ 122) := by decide
  refine ⟨h.1, fun i => ?_, fun i hi => ?_⟩
  · by_cases hi : i < zw_strong.length
    · have := h.2 (zw_strong.getD i 0) (by rw [List.getD_eq_getElem?_getD, List.getElem?_eq_getElem hi]; exact List.getElem_mem hi)
      omega
    · rw [List.getD_eq_getElem?_getD, List.getElem?_eq_none (by omega)]
      exact Nat.zero_le _
  · exact h.2 (zw_strong.getD i 0) (by rw [List.getD_eq_getElem?_getD, List.getElem?_eq_getElem hi]; exact List.getElem_mem hi)
theorem cw_strong (h : zTKc n b p q S) : zcall 92 [.ref 1, .ref 1000036] zRc S L = some (some (.int (zbi (zW b n p q zw_strong))), zRc, S, L) := t92 (by decide +kernel) zwl_strong.1 zwl_strong.2.1 h
theorem mw_strong (hR : zLT R) (h : zTK n b p q S Sm Lm) : zcall 181 [.ref 0, .ref 1000026] R Sm Lm = some (some (.int (zbi (zW b n p q zw_strong))), R, Sm, Lm) := m181 hR (by decide +kernel) zwl_strong.1 zwl_strong.2.2 h
def zw_arm : List Nat := [97, 114, 109]
theorem zwl_arm : zw_arm.length ≤ 8 ∧ (∀ i, zw_arm.getD i 0 ≤ 255) ∧ ∀ i, i < zw_arm.length → 97 ≤ zw_arm.getD i 0 ∧ zw_arm.getD i 0 ≤ 122 := by
  have h : zw_arm.length ≤ 8 ∧ (∀ x ∈ zw_arm, 97 ≤ x ∧ x ≤ 122) := by decide
  refine ⟨h.1, fun i => ?_, fun i hi => ?_⟩
  · by_cases hi : i < zw_arm.length
    · have := h.2 (zw_arm.getD i 0) (by rw [List.getD_eq_getElem?_getD, List.getElem?_eq_getElem hi]; exact List.getElem_mem hi)
      omega
    · rw [List.getD_eq_getElem?_getD, List.getElem?_eq_none (by omega)]
      exact Nat.zero_le _
  · exact h.2 (zw_arm.getD i 0) (by rw [List.getD_eq_getElem?_getD, List.getElem?_eq_getElem hi]; exact List.getElem_mem hi)
theorem cw_arm (h : zTKc n b p q S) : zcall 92 [.ref 1, .ref 1000050] zRc S L = some (some (.int (zbi (zW b n p q zw_arm))), zRc, S, L) := t92 (by decide +kernel) zwl_arm.1 zwl_arm.2.1 h
theorem mw_arm (hR : zLT R) (h : zTK n b p q S Sm Lm) : zcall 181 [.ref 0, .ref 1000027] R Sm Lm = some (some (.int (zbi (zW b n p q zw_arm))), R, Sm, Lm) := m181 hR (by decide +kernel) zwl_arm.1 zwl_arm.2.2 h
def zw_dodge : List Nat := [100, 111, 100, 103, 101]
theorem zwl_dodge : zw_dodge.length ≤ 8 ∧ (∀ i, zw_dodge.getD i 0 ≤ 255) ∧ ∀ i, i < zw_dodge.length → 97 ≤ zw_dodge.getD i 0 ∧ zw_dodge.getD i 0 ≤ 122 := by
  have h : zw_dodge.length ≤ 8 ∧ (∀ x ∈ zw_dodge, 97 ≤ x ∧ x ≤ 122) := by decide
  refine ⟨h.1, fun i => ?_, fun i hi => ?_⟩
  · by_cases hi : i < zw_dodge.length
    · have := h.2 (zw_dodge.getD i 0) (by rw [List.getD_eq_getElem?_getD, List.getElem?_eq_getElem hi]; exact List.getElem_mem hi)
      omega
    · rw [List.getD_eq_getElem?_getD, List.getElem?_eq_none (by omega)]
      exact Nat.zero_le _
  · exact h.2 (zw_dodge.getD i 0) (by rw [List.getD_eq_getElem?_getD, List.getElem?_eq_getElem hi]; exact List.getElem_mem hi)
theorem cw_dodge (h : zTKc n b p q S) : zcall 92 [.ref 1, .ref 1000051] zRc S L = some (some (.int (zbi (zW b n p q zw_dodge))), zRc, S, L) := t92 (by decide +kernel) zwl_dodge.1 zwl_dodge.2.1 h
theorem mw_dodge (hR : zLT R) (h : zTK n b p q S Sm Lm) : zcall 181 [.ref 0, .ref 1000028] R Sm Lm = some (some (.int (zbi (zW b n p q zw_dodge))), R, Sm, Lm) := m181 hR (by decide +kernel) zwl_dodge.1 zwl_dodge.2.2 h
def zw_balls : List Nat := [98, 97, 108, 108, 115]
theorem zwl_balls : zw_balls.length ≤ 8 ∧ (∀ i, zw_balls.getD i 0 ≤ 255) ∧ ∀ i, i < zw_balls.length → 97 ≤ zw_balls.getD i 0 ∧ zw_balls.getD i 0 ≤ 122 := by
  have h : zw_balls.length ≤ 8 ∧ (∀ x ∈ zw_balls, 97 ≤ x ∧ x ≤ 122) := by decide
  refine ⟨h.1, fun i => ?_, fun i hi => ?_⟩
  · by_cases hi : i < zw_balls.length
    · have := h.2 (zw_balls.getD i 0) (by rw [List.getD_eq_getElem?_getD, List.getElem?_eq_getElem hi]; exact List.getElem_mem hi)
      omega
    · rw [List.getD_eq_getElem?_getD, List.getElem?_eq_none (by omega)]
      exact Nat.zero_le _
  · exact h.2 (zw_balls.getD i 0) (by rw [List.getD_eq_getElem?_getD, List.getElem?_eq_getElem hi]; exact List.getElem_mem hi)
theorem cw_balls (h : zTKc n b p q S) : zcall 92 [.ref 1, .ref 1000052] zRc S L = some (some (.int (zbi (zW b n p q zw_balls))), zRc, S, L) := t92 (by decide +kernel) zwl_balls.1 zwl_balls.2.1 h
theorem mw_balls (hR : zLT R) (h : zTK n b p q S Sm Lm) : zcall 181 [.ref 0, .ref 1000029] R Sm Lm = some (some (.int (zbi (zW b n p q zw_balls))), R, Sm, Lm) := m181 hR (by decide +kernel) zwl_balls.1 zwl_balls.2.2 h
def zw_takes : List Nat := [116, 97, 107, 101, 115]
theorem zwl_takes : zw_takes.length ≤ 8 ∧ (∀ i, zw_takes.getD i 0 ≤ 255) ∧ ∀ i, i < zw_takes.length → 97 ≤ zw_takes.getD i 0 ∧ zw_takes.getD i 0 ≤ 122 := by
  have h : zw_takes.length ≤ 8 ∧ (∀ x ∈ zw_takes, 97 ≤ x ∧ x ≤ 122) := by decide
  refine ⟨h.1, fun i => ?_, fun i hi => ?_⟩
  · by_cases hi : i < zw_takes.length
    · have := h.2 (zw_takes.getD i 0) (by rw [List.getD_eq_getElem?_getD, List.getElem?_eq_getElem hi]; exact List.getElem_mem hi)
      omega
    · rw [List.getD_eq_getElem?_getD, List.getElem?_eq_none (by omega)]
      exact Nat.zero_le _
  · exact h.2 (zw_takes.getD i 0) (by rw [List.getD_eq_getElem?_getD, List.getElem?_eq_getElem hi]; exact List.getElem_mem hi)
theorem cw_takes (h : zTKc n b p q S) : zcall 92 [.ref 1, .ref 1000039] zRc S L = some (some (.int (zbi (zW b n p q zw_takes))), zRc, S, L) := t92 (by decide +kernel) zwl_takes.1 zwl_takes.2.1 h
theorem mw_takes (hR : zLT R) (h : zTK n b p q S Sm Lm) : zcall 181 [.ref 0, .ref 1000030] R Sm Lm = some (some (.int (zbi (zW b n p q zw_takes))), R, Sm, Lm) := m181 hR (by decide +kernel) zwl_takes.1 zwl_takes.2.2 h
def zw_weighs : List Nat := [119, 101, 105, 103, 104, 115]
theorem zwl_weighs : zw_weighs.length ≤ 8 ∧ (∀ i, zw_weighs.getD i 0 ≤ 255) ∧ ∀ i, i < zw_weighs.length → 97 ≤ zw_weighs.getD i 0 ∧ zw_weighs.getD i 0 ≤ 122 := by
  have h : zw_weighs.length ≤ 8 ∧ (∀ x ∈ zw_weighs, 97 ≤ x ∧ x ≤ 122) := by decide
  refine ⟨h.1, fun i => ?_, fun i hi => ?_⟩
  · by_cases hi : i < zw_weighs.length
    · have := h.2 (zw_weighs.getD i 0) (by rw [List.getD_eq_getElem?_getD, List.getElem?_eq_getElem hi]; exact List.getElem_mem hi)
      omega
    · rw [List.getD_eq_getElem?_getD, List.getElem?_eq_none (by omega)]
      exact Nat.zero_le _
  · exact h.2 (zw_weighs.getD i 0) (by rw [List.getD_eq_getElem?_getD, List.getElem?_eq_getElem hi]; exact List.getElem_mem hi)
theorem cw_weighs (h : zTKc n b p q S) : zcall 92 [.ref 1, .ref 1000062] zRc S L = some (some (.int (zbi (zW b n p q zw_weighs))), zRc, S, L) := t92 (by decide +kernel) zwl_weighs.1 zwl_weighs.2.1 h
theorem mw_weighs (hR : zLT R) (h : zTK n b p q S Sm Lm) : zcall 181 [.ref 0, .ref 1000031] R Sm Lm = some (some (.int (zbi (zW b n p q zw_weighs))), R, Sm, Lm) := m181 hR (by decide +kernel) zwl_weighs.1 zwl_weighs.2.2 h
end ZP4
