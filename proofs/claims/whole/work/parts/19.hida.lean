/-! A MATCH is told: sites, what they hide -/
section ZHA
variable {c : Nat → Nat} {S Sm : zS} {L Lm : zL} {rd : Value}
set_option maxRecDepth 100000 in
theorem zbitK : ∀ s, s < 256 → ∀ k, k < 8 → (nI s >>> (nI k &&& 31)) &&& 1 = nI (s / 2 ^ k % 2) := by decide +kernel
set_option maxRecDepth 100000 in
theorem zorK : ∀ k, k < 8 → ∀ m, m < 2 ^ k → nI m ||| ((1 : Int32) <<< (nI k &&& 31)) = nI (m + 2 ^ k) := by decide +kernel
theorem zshK : ∀ k, k < 9 → (1 : Int32) <<< (nI k &&& 31) = nI (2 ^ k) := by decide +kernel
set_option maxRecDepth 100000 in
theorem zsubK : ∀ s, s < 64 → ∀ m, m < 64 → (nI s &&& (nI m ^^^ (-1)) = 0 ↔ s &&& m = s) := by decide +kernel
theorem zsubV {v : Int32} {m : Nat} (hm : m < 64) (h : v &&& (nI m ^^^ (-1)) = 0) : ∃ s, s ≤ m ∧ v = nI s := by
  have h1 : v.toBitVec &&& (BitVec.ofNat 32 m ^^^ BitVec.allOnes 32) = 0#32 := congrArg Int32.toBitVec h
  have h2 : v.toBitVec = v.toBitVec &&& BitVec.ofNat 32 m := by
    apply BitVec.eq_of_getLsbD_eq
    intro i hi
    have h3 := congrArg (fun x : BitVec 32 => x.getLsbD i) h1
    simp only [BitVec.getLsbD_and, BitVec.getLsbD_xor, BitVec.getLsbD_allOnes, hi, decide_true, Bool.xor_true, BitVec.getLsbD_zero] at h3
    rw [BitVec.getLsbD_and]
    cases hx : v.toBitVec.getLsbD i with
    | false => rfl
    | true =>
      rw [hx] at h3
      cases hy : (BitVec.ofNat 32 m).getLsbD i with
      | true => rfl
      | false => rw [hy] at h3; cases h3
  refine ⟨v.toBitVec.toNat, ?_, ?_⟩
  · have h4 := congrArg BitVec.toNat h2
    rw [BitVec.toNat_and] at h4
    rw [h4]
    refine Nat.le_trans Nat.and_le_right ?_
    rw [BitVec.toNat_ofNat]
    exact Nat.mod_le _ _
  · apply Int32.toBitVec_inj.mp
    show v.toBitVec = BitVec.ofNat 32 v.toBitVec.toNat
    rw [BitVec.ofNat_toNat, BitVec.setWidth_eq]
/-- a set of those that are so -/
def zmk (f : Nat → Bool) : Nat → Nat
  | 0 => 0
  | k + 1 => zmk f k + (if f k = true then 2 ^ k else 0)
theorem zmk_lt {f : Nat → Bool} : ∀ n, zmk f n < 2 ^ n := by
  intro n
  induction n with
  | zero =>
    show 0 < 2 ^ 0
    decide
  | succ n ih =>
    show zmk f n + (if f n = true then 2 ^ n else 0) < 2 ^ (n + 1)
    rw [Nat.pow_succ]
    split <;> omega
theorem zmk_not {f g : Nat → Bool} : ∀ n, (∀ k, k < n → g k = !f k) → zmk f n + zmk g n = 2 ^ n - 1 := by
  intro n
  induction n with
  | zero => intro _; rfl
  | succ n ih =>
    intro h
    have h1 := ih (fun k hk => h k (by omega))
    have h2 := h n (by omega)
    have h3 : 0 < 2 ^ n := Nat.pow_pos (by decide)
    show zmk f n + (if f n = true then 2 ^ n else 0) + (zmk g n + (if g n = true then 2 ^ n else 0)) = 2 ^ (n + 1) - 1
    rw [Nat.pow_succ, h2]
    cases f n
    · simp only [Bool.not_false, if_true, if_false, Bool.false_eq_true]
      omega
    · simp only [Bool.not_true, if_true, if_false, Bool.false_eq_true]
      omega
theorem zmk_bit {f : Nat → Bool} : ∀ n k, k < n → zmk f n / 2 ^ k % 2 = if f k = true then 1 else 0 := by
  intro n
  induction n with
  | zero => intro k h; omega
  | succ n ih =>
    intro k h
    have hp : 0 < 2 ^ k := Nat.pow_pos (by decide)
    show (zmk f n + (if f n = true then 2 ^ n else 0)) / 2 ^ k % 2 = _
    rcases (show k < n ∨ k = n by omega) with h1 | rfl
    · rw [← ih k h1]
      have e : 2 ^ n = 2 ^ k * (2 * 2 ^ (n - k - 1)) := by
        rw [← Nat.pow_succ', ← Nat.pow_add]
        congr 1
        omega
      cases f n
      · simp only [Bool.false_eq_true, if_false, Nat.add_zero]
      · simp only [if_true]
        rw [e, Nat.add_mul_div_left _ _ hp, Nat.add_mul_mod_self_left]
    · have hl := @zmk_lt f k
      cases f k
      · simp only [Bool.false_eq_true, if_false, Nat.add_zero]
        rw [Nat.div_eq_of_lt hl]
      · simp only [if_true]
        rw [Nat.add_div_right _ hp, Nat.div_eq_of_lt hl]
/-- the SIDE of a set: none when of both; 2 when empty -/
def zsf (sd : Nat → Nat) (s : Nat) : Nat → Option Nat
  | 0 => some 2
  | k + 1 => match zsf sd s k with
    | none => none
    | some w => if s / 2 ^ k % 2 = 0 then some w else if w = 2 ∨ w = sd k then some (sd k) else none
theorem zsf_s {sd : Nat → Nat} {s k : Nat} : zsf sd s (k + 1) = (match zsf sd s k with
    | none => none
    | some w => if s / 2 ^ k % 2 = 0 then some w else if w = 2 ∨ w = sd k then some (sd k) else none) := rfl
theorem zsf_congr {sd sd' : Nat → Nat} {s : Nat} : ∀ n, (∀ k, k < n → sd k = sd' k) → zsf sd s n = zsf sd' s n := by
  intro n
  induction n with
  | zero => intro _; rfl
  | succ n ih =>
    intro h
    rw [zsf_s, zsf_s, ih (fun k hk => h k (by omega)), h n (by omega)]
theorem zsf_none {sd : Nat → Nat} {s k : Nat} (h : zsf sd s k = none) : ∀ d, zsf sd s (k + d) = none := by
  intro d
  induction d with
  | zero => exact h
  | succ d ih =>
    show zsf sd s (k + d + 1) = none
    rw [zsf_s, ih]
theorem zsf_le {sd : Nat → Nat} {s : Nat} (hsd : ∀ k, sd k ≤ 1) : ∀ k w, zsf sd s k = some w → w ≤ 2 := by
  intro k
  induction k with
  | zero => intro w h; cases h; decide
  | succ k ih =>
    intro w h
    rw [zsf_s] at h
    cases e : zsf sd s k with
    | none => rw [e] at h; cases h
    | some u =>
      rw [e] at h
      have h : (if s / 2 ^ k % 2 = 0 then some u else if u = 2 ∨ u = sd k then some (sd k) else none) = some w := h
      split at h
      · cases h; exact ih _ e
      · split at h
        · cases h; have := hsd k; omega
        · cases h
def zchk (n t s : Nat) : Bool := match zsf (fun k => t / 2 ^ k % 2) s n with
  | none => !decide (s &&& (2 ^ n - 1 - t) = s) && (!decide (s &&& t = s) && !decide (s = 0))
  | some 0 => decide (s &&& (2 ^ n - 1 - t) = s) && (!decide (s &&& t = s) && !decide (s = 0))
  | some 1 => !decide (s &&& (2 ^ n - 1 - t) = s) && (decide (s &&& t = s) && !decide (s = 0))
  | some 2 => decide (s = 0)
  | _ => false
set_option maxRecDepth 100000 in
theorem zchk_all : ∀ n, n < 7 → ∀ t, t < 2 ^ n → ∀ s, s < 2 ^ n → zchk n t s = true := by decide +kernel
theorem zsf_fin (n : Nat) (hn : n < 7) (t : Nat) (ht : t < 2 ^ n) (s : Nat) (hs : s < 2 ^ n) : (zsf (fun k => t / 2 ^ k % 2) s n = none ∧ ¬ (s &&& (2 ^ n - 1 - t) = s) ∧ ¬ (s &&& t = s) ∧ s ≠ 0) ∨ (zsf (fun k => t / 2 ^ k % 2) s n = some 2 ∧ s = 0) ∨ (zsf (fun k => t / 2 ^ k % 2) s n = some 0 ∧ s &&& (2 ^ n - 1 - t) = s ∧ ¬ (s &&& t = s) ∧ s ≠ 0) ∨ (zsf (fun k => t / 2 ^ k % 2) s n = some 1 ∧ ¬ (s &&& (2 ^ n - 1 - t) = s) ∧ s &&& t = s ∧ s ≠ 0) := by
  have h := zchk_all n hn t ht s hs
  unfold zchk at h
  split at h
  · rename_i e
    simp only [Bool.and_eq_true, Bool.not_eq_true', decide_eq_false_iff_not, decide_eq_true_eq] at h
    exact .inl ⟨e, h.1, h.2.1, h.2.2⟩
  · rename_i e
    simp only [Bool.and_eq_true, Bool.not_eq_true', decide_eq_false_iff_not, decide_eq_true_eq] at h
    exact .inr (.inr (.inl ⟨e, h.1, h.2.1, h.2.2⟩))
  · rename_i e
    simp only [Bool.and_eq_true, Bool.not_eq_true', decide_eq_false_iff_not, decide_eq_true_eq] at h
    exact .inr (.inr (.inr ⟨e, h.1, h.2.1, h.2.2⟩))
  · rename_i e
    exact .inr (.inl ⟨e, of_decide_eq_true h⟩)
  · cases h
/-! the sites of both -/
theorem zin_n {f : Nat → Int32} {n m : Nat} (hm : m < 1000) (h : ∀ k, k < n → zin (f k) m) : ∃ g : Nat → Nat, ∀ k, g k ≤ m ∧ (k < n → f k = nI (g k)) := by
  have h1 : ∀ k, ∃ g, g ≤ m ∧ (k < n → f k = nI g) := fun k => by
    by_cases hk : k < n
    · obtain ⟨g, g1, g2⟩ := h k hk
      exact ⟨g, g1, fun _ => g2⟩
    · exact ⟨0, Nat.zero_le _, fun h => absurd h hk⟩
  exact ⟨fun k => (h1 k).choose, fun k => (h1 k).choose_spec⟩
/-- sides and minutes of sites -/
def zsi (c : Nat → Nat) (S Sm : zS) (sd T : Nat → Nat) : Prop := c 2 ≤ 6 ∧ S 38 7 = nI (c 2) ∧ Sm 11 9 = nI (c 2) ∧ (∀ k, sd k ≤ 1 ∧ T k ≤ 30) ∧ ∀ k, k < c 2 → S 40 k = nI (sd k) ∧ Sm 24 k = nI (sd k) ∧ S 46 k = nI (T k) ∧ Sm 27 k = nI (T k)
theorem zsi_of (hM : zMD c S Sm) : ∃ sd T, zsi c S Sm sd T := by
  have h := hM.2.2.2.2.2.2.2.1
  obtain ⟨sd, h1⟩ := zin_n (f := Sm 24) (n := c 2) (m := 1) (by decide) (fun k hk => (h k hk).2.2.2.2.1)
  obtain ⟨T, h2⟩ := zin_n (f := Sm 27) (n := c 2) (m := 30) (by decide) (fun k hk => by
    obtain ⟨x, -, x2, x3⟩ := (h k hk).2.2.2.2.2.2.2
    exact ⟨x, x2, x3⟩)
  exact ⟨sd, T, hM.1.2.2.2.1, hM.2.1.2.2.1, hM.2.2.1.2.2.1, fun k => ⟨(h1 k).1, (h2 k).1⟩, fun k hk => ⟨(h k hk).1.trans ((h1 k).2 hk), (h1 k).2 hk, (h k hk).2.2.2.1.trans ((h2 k).2 hk), (h2 k).2 hk⟩⟩
theorem t5 {sd T : Nat → Nat} {w : Nat} (hs : zsi c S Sm sd T) (hw : w ≤ 1) : zcall 5 [.ref 285, .int (nI w)] zRc S L = some (some (.int (nI (zmk (fun k => decide (sd k = w)) (c 2)))), zRc, S, L) := by
  obtain ⟨h6, a2, -, hb, hs⟩ := hs
  have key : ∀ d k, k + d = c 2 → zgo 5 4 [.ref 285, .int (nI w), .int (nI (zmk (fun k => decide (sd k = w)) k)), .int (nI k)] [] zRc S L = some (some (.int (nI (zmk (fun k => decide (sd k = w)) (c 2)))), zRc, S, L) := by
    intro d
    induction d with
    | zero =>
      intro k hd
      have hk : k = c 2 := by omega
      subst hk
      rw [s5_4]
      simp (config := {maxSteps := 1000000}) (disch := omega) only [↓reduceIte, Int32.reduceLT, Int32.reduceLE, Int32.reduceToNatClampNeg, Int32.reduceAdd, Int32.reduceSub, Int32.reduceMul, Nat.reduceLeDiff, zEL, zup_ne, zup_eq, zT0, zT1, zT2, if_true, if_false, zneq_f, true_and, and_true, false_and, and_false, zKL, eq_self, Nat.reduceEqDiff, zite0, ite_not, zaddr, zaddl, zputr, zsb1, zsb2, zsb0, zsbm, znm1, gX, gM, s5_5, s5_6, s5_9, s5_12, s5_15, s5_18, s5_19, s5_22, s5_25, s5_28, s5_29, s5_32, s5_33, s5_36, s5_37, s5_38, s5_39, s5_40, s5_41, s5_42, s5_45, s5_48, s5_49, a2]
    | succ d ih =>
      intro k hd
      obtain ⟨p1, -⟩ := hs k (by omega)
      have hb1 := (hb k).1
      have hl := @zmk_lt (fun k => decide (sd k = w)) k
      have zo := zorK k (by omega) _ hl
      have := ih (k + 1) (by omega)
      rw [show zmk (fun k => decide (sd k = w)) (k + 1) = zmk (fun k => decide (sd k = w)) k + (if decide (sd k = w) = true then 2 ^ k else 0) from rfl] at this
      rw [← this, s5_4]
      by_cases hc : sd k = w
      · rw [if_pos (decide_eq_true hc)]
        simp (config := {maxSteps := 1000000}) (disch := omega) only [↓reduceIte, Int32.reduceLT, Int32.reduceLE, Int32.reduceToNatClampNeg, Int32.reduceAdd, Int32.reduceSub, Int32.reduceMul, Nat.reduceLeDiff, zEL, zup_ne, zup_eq, zT0, zT1, zT2, if_true, if_false, zneq_f, true_and, and_true, false_and, and_false, zKL, eq_self, Nat.reduceEqDiff, zite0, ite_not, zaddr, zaddl, zputr, zsb1, zsb2, zsb0, zsbm, znm1, gX, gM, s5_5, s5_6, s5_9, s5_12, s5_15, s5_18, s5_19, s5_22, s5_25, s5_28, s5_29, s5_32, s5_33, s5_36, s5_37, s5_38, s5_39, s5_40, s5_41, s5_42, s5_45, s5_48, s5_49, a2, p1, hc, zo]
      · rw [if_neg (by rw [decide_eq_true_eq]; exact hc), Nat.add_zero]
        simp (config := {maxSteps := 1000000}) (disch := omega) only [↓reduceIte, Int32.reduceLT, Int32.reduceLE, Int32.reduceToNatClampNeg, Int32.reduceAdd, Int32.reduceSub, Int32.reduceMul, Nat.reduceLeDiff, zEL, zup_ne, zup_eq, zT0, zT1, zT2, if_true, if_false, zneq_f, true_and, and_true, false_and, and_false, zKL, eq_self, Nat.reduceEqDiff, zite0, ite_not, zaddr, zaddl, zputr, zsb1, zsb2, zsb0, zsbm, znm1, gX, gM, s5_5, s5_6, s5_9, s5_12, s5_15, s5_18, s5_19, s5_22, s5_25, s5_28, s5_29, s5_32, s5_33, s5_36, s5_37, s5_38, s5_39, s5_40, s5_41, s5_42, s5_45, s5_48, s5_49, a2, p1, hc]
  have := key (c 2) 0 (by omega)
  unfold zcall
  simp (config := {maxSteps := 1000000}) (disch := omega) only [↓reduceIte, Int32.reduceLT, Int32.reduceLE, Int32.reduceToNatClampNeg, Int32.reduceAdd, Int32.reduceSub, Int32.reduceMul, Nat.reduceLeDiff, zEL, zup_ne, zup_eq, zT0, zT1, zT2, if_true, if_false, zneq_f, true_and, and_true, false_and, and_false, zKL, eq_self, Nat.reduceEqDiff, zite0, ite_not, zaddr, zaddl, zputr, zsb1, zsb2, zsb0, zsbm, znm1, ze_5, s5_0, s5_1, s5_2, s5_3]
  exact this
def zms (T : Nat → Nat) (s : Nat) : Nat → Nat
  | 0 => 0
  | k + 1 => zms T s k + (if s / 2 ^ k % 2 = 1 then T k else 0)
theorem zms_le {T : Nat → Nat} {s : Nat} (h : ∀ k, T k ≤ 30) : ∀ n, zms T s n ≤ 30 * n := by
  intro n
  induction n with
  | zero => exact Nat.le_refl _
  | succ n ih =>
    show zms T s n + (if s / 2 ^ n % 2 = 1 then T n else 0) ≤ 30 * (n + 1)
    have := h n
    split <;> omega
theorem t10 {sd T : Nat → Nat} {s : Nat} (hs : zsi c S Sm sd T) (h64 : s < 64) : zcall 10 [.ref 285, .int (nI s)] zRc S L = some (some (.int (nI (zms T s (c 2)))), zRc, S, L) ∧ zcall 266 [.ref 0, .int (nI s)] (zRm1 rd) Sm Lm = some (some (.int (nI (zms T s (c 2)))), zRm1 rd, Sm, Lm) := by
  obtain ⟨h6, a2, m2, hb, hs⟩ := hs
  have key : ∀ d k, k + d = c 2 → zgo 10 4 [.ref 285, .int (nI s), .int (nI (zms T s k)), .int (nI k)] [] zRc S L = some (some (.int (nI (zms T s (c 2)))), zRc, S, L) ∧ zgo 266 4 [.ref 0, .int (nI s), .int (nI (zms T s k)), .int (nI k)] [] (zRm1 rd) Sm Lm = some (some (.int (nI (zms T s (c 2)))), zRm1 rd, Sm, Lm) := by
    intro d
    induction d with
    | zero =>
      intro k hd
      have hk : k = c 2 := by omega
      subst hk
      rw [s10_4, s266_4]
      refine ⟨?_, ?_⟩
      · simp (config := {maxSteps := 1000000}) (disch := omega) only [↓reduceIte, Int32.reduceLT, Int32.reduceLE, Int32.reduceToNatClampNeg, Int32.reduceAdd, Int32.reduceSub, Int32.reduceMul, Nat.reduceLeDiff, zEL, zup_ne, zup_eq, zT0, zT1, zT2, if_true, if_false, zneq_f, true_and, and_true, false_and, and_false, zKL, eq_self, Nat.reduceEqDiff, zite0, ite_not, zaddr, zaddl, zputr, zsb1, zsb2, zsb0, zsbm, znm1, gX, gM, s10_5, s10_6, s10_9, s10_12, s10_15, s10_18, s10_19, s10_20, s10_21, s10_22, s10_23, s10_26, s10_27, s10_28, s10_31, s10_34, s10_37, s10_38, s10_41, s10_42, s10_43, s10_46, s10_49, s10_50, a2]
      · simp (config := {maxSteps := 1000000}) (disch := omega) only [↓reduceIte, Int32.reduceLT, Int32.reduceLE, Int32.reduceToNatClampNeg, Int32.reduceAdd, Int32.reduceSub, Int32.reduceMul, Nat.reduceLeDiff, zEL, zup_ne, zup_eq, zT0, zT1, zT2, if_true, if_false, zneq_f, true_and, and_true, false_and, and_false, zKL, eq_self, Nat.reduceEqDiff, zite0, ite_not, zaddr, zaddl, zputr, zsb1, zsb2, zsb0, zsbm, znm1, layM1, s266_5, s266_6, s266_9, s266_12, s266_15, s266_16, s266_17, s266_18, s266_19, s266_20, s266_21, s266_22, s266_25, s266_26, s266_29, s266_32, s266_33, s266_34, s266_37, s266_38, s266_39, s266_40, s266_43, s266_46, s266_47, m2]
    | succ d ih =>
      intro k hd
      obtain ⟨-, -, p1, p2⟩ := hs k (by omega)
      have zb := zbitK s (by omega) k (by omega)
      obtain ⟨i1, i2⟩ := ih (k + 1) (by omega)
      have e : zms T s (k + 1) = zms T s k + (if s / 2 ^ k % 2 = 1 then T k else 0) := rfl
      rw [e] at i1 i2
      rw [← i1, ← i2, s10_4, s266_4]
      have za : ∀ x y : Nat, nI x + nI y = nI (x + y) := fun x y => zadd_nI
      rcases (show s / 2 ^ k % 2 = 0 ∨ s / 2 ^ k % 2 = 1 by omega) with hc | hc
      · rw [hc] at zb
        rw [if_neg (by omega), Nat.add_zero]
        refine ⟨?_, ?_⟩
        · simp (config := {maxSteps := 1000000}) (disch := omega) only [↓reduceIte, Int32.reduceLT, Int32.reduceLE, Int32.reduceToNatClampNeg, Int32.reduceAdd, Int32.reduceSub, Int32.reduceMul, Nat.reduceLeDiff, zEL, zup_ne, zup_eq, zT0, zT1, zT2, if_true, if_false, zneq_f, true_and, and_true, false_and, and_false, zKL, eq_self, Nat.reduceEqDiff, zite0, ite_not, zaddr, zaddl, zputr, zsb1, zsb2, zsb0, zsbm, znm1, gX, gM, s10_5, s10_6, s10_9, s10_12, s10_15, s10_18, s10_19, s10_20, s10_21, s10_22, s10_23, s10_26, s10_27, s10_28, s10_31, s10_34, s10_37, s10_38, s10_41, s10_42, s10_43, s10_46, s10_49, s10_50, a2, zb]
        · simp (config := {maxSteps := 1000000}) (disch := omega) only [↓reduceIte, Int32.reduceLT, Int32.reduceLE, Int32.reduceToNatClampNeg, Int32.reduceAdd, Int32.reduceSub, Int32.reduceMul, Nat.reduceLeDiff, zEL, zup_ne, zup_eq, zT0, zT1, zT2, if_true, if_false, zneq_f, true_and, and_true, false_and, and_false, zKL, eq_self, Nat.reduceEqDiff, zite0, ite_not, zaddr, zaddl, zputr, zsb1, zsb2, zsb0, zsbm, znm1, layM1, s266_5, s266_6, s266_9, s266_12, s266_15, s266_16, s266_17, s266_18, s266_19, s266_20, s266_21, s266_22, s266_25, s266_26, s266_29, s266_32, s266_33, s266_34, s266_37, s266_38, s266_39, s266_40, s266_43, s266_46, s266_47, m2, zb, Int32.add_zero]
      · rw [hc] at zb
        rw [if_pos hc]
        refine ⟨?_, ?_⟩
        · simp (config := {maxSteps := 1000000}) (disch := omega) only [↓reduceIte, Int32.reduceLT, Int32.reduceLE, Int32.reduceToNatClampNeg, Int32.reduceAdd, Int32.reduceSub, Int32.reduceMul, Nat.reduceLeDiff, zEL, zup_ne, zup_eq, zT0, zT1, zT2, if_true, if_false, zneq_f, true_and, and_true, false_and, and_false, zKL, eq_self, Nat.reduceEqDiff, zite0, ite_not, zaddr, zaddl, zputr, zsb1, zsb2, zsb0, zsbm, znm1, gX, gM, s10_5, s10_6, s10_9, s10_12, s10_15, s10_18, s10_19, s10_20, s10_21, s10_22, s10_23, s10_26, s10_27, s10_28, s10_31, s10_34, s10_37, s10_38, s10_41, s10_42, s10_43, s10_46, s10_49, s10_50, a2, zb, p1, za]
        · simp (config := {maxSteps := 1000000}) (disch := omega) only [↓reduceIte, Int32.reduceLT, Int32.reduceLE, Int32.reduceToNatClampNeg, Int32.reduceAdd, Int32.reduceSub, Int32.reduceMul, Nat.reduceLeDiff, zEL, zup_ne, zup_eq, zT0, zT1, zT2, if_true, if_false, zneq_f, true_and, and_true, false_and, and_false, zKL, eq_self, Nat.reduceEqDiff, zite0, ite_not, zaddr, zaddl, zputr, zsb1, zsb2, zsb0, zsbm, znm1, layM1, s266_5, s266_6, s266_9, s266_12, s266_15, s266_16, s266_17, s266_18, s266_19, s266_20, s266_21, s266_22, s266_25, s266_26, s266_29, s266_32, s266_33, s266_34, s266_37, s266_38, s266_39, s266_40, s266_43, s266_46, s266_47, m2, zb, p2, za]
  obtain ⟨k1, k2⟩ := key (c 2) 0 (by omega)
  refine ⟨?_, ?_⟩ <;> unfold zcall
  · simp (config := {maxSteps := 1000000}) (disch := omega) only [↓reduceIte, Int32.reduceLT, Int32.reduceLE, Int32.reduceToNatClampNeg, Int32.reduceAdd, Int32.reduceSub, Int32.reduceMul, Nat.reduceLeDiff, zEL, zup_ne, zup_eq, zT0, zT1, zT2, if_true, if_false, zneq_f, true_and, and_true, false_and, and_false, zKL, eq_self, Nat.reduceEqDiff, zite0, ite_not, zaddr, zaddl, zputr, zsb1, zsb2, zsb0, zsbm, znm1, ze_10, s10_0, s10_1, s10_2, s10_3]
    exact k1
  · simp (config := {maxSteps := 1000000}) (disch := omega) only [↓reduceIte, Int32.reduceLT, Int32.reduceLE, Int32.reduceToNatClampNeg, Int32.reduceAdd, Int32.reduceSub, Int32.reduceMul, Nat.reduceLeDiff, zEL, zup_ne, zup_eq, zT0, zT1, zT2, if_true, if_false, zneq_f, true_and, and_true, false_and, and_false, zKL, eq_self, Nat.reduceEqDiff, zite0, ite_not, zaddr, zaddl, zputr, zsb1, zsb2, zsb0, zsbm, znm1, ze_266, s266_0, s266_1, s266_2, s266_3]
    exact k2
def zov : Option Nat → Int32
  | none => -1
  | some k => nI k
theorem t264 {sd T : Nat → Nat} {s : Nat} (hs : zsi c S Sm sd T) (h64 : s < 64) : zcall 264 [.ref 0, .int (nI s)] (zRm1 rd) Sm Lm = some (some (.int (zov (zsf sd s (c 2)))), zRm1 rd, Sm, Lm) := by
  obtain ⟨h6, a2, m2, hb, hs⟩ := hs
  have key : ∀ d k, k + d = c 2 → ∀ w, zsf sd s k = some w → zgo 264 4 [.ref 0, .int (nI s), .int (nI w), .int (nI k)] [] (zRm1 rd) Sm Lm = some (some (.int (zov (zsf sd s (c 2)))), zRm1 rd, Sm, Lm) := by
    intro d
    induction d with
    | zero =>
      intro k hd w e
      have hk : k = c 2 := by omega
      subst hk
      rw [s264_4, e]
      show _ = some (some (Value.int (nI w)), zRm1 rd, Sm, Lm)
      simp (config := {maxSteps := 1000000}) (disch := omega) only [↓reduceIte, Int32.reduceLT, Int32.reduceLE, Int32.reduceToNatClampNeg, Int32.reduceAdd, Int32.reduceSub, Int32.reduceMul, Nat.reduceLeDiff, zEL, zup_ne, zup_eq, zT0, zT1, zT2, if_true, if_false, zneq_f, true_and, and_true, false_and, and_false, zKL, eq_self, Nat.reduceEqDiff, zite0, ite_not, zaddr, zaddl, zputr, zsb1, zsb2, zsb0, zsbm, znm1, layM1, s264_5, s264_6, s264_9, s264_12, s264_15, s264_16, s264_17, s264_18, s264_19, s264_20, s264_23, s264_26, s264_27, s264_28, s264_31, s264_32, s264_33, s264_36, s264_39, s264_40, s264_41, s264_44, s264_45, s264_46, s264_47, s264_50, s264_53, s264_54, s264_55, s264_56, s264_59, s264_62, s264_63, m2]
    | succ d ih =>
      intro k hd w e
      obtain ⟨-, p1, -⟩ := hs k (by omega)
      have hb1 := (hb k).1
      have zb := zbitK s (by omega) k (by omega)
      have hw := zsf_le (s := s) (fun k => (hb k).1) k w e
      have es := @zsf_s sd s k
      rw [e] at es
      have es : zsf sd s (k + 1) = if s / 2 ^ k % 2 = 0 then some w else if w = 2 ∨ w = sd k then some (sd k) else none := es
      rw [s264_4]
      rcases (show s / 2 ^ k % 2 = 0 ∨ s / 2 ^ k % 2 = 1 by omega) with hc | hc
      · rw [hc] at zb
        rw [if_pos hc] at es
        rw [← ih (k + 1) (by omega) w es]
        simp (config := {maxSteps := 1000000}) (disch := omega) only [↓reduceIte, Int32.reduceLT, Int32.reduceLE, Int32.reduceToNatClampNeg, Int32.reduceAdd, Int32.reduceSub, Int32.reduceMul, Nat.reduceLeDiff, zEL, zup_ne, zup_eq, zT0, zT1, zT2, if_true, if_false, zneq_f, true_and, and_true, false_and, and_false, zKL, eq_self, Nat.reduceEqDiff, zite0, ite_not, zaddr, zaddl, zputr, zsb1, zsb2, zsb0, zsbm, znm1, layM1, s264_5, s264_6, s264_9, s264_12, s264_15, s264_16, s264_17, s264_18, s264_19, s264_20, s264_23, s264_26, s264_27, s264_28, s264_31, s264_32, s264_33, s264_36, s264_39, s264_40, s264_41, s264_44, s264_45, s264_46, s264_47, s264_50, s264_53, s264_54, s264_55, s264_56, s264_59, s264_62, s264_63, m2, zb]
      · rw [hc] at zb
        rw [if_neg (by omega)] at es
        by_cases h2 : w = 2
        · rw [if_pos (.inl h2)] at es
          rw [← ih (k + 1) (by omega) (sd k) es]
          simp (config := {maxSteps := 1000000}) (disch := omega) only [↓reduceIte, Int32.reduceLT, Int32.reduceLE, Int32.reduceToNatClampNeg, Int32.reduceAdd, Int32.reduceSub, Int32.reduceMul, Nat.reduceLeDiff, zEL, zup_ne, zup_eq, zT0, zT1, zT2, if_true, if_false, zneq_f, true_and, and_true, false_and, and_false, zKL, eq_self, Nat.reduceEqDiff, zite0, ite_not, zaddr, zaddl, zputr, zsb1, zsb2, zsb0, zsbm, znm1, layM1, s264_5, s264_6, s264_9, s264_12, s264_15, s264_16, s264_17, s264_18, s264_19, s264_20, s264_23, s264_26, s264_27, s264_28, s264_31, s264_32, s264_33, s264_36, s264_39, s264_40, s264_41, s264_44, s264_45, s264_46, s264_47, s264_50, s264_53, s264_54, s264_55, s264_56, s264_59, s264_62, s264_63, m2, zb, p1, h2]
        · by_cases h3 : w = sd k
          · rw [if_pos (.inr h3)] at es
            rw [← ih (k + 1) (by omega) (sd k) es]
            simp (config := {maxSteps := 1000000}) (disch := omega) only [↓reduceIte, Int32.reduceLT, Int32.reduceLE, Int32.reduceToNatClampNeg, Int32.reduceAdd, Int32.reduceSub, Int32.reduceMul, Nat.reduceLeDiff, zEL, zup_ne, zup_eq, zT0, zT1, zT2, if_true, if_false, zneq_f, true_and, and_true, false_and, and_false, zKL, eq_self, Nat.reduceEqDiff, zite0, ite_not, zaddr, zaddl, zputr, zsb1, zsb2, zsb0, zsbm, znm1, layM1, s264_5, s264_6, s264_9, s264_12, s264_15, s264_16, s264_17, s264_18, s264_19, s264_20, s264_23, s264_26, s264_27, s264_28, s264_31, s264_32, s264_33, s264_36, s264_39, s264_40, s264_41, s264_44, s264_45, s264_46, s264_47, s264_50, s264_53, s264_54, s264_55, s264_56, s264_59, s264_62, s264_63, m2, zb, p1, h2, h3]
            all_goals rfl
          · rw [if_neg (by omega)] at es
            have en := zsf_none es d
            rw [show k + 1 + d = c 2 by omega] at en
            rw [en]
            show _ = some (some (Value.int (-1)), zRm1 rd, Sm, Lm)
            simp (config := {maxSteps := 1000000}) (disch := omega) only [↓reduceIte, Int32.reduceLT, Int32.reduceLE, Int32.reduceToNatClampNeg, Int32.reduceAdd, Int32.reduceSub, Int32.reduceMul, Nat.reduceLeDiff, zEL, zup_ne, zup_eq, zT0, zT1, zT2, if_true, if_false, zneq_f, true_and, and_true, false_and, and_false, zKL, eq_self, Nat.reduceEqDiff, zite0, ite_not, zaddr, zaddl, zputr, zsb1, zsb2, zsb0, zsbm, znm1, layM1, s264_5, s264_6, s264_9, s264_12, s264_15, s264_16, s264_17, s264_18, s264_19, s264_20, s264_23, s264_26, s264_27, s264_28, s264_31, s264_32, s264_33, s264_36, s264_39, s264_40, s264_41, s264_44, s264_45, s264_46, s264_47, s264_50, s264_53, s264_54, s264_55, s264_56, s264_59, s264_62, s264_63, m2, zb, p1, h2, h3]
  have := key (c 2) 0 (by omega) 2 rfl
  unfold zcall
  simp (config := {maxSteps := 1000000}) (disch := omega) only [↓reduceIte, Int32.reduceLT, Int32.reduceLE, Int32.reduceToNatClampNeg, Int32.reduceAdd, Int32.reduceSub, Int32.reduceMul, Nat.reduceLeDiff, zEL, zup_ne, zup_eq, zT0, zT1, zT2, if_true, if_false, zneq_f, true_and, and_true, false_and, and_false, zKL, eq_self, Nat.reduceEqDiff, zite0, ite_not, zaddr, zaddl, zputr, zsb1, zsb2, zsb0, zsbm, znm1, ze_264, s264_0, s264_1, s264_2, s264_3]
  exact this
end ZHA
