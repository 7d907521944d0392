/-! A MATCH is told: duels -/
section ZT7
variable {c : Nat → Nat} {S Sm : zS} {L Lm : zL} {rd : Value}
/-- the six chances of a duel -/
def zdu (a b : Nat) (D : Nat → Nat → Nat) (S Sm : zS) (L Lm : zL) (rd : Value) : Prop :=
  (∀ x k, D x k ≤ 100) ∧
  (∀ k, k < 3 → zcall 162 [.ref 0, .int (nI a), .int (nI b), .int 0, .int (nI k)] zRc S L = some (some (.int (nI (D 0 k))), zRc, S, L)) ∧
  (∀ k, k < 3 → zcall 162 [.ref 0, .int (nI a), .int (nI b), .int 1, .int (nI k)] zRc S L = some (some (.int (nI (D 1 k))), zRc, S, L)) ∧
  (∀ k, k < 3 → zcall 268 [.ref 0, .int (nI a), .int (nI b), .int 0, .int (nI k)] (zRm1 rd) Sm Lm = some (some (.int (nI (D 0 k))), zRm1 rd, Sm, Lm)) ∧
  (∀ k, k < 3 → zcall 268 [.ref 0, .int (nI a), .int (nI b), .int 1, .int (nI k)] (zRm1 rd) Sm Lm = some (some (.int (nI (D 1 k))), zRm1 rd, Sm, Lm))
theorem tdu {a b : Nat} (hM : zMD c S Sm) (hG : zGD 168 c S (Sm 2)) (ha : a < c 0) (hb : b < c 0) : ∃ D, zdu a b D S Sm L Lm rd := by
  have b0 : c 0 ≤ 8 := hM.1.2.1
  obtain ⟨-, -, -, -, -, q6, -, -, -, -, -, ⟨dd, hdd, edd⟩⟩ := hM.2.2.2.2.2.1 b hb
  have t27 := fun hi dodge dk does hhi hd => t27_168 (L := L) (Lm := Lm) (rd := rd) (hi := hi) (dodge := dodge) (dk := dk) (does := does) hM hG ha hb hhi hd
  obtain ⟨n00, l00, c00, m00⟩ := t27 0 (nI dd) 0 0 (.inl rfl) (.inr ⟨rfl, .inl rfl⟩)
  obtain ⟨n02, l02, c02, m02⟩ := t27 0 (nI (2 * dd)) 0 2 (.inl rfl) (.inr ⟨rfl, .inr rfl⟩)
  obtain ⟨n10, l10, c10, m10⟩ := t27 1 (nI dd) 0 0 (.inr rfl) (.inr ⟨rfl, .inl rfl⟩)
  obtain ⟨n11, l11, c11, m11⟩ := t27 1 (nI dd) 1 1 (.inr rfl) (.inl ⟨rfl, rfl⟩)
  obtain ⟨n12, l12, c12, m12⟩ := t27 1 (nI (2 * dd)) 0 2 (.inr rfl) (.inr ⟨rfl, .inr rfl⟩)
  have e1 : nI dd * 1 = nI dd := by rw [Int32.mul_one]
  have e2 : nI dd * 2 = nI (2 * dd) := by rw [show (2 : Int32) = nI 2 from rfl, znI_mul (by omega), Nat.mul_comm]
  have e3 : 2 * nI dd = nI (2 * dd) := by rw [show (2 : Int32) = nI 2 from rfl, znI_mul (by omega)]
  have q6 : S 24 b = nI dd := q6.trans edd
  clear t27 hG
  have y0 : nI 0 = 0 := rfl
  have y1 : nI 1 = 1 := rfl
  have y2 : nI 2 = 2 := rfl
  refine ⟨fun x k => if x = 0 then (if k = 0 then n00 else if k = 1 then 0 else n02) else (if k = 0 then n10 else if k = 1 then n11 else n12), ?_, ?_, ?_, ?_, ?_⟩
  · intro x k
    dsimp only
    repeat' split
    all_goals omega
  all_goals intro k hk
  all_goals unfold zcall
  all_goals rcases (show k = 0 ∨ k = 1 ∨ k = 2 by omega) with rfl | rfl | rfl
  all_goals simp (config := {maxSteps := 1000000}) (disch := omega) only [↓reduceIte, Int32.reduceLT, Int32.reduceLE, Int32.reduceToNatClampNeg, Int32.reduceAdd, Int32.reduceSub, Int32.reduceMul, Nat.reduceLeDiff, zEL, zup_ne, zup_eq, zT0, zT1, zT2, if_true, if_false, zneq_f, true_and, and_true, false_and, and_false, zKL, eq_self, Nat.reduceEqDiff, zite0, ite_not, zaddr, zaddl, zputr, zsb1, zsb2, zsb0, zsbm, znm1, gX, gM, layM1, ze_162, ze_268, s162_0, s162_1, s162_4, s162_6, s162_7, s162_10, s162_11, s162_12, s162_13, s162_16, s162_19, s162_22, s162_23, s162_26, s162_28, s162_29, s162_32, s162_33, s162_36, s162_37, s162_38, s162_40, s162_41, s162_44, s162_45, s162_46, s162_47, s162_49, s162_51, s162_52, s162_55, s162_56, s162_59, s162_60, s162_63, s268_0, s268_1, s268_4, s268_6, s268_7, s268_10, s268_11, s268_12, s268_13, s268_14, s268_15, s268_16, s268_18, s268_20, s268_21, s268_24, s268_25, s268_26, s268_29, s268_32, s268_33, s268_34, s268_35, s268_38, s268_39, s268_42, s268_45, s268_46, s268_47, s268_50, q6, edd, e1, e2, e3, c00, m00, c02, m02, c10, m10, c11, m11, c12, m12, y0, y1, y2]
  all_goals first | rfl | skip
def zws (D : Nat → Nat → Nat) (f : Nat) : Nat → Nat
  | 0 => 10000
  | k + 1 => min (zws D f k) (f * D 0 k + (100 - f) * D 1 k)
theorem zws_le {D : Nat → Nat → Nat} {f k : Nat} : zws D f k ≤ 10000 := by
  induction k with
  | zero => exact Nat.le_refl _
  | succ k ih =>
    have : zws D f (k + 1) = min (zws D f k) (f * D 0 k + (100 - f) * D 1 k) := rfl
    omega
theorem zwsm {D : Nat → Nat → Nat} (hD : ∀ x k, D x k ≤ 100) {f : Nat} (hf : f ≤ 100) (k : Nat) : f * D 0 k + (100 - f) * D 1 k ≤ 20000 ∧ nI f * nI (D 0 k) + nI (100 - f) * nI (D 1 k) = nI (f * D 0 k + (100 - f) * D 1 k) := by
  have h1 : f * D 0 k ≤ 10000 := Nat.le_trans (Nat.mul_le_mul hf (hD 0 k)) (by omega)
  have h2 : (100 - f) * D 1 k ≤ 10000 := Nat.le_trans (Nat.mul_le_mul (show 100 - f ≤ 100 by omega) (hD 1 k)) (by omega)
  refine ⟨by omega, ?_⟩
  rw [znI_mul (by omega), znI_mul (by omega), zadd_nI]
theorem t163 {a b f : Nat} {D : Nat → Nat → Nat} (h : zdu a b D S Sm L Lm rd) (hf : f ≤ 100) : zcall 163 [.ref 0, .int (nI a), .int (nI b), .int (nI f)] zRc S L = some (some (.int (nI (zws D f 3))), zRc, S, L) ∧ zcall 271 [.ref 0, .int (nI a), .int (nI b), .int (nI f)] (zRm1 rd) Sm Lm = some (some (.int (nI (zws D f 3))), zRm1 rd, Sm, Lm) := by
  obtain ⟨hD, c0, c1, m0, m1⟩ := h
  have hz := z100s hf
  have key : ∀ d k, k + d = 3 → ∀ j, zgo 163 8 [.ref 0, .int (nI a), .int (nI b), .int (nI f), .int (nI (zws D f k)), .int (nI k), j] [] zRc S L = some (some (.int (nI (zws D f 3))), zRc, S, L) := by
    intro d
    induction d with
    | zero =>
      intro k hd j
      have hk : k = 3 := by omega
      subst hk
      have h2 : (2 : Int32) < nI 3 := by decide
      rw [s163_8]
      simp (config := {maxSteps := 1000000}) (disch := omega) only [↓reduceIte, Int32.reduceLT, Int32.reduceLE, Int32.reduceToNatClampNeg, Int32.reduceAdd, Int32.reduceSub, Int32.reduceMul, Nat.reduceLeDiff, zEL, zup_ne, zup_eq, zT0, zT1, zT2, if_true, if_false, zneq_f, true_and, and_true, false_and, and_false, zKL, eq_self, Nat.reduceEqDiff, zite0, ite_not, zaddr, zaddl, zputr, zsb1, zsb2, zsb0, zsbm, znm1, s163_10, s163_11, s163_14, s163_15, s163_16, s163_17, s163_18, s163_19, s163_21, s163_24, s163_25, s163_27, s163_28, s163_29, s163_30, s163_31, s163_32, s163_33, s163_35, s163_38, s163_39, s163_40, s163_42, s163_44, s163_46, s163_49, s163_51, s163_54, s163_57, s163_59, h2]
    | succ d ih =>
      intro k hd j
      have h2 : (2 < nI k) = False := eq_false (by rw [show (2 : Int32) = nI 2 from rfl, znI_lt (by omega) (by omega)]; omega)
      have k0 := c0 k (by omega)
      have k1 := c1 k (by omega)
      have l := @zws_le D f k
      obtain ⟨l2, e⟩ := zwsm hD hf k
      have := ih (k + 1) (by omega) (.int (nI (f * D 0 k + (100 - f) * D 1 k)))
      rw [show zws D f (k + 1) = min (zws D f k) (f * D 0 k + (100 - f) * D 1 k) from rfl] at this
      rw [← this, s163_8]
      generalize zws D f k = lo at l
      generalize f * D 0 k + (100 - f) * D 1 k = w at l2 e
      simp (config := {maxSteps := 1000000}) (disch := omega) only [↓reduceIte, Int32.reduceLT, Int32.reduceLE, Int32.reduceToNatClampNeg, Int32.reduceAdd, Int32.reduceSub, Int32.reduceMul, Nat.reduceLeDiff, zEL, zup_ne, zup_eq, zT0, zT1, zT2, if_true, if_false, zneq_f, true_and, and_true, false_and, and_false, zKL, eq_self, Nat.reduceEqDiff, zite0, ite_not, zaddr, zaddl, zputr, zsb1, zsb2, zsb0, zsbm, znm1, gX, s163_10, s163_11, s163_14, s163_15, s163_16, s163_17, s163_18, s163_19, s163_21, s163_24, s163_25, s163_27, s163_28, s163_29, s163_30, s163_31, s163_32, s163_33, s163_35, s163_38, s163_39, s163_40, s163_42, s163_44, s163_46, s163_49, s163_51, s163_54, s163_57, s163_59, h2, k0, k1, hz, e, zmn]
  have key2 : ∀ d k, k + d = 3 → ∀ j, zgo 271 8 [.ref 0, .int (nI a), .int (nI b), .int (nI f), .int (nI (zws D f k)), .int (nI k), j] [] (zRm1 rd) Sm Lm = some (some (.int (nI (zws D f 3))), zRm1 rd, Sm, Lm) := by
    intro d
    induction d with
    | zero =>
      intro k hd j
      have hk : k = 3 := by omega
      subst hk
      have h2 : (2 : Int32) < nI 3 := by decide
      rw [s271_8]
      simp (config := {maxSteps := 1000000}) (disch := omega) only [↓reduceIte, Int32.reduceLT, Int32.reduceLE, Int32.reduceToNatClampNeg, Int32.reduceAdd, Int32.reduceSub, Int32.reduceMul, Nat.reduceLeDiff, zEL, zup_ne, zup_eq, zT0, zT1, zT2, if_true, if_false, zneq_f, true_and, and_true, false_and, and_false, zKL, eq_self, Nat.reduceEqDiff, zite0, ite_not, zaddr, zaddl, zputr, zsb1, zsb2, zsb0, zsbm, znm1, s271_10, s271_11, s271_14, s271_15, s271_16, s271_17, s271_18, s271_19, s271_21, s271_24, s271_25, s271_27, s271_28, s271_29, s271_30, s271_31, s271_32, s271_33, s271_35, s271_38, s271_39, s271_40, s271_42, s271_44, s271_46, s271_49, s271_51, s271_54, s271_56, s271_58, s271_61, s271_64, s271_66, h2]
    | succ d ih =>
      intro k hd j
      have h2 : (2 < nI k) = False := eq_false (by rw [show (2 : Int32) = nI 2 from rfl, znI_lt (by omega) (by omega)]; omega)
      have k0 := m0 k (by omega)
      have k1 := m1 k (by omega)
      have l := @zws_le D f k
      obtain ⟨l2, e⟩ := zwsm hD hf k
      have := ih (k + 1) (by omega) (.int (nI (f * D 0 k + (100 - f) * D 1 k)))
      rw [show zws D f (k + 1) = min (zws D f k) (f * D 0 k + (100 - f) * D 1 k) from rfl] at this
      rw [← this, s271_8]
      generalize zws D f k = lo at l
      generalize f * D 0 k + (100 - f) * D 1 k = w at l2 e
      by_cases hw : lo ≤ w
      · rw [Nat.min_eq_left hw]
        simp (config := {maxSteps := 1000000}) (disch := omega) only [↓reduceIte, Int32.reduceLT, Int32.reduceLE, Int32.reduceToNatClampNeg, Int32.reduceAdd, Int32.reduceSub, Int32.reduceMul, Nat.reduceLeDiff, zEL, zup_ne, zup_eq, zT0, zT1, zT2, if_true, if_false, zneq_f, true_and, and_true, false_and, and_false, zKL, eq_self, Nat.reduceEqDiff, zite0, ite_not, zaddr, zaddl, zputr, zsb1, zsb2, zsb0, zsbm, znm1, layM1, s271_10, s271_11, s271_14, s271_15, s271_16, s271_17, s271_18, s271_19, s271_21, s271_24, s271_25, s271_27, s271_28, s271_29, s271_30, s271_31, s271_32, s271_33, s271_35, s271_38, s271_39, s271_40, s271_42, s271_44, s271_46, s271_49, s271_51, s271_54, s271_56, s271_58, s271_61, s271_64, s271_66, h2, k0, k1, hz, e]
      · rw [Nat.min_eq_right (by omega)]
        simp (config := {maxSteps := 1000000}) (disch := omega) only [↓reduceIte, Int32.reduceLT, Int32.reduceLE, Int32.reduceToNatClampNeg, Int32.reduceAdd, Int32.reduceSub, Int32.reduceMul, Nat.reduceLeDiff, zEL, zup_ne, zup_eq, zT0, zT1, zT2, if_true, if_false, zneq_f, true_and, and_true, false_and, and_false, zKL, eq_self, Nat.reduceEqDiff, zite0, ite_not, zaddr, zaddl, zputr, zsb1, zsb2, zsb0, zsbm, znm1, layM1, s271_10, s271_11, s271_14, s271_15, s271_16, s271_17, s271_18, s271_19, s271_21, s271_24, s271_25, s271_27, s271_28, s271_29, s271_30, s271_31, s271_32, s271_33, s271_35, s271_38, s271_39, s271_40, s271_42, s271_44, s271_46, s271_49, s271_51, s271_54, s271_56, s271_58, s271_61, s271_64, s271_66, h2, k0, k1, hz, e]
  refine ⟨?_, ?_⟩
  · have := key 3 0 (by omega) (.retAddr 0)
    unfold zcall
    simp (config := {maxSteps := 1000000}) (disch := omega) only [↓reduceIte, Int32.reduceLT, Int32.reduceLE, Int32.reduceToNatClampNeg, Int32.reduceAdd, Int32.reduceSub, Int32.reduceMul, Nat.reduceLeDiff, zEL, zup_ne, zup_eq, zT0, zT1, zT2, if_true, if_false, zneq_f, true_and, and_true, false_and, and_false, zKL, eq_self, Nat.reduceEqDiff, zite0, ite_not, zaddr, zaddl, zputr, zsb1, zsb2, zsb0, zsbm, znm1, ze_163, s163_0, s163_3, s163_5, s163_6]
    exact this
  · have := key2 3 0 (by omega) (.retAddr 0)
    unfold zcall
    simp (config := {maxSteps := 1000000}) (disch := omega) only [↓reduceIte, Int32.reduceLT, Int32.reduceLE, Int32.reduceToNatClampNeg, Int32.reduceAdd, Int32.reduceSub, Int32.reduceMul, Nat.reduceLeDiff, zEL, zup_ne, zup_eq, zT0, zT1, zT2, if_true, if_false, zneq_f, true_and, and_true, false_and, and_false, zKL, eq_self, Nat.reduceEqDiff, zite0, ite_not, zaddr, zaddl, zputr, zsb1, zsb2, zsb0, zsbm, znm1, ze_271, s271_0, s271_3, s271_5, s271_6]
    exact this
def zbx (W : Nat → Nat) : Nat → Nat
  | 0 => 0
  | k + 1 => if W (zbx W k) < W (k + 1) then k + 1 else zbx W k
theorem zbx_le {W : Nat → Nat} {k : Nat} : zbx W k ≤ k := by
  induction k with
  | zero => exact Nat.le_refl _
  | succ k ih =>
    show (if W (zbx W k) < W (k + 1) then k + 1 else zbx W k) ≤ k + 1
    split <;> omega
theorem t164 {a b : Nat} {D : Nat → Nat → Nat} (h : zdu a b D S Sm L Lm rd) : zcall 164 [.ref 0, .int (nI a), .int (nI b)] zRc S L = some (some (.int (nI (zbx (fun f => zws D f 3) 100))), zRc, S, L) ∧ zcall 272 [.ref 0, .int (nI a), .int (nI b)] (zRm1 rd) Sm Lm = some (some (.int (nI (zbx (fun f => zws D f 3) 100))), zRm1 rd, Sm, Lm) := by
  have hw := fun f (hf : f ≤ 100) => t163 h hf
  obtain ⟨W, hW⟩ : ∃ W : Nat → Nat, W = fun f => zws D f 3 := ⟨_, rfl⟩
  have hW1 : ∀ f, W f ≤ 10000 := fun f => by rw [hW]; exact zws_le
  have c1 : ∀ f, f ≤ 100 → zcall 163 [.ref 0, .int (nI a), .int (nI b), .int (nI f)] zRc S L = some (some (.int (nI (W f))), zRc, S, L) := fun f hf => by rw [hW]; exact (hw f hf).1
  have m1 : ∀ f, f ≤ 100 → zcall 271 [.ref 0, .int (nI a), .int (nI b), .int (nI f)] (zRm1 rd) Sm Lm = some (some (.int (nI (W f))), zRm1 rd, Sm, Lm) := fun f hf => by rw [hW]; exact (hw f hf).2
  rw [← hW]
  clear hw hW h
  have key : ∀ d k, k + d = 100 → ∀ j, zgo 164 14 [.ref 0, .int (nI a), .int (nI b), .int (nI (zbx W k)), .int (nI (W (zbx W k))), .int (nI (k + 1)), j] [] zRc S L = some (some (.int (nI (zbx W 100))), zRc, S, L) := by
    intro d
    induction d with
    | zero =>
      intro k hd j
      have hk : k = 100 := by omega
      subst hk
      have h2 : (100 : Int32) < nI (100 + 1) := by decide
      rw [s164_14]
      simp (config := {maxSteps := 1000000}) (disch := omega) only [↓reduceIte, Int32.reduceLT, Int32.reduceLE, Int32.reduceToNatClampNeg, Int32.reduceAdd, Int32.reduceSub, Int32.reduceMul, Nat.reduceLeDiff, zEL, zup_ne, zup_eq, zT0, zT1, zT2, if_true, if_false, zneq_f, true_and, and_true, false_and, and_false, zKL, eq_self, Nat.reduceEqDiff, zite0, ite_not, zaddr, zaddl, zputr, zsb1, zsb2, zsb0, zsbm, znm1, s164_16, s164_18, s164_21, s164_22, s164_23, s164_24, s164_26, s164_29, s164_31, s164_33, s164_35, s164_38, s164_40, s164_41, s164_43, s164_45, s164_48, s164_51, s164_52, h2]
    | succ d ih =>
      intro k hd j
      have h2 : (100 < nI (k + 1)) = False := eq_false (by rw [show (100 : Int32) = nI 100 from rfl, znI_lt (by omega) (by omega)]; omega)
      have k1 := c1 (k + 1) (by omega)
      have w1 := hW1 (k + 1)
      have w2 := hW1 (zbx W k)
      have := ih (k + 1) (by omega) (.int (nI (W (k + 1))))
      rw [show zbx W (k + 1) = if W (zbx W k) < W (k + 1) then k + 1 else zbx W k from rfl] at this
      rw [← this, s164_14]
      by_cases hc : W (zbx W k) < W (k + 1)
      · rw [if_pos hc]
        simp (config := {maxSteps := 1000000}) (disch := omega) only [↓reduceIte, Int32.reduceLT, Int32.reduceLE, Int32.reduceToNatClampNeg, Int32.reduceAdd, Int32.reduceSub, Int32.reduceMul, Nat.reduceLeDiff, zEL, zup_ne, zup_eq, zT0, zT1, zT2, if_true, if_false, zneq_f, true_and, and_true, false_and, and_false, zKL, eq_self, Nat.reduceEqDiff, zite0, ite_not, zaddr, zaddl, zputr, zsb1, zsb2, zsb0, zsbm, znm1, gX, s164_16, s164_18, s164_21, s164_22, s164_23, s164_24, s164_26, s164_29, s164_31, s164_33, s164_35, s164_38, s164_40, s164_41, s164_43, s164_45, s164_48, s164_51, s164_52, h2, k1]
      · rw [if_neg hc]
        simp (config := {maxSteps := 1000000}) (disch := omega) only [↓reduceIte, Int32.reduceLT, Int32.reduceLE, Int32.reduceToNatClampNeg, Int32.reduceAdd, Int32.reduceSub, Int32.reduceMul, Nat.reduceLeDiff, zEL, zup_ne, zup_eq, zT0, zT1, zT2, if_true, if_false, zneq_f, true_and, and_true, false_and, and_false, zKL, eq_self, Nat.reduceEqDiff, zite0, ite_not, zaddr, zaddl, zputr, zsb1, zsb2, zsb0, zsbm, znm1, gX, s164_16, s164_18, s164_21, s164_22, s164_23, s164_24, s164_26, s164_29, s164_31, s164_33, s164_35, s164_38, s164_40, s164_41, s164_43, s164_45, s164_48, s164_51, s164_52, h2, k1]
  have key2 : ∀ d k, k + d = 100 → zgo 272 5 [.ref 0, .int (nI a), .int (nI b), .int (nI (zbx W k)), .int (nI (k + 1))] [] (zRm1 rd) Sm Lm = some (some (.int (nI (zbx W 100))), zRm1 rd, Sm, Lm) := by
    intro d
    induction d with
    | zero =>
      intro k hd
      have hk : k = 100 := by omega
      subst hk
      have h2 : (100 : Int32) < nI (100 + 1) := by decide
      rw [s272_5]
      simp (config := {maxSteps := 1000000}) (disch := omega) only [↓reduceIte, Int32.reduceLT, Int32.reduceLE, Int32.reduceToNatClampNeg, Int32.reduceAdd, Int32.reduceSub, Int32.reduceMul, Nat.reduceLeDiff, zEL, zup_ne, zup_eq, zT0, zT1, zT2, if_true, if_false, zneq_f, true_and, and_true, false_and, and_false, zKL, eq_self, Nat.reduceEqDiff, zite0, ite_not, zaddr, zaddl, zputr, zsb1, zsb2, zsb0, zsbm, znm1, s272_7, s272_9, s272_12, s272_13, s272_14, s272_15, s272_17, s272_20, s272_21, s272_22, s272_23, s272_24, s272_27, s272_30, s272_32, s272_33, s272_36, s272_39, s272_40, h2]
    | succ d ih =>
      intro k hd
      have h2 : (100 < nI (k + 1)) = False := eq_false (by rw [show (100 : Int32) = nI 100 from rfl, znI_lt (by omega) (by omega)]; omega)
      have k1 := m1 (k + 1) (by omega)
      have hb := @zbx_le W k
      have k2 := m1 (zbx W k) (by omega)
      have w1 := hW1 (k + 1)
      have w2 := hW1 (zbx W k)
      have := ih (k + 1) (by omega)
      rw [show zbx W (k + 1) = if W (zbx W k) < W (k + 1) then k + 1 else zbx W k from rfl] at this
      rw [← this, s272_5]
      by_cases hc : W (zbx W k) < W (k + 1)
      · rw [if_pos hc]
        simp (config := {maxSteps := 1000000}) (disch := omega) only [↓reduceIte, Int32.reduceLT, Int32.reduceLE, Int32.reduceToNatClampNeg, Int32.reduceAdd, Int32.reduceSub, Int32.reduceMul, Nat.reduceLeDiff, zEL, zup_ne, zup_eq, zT0, zT1, zT2, if_true, if_false, zneq_f, true_and, and_true, false_and, and_false, zKL, eq_self, Nat.reduceEqDiff, zite0, ite_not, zaddr, zaddl, zputr, zsb1, zsb2, zsb0, zsbm, znm1, layM1, s272_7, s272_9, s272_12, s272_13, s272_14, s272_15, s272_17, s272_20, s272_21, s272_22, s272_23, s272_24, s272_27, s272_30, s272_32, s272_33, s272_36, s272_39, s272_40, h2, k1, k2]
      · rw [if_neg hc]
        simp (config := {maxSteps := 1000000}) (disch := omega) only [↓reduceIte, Int32.reduceLT, Int32.reduceLE, Int32.reduceToNatClampNeg, Int32.reduceAdd, Int32.reduceSub, Int32.reduceMul, Nat.reduceLeDiff, zEL, zup_ne, zup_eq, zT0, zT1, zT2, if_true, if_false, zneq_f, true_and, and_true, false_and, and_false, zKL, eq_self, Nat.reduceEqDiff, zite0, ite_not, zaddr, zaddl, zputr, zsb1, zsb2, zsb0, zsbm, znm1, layM1, s272_7, s272_9, s272_12, s272_13, s272_14, s272_15, s272_17, s272_20, s272_21, s272_22, s272_23, s272_24, s272_27, s272_30, s272_32, s272_33, s272_36, s272_39, s272_40, h2, k1, k2]
  refine ⟨?_, ?_⟩
  · have := key 100 0 (by omega) (.retAddr 0)
    have k0 : zcall 163 [.ref 0, .int (nI a), .int (nI b), .int 0] zRc S L = some (some (.int (nI (W 0))), zRc, S, L) := c1 0 (by omega)
    unfold zcall
    simp (config := {maxSteps := 1000000}) (disch := omega) only [↓reduceIte, Int32.reduceLT, Int32.reduceLE, Int32.reduceToNatClampNeg, Int32.reduceAdd, Int32.reduceSub, Int32.reduceMul, Nat.reduceLeDiff, zEL, zup_ne, zup_eq, zT0, zT1, zT2, if_true, if_false, zneq_f, true_and, and_true, false_and, and_false, zKL, eq_self, Nat.reduceEqDiff, zite0, ite_not, zaddr, zaddl, zputr, zsb1, zsb2, zsb0, zsbm, znm1, gX, ze_164, s164_0, s164_1, s164_2, s164_3, s164_4, s164_5, s164_6, s164_9, s164_11, s164_12, k0]
    exact this
  · have := key2 100 0 (by omega)
    unfold zcall
    simp (config := {maxSteps := 1000000}) (disch := omega) only [↓reduceIte, Int32.reduceLT, Int32.reduceLE, Int32.reduceToNatClampNeg, Int32.reduceAdd, Int32.reduceSub, Int32.reduceMul, Nat.reduceLeDiff, zEL, zup_ne, zup_eq, zT0, zT1, zT2, if_true, if_false, zneq_f, true_and, and_true, false_and, and_false, zKL, eq_self, Nat.reduceEqDiff, zite0, ite_not, zaddr, zaddl, zputr, zsb1, zsb2, zsb0, zsbm, znm1, ze_272, s272_0, s272_1, s272_2, s272_3]
    exact this
theorem m_134 {p q : Int32} (h : zTM c S Sm) : ∃ v : Int32, ∃ S' Sm' : zS, zcall 134 [.ref 0, .int p, .int q] zRc S L = some (some (.int v), zRc, S', L) ∧ zcall 273 [.ref 0, .int p, .int q] (zRm1 rd) Sm Lm = some (some (.int v), zRm1 rd, Sm', Lm) ∧ zTM c S' Sm' := by
  obtain ⟨X, hX⟩ : ∃ X, X = zup Sm 0 0 0 := ⟨_, rfl⟩
  have h' := zTM_t (v := 0) h
  rw [← hX] at h'
  rcases topp (L := L) (Lm := Lm) (rd := rd) h'.2.2.1 p q with ⟨a, b, ha, hb, rfl, rfl, -, k1, k2⟩ | ⟨k1, k2⟩
  · obtain ⟨D, hD⟩ := tdu (L := L) (Lm := Lm) (rd := rd) h'.2.2.1 h'.2.2.2.1 ha hb
    obtain ⟨k3, k4⟩ := t164 hD
    refine ⟨nI (zbx (fun f => zws D f 3) 100), _, _, ?_, ?_, zTM_d 0 (by decide) h'⟩ <;> unfold zcall
    · simp (config := {maxSteps := 1000000}) (disch := omega) only [↓reduceIte, Int32.reduceLT, Int32.reduceLE, Int32.reduceToNatClampNeg, Int32.reduceAdd, Int32.reduceSub, Int32.reduceMul, Nat.reduceLeDiff, zEL, zup_ne, zup_eq, zT0, zT1, zT2, if_true, if_false, zneq_f, true_and, and_true, false_and, and_false, zKL, eq_self, Nat.reduceEqDiff, zite0, ite_not, zaddr, zaddl, zputr, zsb1, zsb2, zsb0, zsbm, znm1, gX, g168, tEC, S134, k1, k3]
    · simp (config := {maxSteps := 1000000}) (disch := omega) only [↓reduceIte, Int32.reduceLT, Int32.reduceLE, Int32.reduceToNatClampNeg, Int32.reduceAdd, Int32.reduceSub, Int32.reduceMul, Nat.reduceLeDiff, zEL, zup_ne, zup_eq, zT0, zT1, zT2, if_true, if_false, zneq_f, true_and, and_true, false_and, and_false, zKL, eq_self, Nat.reduceEqDiff, zite0, ite_not, zaddr, zaddl, zputr, zsb1, zsb2, zsb0, zsbm, znm1, layM1, tEM1, S273, ← hX, k2, k4]
  · refine ⟨-1, _, _, ?_, ?_, zTM_d 1 (by decide) h'⟩ <;> unfold zcall
    · simp (config := {maxSteps := 1000000}) (disch := omega) only [↓reduceIte, Int32.reduceLT, Int32.reduceLE, Int32.reduceToNatClampNeg, Int32.reduceAdd, Int32.reduceSub, Int32.reduceMul, Nat.reduceLeDiff, zEL, zup_ne, zup_eq, zT0, zT1, zT2, if_true, if_false, zneq_f, true_and, and_true, false_and, and_false, zKL, eq_self, Nat.reduceEqDiff, zite0, ite_not, zaddr, zaddl, zputr, zsb1, zsb2, zsb0, zsbm, znm1, gX, g168, tEC, S134, k1]
    · simp (config := {maxSteps := 1000000}) (disch := omega) only [↓reduceIte, Int32.reduceLT, Int32.reduceLE, Int32.reduceToNatClampNeg, Int32.reduceAdd, Int32.reduceSub, Int32.reduceMul, Nat.reduceLeDiff, zEL, zup_ne, zup_eq, zT0, zT1, zT2, if_true, if_false, zneq_f, true_and, and_true, false_and, and_false, zKL, eq_self, Nat.reduceEqDiff, zite0, ite_not, zaddr, zaddl, zputr, zsb1, zsb2, zsb0, zsbm, znm1, layM1, tEM1, S273, ← hX, k2]
theorem m_135 {p q : Int32} (h : zTM c S Sm) : ∃ v : Int32, ∃ S' Sm' : zS, zcall 135 [.ref 0, .int p, .int q] zRc S L = some (some (.int v), zRc, S', L) ∧ zcall 274 [.ref 0, .int p, .int q] (zRm1 rd) Sm Lm = some (some (.int v), zRm1 rd, Sm', Lm) ∧ zTM c S' Sm' := by
  obtain ⟨X, hX⟩ : ∃ X, X = zup Sm 0 0 0 := ⟨_, rfl⟩
  have h' := zTM_t (v := 0) h
  rw [← hX] at h'
  rcases topp (L := L) (Lm := Lm) (rd := rd) h'.2.2.1 p q with ⟨a, b, ha, hb, rfl, rfl, -, k1, k2⟩ | ⟨k1, k2⟩
  · obtain ⟨D, hD⟩ := tdu (L := L) (Lm := Lm) (rd := rd) h'.2.2.1 h'.2.2.2.1 ha hb
    obtain ⟨k3, k4⟩ := t164 hD
    obtain ⟨k5, k6⟩ := t163 hD (@zbx_le (fun f => zws D f 3) 100)
    refine ⟨nI (zws D (zbx (fun f => zws D f 3) 100) 3), _, _, ?_, ?_, zTM_d 0 (by decide) h'⟩ <;> unfold zcall
    · simp (config := {maxSteps := 1000000}) (disch := omega) only [↓reduceIte, Int32.reduceLT, Int32.reduceLE, Int32.reduceToNatClampNeg, Int32.reduceAdd, Int32.reduceSub, Int32.reduceMul, Nat.reduceLeDiff, zEL, zup_ne, zup_eq, zT0, zT1, zT2, if_true, if_false, zneq_f, true_and, and_true, false_and, and_false, zKL, eq_self, Nat.reduceEqDiff, zite0, ite_not, zaddr, zaddl, zputr, zsb1, zsb2, zsb0, zsbm, znm1, gX, g168, tEC, S135, k1, k3, k5]
    · simp (config := {maxSteps := 1000000}) (disch := omega) only [↓reduceIte, Int32.reduceLT, Int32.reduceLE, Int32.reduceToNatClampNeg, Int32.reduceAdd, Int32.reduceSub, Int32.reduceMul, Nat.reduceLeDiff, zEL, zup_ne, zup_eq, zT0, zT1, zT2, if_true, if_false, zneq_f, true_and, and_true, false_and, and_false, zKL, eq_self, Nat.reduceEqDiff, zite0, ite_not, zaddr, zaddl, zputr, zsb1, zsb2, zsb0, zsbm, znm1, layM1, tEM1, S274, ← hX, k2, k4, k6]
  · refine ⟨-1, _, _, ?_, ?_, zTM_d 1 (by decide) h'⟩ <;> unfold zcall
    · simp (config := {maxSteps := 1000000}) (disch := omega) only [↓reduceIte, Int32.reduceLT, Int32.reduceLE, Int32.reduceToNatClampNeg, Int32.reduceAdd, Int32.reduceSub, Int32.reduceMul, Nat.reduceLeDiff, zEL, zup_ne, zup_eq, zT0, zT1, zT2, if_true, if_false, zneq_f, true_and, and_true, false_and, and_false, zKL, eq_self, Nat.reduceEqDiff, zite0, ite_not, zaddr, zaddl, zputr, zsb1, zsb2, zsb0, zsbm, znm1, gX, g168, tEC, S135, k1]
    · simp (config := {maxSteps := 1000000}) (disch := omega) only [↓reduceIte, Int32.reduceLT, Int32.reduceLE, Int32.reduceToNatClampNeg, Int32.reduceAdd, Int32.reduceSub, Int32.reduceMul, Nat.reduceLeDiff, zEL, zup_ne, zup_eq, zT0, zT1, zT2, if_true, if_false, zneq_f, true_and, and_true, false_and, and_false, zKL, eq_self, Nat.reduceEqDiff, zite0, ite_not, zaddr, zaddl, zputr, zsb1, zsb2, zsb0, zsbm, znm1, layM1, tEM1, S274, ← hX, k2]
def zmd (D : Nat → Nat → Nat) (x : Nat) : Nat → Nat
  | 0 => 100
  | k + 1 => min (zmd D x k) (D x k)
def zmo (D : Nat → Nat → Nat) : Nat → Nat
  | 0 => 100
  | k + 1 => min (zmo D k) (max (D 0 k) (D 1 k))
theorem zmd_le {D : Nat → Nat → Nat} {x k : Nat} : zmd D x k ≤ 100 := by
  induction k with
  | zero => exact Nat.le_refl _
  | succ k ih =>
    have : zmd D x (k + 1) = min (zmd D x k) (D x k) := rfl
    omega
theorem zmo_le {D : Nat → Nat → Nat} {k : Nat} : zmo D k ≤ 100 := by
  induction k with
  | zero => exact Nat.le_refl _
  | succ k ih =>
    have : zmo D (k + 1) = min (zmo D k) (max (D 0 k) (D 1 k)) := rfl
    omega
theorem zws100 {D : Nat → Nat → Nat} {k : Nat} : zws D 100 k = 100 * zmd D 0 k := by
  induction k with
  | zero => rfl
  | succ k ih =>
    show min (zws D 100 k) (100 * D 0 k + (100 - 100) * D 1 k) = 100 * min (zmd D 0 k) (D 0 k)
    rw [ih, Nat.sub_self, Nat.zero_mul]
    omega
theorem zws0 {D : Nat → Nat → Nat} {k : Nat} : zws D 0 k = 100 * zmd D 1 k := by
  induction k with
  | zero => rfl
  | succ k ih =>
    show min (zws D 0 k) (0 * D 0 k + (100 - 0) * D 1 k) = 100 * min (zmd D 1 k) (D 1 k)
    rw [ih, Nat.sub_zero, Nat.zero_mul]
    omega
theorem t269 {a b : Nat} {D : Nat → Nat → Nat} (h : zdu a b D S Sm L Lm rd) : zgo 269 20 [.ref 0, .int (nI a), .int (nI b), .retAddr 0, .retAddr 0, .retAddr 0] [] (zRm1 rd) Sm Lm = zgo 269 99 [.ref 0, .int (nI a), .int (nI b), .int (nI (zmd D 0 3)), .int (nI (zmd D 1 3)), .int (nI 3)] [] (zRm1 rd) Sm Lm := by
  obtain ⟨hD, c0, c1, m0, m1⟩ := h
  have key : ∀ d k, k + d = 3 → zgo 269 30 [.ref 0, .int (nI a), .int (nI b), .int (nI (zmd D 0 k)), .int (nI (zmd D 1 k)), .int (nI k)] [] (zRm1 rd) Sm Lm = zgo 269 99 [.ref 0, .int (nI a), .int (nI b), .int (nI (zmd D 0 3)), .int (nI (zmd D 1 3)), .int (nI 3)] [] (zRm1 rd) Sm Lm := by
    intro d
    induction d with
    | zero =>
      intro k hd
      have hk : k = 3 := by omega
      subst hk
      have h2 : (2 : Int32) < nI 3 := by decide
      rw [s269_30]
      simp (config := {maxSteps := 1000000}) (disch := omega) only [↓reduceIte, Int32.reduceLT, Int32.reduceLE, Int32.reduceToNatClampNeg, Int32.reduceAdd, Int32.reduceSub, Int32.reduceMul, Nat.reduceLeDiff, zEL, zup_ne, zup_eq, zT0, zT1, zT2, if_true, if_false, zneq_f, true_and, and_true, false_and, and_false, zKL, eq_self, Nat.reduceEqDiff, zite0, ite_not, zaddr, zaddl, zputr, zsb1, zsb2, zsb0, zsbm, znm1, s269_32, s269_33, s269_36, s269_37, s269_38, s269_39, s269_40, s269_42, s269_45, s269_46, s269_49, s269_50, s269_51, s269_52, s269_53, s269_55, s269_58, s269_61, s269_62, s269_63, s269_64, s269_65, s269_66, s269_67, s269_69, s269_72, s269_74, s269_77, s269_78, s269_79, s269_80, s269_81, s269_83, s269_86, s269_89, s269_91, s269_93, s269_96, h2]
    | succ d ih =>
      intro k hd
      have h2 : (2 < nI k) = False := eq_false (by rw [show (2 : Int32) = nI 2 from rfl, znI_lt (by omega) (by omega)]; omega)
      have k0 := m0 k (by omega)
      have k1 := m1 k (by omega)
      have l0 := @zmd_le D 0 k
      have l1 := @zmd_le D 1 k
      have d0 := hD 0 k
      have d1 := hD 1 k
      have := ih (k + 1) (by omega)
      rw [show zmd D 0 (k + 1) = min (zmd D 0 k) (D 0 k) from rfl, show zmd D 1 (k + 1) = min (zmd D 1 k) (D 1 k) from rfl] at this
      rw [← this, s269_30]
      generalize zmd D 0 k = x at l0
      generalize zmd D 1 k = y at l1
      generalize D 0 k = u at d0 k0
      generalize D 1 k = w at d1 k1
      by_cases h0 : x ≤ u
      · rw [Nat.min_eq_left h0]
        by_cases h1 : y ≤ w
        · rw [Nat.min_eq_left h1]
          simp (config := {maxSteps := 1000000}) (disch := omega) only [↓reduceIte, Int32.reduceLT, Int32.reduceLE, Int32.reduceToNatClampNeg, Int32.reduceAdd, Int32.reduceSub, Int32.reduceMul, Nat.reduceLeDiff, zEL, zup_ne, zup_eq, zT0, zT1, zT2, if_true, if_false, zneq_f, true_and, and_true, false_and, and_false, zKL, eq_self, Nat.reduceEqDiff, zite0, ite_not, zaddr, zaddl, zputr, zsb1, zsb2, zsb0, zsbm, znm1, layM1, s269_32, s269_33, s269_36, s269_37, s269_38, s269_39, s269_40, s269_42, s269_45, s269_46, s269_49, s269_50, s269_51, s269_52, s269_53, s269_55, s269_58, s269_61, s269_62, s269_63, s269_64, s269_65, s269_66, s269_67, s269_69, s269_72, s269_74, s269_77, s269_78, s269_79, s269_80, s269_81, s269_83, s269_86, s269_89, s269_91, s269_93, s269_96, h2, k0, k1]
        · rw [Nat.min_eq_right (by omega)]
          simp (config := {maxSteps := 1000000}) (disch := omega) only [↓reduceIte, Int32.reduceLT, Int32.reduceLE, Int32.reduceToNatClampNeg, Int32.reduceAdd, Int32.reduceSub, Int32.reduceMul, Nat.reduceLeDiff, zEL, zup_ne, zup_eq, zT0, zT1, zT2, if_true, if_false, zneq_f, true_and, and_true, false_and, and_false, zKL, eq_self, Nat.reduceEqDiff, zite0, ite_not, zaddr, zaddl, zputr, zsb1, zsb2, zsb0, zsbm, znm1, layM1, s269_32, s269_33, s269_36, s269_37, s269_38, s269_39, s269_40, s269_42, s269_45, s269_46, s269_49, s269_50, s269_51, s269_52, s269_53, s269_55, s269_58, s269_61, s269_62, s269_63, s269_64, s269_65, s269_66, s269_67, s269_69, s269_72, s269_74, s269_77, s269_78, s269_79, s269_80, s269_81, s269_83, s269_86, s269_89, s269_91, s269_93, s269_96, h2, k0, k1]
      · rw [Nat.min_eq_right (show u ≤ x by omega)]
        by_cases h1 : y ≤ w
        · rw [Nat.min_eq_left h1]
          simp (config := {maxSteps := 1000000}) (disch := omega) only [↓reduceIte, Int32.reduceLT, Int32.reduceLE, Int32.reduceToNatClampNeg, Int32.reduceAdd, Int32.reduceSub, Int32.reduceMul, Nat.reduceLeDiff, zEL, zup_ne, zup_eq, zT0, zT1, zT2, if_true, if_false, zneq_f, true_and, and_true, false_and, and_false, zKL, eq_self, Nat.reduceEqDiff, zite0, ite_not, zaddr, zaddl, zputr, zsb1, zsb2, zsb0, zsbm, znm1, layM1, s269_32, s269_33, s269_36, s269_37, s269_38, s269_39, s269_40, s269_42, s269_45, s269_46, s269_49, s269_50, s269_51, s269_52, s269_53, s269_55, s269_58, s269_61, s269_62, s269_63, s269_64, s269_65, s269_66, s269_67, s269_69, s269_72, s269_74, s269_77, s269_78, s269_79, s269_80, s269_81, s269_83, s269_86, s269_89, s269_91, s269_93, s269_96, h2, k0, k1]
        · rw [Nat.min_eq_right (by omega)]
          simp (config := {maxSteps := 1000000}) (disch := omega) only [↓reduceIte, Int32.reduceLT, Int32.reduceLE, Int32.reduceToNatClampNeg, Int32.reduceAdd, Int32.reduceSub, Int32.reduceMul, Nat.reduceLeDiff, zEL, zup_ne, zup_eq, zT0, zT1, zT2, if_true, if_false, zneq_f, true_and, and_true, false_and, and_false, zKL, eq_self, Nat.reduceEqDiff, zite0, ite_not, zaddr, zaddl, zputr, zsb1, zsb2, zsb0, zsbm, znm1, layM1, s269_32, s269_33, s269_36, s269_37, s269_38, s269_39, s269_40, s269_42, s269_45, s269_46, s269_49, s269_50, s269_51, s269_52, s269_53, s269_55, s269_58, s269_61, s269_62, s269_63, s269_64, s269_65, s269_66, s269_67, s269_69, s269_72, s269_74, s269_77, s269_78, s269_79, s269_80, s269_81, s269_83, s269_86, s269_89, s269_91, s269_93, s269_96, h2, k0, k1]
  have := key 3 0 (by omega)
  rw [← this]
  simp (config := {maxSteps := 1000000}) (disch := omega) only [↓reduceIte, Int32.reduceLT, Int32.reduceLE, Int32.reduceToNatClampNeg, Int32.reduceAdd, Int32.reduceSub, Int32.reduceMul, Nat.reduceLeDiff, zEL, zup_ne, zup_eq, zT0, zT1, zT2, if_true, if_false, zneq_f, true_and, and_true, false_and, and_false, zKL, eq_self, Nat.reduceEqDiff, zite0, ite_not, zaddr, zaddl, zputr, zsb1, zsb2, zsb0, zsbm, znm1, s269_20, s269_22, s269_23, s269_25, s269_27, s269_28]
  all_goals rfl
theorem m_132 {p q : Int32} (h : zTM c S Sm) : ∃ v : Int32, ∃ S' Sm' : zS, zcall 132 [.ref 0, .int p, .int q] zRc S L = some (some (.int v), zRc, S', L) ∧ zcall 269 [.ref 0, .int p, .int q] (zRm1 rd) Sm Lm = some (some (.int v), zRm1 rd, Sm', Lm) ∧ zTM c S' Sm' := by
  obtain ⟨X, hX⟩ : ∃ X, X = zup Sm 0 0 0 := ⟨_, rfl⟩
  have h' := zTM_t (v := 0) h
  rw [← hX] at h'
  rcases topp (L := L) (Lm := Lm) (rd := rd) h'.2.2.1 p q with ⟨a, b, ha, hb, rfl, rfl, -, k1, k2⟩ | ⟨k1, k2⟩
  · obtain ⟨D, hD⟩ := tdu (L := L) (Lm := Lm) (rd := rd) h'.2.2.1 h'.2.2.2.1 ha hb
    have k3 : zcall 163 [.ref 0, .int (nI a), .int (nI b), .int 100] zRc S L = _ := (t163 hD (f := 100) (by omega)).1
    have k4 : zcall 163 [.ref 0, .int (nI a), .int (nI b), .int 0] zRc S L = _ := (t163 hD (f := 0) (by omega)).1
    have k5 := t269 hD
    rw [zws100] at k3
    rw [zws0] at k4
    have l0 := @zmd_le D 0 3
    have l1 := @zmd_le D 1 3
    generalize zmd D 0 3 = x at k3 k5 l0
    generalize zmd D 1 3 = y at k4 k5 l1
    refine ⟨nI (max x y), _, _, ?_, ?_, zTM_d 0 (by decide) h'⟩ <;> unfold zcall
    · have e1 : nI (max (100 * x) (100 * y)) / 100 = nI (max x y) := by
        rw [show (100 : Int32) = nI 100 from rfl, znI_div (by omega) (by omega)]
        congr 1
        omega
      simp (config := {maxSteps := 1000000}) (disch := omega) only [↓reduceIte, Int32.reduceLT, Int32.reduceLE, Int32.reduceToNatClampNeg, Int32.reduceAdd, Int32.reduceSub, Int32.reduceMul, Nat.reduceLeDiff, zEL, zup_ne, zup_eq, zT0, zT1, zT2, if_true, if_false, zneq_f, true_and, and_true, false_and, and_false, zKL, eq_self, Nat.reduceEqDiff, zite0, ite_not, zaddr, zaddl, zputr, zsb1, zsb2, zsb0, zsbm, znm1, gX, g168, tEC, S132, k1, k3, k4, zmx, e1, zsd5]
      all_goals (repeat' split)
      all_goals first | rfl | skip
      all_goals (congr 4)
      all_goals omega
    · simp (config := {maxSteps := 1000000}) (disch := omega) only [↓reduceIte, Int32.reduceLT, Int32.reduceLE, Int32.reduceToNatClampNeg, Int32.reduceAdd, Int32.reduceSub, Int32.reduceMul, Nat.reduceLeDiff, zEL, zup_ne, zup_eq, zT0, zT1, zT2, if_true, if_false, zneq_f, true_and, and_true, false_and, and_false, zKL, eq_self, Nat.reduceEqDiff, zite0, ite_not, zaddr, zaddl, zputr, zsb1, zsb2, zsb0, zsbm, znm1, layM1, tEM1, ze_269, s269_0, s269_1, s269_2, s269_5, s269_6, s269_7, s269_8, s269_11, s269_14, s269_15, s269_16, s269_19, ← hX, k2]
      rw [k5]
      by_cases hc : x ≤ y
      · rw [Nat.max_eq_right hc]
        simp (config := {maxSteps := 1000000}) (disch := omega) only [↓reduceIte, Int32.reduceLT, Int32.reduceLE, Int32.reduceToNatClampNeg, Int32.reduceAdd, Int32.reduceSub, Int32.reduceMul, Nat.reduceLeDiff, zEL, zup_ne, zup_eq, zT0, zT1, zT2, if_true, if_false, zneq_f, true_and, and_true, false_and, and_false, zKL, eq_self, Nat.reduceEqDiff, zite0, ite_not, zaddr, zaddl, zputr, zsb1, zsb2, zsb0, zsbm, znm1, layM1, tEM1, s269_99, s269_100, s269_101, s269_103, s269_106, s269_107, s269_110, s269_112, s269_115]
      · rw [Nat.max_eq_left (by omega)]
        simp (config := {maxSteps := 1000000}) (disch := omega) only [↓reduceIte, Int32.reduceLT, Int32.reduceLE, Int32.reduceToNatClampNeg, Int32.reduceAdd, Int32.reduceSub, Int32.reduceMul, Nat.reduceLeDiff, zEL, zup_ne, zup_eq, zT0, zT1, zT2, if_true, if_false, zneq_f, true_and, and_true, false_and, and_false, zKL, eq_self, Nat.reduceEqDiff, zite0, ite_not, zaddr, zaddl, zputr, zsb1, zsb2, zsb0, zsbm, znm1, layM1, tEM1, s269_99, s269_100, s269_101, s269_103, s269_106, s269_107, s269_110, s269_112, s269_115]
  · refine ⟨-1, _, _, ?_, ?_, zTM_d 1 (by decide) h'⟩ <;> unfold zcall
    · simp (config := {maxSteps := 1000000}) (disch := omega) only [↓reduceIte, Int32.reduceLT, Int32.reduceLE, Int32.reduceToNatClampNeg, Int32.reduceAdd, Int32.reduceSub, Int32.reduceMul, Nat.reduceLeDiff, zEL, zup_ne, zup_eq, zT0, zT1, zT2, if_true, if_false, zneq_f, true_and, and_true, false_and, and_false, zKL, eq_self, Nat.reduceEqDiff, zite0, ite_not, zaddr, zaddl, zputr, zsb1, zsb2, zsb0, zsbm, znm1, gX, g168, tEC, S132, k1]
    · simp (config := {maxSteps := 1000000}) (disch := omega) only [↓reduceIte, Int32.reduceLT, Int32.reduceLE, Int32.reduceToNatClampNeg, Int32.reduceAdd, Int32.reduceSub, Int32.reduceMul, Nat.reduceLeDiff, zEL, zup_ne, zup_eq, zT0, zT1, zT2, if_true, if_false, zneq_f, true_and, and_true, false_and, and_false, zKL, eq_self, Nat.reduceEqDiff, zite0, ite_not, zaddr, zaddl, zputr, zsb1, zsb2, zsb0, zsbm, znm1, layM1, tEM1, S269, ← hX, k2]
theorem tmost {a b : Nat} {D : Nat → Nat → Nat} (h : zdu a b D S Sm L Lm rd) : (∃ j, zgo 133 15 [.ref 0, .int (nI a), .int (nI b), .retAddr 0, .retAddr 0, .retAddr 0] [] zRc S L = zgo 133 63 [.ref 0, .int (nI a), .int (nI b), .int (nI (zmo D 3)), .int (nI 3), j] [] zRc S L) ∧ (∃ j, zgo 270 20 [.ref 0, .int (nI a), .int (nI b), .retAddr 0, .retAddr 0, .retAddr 0] [] (zRm1 rd) Sm Lm = zgo 270 95 [.ref 0, .int (nI a), .int (nI b), .int (nI (zmo D 3)), .int (nI 3), j] [] (zRm1 rd) Sm Lm) := by
  obtain ⟨hD, c0, c1, m0, m1⟩ := h
  have key : ∀ d k, k + d = 3 → ∀ j, ∃ j', zgo 133 21 [.ref 0, .int (nI a), .int (nI b), .int (nI (zmo D k)), .int (nI k), j] [] zRc S L = zgo 133 63 [.ref 0, .int (nI a), .int (nI b), .int (nI (zmo D 3)), .int (nI 3), j'] [] zRc S L := by
    intro d
    induction d with
    | zero =>
      intro k hd j
      have hk : k = 3 := by omega
      subst hk
      have h2 : (2 : Int32) < nI 3 := by decide
      refine ⟨j, ?_⟩
      rw [s133_21]
      simp (config := {maxSteps := 1000000}) (disch := omega) only [↓reduceIte, Int32.reduceLT, Int32.reduceLE, Int32.reduceToNatClampNeg, Int32.reduceAdd, Int32.reduceSub, Int32.reduceMul, Nat.reduceLeDiff, zEL, zup_ne, zup_eq, zT0, zT1, zT2, if_true, if_false, zneq_f, true_and, and_true, false_and, and_false, zKL, eq_self, Nat.reduceEqDiff, zite0, ite_not, zaddr, zaddl, zputr, zsb1, zsb2, zsb0, zsbm, znm1, s133_23, s133_24, s133_27, s133_28, s133_29, s133_30, s133_31, s133_33, s133_36, s133_37, s133_38, s133_39, s133_40, s133_42, s133_45, s133_48, s133_50, s133_51, s133_53, s133_56, s133_57, s133_60, h2]
    | succ d ih =>
      intro k hd j
      have h2 : (2 < nI k) = False := eq_false (by rw [show (2 : Int32) = nI 2 from rfl, znI_lt (by omega) (by omega)]; omega)
      have k0 := c0 k (by omega)
      have k1 := c1 k (by omega)
      have l0 := @zmo_le D k
      have d0 := hD 0 k
      have d1 := hD 1 k
      obtain ⟨j', r⟩ := ih (k + 1) (by omega) (.int (nI (max (D 0 k) (D 1 k))))
      rw [show zmo D (k + 1) = min (zmo D k) (max (D 0 k) (D 1 k)) from rfl] at r
      refine ⟨j', ?_⟩
      rw [← r, s133_21]
      generalize zmo D k = x at l0
      generalize D 0 k = u at d0 k0
      generalize D 1 k = w at d1 k1
      by_cases h1 : u < w
      · rw [Nat.max_eq_right (show u ≤ w by omega)]
        simp (config := {maxSteps := 1000000}) (disch := omega) only [↓reduceIte, Int32.reduceLT, Int32.reduceLE, Int32.reduceToNatClampNeg, Int32.reduceAdd, Int32.reduceSub, Int32.reduceMul, Nat.reduceLeDiff, zEL, zup_ne, zup_eq, zT0, zT1, zT2, if_true, if_false, zneq_f, true_and, and_true, false_and, and_false, zKL, eq_self, Nat.reduceEqDiff, zite0, ite_not, zaddr, zaddl, zputr, zsb1, zsb2, zsb0, zsbm, znm1, gX, s133_23, s133_24, s133_27, s133_28, s133_29, s133_30, s133_31, s133_33, s133_36, s133_37, s133_38, s133_39, s133_40, s133_42, s133_45, s133_48, s133_50, s133_51, s133_53, s133_56, s133_57, s133_60, h2, k0, k1, zmn, zmx]
      · rw [Nat.max_eq_left (show w ≤ u by omega)]
        simp (config := {maxSteps := 1000000}) (disch := omega) only [↓reduceIte, Int32.reduceLT, Int32.reduceLE, Int32.reduceToNatClampNeg, Int32.reduceAdd, Int32.reduceSub, Int32.reduceMul, Nat.reduceLeDiff, zEL, zup_ne, zup_eq, zT0, zT1, zT2, if_true, if_false, zneq_f, true_and, and_true, false_and, and_false, zKL, eq_self, Nat.reduceEqDiff, zite0, ite_not, zaddr, zaddl, zputr, zsb1, zsb2, zsb0, zsbm, znm1, gX, s133_23, s133_24, s133_27, s133_28, s133_29, s133_30, s133_31, s133_33, s133_36, s133_37, s133_38, s133_39, s133_40, s133_42, s133_45, s133_48, s133_50, s133_51, s133_53, s133_56, s133_57, s133_60, h2, k0, k1, zmn, zmx]
  have key2 : ∀ d k, k + d = 3 → ∀ j, ∃ j', zgo 270 26 [.ref 0, .int (nI a), .int (nI b), .int (nI (zmo D k)), .int (nI k), j] [] (zRm1 rd) Sm Lm = zgo 270 95 [.ref 0, .int (nI a), .int (nI b), .int (nI (zmo D 3)), .int (nI 3), j'] [] (zRm1 rd) Sm Lm := by
    intro d
    induction d with
    | zero =>
      intro k hd j
      have hk : k = 3 := by omega
      subst hk
      have h2 : (2 : Int32) < nI 3 := by decide
      refine ⟨j, ?_⟩
      rw [s270_26]
      simp (config := {maxSteps := 1000000}) (disch := omega) only [↓reduceIte, Int32.reduceLT, Int32.reduceLE, Int32.reduceToNatClampNeg, Int32.reduceAdd, Int32.reduceSub, Int32.reduceMul, Nat.reduceLeDiff, zEL, zup_ne, zup_eq, zT0, zT1, zT2, if_true, if_false, zneq_f, true_and, and_true, false_and, and_false, zKL, eq_self, Nat.reduceEqDiff, zite0, ite_not, zaddr, zaddl, zputr, zsb1, zsb2, zsb0, zsbm, znm1, s270_28, s270_29, s270_32, s270_33, s270_34, s270_35, s270_36, s270_38, s270_41, s270_42, s270_43, s270_44, s270_45, s270_47, s270_50, s270_53, s270_54, s270_55, s270_56, s270_57, s270_59, s270_62, s270_65, s270_66, s270_67, s270_68, s270_69, s270_71, s270_74, s270_76, s270_78, s270_79, s270_82, s270_84, s270_87, s270_88, s270_89, s270_92, h2]
    | succ d ih =>
      intro k hd j
      have h2 : (2 < nI k) = False := eq_false (by rw [show (2 : Int32) = nI 2 from rfl, znI_lt (by omega) (by omega)]; omega)
      have k0 := m0 k (by omega)
      have k1 := m1 k (by omega)
      have l0 := @zmo_le D k
      have d0 := hD 0 k
      have d1 := hD 1 k
      obtain ⟨j', r⟩ := ih (k + 1) (by omega) (.int (nI (max (D 0 k) (D 1 k))))
      rw [show zmo D (k + 1) = min (zmo D k) (max (D 0 k) (D 1 k)) from rfl] at r
      refine ⟨j', ?_⟩
      rw [← r, s270_26]
      generalize zmo D k = x at l0
      generalize D 0 k = u at d0 k0
      generalize D 1 k = w at d1 k1
      by_cases h1 : u ≤ w
      · rw [Nat.max_eq_right h1]
        by_cases h3 : x ≤ w
        · rw [Nat.min_eq_left h3]
          simp (config := {maxSteps := 1000000}) (disch := omega) only [↓reduceIte, Int32.reduceLT, Int32.reduceLE, Int32.reduceToNatClampNeg, Int32.reduceAdd, Int32.reduceSub, Int32.reduceMul, Nat.reduceLeDiff, zEL, zup_ne, zup_eq, zT0, zT1, zT2, if_true, if_false, zneq_f, true_and, and_true, false_and, and_false, zKL, eq_self, Nat.reduceEqDiff, zite0, ite_not, zaddr, zaddl, zputr, zsb1, zsb2, zsb0, zsbm, znm1, layM1, s270_28, s270_29, s270_32, s270_33, s270_34, s270_35, s270_36, s270_38, s270_41, s270_42, s270_43, s270_44, s270_45, s270_47, s270_50, s270_53, s270_54, s270_55, s270_56, s270_57, s270_59, s270_62, s270_65, s270_66, s270_67, s270_68, s270_69, s270_71, s270_74, s270_76, s270_78, s270_79, s270_82, s270_84, s270_87, s270_88, s270_89, s270_92, h2, k0, k1]
        · rw [Nat.min_eq_right (show w ≤ x by omega)]
          simp (config := {maxSteps := 1000000}) (disch := omega) only [↓reduceIte, Int32.reduceLT, Int32.reduceLE, Int32.reduceToNatClampNeg, Int32.reduceAdd, Int32.reduceSub, Int32.reduceMul, Nat.reduceLeDiff, zEL, zup_ne, zup_eq, zT0, zT1, zT2, if_true, if_false, zneq_f, true_and, and_true, false_and, and_false, zKL, eq_self, Nat.reduceEqDiff, zite0, ite_not, zaddr, zaddl, zputr, zsb1, zsb2, zsb0, zsbm, znm1, layM1, s270_28, s270_29, s270_32, s270_33, s270_34, s270_35, s270_36, s270_38, s270_41, s270_42, s270_43, s270_44, s270_45, s270_47, s270_50, s270_53, s270_54, s270_55, s270_56, s270_57, s270_59, s270_62, s270_65, s270_66, s270_67, s270_68, s270_69, s270_71, s270_74, s270_76, s270_78, s270_79, s270_82, s270_84, s270_87, s270_88, s270_89, s270_92, h2, k0, k1]
      · rw [Nat.max_eq_left (show w ≤ u by omega)]
        by_cases h3 : x ≤ u
        · rw [Nat.min_eq_left h3]
          simp (config := {maxSteps := 1000000}) (disch := omega) only [↓reduceIte, Int32.reduceLT, Int32.reduceLE, Int32.reduceToNatClampNeg, Int32.reduceAdd, Int32.reduceSub, Int32.reduceMul, Nat.reduceLeDiff, zEL, zup_ne, zup_eq, zT0, zT1, zT2, if_true, if_false, zneq_f, true_and, and_true, false_and, and_false, zKL, eq_self, Nat.reduceEqDiff, zite0, ite_not, zaddr, zaddl, zputr, zsb1, zsb2, zsb0, zsbm, znm1, layM1, s270_28, s270_29, s270_32, s270_33, s270_34, s270_35, s270_36, s270_38, s270_41, s270_42, s270_43, s270_44, s270_45, s270_47, s270_50, s270_53, s270_54, s270_55, s270_56, s270_57, s270_59, s270_62, s270_65, s270_66, s270_67, s270_68, s270_69, s270_71, s270_74, s270_76, s270_78, s270_79, s270_82, s270_84, s270_87, s270_88, s270_89, s270_92, h2, k0, k1]
        · rw [Nat.min_eq_right (show u ≤ x by omega)]
          simp (config := {maxSteps := 1000000}) (disch := omega) only [↓reduceIte, Int32.reduceLT, Int32.reduceLE, Int32.reduceToNatClampNeg, Int32.reduceAdd, Int32.reduceSub, Int32.reduceMul, Nat.reduceLeDiff, zEL, zup_ne, zup_eq, zT0, zT1, zT2, if_true, if_false, zneq_f, true_and, and_true, false_and, and_false, zKL, eq_self, Nat.reduceEqDiff, zite0, ite_not, zaddr, zaddl, zputr, zsb1, zsb2, zsb0, zsbm, znm1, layM1, s270_28, s270_29, s270_32, s270_33, s270_34, s270_35, s270_36, s270_38, s270_41, s270_42, s270_43, s270_44, s270_45, s270_47, s270_50, s270_53, s270_54, s270_55, s270_56, s270_57, s270_59, s270_62, s270_65, s270_66, s270_67, s270_68, s270_69, s270_71, s270_74, s270_76, s270_78, s270_79, s270_82, s270_84, s270_87, s270_88, s270_89, s270_92, h2, k0, k1]
  refine ⟨?_, ?_⟩
  · obtain ⟨j', r⟩ := key 3 0 (by omega) (.retAddr 0)
    refine ⟨j', ?_⟩
    rw [← r]
    simp (config := {maxSteps := 1000000}) (disch := omega) only [↓reduceIte, Int32.reduceLT, Int32.reduceLE, Int32.reduceToNatClampNeg, Int32.reduceAdd, Int32.reduceSub, Int32.reduceMul, Nat.reduceLeDiff, zEL, zup_ne, zup_eq, zT0, zT1, zT2, if_true, if_false, zneq_f, true_and, and_true, false_and, and_false, zKL, eq_self, Nat.reduceEqDiff, zite0, ite_not, zaddr, zaddl, zputr, zsb1, zsb2, zsb0, zsbm, znm1, s133_15, s133_17, s133_18, s133_19]
    all_goals rfl
  · obtain ⟨j', r⟩ := key2 3 0 (by omega) (.retAddr 0)
    refine ⟨j', ?_⟩
    rw [← r]
    simp (config := {maxSteps := 1000000}) (disch := omega) only [↓reduceIte, Int32.reduceLT, Int32.reduceLE, Int32.reduceToNatClampNeg, Int32.reduceAdd, Int32.reduceSub, Int32.reduceMul, Nat.reduceLeDiff, zEL, zup_ne, zup_eq, zT0, zT1, zT2, if_true, if_false, zneq_f, true_and, and_true, false_and, and_false, zKL, eq_self, Nat.reduceEqDiff, zite0, ite_not, zaddr, zaddl, zputr, zsb1, zsb2, zsb0, zsbm, znm1, s270_20, s270_22, s270_23, s270_24]
    all_goals rfl
theorem m_133 {p q : Int32} (h : zTM c S Sm) : ∃ v : Int32, ∃ S' Sm' : zS, zcall 133 [.ref 0, .int p, .int q] zRc S L = some (some (.int v), zRc, S', L) ∧ zcall 270 [.ref 0, .int p, .int q] (zRm1 rd) Sm Lm = some (some (.int v), zRm1 rd, Sm', Lm) ∧ zTM c S' Sm' := by
  obtain ⟨X, hX⟩ : ∃ X, X = zup Sm 0 0 0 := ⟨_, rfl⟩
  have h' := zTM_t (v := 0) h
  rw [← hX] at h'
  rcases topp (L := L) (Lm := Lm) (rd := rd) h'.2.2.1 p q with ⟨a, b, ha, hb, rfl, rfl, -, k1, k2⟩ | ⟨k1, k2⟩
  · obtain ⟨D, hD⟩ := tdu (L := L) (Lm := Lm) (rd := rd) h'.2.2.1 h'.2.2.2.1 ha hb
    obtain ⟨⟨j, k3⟩, ⟨j', k4⟩⟩ := tmost hD
    refine ⟨nI (zmo D 3), _, _, ?_, ?_, zTM_d 0 (by decide) h'⟩ <;> unfold zcall
    · simp (config := {maxSteps := 1000000}) (disch := omega) only [↓reduceIte, Int32.reduceLT, Int32.reduceLE, Int32.reduceToNatClampNeg, Int32.reduceAdd, Int32.reduceSub, Int32.reduceMul, Nat.reduceLeDiff, zEL, zup_ne, zup_eq, zT0, zT1, zT2, if_true, if_false, zneq_f, true_and, and_true, false_and, and_false, zKL, eq_self, Nat.reduceEqDiff, zite0, ite_not, zaddr, zaddl, zputr, zsb1, zsb2, zsb0, zsbm, znm1, gX, g168, tEC, ze_133, s133_0, s133_1, s133_2, s133_3, s133_6, s133_9, s133_10, s133_11, s133_14, k1]
      rw [k3]
      simp (config := {maxSteps := 1000000}) (disch := omega) only [↓reduceIte, Int32.reduceLT, Int32.reduceLE, Int32.reduceToNatClampNeg, Int32.reduceAdd, Int32.reduceSub, Int32.reduceMul, Nat.reduceLeDiff, zEL, zup_ne, zup_eq, zT0, zT1, zT2, if_true, if_false, zneq_f, true_and, and_true, false_and, and_false, zKL, eq_self, Nat.reduceEqDiff, zite0, ite_not, zaddr, zaddl, zputr, zsb1, zsb2, zsb0, zsbm, znm1, gX, g168, tEC, s133_63, s133_64, s133_65, s133_68]
    · simp (config := {maxSteps := 1000000}) (disch := omega) only [↓reduceIte, Int32.reduceLT, Int32.reduceLE, Int32.reduceToNatClampNeg, Int32.reduceAdd, Int32.reduceSub, Int32.reduceMul, Nat.reduceLeDiff, zEL, zup_ne, zup_eq, zT0, zT1, zT2, if_true, if_false, zneq_f, true_and, and_true, false_and, and_false, zKL, eq_self, Nat.reduceEqDiff, zite0, ite_not, zaddr, zaddl, zputr, zsb1, zsb2, zsb0, zsbm, znm1, layM1, tEM1, ze_270, s270_0, s270_1, s270_2, s270_5, s270_6, s270_7, s270_8, s270_11, s270_14, s270_15, s270_16, s270_19, ← hX, k2]
      rw [k4]
      simp (config := {maxSteps := 1000000}) (disch := omega) only [↓reduceIte, Int32.reduceLT, Int32.reduceLE, Int32.reduceToNatClampNeg, Int32.reduceAdd, Int32.reduceSub, Int32.reduceMul, Nat.reduceLeDiff, zEL, zup_ne, zup_eq, zT0, zT1, zT2, if_true, if_false, zneq_f, true_and, and_true, false_and, and_false, zKL, eq_self, Nat.reduceEqDiff, zite0, ite_not, zaddr, zaddl, zputr, zsb1, zsb2, zsb0, zsbm, znm1, layM1, tEM1, s270_95, s270_96, s270_97, s270_100]
  · refine ⟨-1, _, _, ?_, ?_, zTM_d 1 (by decide) h'⟩ <;> unfold zcall
    · simp (config := {maxSteps := 1000000}) (disch := omega) only [↓reduceIte, Int32.reduceLT, Int32.reduceLE, Int32.reduceToNatClampNeg, Int32.reduceAdd, Int32.reduceSub, Int32.reduceMul, Nat.reduceLeDiff, zEL, zup_ne, zup_eq, zT0, zT1, zT2, if_true, if_false, zneq_f, true_and, and_true, false_and, and_false, zKL, eq_self, Nat.reduceEqDiff, zite0, ite_not, zaddr, zaddl, zputr, zsb1, zsb2, zsb0, zsbm, znm1, gX, g168, tEC, S133, k1]
    · simp (config := {maxSteps := 1000000}) (disch := omega) only [↓reduceIte, Int32.reduceLT, Int32.reduceLE, Int32.reduceToNatClampNeg, Int32.reduceAdd, Int32.reduceSub, Int32.reduceMul, Nat.reduceLeDiff, zEL, zup_ne, zup_eq, zT0, zT1, zT2, if_true, if_false, zneq_f, true_and, and_true, false_and, and_false, zKL, eq_self, Nat.reduceEqDiff, zite0, ite_not, zaddr, zaddl, zputr, zsb1, zsb2, zsb0, zsbm, znm1, layM1, tEM1, S270, ← hX, k2]
end ZT7
