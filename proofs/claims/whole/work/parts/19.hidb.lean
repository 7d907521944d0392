/-! A MATCH is told: what sites hide, counted -/
section ZHB
variable {c : Nat → Nat} {S Sm : zS} {L Lm : zL} {rd : Value}
def zsome (bt : Nat → Bool) : Nat → Bool
  | 0 => false
  | k + 1 => zsome bt k || bt k
theorem zsome_le {bt : Nat → Bool} {k : Nat} (h : zsome bt k = true) : ∀ d, zsome bt (k + d) = true := by
  intro d
  induction d with
  | zero => exact h
  | succ d ih =>
    show (zsome bt (k + d) || bt (k + d)) = true
    rw [ih, Bool.true_or]
theorem znr_some {bt : Nat → Bool} {ds : Nat → Nat} : ∀ n, (znr bt ds n).isSome = zsome bt n := by
  intro n
  induction n with
  | zero => rfl
  | succ n ih =>
    rw [znr_s]
    show _ = (zsome bt n || bt n)
    rw [← ih]
    cases e : znr bt ds n with
    | none =>
      show (if bt n = true then some n else none).isSome = (false || bt n)
      cases bt n <;> rfl
    | some b =>
      show (if bt n = true ∧ ds n < ds b then some n else some b).isSome = (true || bt n)
      rw [Bool.true_or]
      split <;> rfl
theorem zon_m1 {bt : Nat → Bool} {ds : Nat → Nat} {n : Nat} (hn : n ≤ 8) : (zon (znr bt ds n) = -1) = (zsome bt n = false) := by
  rw [← @znr_some bt ds n]
  cases e : znr bt ds n with
  | none => exact propext ⟨fun _ => rfl, fun _ => rfl⟩
  | some b =>
    have hb := znr_lt e
    refine propext ⟨fun h => ?_, fun h => by cases h⟩
    have h : nI b = -1 := h
    rw [znm1 (by omega)] at h
    exact h.elim
theorem t7 {w p q op oq : Nat} (hM : zMD c S Sm) (hp : p < c 0) (hq : q < c 0) (h1 : S 176 p = nI op) (h2 : S 176 q = nI oq) (o1 : op ≤ 1) (o2 : oq ≤ 1) : zcall 7 [.ref 285, .int (nI p), .int (nI q), .int (nI w)] zRc S L = some (some (.int (if ¬ Sm 18 p = nI w ∧ Sm 18 q = nI w ∧ op = 0 ∧ oq = 0 then 1 else 0)), zRc, S, L) := by
  have b0 : c 0 ≤ 8 := hM.1.2.1
  obtain ⟨p1, -⟩ := hM.2.2.2.2.2.1 p hp
  obtain ⟨q1, -⟩ := hM.2.2.2.2.2.1 q hq
  by_cases c1 : Sm 18 p = nI w
  · rw [if_neg (fun h => h.1 c1)]
    unfold zcall
    simp (config := {maxSteps := 1000000}) (disch := omega) only [↓reduceIte, Int32.reduceLT, Int32.reduceLE, Int32.reduceToNatClampNeg, Int32.reduceAdd, Int32.reduceSub, Int32.reduceMul, Nat.reduceLeDiff, zEL, zup_ne, zup_eq, zT0, zT1, zT2, if_true, if_false, zneq_f, true_and, and_true, false_and, and_false, zKL, eq_self, Nat.reduceEqDiff, zite0, ite_not, zaddr, zaddl, zputr, zsb1, zsb2, zsb0, zsbm, znm1, gX, gM, g168, ze_7, s7_0, s7_1, s7_4, s7_7, s7_10, s7_12, s7_14, s7_15, s7_18, s7_19, s7_22, s7_24, s7_25, s7_28, s7_29, s7_32, s7_33, s7_36, s7_39, s7_40, s7_43, s7_46, s7_47, s7_50, s7_53, s7_54, s7_57, s7_60, s7_61, s7_64, s7_65, p1, c1]
  · by_cases c2 : Sm 18 q = nI w
    · rcases (show op = 0 ∨ op = 1 by omega) with rfl | rfl
      · rcases (show oq = 0 ∨ oq = 1 by omega) with rfl | rfl
        · rw [if_pos ⟨c1, c2, rfl, rfl⟩]
          unfold zcall
          simp (config := {maxSteps := 1000000}) (disch := omega) only [↓reduceIte, Int32.reduceLT, Int32.reduceLE, Int32.reduceToNatClampNeg, Int32.reduceAdd, Int32.reduceSub, Int32.reduceMul, Nat.reduceLeDiff, zEL, zup_ne, zup_eq, zT0, zT1, zT2, if_true, if_false, zneq_f, true_and, and_true, false_and, and_false, zKL, eq_self, Nat.reduceEqDiff, zite0, ite_not, zaddr, zaddl, zputr, zsb1, zsb2, zsb0, zsbm, znm1, gX, gM, g168, ze_7, s7_0, s7_1, s7_4, s7_7, s7_10, s7_12, s7_14, s7_15, s7_18, s7_19, s7_22, s7_24, s7_25, s7_28, s7_29, s7_32, s7_33, s7_36, s7_39, s7_40, s7_43, s7_46, s7_47, s7_50, s7_53, s7_54, s7_57, s7_60, s7_61, s7_64, s7_65, p1, q1, c1, c2, h1, h2]
        · rw [if_neg (fun h => absurd h.2.2.2 (by decide))]
          unfold zcall
          simp (config := {maxSteps := 1000000}) (disch := omega) only [↓reduceIte, Int32.reduceLT, Int32.reduceLE, Int32.reduceToNatClampNeg, Int32.reduceAdd, Int32.reduceSub, Int32.reduceMul, Nat.reduceLeDiff, zEL, zup_ne, zup_eq, zT0, zT1, zT2, if_true, if_false, zneq_f, true_and, and_true, false_and, and_false, zKL, eq_self, Nat.reduceEqDiff, zite0, ite_not, zaddr, zaddl, zputr, zsb1, zsb2, zsb0, zsbm, znm1, gX, gM, g168, ze_7, s7_0, s7_1, s7_4, s7_7, s7_10, s7_12, s7_14, s7_15, s7_18, s7_19, s7_22, s7_24, s7_25, s7_28, s7_29, s7_32, s7_33, s7_36, s7_39, s7_40, s7_43, s7_46, s7_47, s7_50, s7_53, s7_54, s7_57, s7_60, s7_61, s7_64, s7_65, p1, q1, c1, c2, h1, h2]
      · rw [if_neg (fun h => absurd h.2.2.1 (by decide))]
        unfold zcall
        simp (config := {maxSteps := 1000000}) (disch := omega) only [↓reduceIte, Int32.reduceLT, Int32.reduceLE, Int32.reduceToNatClampNeg, Int32.reduceAdd, Int32.reduceSub, Int32.reduceMul, Nat.reduceLeDiff, zEL, zup_ne, zup_eq, zT0, zT1, zT2, if_true, if_false, zneq_f, true_and, and_true, false_and, and_false, zKL, eq_self, Nat.reduceEqDiff, zite0, ite_not, zaddr, zaddl, zputr, zsb1, zsb2, zsb0, zsbm, znm1, gX, gM, g168, ze_7, s7_0, s7_1, s7_4, s7_7, s7_10, s7_12, s7_14, s7_15, s7_18, s7_19, s7_22, s7_24, s7_25, s7_28, s7_29, s7_32, s7_33, s7_36, s7_39, s7_40, s7_43, s7_46, s7_47, s7_50, s7_53, s7_54, s7_57, s7_60, s7_61, s7_64, s7_65, p1, q1, c1, c2, h1]
    · rw [if_neg (fun h => c2 h.2.1)]
      unfold zcall
      simp (config := {maxSteps := 1000000}) (disch := omega) only [↓reduceIte, Int32.reduceLT, Int32.reduceLE, Int32.reduceToNatClampNeg, Int32.reduceAdd, Int32.reduceSub, Int32.reduceMul, Nat.reduceLeDiff, zEL, zup_ne, zup_eq, zT0, zT1, zT2, if_true, if_false, zneq_f, true_and, and_true, false_and, and_false, zKL, eq_self, Nat.reduceEqDiff, zite0, ite_not, zaddr, zaddl, zputr, zsb1, zsb2, zsb0, zsbm, znm1, gX, gM, g168, ze_7, s7_0, s7_1, s7_4, s7_7, s7_10, s7_12, s7_14, s7_15, s7_18, s7_19, s7_22, s7_24, s7_25, s7_28, s7_29, s7_32, s7_33, s7_36, s7_39, s7_40, s7_43, s7_46, s7_47, s7_50, s7_53, s7_54, s7_57, s7_60, s7_61, s7_64, s7_65, p1, q1, c1, c2]
theorem t8 {p q s : Nat} (hM : zMD c S Sm) (hG : zGD 168 c S (Sm 2)) (hp : p < c 0) (hq : q < c 0) (hs : s < 64) (hb : ∀ k, k < 6 → S 287 k = nI (s / 2 ^ k % 2)) : ∃ hi : Bool, zcall 8 [.ref 285, .int (nI p), .int (nI q)] zRc S L = some (some (.int (if hi = true then 1 else 0)), zRc, S, L) ∧ zcall 262 [.ref 0, .int (nI p), .int (nI q), .int (nI s)] (zRm1 rd) Sm Lm = some (some (.int (if hi = true then 1 else 0)), zRm1 rd, Sm, Lm) := by
  obtain ⟨o, ho, k1, k2⟩ := thid_168 (L := L) (Lm := Lm) (rd := rd) hM hG hp hq
  have b0 : c 0 ≤ 8 := hM.1.2.1
  have b1 : c 1 ≤ 8 := hM.1.2.2.1
  have b2 : c 2 ≤ 6 := hM.1.2.2.2.1
  have a2 : S 38 7 = nI (c 2) := hM.2.1.2.2.1
  have m2 : Sm 11 9 = nI (c 2) := hM.2.2.1.2.2.1
  obtain ⟨-, q2, -⟩ := hM.2.2.2.2.2.1 q hq
  obtain ⟨e1, -, -, -, ⟨xp, hxp, exp⟩, -⟩ := hG.1 p hp
  obtain ⟨f1, -, -, -, ⟨xq, hxq, exq⟩, -⟩ := hG.1 q hq
  have hS := hM.2.2.2.2.2.2.2.1
  obtain ⟨X, hX⟩ := zin_n (f := Sm 26) (n := c 2) (m := 19) (by decide) (fun k hk => (hS k hk).2.2.2.2.2.2.1)
  obtain ⟨bt, hbt⟩ : ∃ bt : Nat → Bool, ∀ w, bt w = zbt (Sm 25 w) (Sm 19 q) xp xq (X w) (nI (s / 2 ^ w % 2)) := ⟨_, fun _ => rfl⟩
  have k3 := t28_168_s (S := S) (L := L) (bt := bt) (ds := fun w => zdist (X w) xq) a2 b2 (by omega) (by omega) (e1.trans exp) (f1.trans exq) hxp hxq (fun w hw => by
    obtain ⟨-, z2, z3, -⟩ := hS w hw
    exact ⟨X w, (hX w).1, z3.trans ((hX w).2 hw), by rw [z2, q2, hb w (by omega)]; exact hbt w, rfl⟩)
  rcases o with _ | b
  · refine ⟨zsome bt (c 2), ?_, ?_⟩
    · have z := zon_m1 (bt := bt) (ds := fun w => zdist (X w) xq) (n := c 2) (by omega)
      unfold zcall
      cases hz : zsome bt (c 2)
      · have z : (zon (znr bt (fun w => zdist (X w) xq) (c 2)) = -1) = True := z.trans (eq_true hz)
        simp (config := {maxSteps := 1000000}) (disch := omega) only [↓reduceIte, Int32.reduceLT, Int32.reduceLE, Int32.reduceToNatClampNeg, Int32.reduceAdd, Int32.reduceSub, Int32.reduceMul, Nat.reduceLeDiff, zEL, zup_ne, zup_eq, zT0, zT1, zT2, if_true, if_false, zneq_f, true_and, and_true, false_and, and_false, zKL, eq_self, Nat.reduceEqDiff, zite0, ite_not, zaddr, zaddl, zputr, zsb1, zsb2, zsb0, zsbm, znm1, gX, gM, g168, ze_8, s8_0, s8_1, s8_4, s8_5, s8_8, s8_11, s8_12, s8_15, s8_18, s8_19, s8_20, s8_23, s8_24, s8_27, s8_28, s8_31, s8_32, s8_35, s8_38, s8_39, s8_42, s8_43, s8_44, s8_47, s8_48, s8_51, s8_52, s8_55, s8_56, k1, k3, zon_n, z]
        all_goals rfl
      · have z : (zon (znr bt (fun w => zdist (X w) xq) (c 2)) = -1) = False := z.trans (eq_false (by rw [hz]; decide))
        simp (config := {maxSteps := 1000000}) (disch := omega) only [↓reduceIte, Int32.reduceLT, Int32.reduceLE, Int32.reduceToNatClampNeg, Int32.reduceAdd, Int32.reduceSub, Int32.reduceMul, Nat.reduceLeDiff, zEL, zup_ne, zup_eq, zT0, zT1, zT2, if_true, if_false, zneq_f, true_and, and_true, false_and, and_false, zKL, eq_self, Nat.reduceEqDiff, zite0, ite_not, zaddr, zaddl, zputr, zsb1, zsb2, zsb0, zsbm, znm1, gX, gM, g168, ze_8, s8_0, s8_1, s8_4, s8_5, s8_8, s8_11, s8_12, s8_15, s8_18, s8_19, s8_20, s8_23, s8_24, s8_27, s8_28, s8_31, s8_32, s8_35, s8_38, s8_39, s8_42, s8_43, s8_44, s8_47, s8_48, s8_51, s8_52, s8_55, s8_56, k1, k3, zon_n, z]
        all_goals rfl
    · have key : ∀ d k, k + d = c 2 → zsome bt k = false → zgo 262 15 [.ref 0, .int (nI p), .int (nI q), .int (nI s), .int (nI k)] [] (zRm1 rd) Sm Lm = some (some (.int (if zsome bt (c 2) = true then 1 else 0)), zRm1 rd, Sm, Lm) := by
        intro d
        induction d with
        | zero =>
          intro k hd hz
          have hk : k = c 2 := by omega
          subst hk
          rw [s262_15, hz]
          simp (config := {maxSteps := 1000000}) (disch := omega) only [↓reduceIte, Int32.reduceLT, Int32.reduceLE, Int32.reduceToNatClampNeg, Int32.reduceAdd, Int32.reduceSub, Int32.reduceMul, Nat.reduceLeDiff, zEL, zup_ne, zup_eq, zT0, zT1, zT2, if_true, if_false, zneq_f, true_and, and_true, false_and, and_false, zKL, eq_self, Nat.reduceEqDiff, zite0, ite_not, zaddr, zaddl, zputr, zsb1, zsb2, zsb0, zsbm, znm1, layM1, s262_17, s262_18, s262_21, s262_24, s262_27, s262_28, s262_30, s262_31, s262_32, s262_33, s262_34, s262_37, s262_38, s262_39, s262_42, s262_45, s262_47, s262_48, s262_49, s262_52, s262_55, s262_57, s262_58, s262_59, s262_60, s262_63, s262_66, s262_67, s262_68, s262_71, s262_74, s262_75, m2]
          all_goals rfl
        | succ d ih =>
          intro k hd hz
          have zb := zbitK s (by omega) k (by omega)
          obtain ⟨x1, x2⟩ := hX k
          have x2 := x2 (by omega)
          have k4 := t219 (Sm := Sm) (Lm := Lm) (rd := rd) (l := Sm 25 k) (p := p) (q := q) (by omega) (by omega) exp exq x1 hxp hxq
          have go : bt k = false → zgo 262 15 [.ref 0, .int (nI p), .int (nI q), .int (nI s), .int (nI (k + 1))] [] (zRm1 rd) Sm Lm = some (some (.int (if zsome bt (c 2) = true then 1 else 0)), zRm1 rd, Sm, Lm) := fun h => ih (k + 1) (by omega) (by show (zsome bt k || bt k) = false; rw [hz, h]; rfl)
          rw [s262_15]
          rcases (show s / 2 ^ k % 2 = 0 ∨ s / 2 ^ k % 2 = 1 by omega) with hc | hc
          · rw [hc] at zb
            have h := go (by rw [hbt, hc]; exact Bool.eq_false_iff.mpr (fun h => absurd (zbt_iff.mp h).2.2.2 (by decide)))
            rw [← h]
            simp (config := {maxSteps := 1000000}) (disch := omega) only [↓reduceIte, Int32.reduceLT, Int32.reduceLE, Int32.reduceToNatClampNeg, Int32.reduceAdd, Int32.reduceSub, Int32.reduceMul, Nat.reduceLeDiff, zEL, zup_ne, zup_eq, zT0, zT1, zT2, if_true, if_false, zneq_f, true_and, and_true, false_and, and_false, zKL, eq_self, Nat.reduceEqDiff, zite0, ite_not, zaddr, zaddl, zputr, zsb1, zsb2, zsb0, zsbm, znm1, layM1, s262_17, s262_18, s262_21, s262_24, s262_27, s262_28, s262_30, s262_31, s262_32, s262_33, s262_34, s262_37, s262_38, s262_39, s262_42, s262_45, s262_47, s262_48, s262_49, s262_52, s262_55, s262_57, s262_58, s262_59, s262_60, s262_63, s262_66, s262_67, s262_68, s262_71, s262_74, s262_75, m2, zb]
          · rw [hc] at zb
            by_cases hbw : Sm 25 k = Sm 19 q ∧ min xp xq < X k ∧ X k < max xp xq
            · have hbk : bt k = true := by rw [hbt, hc]; exact zbt_iff.mpr ⟨hbw.1, hbw.2.1, hbw.2.2, by decide⟩
              have hn := zsome_le (bt := bt) (k := k + 1) (by show (zsome bt k || bt k) = true; rw [hbk, Bool.or_true]) d
              rw [show k + 1 + d = c 2 by omega] at hn
              rw [if_pos hbw] at k4
              rw [hn]
              simp (config := {maxSteps := 1000000}) (disch := omega) only [↓reduceIte, Int32.reduceLT, Int32.reduceLE, Int32.reduceToNatClampNeg, Int32.reduceAdd, Int32.reduceSub, Int32.reduceMul, Nat.reduceLeDiff, zEL, zup_ne, zup_eq, zT0, zT1, zT2, if_true, if_false, zneq_f, true_and, and_true, false_and, and_false, zKL, eq_self, Nat.reduceEqDiff, zite0, ite_not, zaddr, zaddl, zputr, zsb1, zsb2, zsb0, zsbm, znm1, layM1, s262_17, s262_18, s262_21, s262_24, s262_27, s262_28, s262_30, s262_31, s262_32, s262_33, s262_34, s262_37, s262_38, s262_39, s262_42, s262_45, s262_47, s262_48, s262_49, s262_52, s262_55, s262_57, s262_58, s262_59, s262_60, s262_63, s262_66, s262_67, s262_68, s262_71, s262_74, s262_75, m2, zb, x2, k4]
              all_goals rfl
            · rw [if_neg hbw] at k4
              have h := go (by rw [hbt, hc]; exact Bool.eq_false_iff.mpr (fun h => hbw ⟨(zbt_iff.mp h).1, (zbt_iff.mp h).2.1, (zbt_iff.mp h).2.2.1⟩))
              rw [← h]
              simp (config := {maxSteps := 1000000}) (disch := omega) only [↓reduceIte, Int32.reduceLT, Int32.reduceLE, Int32.reduceToNatClampNeg, Int32.reduceAdd, Int32.reduceSub, Int32.reduceMul, Nat.reduceLeDiff, zEL, zup_ne, zup_eq, zT0, zT1, zT2, if_true, if_false, zneq_f, true_and, and_true, false_and, and_false, zKL, eq_self, Nat.reduceEqDiff, zite0, ite_not, zaddr, zaddl, zputr, zsb1, zsb2, zsb0, zsbm, znm1, layM1, s262_17, s262_18, s262_21, s262_24, s262_27, s262_28, s262_30, s262_31, s262_32, s262_33, s262_34, s262_37, s262_38, s262_39, s262_42, s262_45, s262_47, s262_48, s262_49, s262_52, s262_55, s262_57, s262_58, s262_59, s262_60, s262_63, s262_66, s262_67, s262_68, s262_71, s262_74, s262_75, m2, zb, x2, k4]
      have := key (c 2) 0 (by omega) rfl
      unfold zcall
      simp (config := {maxSteps := 1000000}) (disch := omega) only [↓reduceIte, Int32.reduceLT, Int32.reduceLE, Int32.reduceToNatClampNeg, Int32.reduceAdd, Int32.reduceSub, Int32.reduceMul, Nat.reduceLeDiff, zEL, zup_ne, zup_eq, zT0, zT1, zT2, if_true, if_false, zneq_f, true_and, and_true, false_and, and_false, zKL, eq_self, Nat.reduceEqDiff, zite0, ite_not, zaddr, zaddl, zputr, zsb1, zsb2, zsb0, zsbm, znm1, layM1, ze_262, s262_0, s262_1, s262_2, s262_3, s262_6, s262_7, s262_10, s262_11, s262_12, s262_13, k2, zon_n]
      exact this
  · obtain ⟨hb1, -⟩ := ho b rfl
    refine ⟨true, ?_, ?_⟩ <;> unfold zcall
    · simp (config := {maxSteps := 1000000}) (disch := omega) only [↓reduceIte, Int32.reduceLT, Int32.reduceLE, Int32.reduceToNatClampNeg, Int32.reduceAdd, Int32.reduceSub, Int32.reduceMul, Nat.reduceLeDiff, zEL, zup_ne, zup_eq, zT0, zT1, zT2, if_true, if_false, zneq_f, true_and, and_true, false_and, and_false, zKL, eq_self, Nat.reduceEqDiff, zite0, ite_not, zaddr, zaddl, zputr, zsb1, zsb2, zsb0, zsbm, znm1, gX, gM, g168, ze_8, s8_0, s8_1, s8_4, s8_5, s8_8, s8_11, s8_12, s8_15, s8_18, s8_19, s8_20, s8_23, s8_24, s8_27, s8_28, s8_31, s8_32, s8_35, s8_38, s8_39, s8_42, s8_43, s8_44, s8_47, s8_48, s8_51, s8_52, s8_55, s8_56, k1, zon_s, znm1]
      all_goals rfl
    · simp (config := {maxSteps := 1000000}) (disch := omega) only [↓reduceIte, Int32.reduceLT, Int32.reduceLE, Int32.reduceToNatClampNeg, Int32.reduceAdd, Int32.reduceSub, Int32.reduceMul, Nat.reduceLeDiff, zEL, zup_ne, zup_eq, zT0, zT1, zT2, if_true, if_false, zneq_f, true_and, and_true, false_and, and_false, zKL, eq_self, Nat.reduceEqDiff, zite0, ite_not, zaddr, zaddl, zputr, zsb1, zsb2, zsb0, zsbm, znm1, layM1, ze_262, s262_0, s262_1, s262_2, s262_3, s262_6, s262_7, s262_10, s262_11, s262_12, s262_13, k2, zon_s, znm1]
      all_goals rfl
def zhc1 (f : Nat → Nat → Bool) (p : Nat) : Nat → Nat
  | 0 => 0
  | q + 1 => zhc1 f p q + (if f p q = true then 1 else 0)
def zhc2 (f : Nat → Nat → Bool) (n : Nat) : Nat → Nat
  | 0 => 0
  | p + 1 => zhc2 f n p + zhc1 f p n
theorem zhc1_le {f : Nat → Nat → Bool} {p : Nat} : ∀ q, zhc1 f p q ≤ q := by
  intro q
  induction q with
  | zero => exact Nat.le_refl _
  | succ q ih =>
    show zhc1 f p q + (if f p q = true then 1 else 0) ≤ q + 1
    split <;> omega
theorem zhc2_le {f : Nat → Nat → Bool} {n : Nat} : ∀ p, zhc2 f n p ≤ n * p := by
  intro p
  induction p with
  | zero => exact Nat.le_refl _
  | succ p ih =>
    have := @zhc1_le f p n
    show zhc2 f n p + zhc1 f p n ≤ n * (p + 1)
    rw [Nat.mul_succ]
    omega
/-- a pair, of both -/
theorem tcell {p q w s : Nat} (hM : zMD c S Sm) (hG : zGD 168 c S (Sm 2)) (hp : p < c 0) (hq : q < c 0) (hw : w ≤ 1) (hs : s < 64) (hb : ∀ k, k < 6 → S 287 k = nI (s / 2 ^ k % 2)) : ∃ f : Bool, ∀ n : Nat, zgo 6 59 [.ref 285, .int (nI w), .int (nI s), .int (nI (c 0)), .int (nI n), .int (nI p), .int (nI q)] [] zRc S L = zgo 6 85 [.ref 285, .int (nI w), .int (nI s), .int (nI (c 0)), .int (nI (n + if f = true then 1 else 0)), .int (nI p), .int (nI q)] [] zRc S L ∧ zgo 263 32 [.ref 0, .int (nI s), .int (nI w), .int (nI n), .int (nI p), .int (nI q)] [] (zRm1 rd) Sm Lm = zgo 263 98 [.ref 0, .int (nI s), .int (nI w), .int (nI (n + if f = true then 1 else 0)), .int (nI p), .int (nI q)] [] (zRm1 rd) Sm Lm := by
  have b0 : c 0 ≤ 8 := hM.1.2.1
  obtain ⟨hi, k1, k2⟩ := t8 (L := L) (Lm := Lm) (rd := rd) hM hG hp hq hs hb
  obtain ⟨-, -, -, e4, -, -, ⟨op, o1, eo⟩⟩ := hG.1 p hp
  obtain ⟨-, -, -, f4, -, -, ⟨oq, o2, fo⟩⟩ := hG.1 q hq
  have e4 : S 176 p = nI op := e4.trans eo
  have f4 : S 176 q = nI oq := f4.trans fo
  have eo : Sm 2 (33 + p) = nI op := eo
  have fo : Sm 2 (33 + q) = nI oq := fo
  have k3 := t7 (L := L) (w := w) hM hp hq e4 f4 o1 o2
  have z0 : ((0 : Int32) = 0) = True := eq_true rfl
  have no : ∀ f : Bool, f = false → (¬ Sm 18 p = nI w ∧ Sm 18 q = nI w ∧ op = 0 ∧ oq = 0) = False → ∀ n : Nat, zgo 6 59 [.ref 285, .int (nI w), .int (nI s), .int (nI (c 0)), .int (nI n), .int (nI p), .int (nI q)] [] zRc S L = zgo 6 85 [.ref 285, .int (nI w), .int (nI s), .int (nI (c 0)), .int (nI n), .int (nI p), .int (nI q)] [] zRc S L := fun f hf hn n => by
    rw [if_neg (of_eq_false hn)] at k3
    simp (config := {maxSteps := 1000000}) (disch := omega) only [↓reduceIte, Int32.reduceLT, Int32.reduceLE, Int32.reduceToNatClampNeg, Int32.reduceAdd, Int32.reduceSub, Int32.reduceMul, Nat.reduceLeDiff, zEL, zup_ne, zup_eq, zT0, zT1, zT2, if_true, if_false, zneq_f, true_and, and_true, false_and, and_false, zKL, eq_self, Nat.reduceEqDiff, zite0, ite_not, zaddr, zaddl, zputr, zsb1, zsb2, zsb0, zsbm, znm1, gX, gM, g168, s6_59, s6_60, s6_62, s6_64, s6_65, s6_68, s6_71, s6_72, s6_74, s6_76, s6_79, s6_82, k3]
  by_cases c2 : Sm 18 q = nI w
  · by_cases c1 : Sm 18 p = nI w
    · refine ⟨false, fun n => ⟨no false rfl (eq_false (fun h => h.1 c1)) n, ?_⟩⟩
      simp (config := {maxSteps := 1000000}) (disch := omega) only [↓reduceIte, Int32.reduceLT, Int32.reduceLE, Int32.reduceToNatClampNeg, Int32.reduceAdd, Int32.reduceSub, Int32.reduceMul, Nat.reduceLeDiff, zEL, zup_ne, zup_eq, zT0, zT1, zT2, if_true, if_false, zneq_f, true_and, and_true, false_and, and_false, zKL, eq_self, Nat.reduceEqDiff, zite0, ite_not, zaddr, zaddl, zputr, zsb1, zsb2, zsb0, zsbm, znm1, layM1, s263_32, s263_33, s263_34, s263_37, s263_40, s263_42, s263_43, s263_44, s263_47, s263_48, s263_51, s263_54, s263_56, s263_57, s263_58, s263_61, s263_62, s263_64, s263_67, s263_70, s263_71, s263_73, s263_76, s263_79, s263_80, s263_82, s263_84, s263_85, s263_88, s263_91, s263_92, s263_95, s263_96, s263_97, c1, c2, Int32.add_zero, Nat.add_zero, Bool.false_eq_true]
    · rcases (show op = 0 ∨ op = 1 by omega) with rfl | rfl
      · rcases (show oq = 0 ∨ oq = 1 by omega) with rfl | rfl
        · refine ⟨hi, fun n => ⟨?_, ?_⟩⟩
          · rw [if_pos ⟨c1, c2, rfl, rfl⟩] at k3
            cases hi
            · simp (config := {maxSteps := 1000000}) (disch := omega) only [↓reduceIte, Int32.reduceLT, Int32.reduceLE, Int32.reduceToNatClampNeg, Int32.reduceAdd, Int32.reduceSub, Int32.reduceMul, Nat.reduceLeDiff, zEL, zup_ne, zup_eq, zT0, zT1, zT2, if_true, if_false, zneq_f, true_and, and_true, false_and, and_false, zKL, eq_self, Nat.reduceEqDiff, zite0, ite_not, zaddr, zaddl, zputr, zsb1, zsb2, zsb0, zsbm, znm1, gX, gM, g168, s6_59, s6_60, s6_62, s6_64, s6_65, s6_68, s6_71, s6_72, s6_74, s6_76, s6_79, s6_82, k3, k1, Nat.add_zero, Bool.false_eq_true]
            · simp (config := {maxSteps := 1000000}) (disch := omega) only [↓reduceIte, Int32.reduceLT, Int32.reduceLE, Int32.reduceToNatClampNeg, Int32.reduceAdd, Int32.reduceSub, Int32.reduceMul, Nat.reduceLeDiff, zEL, zup_ne, zup_eq, zT0, zT1, zT2, if_true, if_false, zneq_f, true_and, and_true, false_and, and_false, zKL, eq_self, Nat.reduceEqDiff, zite0, ite_not, zaddr, zaddl, zputr, zsb1, zsb2, zsb0, zsbm, znm1, gX, gM, g168, s6_59, s6_60, s6_62, s6_64, s6_65, s6_68, s6_71, s6_72, s6_74, s6_76, s6_79, s6_82, k3, k1]
          · cases hi
            · simp (config := {maxSteps := 1000000}) (disch := omega) only [↓reduceIte, Int32.reduceLT, Int32.reduceLE, Int32.reduceToNatClampNeg, Int32.reduceAdd, Int32.reduceSub, Int32.reduceMul, Nat.reduceLeDiff, zEL, zup_ne, zup_eq, zT0, zT1, zT2, if_true, if_false, zneq_f, true_and, and_true, false_and, and_false, zKL, eq_self, Nat.reduceEqDiff, zite0, ite_not, zaddr, zaddl, zputr, zsb1, zsb2, zsb0, zsbm, znm1, layM1, s263_32, s263_33, s263_34, s263_37, s263_40, s263_42, s263_43, s263_44, s263_47, s263_48, s263_51, s263_54, s263_56, s263_57, s263_58, s263_61, s263_62, s263_64, s263_67, s263_70, s263_71, s263_73, s263_76, s263_79, s263_80, s263_82, s263_84, s263_85, s263_88, s263_91, s263_92, s263_95, s263_96, s263_97, c1, c2, t214, eo, fo, k2, Int32.add_zero, Nat.add_zero, Bool.false_eq_true]
            · simp (config := {maxSteps := 1000000}) (disch := omega) only [↓reduceIte, Int32.reduceLT, Int32.reduceLE, Int32.reduceToNatClampNeg, Int32.reduceAdd, Int32.reduceSub, Int32.reduceMul, Nat.reduceLeDiff, zEL, zup_ne, zup_eq, zT0, zT1, zT2, if_true, if_false, zneq_f, true_and, and_true, false_and, and_false, zKL, eq_self, Nat.reduceEqDiff, zite0, ite_not, zaddr, zaddl, zputr, zsb1, zsb2, zsb0, zsbm, znm1, layM1, s263_32, s263_33, s263_34, s263_37, s263_40, s263_42, s263_43, s263_44, s263_47, s263_48, s263_51, s263_54, s263_56, s263_57, s263_58, s263_61, s263_62, s263_64, s263_67, s263_70, s263_71, s263_73, s263_76, s263_79, s263_80, s263_82, s263_84, s263_85, s263_88, s263_91, s263_92, s263_95, s263_96, s263_97, c1, c2, t214, eo, fo, k2]
        · refine ⟨false, fun n => ⟨no false rfl (eq_false (fun h => absurd h.2.2.2 (by decide))) n, ?_⟩⟩
          simp (config := {maxSteps := 1000000}) (disch := omega) only [↓reduceIte, Int32.reduceLT, Int32.reduceLE, Int32.reduceToNatClampNeg, Int32.reduceAdd, Int32.reduceSub, Int32.reduceMul, Nat.reduceLeDiff, zEL, zup_ne, zup_eq, zT0, zT1, zT2, if_true, if_false, zneq_f, true_and, and_true, false_and, and_false, zKL, eq_self, Nat.reduceEqDiff, zite0, ite_not, zaddr, zaddl, zputr, zsb1, zsb2, zsb0, zsbm, znm1, layM1, s263_32, s263_33, s263_34, s263_37, s263_40, s263_42, s263_43, s263_44, s263_47, s263_48, s263_51, s263_54, s263_56, s263_57, s263_58, s263_61, s263_62, s263_64, s263_67, s263_70, s263_71, s263_73, s263_76, s263_79, s263_80, s263_82, s263_84, s263_85, s263_88, s263_91, s263_92, s263_95, s263_96, s263_97, c1, c2, t214, eo, fo, Int32.add_zero, Nat.add_zero, Bool.false_eq_true]
      · refine ⟨false, fun n => ⟨no false rfl (eq_false (fun h => absurd h.2.2.1 (by decide))) n, ?_⟩⟩
        simp (config := {maxSteps := 1000000}) (disch := omega) only [↓reduceIte, Int32.reduceLT, Int32.reduceLE, Int32.reduceToNatClampNeg, Int32.reduceAdd, Int32.reduceSub, Int32.reduceMul, Nat.reduceLeDiff, zEL, zup_ne, zup_eq, zT0, zT1, zT2, if_true, if_false, zneq_f, true_and, and_true, false_and, and_false, zKL, eq_self, Nat.reduceEqDiff, zite0, ite_not, zaddr, zaddl, zputr, zsb1, zsb2, zsb0, zsbm, znm1, layM1, s263_32, s263_33, s263_34, s263_37, s263_40, s263_42, s263_43, s263_44, s263_47, s263_48, s263_51, s263_54, s263_56, s263_57, s263_58, s263_61, s263_62, s263_64, s263_67, s263_70, s263_71, s263_73, s263_76, s263_79, s263_80, s263_82, s263_84, s263_85, s263_88, s263_91, s263_92, s263_95, s263_96, s263_97, c1, c2, t214, eo, Int32.add_zero, Nat.add_zero, Bool.false_eq_true]
  · refine ⟨false, fun n => ⟨no false rfl (eq_false (fun h => c2 h.2.1)) n, ?_⟩⟩
    simp (config := {maxSteps := 1000000}) (disch := omega) only [↓reduceIte, Int32.reduceLT, Int32.reduceLE, Int32.reduceToNatClampNeg, Int32.reduceAdd, Int32.reduceSub, Int32.reduceMul, Nat.reduceLeDiff, zEL, zup_ne, zup_eq, zT0, zT1, zT2, if_true, if_false, zneq_f, true_and, and_true, false_and, and_false, zKL, eq_self, Nat.reduceEqDiff, zite0, ite_not, zaddr, zaddl, zputr, zsb1, zsb2, zsb0, zsbm, znm1, layM1, s263_32, s263_33, s263_34, s263_37, s263_40, s263_42, s263_43, s263_44, s263_47, s263_48, s263_51, s263_54, s263_56, s263_57, s263_58, s263_61, s263_62, s263_64, s263_67, s263_70, s263_71, s263_73, s263_76, s263_79, s263_80, s263_82, s263_84, s263_85, s263_88, s263_91, s263_92, s263_95, s263_96, s263_97, c2, Int32.add_zero, Nat.add_zero, Bool.false_eq_true]
/-- what is built: bits in a row -/
theorem t6a {w s : Nat} (hs : s < 64) {X : zS} : ∃ X', (∀ j k, j ≠ 287 → X' j k = X j k) ∧ (∀ k, k < 6 → X' 287 k = nI (s / 2 ^ k % 2)) ∧ zcall 6 [.ref 285, .int (nI w), .int (nI s)] zRc X L = zgo 6 27 [.ref 285, .int (nI w), .int (nI s), .int (nI 6), .retAddr 0, .retAddr 0, .retAddr 0] [] zRc X' L := by
  have key : ∀ d k, k + d = 6 → ∀ Y : zS, (∀ i, i < k → Y 287 i = nI (s / 2 ^ i % 2)) → ∃ X', (∀ j k, j ≠ 287 → X' j k = Y j k) ∧ (∀ k, k < 6 → X' 287 k = nI (s / 2 ^ k % 2)) ∧ zgo 6 2 [.ref 285, .int (nI w), .int (nI s), .int (nI k), .retAddr 0, .retAddr 0, .retAddr 0] [] zRc Y L = zgo 6 27 [.ref 285, .int (nI w), .int (nI s), .int (nI 6), .retAddr 0, .retAddr 0, .retAddr 0] [] zRc X' L := by
    intro d
    induction d with
    | zero =>
      intro k hd Y hY
      have hk : k = 6 := by omega
      subst hk
      refine ⟨Y, fun _ _ _ => rfl, hY, ?_⟩
      rw [s6_2]
      have e6 : ((6 : Int32) ≤ nI 6) = True := eq_true (by decide)
      simp (config := {maxSteps := 1000000}) (disch := omega) only [↓reduceIte, Int32.reduceLT, Int32.reduceLE, Int32.reduceToNatClampNeg, Int32.reduceAdd, Int32.reduceSub, Int32.reduceMul, Nat.reduceLeDiff, zEL, zup_ne, zup_eq, zT0, zT1, zT2, if_true, if_false, zneq_f, true_and, and_true, false_and, and_false, zKL, eq_self, Nat.reduceEqDiff, zite0, ite_not, zaddr, zaddl, zputr, zsb1, zsb2, zsb0, zsbm, znm1, gX, gM, s6_3, s6_5, s6_8, s6_9, s6_12, s6_13, s6_14, s6_15, s6_16, s6_17, s6_18, s6_21, s6_24, e6]
    | succ d ih =>
      intro k hd Y hY
      have zb := zbitK s (by omega) k (by omega)
      obtain ⟨X', x1, x2, x3⟩ := ih (k + 1) (by omega) (zup Y 287 k (nI (s / 2 ^ k % 2))) (fun i hi => by
        by_cases e : i = k
        · rw [zup_eq rfl e, e]
        · rw [zup_ne (by omega)]; exact hY i (by omega))
      refine ⟨X', fun j k' hj => by rw [x1 j k' hj, zup_ne (by omega)], x2, ?_⟩
      rw [← x3, s6_2]
      have e6 : ((6 : Int32) ≤ nI k) = False := eq_false (by rw [show (6 : Int32) = nI 6 from rfl, znI_le (by omega) (by omega)]; omega)
      simp (config := {maxSteps := 1000000}) (disch := omega) only [↓reduceIte, Int32.reduceLT, Int32.reduceLE, Int32.reduceToNatClampNeg, Int32.reduceAdd, Int32.reduceSub, Int32.reduceMul, Nat.reduceLeDiff, zEL, zup_ne, zup_eq, zT0, zT1, zT2, if_true, if_false, zneq_f, true_and, and_true, false_and, and_false, zKL, eq_self, Nat.reduceEqDiff, zite0, ite_not, zaddr, zaddl, zputr, zsb1, zsb2, zsb0, zsbm, znm1, gX, gM, s6_3, s6_5, s6_8, s6_9, s6_12, s6_13, s6_14, s6_15, s6_16, s6_17, s6_18, s6_21, s6_24, e6, zb]
  obtain ⟨X', x1, x2, x3⟩ := key 6 0 rfl X (fun i hi => absurd hi (Nat.not_lt_zero i))
  refine ⟨X', x1, x2, ?_⟩
  unfold zcall
  simp (config := {maxSteps := 1000000}) (disch := omega) only [↓reduceIte, Int32.reduceLT, Int32.reduceLE, Int32.reduceToNatClampNeg, Int32.reduceAdd, Int32.reduceSub, Int32.reduceMul, Nat.reduceLeDiff, zEL, zup_ne, zup_eq, zT0, zT1, zT2, if_true, if_false, zneq_f, true_and, and_true, false_and, and_false, zKL, eq_self, Nat.reduceEqDiff, zite0, ite_not, zaddr, zaddl, zputr, zsb1, zsb2, zsb0, zsbm, znm1, ze_6, s6_0, s6_1]
  exact x3
theorem t6 {w s : Nat} (hM : zMD c S Sm) (hG : zGD 168 c S (Sm 2)) (hw : w ≤ 1) (hs : s < 64) : ∃ N, N ≤ 64 ∧ zcall 263 [.ref 0, .int (nI s), .int (nI w)] (zRm1 rd) Sm Lm = some (some (.int (nI N)), zRm1 rd, Sm, Lm) ∧ ∃ S', (∀ j k, j ≠ 287 → S' j k = S j k) ∧ zcall 6 [.ref 285, .int (nI w), .int (nI s)] zRc S L = some (some (.int (nI N)), zRc, S', L) := by
  obtain ⟨X, x1, x2, x3⟩ := t6a (L := L) (w := w) hs (X := S)
  have b0 : c 0 ≤ 8 := hM.1.2.1
  have b1 : c 1 ≤ 8 := hM.1.2.2.1
  have hM' : zMD c X Sm := zMD_fr hM (fun j k hj => x1 j k (by omega)) (fun _ _ _ => rfl)
  have hG' : zGD 168 c X (Sm 2) := zGD_fr hG b0 b1 (fun j k hj => x1 j k (by omega)) (fun _ _ => rfl)
  have m0 : Sm 11 8 = nI (c 0) := hM.2.2.1.1
  have a0 : X 12 7 = nI (c 0) := hM'.2.1.1
  have hF : ∀ p q, ∃ f : Bool, p < c 0 → q < c 0 → ∀ n : Nat, zgo 6 59 [.ref 285, .int (nI w), .int (nI s), .int (nI (c 0)), .int (nI n), .int (nI p), .int (nI q)] [] zRc X L = zgo 6 85 [.ref 285, .int (nI w), .int (nI s), .int (nI (c 0)), .int (nI (n + if f = true then 1 else 0)), .int (nI p), .int (nI q)] [] zRc X L ∧ zgo 263 32 [.ref 0, .int (nI s), .int (nI w), .int (nI n), .int (nI p), .int (nI q)] [] (zRm1 rd) Sm Lm = zgo 263 98 [.ref 0, .int (nI s), .int (nI w), .int (nI (n + if f = true then 1 else 0)), .int (nI p), .int (nI q)] [] (zRm1 rd) Sm Lm := fun p q => by
    by_cases hp : p < c 0
    · by_cases hq : q < c 0
      · obtain ⟨f, hf⟩ := tcell (L := L) (Lm := Lm) (rd := rd) (w := w) hM' hG' hp hq hw hs x2
        exact ⟨f, fun _ _ => hf⟩
      · exact ⟨false, fun _ h => absurd h hq⟩
    · exact ⟨false, fun h => absurd h hp⟩
  obtain ⟨f, hf⟩ : ∃ f : Nat → Nat → Bool, ∀ p q, p < c 0 → q < c 0 → ∀ n : Nat, zgo 6 59 [.ref 285, .int (nI w), .int (nI s), .int (nI (c 0)), .int (nI n), .int (nI p), .int (nI q)] [] zRc X L = zgo 6 85 [.ref 285, .int (nI w), .int (nI s), .int (nI (c 0)), .int (nI (n + if f p q = true then 1 else 0)), .int (nI p), .int (nI q)] [] zRc X L ∧ zgo 263 32 [.ref 0, .int (nI s), .int (nI w), .int (nI n), .int (nI p), .int (nI q)] [] (zRm1 rd) Sm Lm = zgo 263 98 [.ref 0, .int (nI s), .int (nI w), .int (nI (n + if f p q = true then 1 else 0)), .int (nI p), .int (nI q)] [] (zRm1 rd) Sm Lm := ⟨fun p q => (hF p q).choose, fun p q => (hF p q).choose_spec⟩
  have inner : ∀ p, p < c 0 → ∀ d q, q + d = c 0 → ∀ m, m ≤ 64 → zgo 6 53 [.ref 285, .int (nI w), .int (nI s), .int (nI (c 0)), .int (nI (m + zhc1 f p q)), .int (nI p), .int (nI q)] [] zRc X L = zgo 6 91 [.ref 285, .int (nI w), .int (nI s), .int (nI (c 0)), .int (nI (m + zhc1 f p (c 0))), .int (nI p), .int (nI (c 0))] [] zRc X L ∧ zgo 263 20 [.ref 0, .int (nI s), .int (nI w), .int (nI (m + zhc1 f p q)), .int (nI p), .int (nI q)] [] (zRm1 rd) Sm Lm = zgo 263 104 [.ref 0, .int (nI s), .int (nI w), .int (nI (m + zhc1 f p (c 0))), .int (nI p), .int (nI (c 0))] [] (zRm1 rd) Sm Lm := by
    intro p hp d
    induction d with
    | zero =>
      intro q hd m hm
      have hk : q = c 0 := by omega
      subst hk
      rw [s6_53, s263_20]
      refine ⟨?_, ?_⟩
      · simp (config := {maxSteps := 1000000}) (disch := omega) only [↓reduceIte, Int32.reduceLT, Int32.reduceLE, Int32.reduceToNatClampNeg, Int32.reduceAdd, Int32.reduceSub, Int32.reduceMul, Nat.reduceLeDiff, zEL, zup_ne, zup_eq, zT0, zT1, zT2, if_true, if_false, zneq_f, true_and, and_true, false_and, and_false, zKL, eq_self, Nat.reduceEqDiff, zite0, ite_not, zaddr, zaddl, zputr, zsb1, zsb2, zsb0, zsbm, znm1, gX, gM, s6_55, s6_56]
      · simp (config := {maxSteps := 1000000}) (disch := omega) only [↓reduceIte, Int32.reduceLT, Int32.reduceLE, Int32.reduceToNatClampNeg, Int32.reduceAdd, Int32.reduceSub, Int32.reduceMul, Nat.reduceLeDiff, zEL, zup_ne, zup_eq, zT0, zT1, zT2, if_true, if_false, zneq_f, true_and, and_true, false_and, and_false, zKL, eq_self, Nat.reduceEqDiff, zite0, ite_not, zaddr, zaddl, zputr, zsb1, zsb2, zsb0, zsbm, znm1, layM1, s263_22, s263_23, s263_26, s263_29, m0]
    | succ d ih =>
      intro q hd m hm
      obtain ⟨i1, i2⟩ := ih (q + 1) (by omega) m hm
      obtain ⟨g1, g2⟩ := hf p q hp (by omega) (m + zhc1 f p q)
      have e : m + zhc1 f p q + (if f p q = true then 1 else 0) = m + zhc1 f p (q + 1) := Nat.add_assoc _ _ _
      rw [e] at g1 g2
      rw [← i1, ← i2, s6_53, s263_20]
      refine ⟨?_, ?_⟩
      · simp (config := {maxSteps := 1000000}) (disch := omega) only [↓reduceIte, Int32.reduceLT, Int32.reduceLE, Int32.reduceToNatClampNeg, Int32.reduceAdd, Int32.reduceSub, Int32.reduceMul, Nat.reduceLeDiff, zEL, zup_ne, zup_eq, zT0, zT1, zT2, if_true, if_false, zneq_f, true_and, and_true, false_and, and_false, zKL, eq_self, Nat.reduceEqDiff, zite0, ite_not, zaddr, zaddl, zputr, zsb1, zsb2, zsb0, zsbm, znm1, gX, gM, s6_55, s6_56, g1, s6_85, s6_88]
      · simp (config := {maxSteps := 1000000}) (disch := omega) only [↓reduceIte, Int32.reduceLT, Int32.reduceLE, Int32.reduceToNatClampNeg, Int32.reduceAdd, Int32.reduceSub, Int32.reduceMul, Nat.reduceLeDiff, zEL, zup_ne, zup_eq, zT0, zT1, zT2, if_true, if_false, zneq_f, true_and, and_true, false_and, and_false, zKL, eq_self, Nat.reduceEqDiff, zite0, ite_not, zaddr, zaddl, zputr, zsb1, zsb2, zsb0, zsbm, znm1, layM1, s263_22, s263_23, s263_26, s263_29, m0, g2, s263_98, s263_101]
  have outer : ∀ d p, p + d = c 0 → ∀ j j', zgo 6 44 [.ref 285, .int (nI w), .int (nI s), .int (nI (c 0)), .int (nI (zhc2 f (c 0) p)), .int (nI p), j] [] zRc X L = some (some (.int (nI (zhc2 f (c 0) (c 0)))), zRc, X, L) ∧ zgo 263 5 [.ref 0, .int (nI s), .int (nI w), .int (nI (zhc2 f (c 0) p)), .int (nI p), j'] [] (zRm1 rd) Sm Lm = some (some (.int (nI (zhc2 f (c 0) (c 0)))), zRm1 rd, Sm, Lm) := by
    intro d
    induction d with
    | zero =>
      intro p hd j j'
      have hk : p = c 0 := by omega
      subst hk
      rw [s6_44, s263_5]
      refine ⟨?_, ?_⟩
      · simp (config := {maxSteps := 1000000}) (disch := omega) only [↓reduceIte, Int32.reduceLT, Int32.reduceLE, Int32.reduceToNatClampNeg, Int32.reduceAdd, Int32.reduceSub, Int32.reduceMul, Nat.reduceLeDiff, zEL, zup_ne, zup_eq, zT0, zT1, zT2, if_true, if_false, zneq_f, true_and, and_true, false_and, and_false, zKL, eq_self, Nat.reduceEqDiff, zite0, ite_not, zaddr, zaddl, zputr, zsb1, zsb2, zsb0, zsbm, znm1, gX, gM, s6_46, s6_47, s6_97, s6_99]
      · simp (config := {maxSteps := 1000000}) (disch := omega) only [↓reduceIte, Int32.reduceLT, Int32.reduceLE, Int32.reduceToNatClampNeg, Int32.reduceAdd, Int32.reduceSub, Int32.reduceMul, Nat.reduceLeDiff, zEL, zup_ne, zup_eq, zT0, zT1, zT2, if_true, if_false, zneq_f, true_and, and_true, false_and, and_false, zKL, eq_self, Nat.reduceEqDiff, zite0, ite_not, zaddr, zaddl, zputr, zsb1, zsb2, zsb0, zsbm, znm1, layM1, s263_7, s263_8, s263_11, s263_14, s263_110, s263_111, m0]
    | succ d ih =>
      intro p hd j j'
      have hp : p < c 0 := by omega
      have hl := @zhc2_le f (c 0) p
      have hl2 : c 0 * p ≤ 8 * 8 := Nat.mul_le_mul b0 (by omega)
      obtain ⟨i1, i2⟩ := ih (p + 1) (by omega) (.int (nI (c 0))) (.int (nI (c 0)))
      obtain ⟨g1, g2⟩ := inner p hp (c 0) 0 (by omega) (zhc2 f (c 0) p) (by omega)
      have g1 : zgo 6 53 [.ref 285, .int (nI w), .int (nI s), .int (nI (c 0)), .int (nI (zhc2 f (c 0) p)), .int (nI p), .int 0] [] zRc X L = zgo 6 91 [.ref 285, .int (nI w), .int (nI s), .int (nI (c 0)), .int (nI (zhc2 f (c 0) (p + 1))), .int (nI p), .int (nI (c 0))] [] zRc X L := g1
      have g2 : zgo 263 20 [.ref 0, .int (nI s), .int (nI w), .int (nI (zhc2 f (c 0) p)), .int (nI p), .int 0] [] (zRm1 rd) Sm Lm = zgo 263 104 [.ref 0, .int (nI s), .int (nI w), .int (nI (zhc2 f (c 0) (p + 1))), .int (nI p), .int (nI (c 0))] [] (zRm1 rd) Sm Lm := g2
      rw [← i1, ← i2, s6_44, s263_5]
      refine ⟨?_, ?_⟩
      · simp (config := {maxSteps := 1000000}) (disch := omega) only [↓reduceIte, Int32.reduceLT, Int32.reduceLE, Int32.reduceToNatClampNeg, Int32.reduceAdd, Int32.reduceSub, Int32.reduceMul, Nat.reduceLeDiff, zEL, zup_ne, zup_eq, zT0, zT1, zT2, if_true, if_false, zneq_f, true_and, and_true, false_and, and_false, zKL, eq_self, Nat.reduceEqDiff, zite0, ite_not, zaddr, zaddl, zputr, zsb1, zsb2, zsb0, zsbm, znm1, gX, gM, s6_46, s6_47, s6_50, s6_51, g1, s6_91, s6_94]
      · simp (config := {maxSteps := 1000000}) (disch := omega) only [↓reduceIte, Int32.reduceLT, Int32.reduceLE, Int32.reduceToNatClampNeg, Int32.reduceAdd, Int32.reduceSub, Int32.reduceMul, Nat.reduceLeDiff, zEL, zup_ne, zup_eq, zT0, zT1, zT2, if_true, if_false, zneq_f, true_and, and_true, false_and, and_false, zKL, eq_self, Nat.reduceEqDiff, zite0, ite_not, zaddr, zaddl, zputr, zsb1, zsb2, zsb0, zsbm, znm1, layM1, s263_7, s263_8, s263_11, s263_14, s263_17, s263_18, m0, g2, s263_104, s263_107]
  have hl := @zhc2_le f (c 0) (c 0)
  have hl2 : c 0 * c 0 ≤ 8 * 8 := Nat.mul_le_mul b0 b0
  obtain ⟨o1, o2⟩ := outer (c 0) 0 (by omega) (.retAddr 0) (.retAddr 0)
  refine ⟨zhc2 f (c 0) (c 0), by omega, ?_, X, x1, ?_⟩
  · unfold zcall
    simp (config := {maxSteps := 1000000}) (disch := omega) only [↓reduceIte, Int32.reduceLT, Int32.reduceLE, Int32.reduceToNatClampNeg, Int32.reduceAdd, Int32.reduceSub, Int32.reduceMul, Nat.reduceLeDiff, zEL, zup_ne, zup_eq, zT0, zT1, zT2, if_true, if_false, zneq_f, true_and, and_true, false_and, and_false, zKL, eq_self, Nat.reduceEqDiff, zite0, ite_not, zaddr, zaddl, zputr, zsb1, zsb2, zsb0, zsbm, znm1, ze_263, s263_0, s263_1, s263_2, s263_3]
    exact o2
  · rw [x3]
    simp (config := {maxSteps := 1000000}) (disch := omega) only [↓reduceIte, Int32.reduceLT, Int32.reduceLE, Int32.reduceToNatClampNeg, Int32.reduceAdd, Int32.reduceSub, Int32.reduceMul, Nat.reduceLeDiff, zEL, zup_ne, zup_eq, zT0, zT1, zT2, if_true, if_false, zneq_f, true_and, and_true, false_and, and_false, zKL, eq_self, Nat.reduceEqDiff, zite0, ite_not, zaddr, zaddl, zputr, zsb1, zsb2, zsb0, zsbm, znm1, gX, gM, s6_27, s6_28, s6_31, s6_34, s6_37, s6_38, s6_39, s6_41, s6_42, a0]
    exact o1
end ZHB
