/-! A MATCH is told: hides, build as calls -/
section ZHC
variable {c : Nat → Nat} {S Sm : zS} {L Lm : zL} {rd : Value}
/-- both masks, and the SIDE of a set -/
theorem zmasks {sd T : Nat → Nat} (hs : zsi c S Sm sd T) : ∃ m0 m1 : Nat, m0 < 2 ^ c 2 ∧ m1 < 2 ^ c 2 ∧ 2 ^ c 2 ≤ 64 ∧ (∀ L, zcall 5 [.ref 285, .int 0] zRc S L = some (some (.int (nI m0)), zRc, S, L)) ∧ (∀ L, zcall 5 [.ref 285, .int 1] zRc S L = some (some (.int (nI m1)), zRc, S, L)) ∧ ∀ s, s < 2 ^ c 2 → (zsf sd s (c 2) = none ∧ ¬ (s &&& m0 = s) ∧ ¬ (s &&& m1 = s) ∧ s ≠ 0) ∨ (zsf sd s (c 2) = some 2 ∧ s = 0) ∨ (zsf sd s (c 2) = some 0 ∧ s &&& m0 = s ∧ ¬ (s &&& m1 = s) ∧ s ≠ 0) ∨ (zsf sd s (c 2) = some 1 ∧ ¬ (s &&& m0 = s) ∧ s &&& m1 = s ∧ s ≠ 0) := by
  have h6 := hs.1
  have hb := hs.2.2.2.1
  obtain ⟨m0, e0⟩ : ∃ m, m = zmk (fun k => decide (sd k = 0)) (c 2) := ⟨_, rfl⟩
  obtain ⟨m1, e1⟩ : ∃ m, m = zmk (fun k => decide (sd k = 1)) (c 2) := ⟨_, rfl⟩
  have l0 : m0 < 2 ^ c 2 := by rw [e0]; exact zmk_lt _
  have l1 : m1 < 2 ^ c 2 := by rw [e1]; exact zmk_lt _
  have h64 : 2 ^ c 2 ≤ 2 ^ 6 := Nat.pow_le_pow_right (by decide) h6
  have hn : m1 + m0 = 2 ^ c 2 - 1 := by
    rw [e0, e1]
    refine zmk_not _ (fun k hk => ?_)
    have := (hb k).1
    rcases (show sd k = 0 ∨ sd k = 1 by omega) with h | h <;> rw [h] <;> rfl
  have hbit : ∀ k, k < c 2 → sd k = m1 / 2 ^ k % 2 := fun k hk => by
    rw [e1, zmk_bit _ k hk]
    have := (hb k).1
    rcases (show sd k = 0 ∨ sd k = 1 by omega) with h | h <;> rw [h] <;> rfl
  refine ⟨m0, m1, l0, l1, h64, fun L => by rw [e0]; exact t5 hs (w := 0) (by decide), fun L => by rw [e1]; exact t5 hs (w := 1) (by decide), fun s hs => ?_⟩
  have := zsf_fin (c 2) (by omega) m1 l1 s hs
  rw [← zsf_congr (c 2) hbit, show 2 ^ c 2 - 1 - m1 = m0 by omega] at this
  exact this
theorem zHf {S' : zS} (h : zTM c S Sm) (h1 : ∀ j k, j ≠ 287 → S' j k = S j k) : zTM c S' Sm := by
  obtain ⟨⟨a1, a2, a3, n, hn, a4, a5, a6⟩, b1, hM, hG, ⟨mk, hmk, m1, m2, m3⟩, ⟨se, hse, s1, s2, s3, s4⟩, ro⟩ := h
  have b0 : c 0 ≤ 8 := hM.1.2.1
  have b2 : c 1 ≤ 8 := hM.1.2.2.1
  have e : ∀ j, j ≠ 287 → S' j = S j := fun j hj => funext fun k => h1 j k hj
  refine ⟨⟨?_, ?_, ?_, n, hn, ?_, a5, fun i hi => ?_⟩, ?_, zMD_fr hM (fun j k hj => h1 j k (by omega)) (fun _ _ _ => rfl), zGD_fr hG b0 b2 (fun j k hj => h1 j k (by omega)) (fun _ _ => rfl), ⟨mk, hmk, ?_, m2, fun m hm => zGD_fr (m3 m hm) b0 b2 (fun j k hj => h1 j k (by omega)) (fun _ _ => rfl)⟩, ⟨se, hse, ?_, s2, s3, fun a ha => ?_⟩, zRO_fr ro (fun j k hj => h1 j k (by omega))⟩
  · rw [e 0 (by decide)]; exact a1
  · rw [e 0 (by decide)]; exact a2
  · rw [e 0 (by decide)]; exact a3
  · rw [e 1 (by decide)]; exact a4
  · rw [e 3 (by decide)]; exact a6 i hi
  · rw [e 0 (by decide)]; exact b1
  · rw [e 0 (by decide)]; exact m1
  · rw [e 0 (by decide)]; exact s1
  · rw [e 292 (by decide)]; exact s4 a ha
theorem zshc (h6 : c 2 ≤ 6) : (1 : Int32) <<< (nI (c 2) &&& 31) = nI (2 ^ c 2) := zshK _ (by omega)
theorem m_130 {v : Int32} (h : zTM c S Sm) : ∃ w : Int32, ∃ S' Sm' : zS, zcall 130 [.ref 0, .int v] zRc S L = some (some (.int w), zRc, S', L) ∧ zcall 265 [.ref 0, .int v] (zRm1 rd) Sm Lm = some (some (.int w), zRm1 rd, Sm', Lm) ∧ zTM c S' Sm' := by
  obtain ⟨X, hX⟩ : ∃ X, X = zup Sm 0 0 0 := ⟨_, rfl⟩
  have h' := zTM_t (v := 0) h
  rw [← hX] at h'
  have b1 := h.2.1
  obtain ⟨sd, T, hs⟩ := zsi_of h'.2.2.1
  have h6 := hs.1
  have m2 := hs.2.2.1
  have zs := zshc h6
  obtain ⟨m0, m1, l0, l1, l64, k0, k1, hm⟩ := zmasks hs
  have k0 := k0 L
  have k1 := k1 L
  have bad : (v &&& (nI m0 ^^^ (-1)) = 0) = False → (v &&& (nI m1 ^^^ (-1)) = 0) = False → zcall 265 [.ref 0, .int v] (zRm1 rd) Sm Lm = zcall 169 [.ref 0, .int 2] (zRm1 rd) X Lm → ∃ w : Int32, ∃ S' Sm' : zS, zcall 130 [.ref 0, .int v] zRc S L = some (some (.int w), zRc, S', L) ∧ zcall 265 [.ref 0, .int v] (zRm1 rd) Sm Lm = some (some (.int w), zRm1 rd, Sm', Lm) ∧ zTM c S' Sm' := fun z0 z1 hk => by
    refine ⟨-1, _, _, ?_, ?_, zTM_d 2 (by decide) h'⟩
    · unfold zcall
      simp (config := {maxSteps := 1000000}) (disch := omega) only [↓reduceIte, Int32.reduceLT, Int32.reduceLE, Int32.reduceToNatClampNeg, Int32.reduceAdd, Int32.reduceSub, Int32.reduceMul, Nat.reduceLeDiff, zEL, zup_ne, zup_eq, zT0, zT1, zT2, if_true, if_false, zneq_f, true_and, and_true, false_and, and_false, zKL, eq_self, Nat.reduceEqDiff, zite0, ite_not, zaddr, zaddl, zputr, zsb1, zsb2, zsb0, zsbm, znm1, gX, tEC, S130, b1, k0, k1, z0, z1]
    · rw [hk]
      exact t169_1
  have bad2 : (¬ ∃ s, s < 2 ^ c 2 ∧ v = nI s) → (v &&& (nI m0 ^^^ (-1)) = 0) = False ∧ (v &&& (nI m1 ^^^ (-1)) = 0) = False := fun hn => by
    refine ⟨eq_false (fun z => hn ?_), eq_false (fun z => hn ?_)⟩
    · obtain ⟨s, h1, h2⟩ := zsubV (by omega) z
      exact ⟨s, by omega, h2⟩
    · obtain ⟨s, h1, h2⟩ := zsubV (by omega) z
      exact ⟨s, by omega, h2⟩
  have ref : ∀ (z0 : zS), zgo 265 44 [.ref 0, .int v] [] (zRm1 rd) z0 Lm = zcall 169 [.ref 0, .int 2] (zRm1 rd) z0 Lm := fun z0 => by
    rw [t169_1]
    simp (config := {maxSteps := 1000000}) (disch := omega) only [↓reduceIte, Int32.reduceLT, Int32.reduceLE, Int32.reduceToNatClampNeg, Int32.reduceAdd, Int32.reduceSub, Int32.reduceMul, Nat.reduceLeDiff, zEL, zup_ne, zup_eq, zT0, zT1, zT2, if_true, if_false, zneq_f, true_and, and_true, false_and, and_false, zKL, eq_self, Nat.reduceEqDiff, zite0, ite_not, zaddr, zaddl, zputr, zsb1, zsb2, zsb0, zsbm, znm1, layM1, tEM1, s265_44, s265_45, s265_46, s265_49]
  rcases znI_cases v with hv | ⟨s, hsb, rfl⟩
  · have hn : ¬ ∃ s, s < 2 ^ c 2 ∧ v = nI s := fun ⟨s, h1, h2⟩ => by
      rw [h2] at hv
      exact znI_neg (by omega) hv
    obtain ⟨z0, z1⟩ := bad2 hn
    refine bad z0 z1 ?_
    unfold zcall
    have hv := eq_true hv
    simp (config := {maxSteps := 1000000}) (disch := omega) only [↓reduceIte, Int32.reduceLT, Int32.reduceLE, Int32.reduceToNatClampNeg, Int32.reduceAdd, Int32.reduceSub, Int32.reduceMul, Nat.reduceLeDiff, zEL, zup_ne, zup_eq, zT0, zT1, zT2, if_true, if_false, zneq_f, true_and, and_true, false_and, and_false, zKL, eq_self, Nat.reduceEqDiff, zite0, ite_not, zaddr, zaddl, zputr, zsb1, zsb2, zsb0, zsbm, znm1, layM1, tEM1, ze_265, s265_0, s265_1, s265_2, s265_5, s265_6, s265_9, s265_9N, s265_12, s265_13, s265_14, s265_17, s265_18, s265_19, s265_22, s265_23, s265_24, s265_25, s265_28, s265_31, s265_32, s265_35, s265_36, s265_37, s265_40, s265_41, ← hX, hv]
    exact ref X
  · by_cases hlt : s < 2 ^ c 2
    · have z0 := zsubK s (by omega) m0 (by omega)
      have z1 := zsubK s (by omega) m1 (by omega)
      have k2 := t264 (Lm := Lm) (rd := rd) hs (show s < 64 by omega)
      have e2 : (nI (2 ^ c 2) ≤ nI s) = False := eq_false (by rw [znI_le (by omega) (by omega)]; omega)
      have e3 : (nI s < 0) = False := eq_false (znI_neg (by omega))
      rcases hm s hlt with ⟨a1, a2, a3, a4⟩ | ⟨a1, rfl⟩ | ⟨a1, a2, a3, a4⟩ | ⟨a1, a2, a3, a4⟩
      · refine bad (eq_false (fun z => a2 (z0.mp z))) (eq_false (fun z => a3 (z1.mp z))) ?_
        rw [a1] at k2
        have k2 : zcall 264 [.ref 0, .int (nI s)] (zRm1 rd) X Lm = some (some (.int (-1)), zRm1 rd, X, Lm) := k2
        unfold zcall
        simp (config := {maxSteps := 1000000}) (disch := omega) only [↓reduceIte, Int32.reduceLT, Int32.reduceLE, Int32.reduceToNatClampNeg, Int32.reduceAdd, Int32.reduceSub, Int32.reduceMul, Nat.reduceLeDiff, zEL, zup_ne, zup_eq, zT0, zT1, zT2, if_true, if_false, zneq_f, true_and, and_true, false_and, and_false, zKL, eq_self, Nat.reduceEqDiff, zite0, ite_not, zaddr, zaddl, zputr, zsb1, zsb2, zsb0, zsbm, znm1, layM1, tEM1, ze_265, s265_0, s265_1, s265_2, s265_5, s265_6, s265_9, s265_9N, s265_12, s265_13, s265_14, s265_17, s265_18, s265_19, s265_22, s265_23, s265_24, s265_25, s265_28, s265_31, s265_32, s265_35, s265_36, s265_37, s265_40, s265_41, ← hX, e3, m2, zs, e2, k2]
        exact ref X
      · have z0 : (nI 0 &&& (nI m0 ^^^ (-1)) = 0) = True := eq_true (z0.mpr (Nat.zero_and _))
        have z1 : (nI 0 &&& (nI m1 ^^^ (-1)) = 0) = True := eq_true (z1.mpr (Nat.zero_and _))
        rw [a1] at k2
        have k2 : zcall 264 [.ref 0, .int (nI 0)] (zRm1 rd) X Lm = some (some (.int (nI 2)), zRm1 rd, X, Lm) := k2
        have e4 : (nI 2 = -1) = False := by decide
        refine ⟨0, _, _, ?_, ?_, zTM_d 0 (by decide) h'⟩ <;> unfold zcall
        · simp (config := {maxSteps := 1000000}) (disch := omega) only [↓reduceIte, Int32.reduceLT, Int32.reduceLE, Int32.reduceToNatClampNeg, Int32.reduceAdd, Int32.reduceSub, Int32.reduceMul, Nat.reduceLeDiff, zEL, zup_ne, zup_eq, zT0, zT1, zT2, if_true, if_false, zneq_f, true_and, and_true, false_and, and_false, zKL, eq_self, Nat.reduceEqDiff, zite0, ite_not, zaddr, zaddl, zputr, zsb1, zsb2, zsb0, zsbm, znm1, gX, tEC, S130, b1, k0, k1, z0, z1]
        · simp (config := {maxSteps := 1000000}) (disch := omega) only [↓reduceIte, Int32.reduceLT, Int32.reduceLE, Int32.reduceToNatClampNeg, Int32.reduceAdd, Int32.reduceSub, Int32.reduceMul, Nat.reduceLeDiff, zEL, zup_ne, zup_eq, zT0, zT1, zT2, if_true, if_false, zneq_f, true_and, and_true, false_and, and_false, zKL, eq_self, Nat.reduceEqDiff, zite0, ite_not, zaddr, zaddl, zputr, zsb1, zsb2, zsb0, zsbm, znm1, layM1, tEM1, S265, ← hX, e3, m2, zs, e2, k2, e4]
      · have z0 : (nI s &&& (nI m0 ^^^ (-1)) = 0) = True := eq_true (z0.mpr a2)
        have z1 : (nI s &&& (nI m1 ^^^ (-1)) = 0) = False := eq_false (fun z => a3 (z1.mp z))
        rw [a1] at k2
        have k2 : zcall 264 [.ref 0, .int (nI s)] (zRm1 rd) X Lm = some (some (.int 0), zRm1 rd, X, Lm) := k2
        obtain ⟨N, -, k3, S', f1, k4⟩ := t6 (L := L) (Lm := Lm) (rd := rd) h'.2.2.1 h'.2.2.2.1 (w := 0) (by decide) (show s < 64 by omega)
        have k3 : zcall 263 [.ref 0, .int (nI s), .int 0] (zRm1 rd) X Lm = _ := k3
        have k4 : zcall 6 [.ref 285, .int 0, .int (nI s)] zRc S L = _ := k4
        have e5 : (s = 0) = False := eq_false a4
        refine ⟨nI N, _, _, ?_, ?_, zTM_d 0 (by decide) (zHf h' f1)⟩ <;> unfold zcall
        · simp (config := {maxSteps := 1000000}) (disch := omega) only [↓reduceIte, Int32.reduceLT, Int32.reduceLE, Int32.reduceToNatClampNeg, Int32.reduceAdd, Int32.reduceSub, Int32.reduceMul, Nat.reduceLeDiff, zEL, zup_ne, zup_eq, zT0, zT1, zT2, if_true, if_false, zneq_f, true_and, and_true, false_and, and_false, zKL, eq_self, Nat.reduceEqDiff, zite0, ite_not, zaddr, zaddl, zputr, zsb1, zsb2, zsb0, zsbm, znm1, gX, tEC, S130, b1, k0, k1, z0, z1, e5, k4]
        · simp (config := {maxSteps := 1000000}) (disch := omega) only [↓reduceIte, Int32.reduceLT, Int32.reduceLE, Int32.reduceToNatClampNeg, Int32.reduceAdd, Int32.reduceSub, Int32.reduceMul, Nat.reduceLeDiff, zEL, zup_ne, zup_eq, zT0, zT1, zT2, if_true, if_false, zneq_f, true_and, and_true, false_and, and_false, zKL, eq_self, Nat.reduceEqDiff, zite0, ite_not, zaddr, zaddl, zputr, zsb1, zsb2, zsb0, zsbm, znm1, layM1, tEM1, S265, ← hX, e3, m2, zs, e2, k2, e5, k3]
      · have z0 : (nI s &&& (nI m0 ^^^ (-1)) = 0) = False := eq_false (fun z => a2 (z0.mp z))
        have z1 : (nI s &&& (nI m1 ^^^ (-1)) = 0) = True := eq_true (z1.mpr a3)
        rw [a1] at k2
        have k2 : zcall 264 [.ref 0, .int (nI s)] (zRm1 rd) X Lm = some (some (.int 1), zRm1 rd, X, Lm) := k2
        obtain ⟨N, -, k3, S', f1, k4⟩ := t6 (L := L) (Lm := Lm) (rd := rd) h'.2.2.1 h'.2.2.2.1 (w := 1) (by decide) (show s < 64 by omega)
        have k3 : zcall 263 [.ref 0, .int (nI s), .int 1] (zRm1 rd) X Lm = _ := k3
        have k4 : zcall 6 [.ref 285, .int 1, .int (nI s)] zRc S L = _ := k4
        have e5 : (s = 0) = False := eq_false a4
        refine ⟨nI N, _, _, ?_, ?_, zTM_d 0 (by decide) (zHf h' f1)⟩ <;> unfold zcall
        · simp (config := {maxSteps := 1000000}) (disch := omega) only [↓reduceIte, Int32.reduceLT, Int32.reduceLE, Int32.reduceToNatClampNeg, Int32.reduceAdd, Int32.reduceSub, Int32.reduceMul, Nat.reduceLeDiff, zEL, zup_ne, zup_eq, zT0, zT1, zT2, if_true, if_false, zneq_f, true_and, and_true, false_and, and_false, zKL, eq_self, Nat.reduceEqDiff, zite0, ite_not, zaddr, zaddl, zputr, zsb1, zsb2, zsb0, zsbm, znm1, gX, tEC, S130, b1, k0, k1, z0, z1, e5, k4]
        · simp (config := {maxSteps := 1000000}) (disch := omega) only [↓reduceIte, Int32.reduceLT, Int32.reduceLE, Int32.reduceToNatClampNeg, Int32.reduceAdd, Int32.reduceSub, Int32.reduceMul, Nat.reduceLeDiff, zEL, zup_ne, zup_eq, zT0, zT1, zT2, if_true, if_false, zneq_f, true_and, and_true, false_and, and_false, zKL, eq_self, Nat.reduceEqDiff, zite0, ite_not, zaddr, zaddl, zputr, zsb1, zsb2, zsb0, zsbm, znm1, layM1, tEM1, S265, ← hX, e3, m2, zs, e2, k2, e5, k3]
    · obtain ⟨z0, z1⟩ := bad2 (fun ⟨x, h1, h2⟩ => by
        rw [znI_inj (by omega) (by omega)] at h2
        omega)
      refine bad z0 z1 ?_
      have e2 : (nI (2 ^ c 2) ≤ nI s) = True := eq_true (by rw [znI_le (by omega) (by omega)]; omega)
      have e3 : (nI s < 0) = False := eq_false (znI_neg (by omega))
      unfold zcall
      simp (config := {maxSteps := 1000000}) (disch := omega) only [↓reduceIte, Int32.reduceLT, Int32.reduceLE, Int32.reduceToNatClampNeg, Int32.reduceAdd, Int32.reduceSub, Int32.reduceMul, Nat.reduceLeDiff, zEL, zup_ne, zup_eq, zT0, zT1, zT2, if_true, if_false, zneq_f, true_and, and_true, false_and, and_false, zKL, eq_self, Nat.reduceEqDiff, zite0, ite_not, zaddr, zaddl, zputr, zsb1, zsb2, zsb0, zsbm, znm1, layM1, tEM1, ze_265, s265_0, s265_1, s265_2, s265_5, s265_6, s265_9, s265_9N, s265_12, s265_13, s265_14, s265_17, s265_18, s265_19, s265_22, s265_23, s265_24, s265_25, s265_28, s265_31, s265_32, s265_35, s265_36, s265_37, s265_40, s265_41, ← hX, e3, m2, zs, e2]
      exact ref X
/-- the best of the sets 1 to k -/
def zbs (N M : Nat → Nat) (ok : Nat → Bool) : Nat → Nat
  | 0 => 0
  | k + 1 => if ok (k + 1) = true ∧ (N (zbs N M ok k) < N (k + 1) ∨ (N (k + 1) = N (zbs N M ok k) ∧ M (k + 1) < M (zbs N M ok k))) then k + 1 else zbs N M ok k
theorem zbs_s {N M : Nat → Nat} {ok : Nat → Bool} {k : Nat} : zbs N M ok (k + 1) = if ok (k + 1) = true ∧ (N (zbs N M ok k) < N (k + 1) ∨ (N (k + 1) = N (zbs N M ok k) ∧ M (k + 1) < M (zbs N M ok k))) then k + 1 else zbs N M ok k := rfl
theorem zbs_le {N M : Nat → Nat} {ok : Nat → Bool} : ∀ k, zbs N M ok k ≤ k := by
  intro k
  induction k with
  | zero => exact Nat.le_refl _
  | succ k ih =>
    rw [zbs_s]
    split <;> omega
theorem zbs_f {N M : Nat → Nat} {ok : Nat → Bool} {k : Nat} (h : ∀ i, k < i → ok i = false) : ∀ d, zbs N M ok (k + d) = zbs N M ok k := by
  intro d
  induction d with
  | zero => rfl
  | succ d ih =>
    show zbs N M ok (k + d + 1) = _
    rw [zbs_s, if_neg (fun h' => by rw [h _ (by omega)] at h'; exact absurd h'.1 (by decide)), ih]
theorem zdl {a b : Nat} (ha : a < 1000) (hb : b < 1000) : (0 < nI a - nI b) = (b < a) ∧ (nI a - nI b = 0) = (a = b) := by
  have e : (nI a - nI b).toInt = (a : Int) - b := by
    rw [Int32.toInt_sub, zint_nI (by omega), zint_nI (by omega), Int.bmod_eq_of_le (by omega) (by omega)]
  refine ⟨propext ?_, propext ?_⟩
  · rw [Int32.lt_iff_toInt_lt, e, show (0 : Int32).toInt = 0 from rfl]
    omega
  · rw [← Int32.toInt_inj, e, show (0 : Int32).toInt = 0 from rfl]
    omega
/-- build: of both -/
theorem t9 {w m : Nat} (hM : zMD c S Sm) (hG : zGD 168 c S (Sm 2)) (hw : w ≤ 1) (hm : m ≤ 180) : ∃ B : Nat, (∃ S', (∀ j k, j ≠ 287 → S' j k = S j k) ∧ zcall 9 [.ref 285, .int (nI w), .int (nI m)] zRc S L = some (some (.int (nI B)), zRc, S', L)) ∧ zgo 267 36 [.ref 0, .int (nI w), .int (nI m), .retAddr 0, .retAddr 0, .retAddr 0] [] (zRm1 rd) Sm Lm = zcall 171 [.ref 0, .int (nI B)] (zRm1 rd) Sm Lm := by
  obtain ⟨sd, T, hs⟩ := zsi_of hM
  have h6 := hs.1
  have m2 := hs.2.2.1
  have hb := hs.2.2.2.1
  have zs := zshc h6
  obtain ⟨m0, m1, l0, l1, l64, k0, k1, hmm⟩ := zmasks hs
  have b0 : c 0 ≤ 8 := hM.1.2.1
  have b1 : c 1 ≤ 8 := hM.1.2.2.1
  obtain ⟨t, ht, kt, hside⟩ : ∃ t, t < 2 ^ c 2 ∧ (∀ L, zcall 5 [.ref 285, .int (nI w)] zRc S L = some (some (.int (nI t)), zRc, S, L)) ∧ ∀ s, s < 2 ^ c 2 → s ≠ 0 → (zov (zsf sd s (c 2)) = nI w) = (s &&& t = s) := by
    rcases (show w = 0 ∨ w = 1 by omega) with rfl | rfl
    · refine ⟨m0, l0, k0, fun s h1 h2 => ?_⟩
      rcases hmm s h1 with ⟨a1, a2, a3, a4⟩ | ⟨a1, a2⟩ | ⟨a1, a2, a3, a4⟩ | ⟨a1, a2, a3, a4⟩
      · rw [a1, eq_false a2]; exact eq_false (by decide)
      · exact absurd a2 h2
      · rw [a1, eq_true a2]; exact eq_true rfl
      · rw [a1, eq_false a2]; exact eq_false (by decide)
    · refine ⟨m1, l1, k1, fun s h1 h2 => ?_⟩
      rcases hmm s h1 with ⟨a1, a2, a3, a4⟩ | ⟨a1, a2⟩ | ⟨a1, a2, a3, a4⟩ | ⟨a1, a2, a3, a4⟩
      · rw [a1, eq_false a3]; exact eq_false (by decide)
      · exact absurd a2 h2
      · rw [a1, eq_false a3]; exact eq_false (by decide)
      · rw [a1, eq_true a3]; exact eq_true rfl
  have hN0 : ∀ s, ∃ n, n ≤ 64 ∧ (s < 64 → zcall 263 [.ref 0, .int (nI s), .int (nI w)] (zRm1 rd) Sm Lm = some (some (.int (nI n)), zRm1 rd, Sm, Lm)) := fun s => by
    by_cases h : s < 64
    · obtain ⟨n, h1, h2, -⟩ := t6 (L := L) (Lm := Lm) (rd := rd) hM hG hw h
      exact ⟨n, h1, fun _ => h2⟩
    · exact ⟨0, Nat.zero_le _, fun h' => absurd h' h⟩
  obtain ⟨N, hN⟩ : ∃ N : Nat → Nat, ∀ s, N s ≤ 64 ∧ (s < 64 → zcall 263 [.ref 0, .int (nI s), .int (nI w)] (zRm1 rd) Sm Lm = some (some (.int (nI (N s))), zRm1 rd, Sm, Lm)) := ⟨fun s => (hN0 s).choose, fun s => (hN0 s).choose_spec⟩
  have hC : ∀ X : zS, (∀ j k, j ≠ 287 → X j k = S j k) → ∀ s, s < 64 → ∃ X', (∀ j k, j ≠ 287 → X' j k = S j k) ∧ zcall 6 [.ref 285, .int (nI w), .int (nI s)] zRc X L = some (some (.int (nI (N s))), zRc, X', L) := fun X hX s h => by
    obtain ⟨n, h1, h2, X', h3, h4⟩ := t6 (L := L) (Lm := Lm) (rd := rd) (zMD_fr hM (fun j k hj => hX j k (by omega)) (fun _ _ _ => rfl)) (zGD_fr hG b0 b1 (fun j k hj => hX j k (by omega)) (fun _ _ => rfl)) hw h
    have e : n = N s := by
      have h5 := (hN s).2 h
      rw [h2] at h5
      simp only [Option.some.injEq, Prod.mk.injEq, Value.int.injEq, and_true] at h5
      exact (znI_inj (by omega) (by have := (hN s).1; omega)).mp h5
    exact ⟨X', fun j k hj => (h3 j k hj).trans (hX j k hj), by rw [← e]; exact h4⟩
  obtain ⟨M, hMd⟩ : ∃ M : Nat → Nat, ∀ s, M s = zms T s (c 2) := ⟨_, fun _ => rfl⟩
  have hMl : ∀ s, M s ≤ 180 := fun s => by
    have := zms_le (s := s) (fun k => (hb k).2) (c 2)
    rw [hMd]
    omega
  have k10 : ∀ X : zS, (∀ j k, j ≠ 287 → X j k = S j k) → ∀ s, s < 64 → zcall 10 [.ref 285, .int (nI s)] zRc X L = some (some (.int (nI (M s))), zRc, X, L) := fun X hX s h => by
    rw [hMd]
    refine (t10 (S := X) (Sm := Sm) (L := L) (Lm := Lm) (rd := rd) (sd := sd) ⟨h6, ?_, m2, hb, fun k hk => ?_⟩ h).1
    · rw [hX _ _ (by decide)]; exact hs.2.1
    · rw [hX _ _ (by decide), hX _ _ (by decide)]; exact hs.2.2.2.2 k hk
  have k266 : ∀ s, s < 64 → zcall 266 [.ref 0, .int (nI s)] (zRm1 rd) Sm Lm = some (some (.int (nI (M s))), zRm1 rd, Sm, Lm) := fun s h => by
    rw [hMd]
    exact (t10 (L := L) hs h).2
  have k264 := fun s (h : s < 64) => t264 (Lm := Lm) (rd := rd) hs h
  have hM0 : M 0 = 0 := by
    rw [hMd]
    have : ∀ n, zms T 0 n = 0 := by
      intro n
      induction n with
      | zero => rfl
      | succ n ih =>
        show zms T 0 n + (if 0 / 2 ^ n % 2 = 1 then T n else 0) = 0
        rw [ih, Nat.zero_div, if_neg (by decide)]
    exact this _
  obtain ⟨ok, hok⟩ : ∃ ok : Nat → Bool, ∀ s, ok s = decide (s &&& t = s ∧ M s ≤ m) := ⟨_, fun _ => rfl⟩
  obtain ⟨B, hB⟩ : ∃ B : Nat → Nat, B = zbs N M ok := ⟨_, rfl⟩
  have hBs : ∀ k, B (k + 1) = if ok (k + 1) = true ∧ (N (B k) < N (k + 1) ∨ (N (k + 1) = N (B k) ∧ M (k + 1) < M (B k))) then k + 1 else B k := fun k => by rw [hB]; exact zbs_s
  have hBl : ∀ k, B k ≤ k := fun k => by rw [hB]; exact zbs_le k
  have hBf : B (2 ^ c 2 - 1) = B t := by
    have := zbs_f (N := N) (M := M) (ok := ok) (k := t) (fun i hi => by
      rw [hok]
      refine decide_eq_false (fun h => ?_)
      have h1 := h.1
      have h2 : i &&& t ≤ t := Nat.and_le_right
      omega) (2 ^ c 2 - 1 - t)
    rw [show t + (2 ^ c 2 - 1 - t) = 2 ^ c 2 - 1 by omega] at this
    rw [hB]
    exact this
  -- the class
  have keyC : ∀ d k, k + 1 + d = t + 1 → ∀ X : zS, (∀ j k, j ≠ 287 → X j k = S j k) → ∀ j8 j9, ∃ S', (∀ j k, j ≠ 287 → S' j k = S j k) ∧ zgo 9 23 [.ref 285, .int (nI w), .int (nI m), .int (nI t), .int (nI (B k)), .int (nI (N (B k))), .int (nI (M (B k))), .int (nI (k + 1)), j8, j9] [] zRc X L = some (some (.int (nI (B t))), zRc, S', L) := by
    intro d
    induction d with
    | zero =>
      intro k hd X hX j8 j9
      have hk : k = t := by omega
      subst hk
      refine ⟨X, hX, ?_⟩
      rw [s9_23]
      simp (config := {maxSteps := 1000000}) (disch := omega) only [↓reduceIte, Int32.reduceLT, Int32.reduceLE, Int32.reduceToNatClampNeg, Int32.reduceAdd, Int32.reduceSub, Int32.reduceMul, Nat.reduceLeDiff, zEL, zup_ne, zup_eq, zT0, zT1, zT2, if_true, if_false, zneq_f, true_and, and_true, false_and, and_false, zKL, eq_self, Nat.reduceEqDiff, zite0, ite_not, zaddr, zaddl, zputr, zsb1, zsb2, zsb0, zsbm, znm1, gX, s9_25, s9_26, s9_29, s9_30, s9_32, s9_35, s9_37, s9_39, s9_40, s9_41, s9_42, s9_43, s9_46, s9_48, s9_49, s9_52, s9_55, s9_56, s9_57, s9_59, s9_62, s9_64, s9_66, s9_68, s9_71, s9_73, s9_75, s9_78, s9_80, s9_82, s9_85, s9_87, s9_89, s9_91, s9_93, s9_95, s9_97, s9_100, s9_103, s9_105]
    | succ d ih =>
      intro k hd X hX j8 j9
      have h64 : k + 1 < 64 := by omega
      have g1 := k10 X hX (k + 1) h64
      have z0 := zsubK (k + 1) h64 t (by omega)
      have hM1 := hMl (k + 1)
      have hM2 := hMl (B k)
      have hN1 := (hN (k + 1)).1
      have hN2 := (hN (B k)).1
      have hBk := hBl k
      by_cases c1 : (k + 1) &&& t = k + 1
      · have z0 : (nI (k + 1) &&& (nI t ^^^ (-1)) = 0) = True := eq_true (z0.mpr c1)
        by_cases c2 : M (k + 1) ≤ m
        · have hk1 : ok (k + 1) = true := by rw [hok]; exact decide_eq_true ⟨c1, c2⟩
          obtain ⟨X', hX', g2⟩ := hC X hX (k + 1) h64
          by_cases c3 : N (B k) < N (k + 1)
          · have e : B (k + 1) = k + 1 := by rw [hBs, if_pos ⟨hk1, .inl c3⟩]
            obtain ⟨S', s1, s2⟩ := ih (k + 1) (by omega) X' hX' (.int (nI (M (k + 1)))) (.int (nI (N (k + 1))))
            refine ⟨S', s1, ?_⟩
            rw [e] at s2
            rw [← s2, s9_23]
            simp (config := {maxSteps := 1000000}) (disch := omega) only [↓reduceIte, Int32.reduceLT, Int32.reduceLE, Int32.reduceToNatClampNeg, Int32.reduceAdd, Int32.reduceSub, Int32.reduceMul, Nat.reduceLeDiff, zEL, zup_ne, zup_eq, zT0, zT1, zT2, if_true, if_false, zneq_f, true_and, and_true, false_and, and_false, zKL, eq_self, Nat.reduceEqDiff, zite0, ite_not, zaddr, zaddl, zputr, zsb1, zsb2, zsb0, zsbm, znm1, gX, s9_25, s9_26, s9_29, s9_30, s9_32, s9_35, s9_37, s9_39, s9_40, s9_41, s9_42, s9_43, s9_46, s9_48, s9_49, s9_52, s9_55, s9_56, s9_57, s9_59, s9_62, s9_64, s9_66, s9_68, s9_71, s9_73, s9_75, s9_78, s9_80, s9_82, s9_85, s9_87, s9_89, s9_91, s9_93, s9_95, s9_97, s9_100, g1, z0, g2]
          · by_cases c4 : N (k + 1) = N (B k) ∧ M (k + 1) < M (B k)
            · have e : B (k + 1) = k + 1 := by rw [hBs, if_pos ⟨hk1, .inr c4⟩]
              obtain ⟨S', s1, s2⟩ := ih (k + 1) (by omega) X' hX' (.int (nI (M (k + 1)))) (.int (nI (N (k + 1))))
              refine ⟨S', s1, ?_⟩
              rw [e] at s2
              have c5 := c4.1
              have c6 := c4.2
              rw [← s2, s9_23]
              simp (config := {maxSteps := 1000000}) (disch := omega) only [↓reduceIte, Int32.reduceLT, Int32.reduceLE, Int32.reduceToNatClampNeg, Int32.reduceAdd, Int32.reduceSub, Int32.reduceMul, Nat.reduceLeDiff, zEL, zup_ne, zup_eq, zT0, zT1, zT2, if_true, if_false, zneq_f, true_and, and_true, false_and, and_false, zKL, eq_self, Nat.reduceEqDiff, zite0, ite_not, zaddr, zaddl, zputr, zsb1, zsb2, zsb0, zsbm, znm1, gX, s9_25, s9_26, s9_29, s9_30, s9_32, s9_35, s9_37, s9_39, s9_40, s9_41, s9_42, s9_43, s9_46, s9_48, s9_49, s9_52, s9_55, s9_56, s9_57, s9_59, s9_62, s9_64, s9_66, s9_68, s9_71, s9_73, s9_75, s9_78, s9_80, s9_82, s9_85, s9_87, s9_89, s9_91, s9_93, s9_95, s9_97, s9_100, g1, z0, g2, c5]
            · have e : B (k + 1) = B k := by rw [hBs, if_neg (fun h => h.2.elim c3 c4)]
              obtain ⟨S', s1, s2⟩ := ih (k + 1) (by omega) X' hX' (.int (nI (M (k + 1)))) (.int (nI (N (k + 1))))
              refine ⟨S', s1, ?_⟩
              rw [e] at s2
              rw [← s2, s9_23]
              by_cases c5 : N (k + 1) = N (B k)
              · have c6 : ¬ M (k + 1) < M (B k) := fun h => c4 ⟨c5, h⟩
                simp (config := {maxSteps := 1000000}) (disch := omega) only [↓reduceIte, Int32.reduceLT, Int32.reduceLE, Int32.reduceToNatClampNeg, Int32.reduceAdd, Int32.reduceSub, Int32.reduceMul, Nat.reduceLeDiff, zEL, zup_ne, zup_eq, zT0, zT1, zT2, if_true, if_false, zneq_f, true_and, and_true, false_and, and_false, zKL, eq_self, Nat.reduceEqDiff, zite0, ite_not, zaddr, zaddl, zputr, zsb1, zsb2, zsb0, zsbm, znm1, gX, s9_25, s9_26, s9_29, s9_30, s9_32, s9_35, s9_37, s9_39, s9_40, s9_41, s9_42, s9_43, s9_46, s9_48, s9_49, s9_52, s9_55, s9_56, s9_57, s9_59, s9_62, s9_64, s9_66, s9_68, s9_71, s9_73, s9_75, s9_78, s9_80, s9_82, s9_85, s9_87, s9_89, s9_91, s9_93, s9_95, s9_97, s9_100, g1, z0, g2, c5]
              · have c5 : (N (k + 1) = N (B k)) = False := eq_false c5
                simp (config := {maxSteps := 1000000}) (disch := omega) only [↓reduceIte, Int32.reduceLT, Int32.reduceLE, Int32.reduceToNatClampNeg, Int32.reduceAdd, Int32.reduceSub, Int32.reduceMul, Nat.reduceLeDiff, zEL, zup_ne, zup_eq, zT0, zT1, zT2, if_true, if_false, zneq_f, true_and, and_true, false_and, and_false, zKL, eq_self, Nat.reduceEqDiff, zite0, ite_not, zaddr, zaddl, zputr, zsb1, zsb2, zsb0, zsbm, znm1, gX, s9_25, s9_26, s9_29, s9_30, s9_32, s9_35, s9_37, s9_39, s9_40, s9_41, s9_42, s9_43, s9_46, s9_48, s9_49, s9_52, s9_55, s9_56, s9_57, s9_59, s9_62, s9_64, s9_66, s9_68, s9_71, s9_73, s9_75, s9_78, s9_80, s9_82, s9_85, s9_87, s9_89, s9_91, s9_93, s9_95, s9_97, s9_100, g1, z0, g2, c5]
        · have e : B (k + 1) = B k := by rw [hBs, if_neg (fun h => by rw [hok] at h; exact c2 (of_decide_eq_true h.1).2)]
          obtain ⟨S', s1, s2⟩ := ih (k + 1) (by omega) X hX (.int (nI (M (k + 1)))) j9
          refine ⟨S', s1, ?_⟩
          rw [e] at s2
          rw [← s2, s9_23]
          simp (config := {maxSteps := 1000000}) (disch := omega) only [↓reduceIte, Int32.reduceLT, Int32.reduceLE, Int32.reduceToNatClampNeg, Int32.reduceAdd, Int32.reduceSub, Int32.reduceMul, Nat.reduceLeDiff, zEL, zup_ne, zup_eq, zT0, zT1, zT2, if_true, if_false, zneq_f, true_and, and_true, false_and, and_false, zKL, eq_self, Nat.reduceEqDiff, zite0, ite_not, zaddr, zaddl, zputr, zsb1, zsb2, zsb0, zsbm, znm1, gX, s9_25, s9_26, s9_29, s9_30, s9_32, s9_35, s9_37, s9_39, s9_40, s9_41, s9_42, s9_43, s9_46, s9_48, s9_49, s9_52, s9_55, s9_56, s9_57, s9_59, s9_62, s9_64, s9_66, s9_68, s9_71, s9_73, s9_75, s9_78, s9_80, s9_82, s9_85, s9_87, s9_89, s9_91, s9_93, s9_95, s9_97, s9_100, g1, z0]
      · have z0 : (nI (k + 1) &&& (nI t ^^^ (-1)) = 0) = False := eq_false (fun z => c1 (z0.mp z))
        have e : B (k + 1) = B k := by rw [hBs, if_neg (fun h => by rw [hok] at h; exact c1 (of_decide_eq_true h.1).1)]
        obtain ⟨S', s1, s2⟩ := ih (k + 1) (by omega) X hX (.int (nI (M (k + 1)))) j9
        refine ⟨S', s1, ?_⟩
        rw [e] at s2
        rw [← s2, s9_23]
        simp (config := {maxSteps := 1000000}) (disch := omega) only [↓reduceIte, Int32.reduceLT, Int32.reduceLE, Int32.reduceToNatClampNeg, Int32.reduceAdd, Int32.reduceSub, Int32.reduceMul, Nat.reduceLeDiff, zEL, zup_ne, zup_eq, zT0, zT1, zT2, if_true, if_false, zneq_f, true_and, and_true, false_and, and_false, zKL, eq_self, Nat.reduceEqDiff, zite0, ite_not, zaddr, zaddl, zputr, zsb1, zsb2, zsb0, zsbm, znm1, gX, s9_25, s9_26, s9_29, s9_30, s9_32, s9_35, s9_37, s9_39, s9_40, s9_41, s9_42, s9_43, s9_46, s9_48, s9_49, s9_52, s9_55, s9_56, s9_57, s9_59, s9_62, s9_64, s9_66, s9_68, s9_71, s9_73, s9_75, s9_78, s9_80, s9_82, s9_85, s9_87, s9_89, s9_91, s9_93, s9_95, s9_97, s9_100, g1, z0]
  -- the reference
  have keyM : ∀ d k, k + 1 + d = 2 ^ c 2 → ∀ j, zgo 267 41 [.ref 0, .int (nI w), .int (nI m), .int (nI (B k)), .int (nI (k + 1)), j] [] (zRm1 rd) Sm Lm = zcall 171 [.ref 0, .int (nI (B t))] (zRm1 rd) Sm Lm := by
    intro d
    induction d with
    | zero =>
      intro k hd j
      have hk : k = 2 ^ c 2 - 1 := by omega
      have e : B k = B t := by rw [hk]; exact hBf
      have e2 : (nI (2 ^ c 2) ≤ nI (k + 1)) = True := eq_true (by rw [znI_le (by omega) (by omega)]; omega)
      rw [s267_41, e, t171_1]
      simp (config := {maxSteps := 1000000}) (disch := omega) only [↓reduceIte, Int32.reduceLT, Int32.reduceLE, Int32.reduceToNatClampNeg, Int32.reduceAdd, Int32.reduceSub, Int32.reduceMul, Nat.reduceLeDiff, zEL, zup_ne, zup_eq, zT0, zT1, zT2, if_true, if_false, zneq_f, true_and, and_true, false_and, and_false, zKL, eq_self, Nat.reduceEqDiff, zite0, ite_not, zaddr, zaddl, zputr, zsb1, zsb2, zsb0, zsbm, znm1, layM1, tEM1, s267_43, s267_44, s267_45, s267_48, s267_51, s267_52, s267_55, s267_56, s267_58, s267_61, s267_62, s267_65, s267_66, s267_68, s267_71, s267_72, s267_75, s267_78, s267_79, s267_81, s267_82, s267_85, s267_86, s267_87, s267_88, s267_91, s267_92, s267_94, s267_96, s267_99, s267_101, s267_104, s267_105, s267_107, s267_110, s267_111, s267_112, s267_115, s267_118, s267_120, s267_121, s267_124, s267_127, s267_128, s267_129, s267_132, m2, zs, e2]
    | succ d ih =>
      intro k hd j
      have h64 : k + 1 < 64 := by omega
      have e2 : (nI (2 ^ c 2) ≤ nI (k + 1)) = False := eq_false (by rw [znI_le (by omega) (by omega)]; omega)
      have g1 := k264 (k + 1) h64
      have hsd := hside (k + 1) (by omega) (by omega)
      have g2 := k266 (k + 1) h64
      have hBk := hBl k
      have g3 := k266 (B k) (by omega)
      have g4 := (hN (k + 1)).2 h64
      have g5 := (hN (B k)).2 (by omega)
      have hM1 := hMl (k + 1)
      have hM2 := hMl (B k)
      have hN1 := (hN (k + 1)).1
      have hN2 := (hN (B k)).1
      obtain ⟨d1, d2⟩ := zdl (a := N (k + 1)) (b := N (B k)) (by omega) (by omega)
      generalize zov (zsf sd (k + 1) (c 2)) = sv at g1 hsd
      by_cases c1 : (k + 1) &&& t = k + 1
      · have hsd : (sv = nI w) = True := hsd.trans (eq_true c1)
        by_cases c2 : M (k + 1) ≤ m
        · have hk1 : ok (k + 1) = true := by rw [hok]; exact decide_eq_true ⟨c1, c2⟩
          by_cases c3 : N (B k) < N (k + 1)
          · have e : B (k + 1) = k + 1 := by rw [hBs, if_pos ⟨hk1, .inl c3⟩]
            have i1 := ih (k + 1) (by omega) (.int (nI (N (k + 1)) - nI (N (B k))))
            rw [e] at i1
            have d1 : (0 < nI (N (k + 1)) - nI (N (B k))) = True := d1.trans (eq_true c3)
            rw [← i1, s267_41]
            simp (config := {maxSteps := 1000000}) (disch := omega) only [↓reduceIte, Int32.reduceLT, Int32.reduceLE, Int32.reduceToNatClampNeg, Int32.reduceAdd, Int32.reduceSub, Int32.reduceMul, Nat.reduceLeDiff, zEL, zup_ne, zup_eq, zT0, zT1, zT2, if_true, if_false, zneq_f, true_and, and_true, false_and, and_false, zKL, eq_self, Nat.reduceEqDiff, zite0, ite_not, zaddr, zaddl, zputr, zsb1, zsb2, zsb0, zsbm, znm1, layM1, s267_43, s267_44, s267_45, s267_48, s267_51, s267_52, s267_55, s267_56, s267_58, s267_61, s267_62, s267_65, s267_66, s267_68, s267_71, s267_72, s267_75, s267_78, s267_79, s267_81, s267_82, s267_85, s267_86, s267_87, s267_88, s267_91, s267_92, s267_94, s267_96, s267_99, s267_101, s267_104, s267_105, s267_107, s267_110, s267_111, s267_112, s267_115, s267_118, s267_120, s267_121, s267_124, m2, zs, e2, g1, hsd, g2, g3, g4, g5, d1]
          · have d1 : (0 < nI (N (k + 1)) - nI (N (B k))) = False := d1.trans (eq_false c3)
            by_cases c5 : N (k + 1) = N (B k)
            · have d2 : (nI (N (k + 1)) - nI (N (B k)) = 0) = True := d2.trans (eq_true c5)
              by_cases c6 : M (k + 1) < M (B k)
              · have e : B (k + 1) = k + 1 := by rw [hBs, if_pos ⟨hk1, .inr ⟨c5, c6⟩⟩]
                have i1 := ih (k + 1) (by omega) (.int (nI (N (k + 1)) - nI (N (B k))))
                rw [e] at i1
                rw [← i1, s267_41]
                simp (config := {maxSteps := 1000000}) (disch := omega) only [↓reduceIte, Int32.reduceLT, Int32.reduceLE, Int32.reduceToNatClampNeg, Int32.reduceAdd, Int32.reduceSub, Int32.reduceMul, Nat.reduceLeDiff, zEL, zup_ne, zup_eq, zT0, zT1, zT2, if_true, if_false, zneq_f, true_and, and_true, false_and, and_false, zKL, eq_self, Nat.reduceEqDiff, zite0, ite_not, zaddr, zaddl, zputr, zsb1, zsb2, zsb0, zsbm, znm1, layM1, s267_43, s267_44, s267_45, s267_48, s267_51, s267_52, s267_55, s267_56, s267_58, s267_61, s267_62, s267_65, s267_66, s267_68, s267_71, s267_72, s267_75, s267_78, s267_79, s267_81, s267_82, s267_85, s267_86, s267_87, s267_88, s267_91, s267_92, s267_94, s267_96, s267_99, s267_101, s267_104, s267_105, s267_107, s267_110, s267_111, s267_112, s267_115, s267_118, s267_120, s267_121, s267_124, m2, zs, e2, g1, hsd, g2, g3, g4, g5, d1, d2]
              · have e : B (k + 1) = B k := by rw [hBs, if_neg (fun h => h.2.elim c3 (fun h => c6 h.2))]
                have i1 := ih (k + 1) (by omega) (.int (nI (N (k + 1)) - nI (N (B k))))
                rw [e] at i1
                rw [← i1, s267_41]
                simp (config := {maxSteps := 1000000}) (disch := omega) only [↓reduceIte, Int32.reduceLT, Int32.reduceLE, Int32.reduceToNatClampNeg, Int32.reduceAdd, Int32.reduceSub, Int32.reduceMul, Nat.reduceLeDiff, zEL, zup_ne, zup_eq, zT0, zT1, zT2, if_true, if_false, zneq_f, true_and, and_true, false_and, and_false, zKL, eq_self, Nat.reduceEqDiff, zite0, ite_not, zaddr, zaddl, zputr, zsb1, zsb2, zsb0, zsbm, znm1, layM1, s267_43, s267_44, s267_45, s267_48, s267_51, s267_52, s267_55, s267_56, s267_58, s267_61, s267_62, s267_65, s267_66, s267_68, s267_71, s267_72, s267_75, s267_78, s267_79, s267_81, s267_82, s267_85, s267_86, s267_87, s267_88, s267_91, s267_92, s267_94, s267_96, s267_99, s267_101, s267_104, s267_105, s267_107, s267_110, s267_111, s267_112, s267_115, s267_118, s267_120, s267_121, s267_124, m2, zs, e2, g1, hsd, g2, g3, g4, g5, d1, d2]
            · have d2 : (nI (N (k + 1)) - nI (N (B k)) = 0) = False := d2.trans (eq_false c5)
              have e : B (k + 1) = B k := by rw [hBs, if_neg (fun h => h.2.elim c3 (fun h => c5 h.1))]
              have i1 := ih (k + 1) (by omega) (.int (nI (N (k + 1)) - nI (N (B k))))
              rw [e] at i1
              rw [← i1, s267_41]
              simp (config := {maxSteps := 1000000}) (disch := omega) only [↓reduceIte, Int32.reduceLT, Int32.reduceLE, Int32.reduceToNatClampNeg, Int32.reduceAdd, Int32.reduceSub, Int32.reduceMul, Nat.reduceLeDiff, zEL, zup_ne, zup_eq, zT0, zT1, zT2, if_true, if_false, zneq_f, true_and, and_true, false_and, and_false, zKL, eq_self, Nat.reduceEqDiff, zite0, ite_not, zaddr, zaddl, zputr, zsb1, zsb2, zsb0, zsbm, znm1, layM1, s267_43, s267_44, s267_45, s267_48, s267_51, s267_52, s267_55, s267_56, s267_58, s267_61, s267_62, s267_65, s267_66, s267_68, s267_71, s267_72, s267_75, s267_78, s267_79, s267_81, s267_82, s267_85, s267_86, s267_87, s267_88, s267_91, s267_92, s267_94, s267_96, s267_99, s267_101, s267_104, s267_105, s267_107, s267_110, s267_111, s267_112, s267_115, s267_118, s267_120, s267_121, s267_124, m2, zs, e2, g1, hsd, g2, g3, g4, g5, d1, d2]
        · have e : B (k + 1) = B k := by rw [hBs, if_neg (fun h => by rw [hok] at h; exact c2 (of_decide_eq_true h.1).2)]
          have i1 := ih (k + 1) (by omega) j
          rw [e] at i1
          rw [← i1, s267_41]
          simp (config := {maxSteps := 1000000}) (disch := omega) only [↓reduceIte, Int32.reduceLT, Int32.reduceLE, Int32.reduceToNatClampNeg, Int32.reduceAdd, Int32.reduceSub, Int32.reduceMul, Nat.reduceLeDiff, zEL, zup_ne, zup_eq, zT0, zT1, zT2, if_true, if_false, zneq_f, true_and, and_true, false_and, and_false, zKL, eq_self, Nat.reduceEqDiff, zite0, ite_not, zaddr, zaddl, zputr, zsb1, zsb2, zsb0, zsbm, znm1, layM1, s267_43, s267_44, s267_45, s267_48, s267_51, s267_52, s267_55, s267_56, s267_58, s267_61, s267_62, s267_65, s267_66, s267_68, s267_71, s267_72, s267_75, s267_78, s267_79, s267_81, s267_82, s267_85, s267_86, s267_87, s267_88, s267_91, s267_92, s267_94, s267_96, s267_99, s267_101, s267_104, s267_105, s267_107, s267_110, s267_111, s267_112, s267_115, s267_118, s267_120, s267_121, s267_124, m2, zs, e2, g1, hsd, g2]
      · have hsd : (sv = nI w) = False := hsd.trans (eq_false c1)
        have e : B (k + 1) = B k := by rw [hBs, if_neg (fun h => by rw [hok] at h; exact c1 (of_decide_eq_true h.1).1)]
        have i1 := ih (k + 1) (by omega) j
        rw [e] at i1
        rw [← i1, s267_41]
        simp (config := {maxSteps := 1000000}) (disch := omega) only [↓reduceIte, Int32.reduceLT, Int32.reduceLE, Int32.reduceToNatClampNeg, Int32.reduceAdd, Int32.reduceSub, Int32.reduceMul, Nat.reduceLeDiff, zEL, zup_ne, zup_eq, zT0, zT1, zT2, if_true, if_false, zneq_f, true_and, and_true, false_and, and_false, zKL, eq_self, Nat.reduceEqDiff, zite0, ite_not, zaddr, zaddl, zputr, zsb1, zsb2, zsb0, zsbm, znm1, layM1, s267_43, s267_44, s267_45, s267_48, s267_51, s267_52, s267_55, s267_56, s267_58, s267_61, s267_62, s267_65, s267_66, s267_68, s267_71, s267_72, s267_75, s267_78, s267_79, s267_81, s267_82, s267_85, s267_86, s267_87, s267_88, s267_91, s267_92, s267_94, s267_96, s267_99, s267_101, s267_104, s267_105, s267_107, s267_110, s267_111, s267_112, s267_115, s267_118, s267_120, s267_121, s267_124, m2, zs, e2, g1, hsd]
  have hB0 : B 0 = 0 := by rw [hB]; rfl
  refine ⟨B t, ?_, ?_⟩
  · obtain ⟨X', hX', g2⟩ := hC S (fun _ _ _ => rfl) 0 (by decide)
    have g2 : zcall 6 [.ref 285, .int (nI w), .int 0] zRc S L = some (some (.int (nI (N 0))), zRc, X', L) := g2
    obtain ⟨S', s1, s2⟩ := keyC t 0 (by omega) X' hX' (.retAddr 0) (.retAddr 0)
    rw [hB0, hM0] at s2
    have s2 : zgo 9 23 [.ref 285, .int (nI w), .int (nI m), .int (nI t), .int 0, .int (nI (N 0)), .int 0, .int 1, .retAddr 0, .retAddr 0] [] zRc X' L = _ := s2
    have kt := kt L
    refine ⟨S', s1, ?_⟩
    unfold zcall
    simp (config := {maxSteps := 1000000}) (disch := omega) only [↓reduceIte, Int32.reduceLT, Int32.reduceLE, Int32.reduceToNatClampNeg, Int32.reduceAdd, Int32.reduceSub, Int32.reduceMul, Nat.reduceLeDiff, zEL, zup_ne, zup_eq, zT0, zT1, zT2, if_true, if_false, zneq_f, true_and, and_true, false_and, and_false, zKL, eq_self, Nat.reduceEqDiff, zite0, ite_not, zaddr, zaddl, zputr, zsb1, zsb2, zsb0, zsbm, znm1, gX, ze_9, s9_0, s9_1, s9_2, s9_5, s9_6, s9_7, s9_9, s9_10, s9_11, s9_12, s9_15, s9_17, s9_18, s9_20, s9_21, kt, g2]
    exact s2
  · have hp : 0 < 2 ^ c 2 := Nat.pow_pos (by decide)
    have i1 := keyM (2 ^ c 2 - 1) 0 (by omega) (.retAddr 0)
    rw [hB0] at i1
    have i1 : zgo 267 41 [.ref 0, .int (nI w), .int (nI m), .int 0, .int 1, .retAddr 0] [] (zRm1 rd) Sm Lm = _ := i1
    rw [← i1]
    simp (config := {maxSteps := 1000000}) (disch := omega) only [↓reduceIte, Int32.reduceLT, Int32.reduceLE, Int32.reduceToNatClampNeg, Int32.reduceAdd, Int32.reduceSub, Int32.reduceMul, Nat.reduceLeDiff, zEL, zup_ne, zup_eq, zT0, zT1, zT2, if_true, if_false, zneq_f, true_and, and_true, false_and, and_false, zKL, eq_self, Nat.reduceEqDiff, zite0, ite_not, zaddr, zaddl, zputr, zsb1, zsb2, zsb0, zsbm, znm1, s267_36, s267_37, s267_38, s267_39]
theorem m_131 {p v : Int32} (h : zTM c S Sm) : ∃ w : Int32, ∃ S' Sm' : zS, zcall 131 [.ref 0, .int p, .int v] zRc S L = some (some (.int w), zRc, S', L) ∧ zcall 267 [.ref 0, .int p, .int v] (zRm1 rd) Sm Lm = some (some (.int w), zRm1 rd, Sm', Lm) ∧ zTM c S' Sm' := by
  obtain ⟨X, hX⟩ : ∃ X, X = zup Sm 0 0 0 := ⟨_, rfl⟩
  have h' := zTM_t (v := 0) h
  rw [← hX] at h'
  have b1 := h.2.1
  have hside : (∃ w, w ≤ 1 ∧ p = nI w) ∧ (p = 0 ∨ p = 1) = True ∧ (0 ≤ p ∧ p ≤ 1) = True ∨ (p = 0 ∨ p = 1) = False ∧ (0 ≤ p ∧ p ≤ 1) = False := by
    rcases zside p with rfl | rfl | ⟨a1, a2, a3⟩
    · exact .inl ⟨⟨0, by decide, rfl⟩, by decide, by decide⟩
    · exact .inl ⟨⟨1, by decide, rfl⟩, by decide, by decide⟩
    · exact .inr ⟨by rw [a1, a2]; exact or_self _, a3⟩
  rcases hside with ⟨⟨w, hw, ew⟩, s1, s2⟩ | ⟨s1, s2⟩
  · rcases zrng v 180 (by omega) 180 181 rfl rfl with ⟨m, hm, rfl, a1, a2, a3, a4, a5, a6⟩ | ⟨a1, a2, a3, a4, a5, a6⟩ | ⟨a1, a2, a3, a4, a5, a6⟩
    · obtain ⟨B, ⟨S', f1, k1⟩, k2⟩ := t9 (L := L) (Lm := Lm) (rd := rd) h'.2.2.1 h'.2.2.2.1 hw hm
      rw [← ew] at k1 k2
      refine ⟨nI B, _, _, ?_, ?_, zTM_d 0 (by decide) (zHf h' f1)⟩ <;> unfold zcall
      · simp (config := {maxSteps := 1000000}) (disch := omega) only [↓reduceIte, Int32.reduceLT, Int32.reduceLE, Int32.reduceToNatClampNeg, Int32.reduceAdd, Int32.reduceSub, Int32.reduceMul, Nat.reduceLeDiff, zEL, zup_ne, zup_eq, zT0, zT1, zT2, if_true, if_false, zneq_f, true_and, and_true, false_and, and_false, zKL, eq_self, Nat.reduceEqDiff, zite0, ite_not, zaddr, zaddl, zputr, zsb1, zsb2, zsb0, zsbm, znm1, gX, tEC, S131, b1, t152, s1, a1, a3, a4, k1]
      · simp (config := {maxSteps := 1000000}) (disch := omega) only [↓reduceIte, Int32.reduceLT, Int32.reduceLE, Int32.reduceToNatClampNeg, Int32.reduceAdd, Int32.reduceSub, Int32.reduceMul, Nat.reduceLeDiff, zEL, zup_ne, zup_eq, zT0, zT1, zT2, if_true, if_false, zneq_f, true_and, and_true, false_and, and_false, zKL, eq_self, Nat.reduceEqDiff, zite0, ite_not, zaddr, zaddl, zputr, zsb1, zsb2, zsb0, zsbm, znm1, layM1, tEM1, ze_267, s267_0, s267_1, s267_2, s267_5, s267_6, s267_7, s267_10, s267_13, s267_14, s267_15, s267_18, s267_19, s267_20, s267_21, s267_24, s267_27, s267_30, s267_31, s267_32, s267_35, ← hX, t240m, s2, t173, a2, a3]
        rw [k2, t171_1]
    · refine ⟨-1, _, _, ?_, ?_, zTM_d 2 (by decide) h'⟩ <;> unfold zcall
      · simp (config := {maxSteps := 1000000}) (disch := omega) only [↓reduceIte, Int32.reduceLT, Int32.reduceLE, Int32.reduceToNatClampNeg, Int32.reduceAdd, Int32.reduceSub, Int32.reduceMul, Nat.reduceLeDiff, zEL, zup_ne, zup_eq, zT0, zT1, zT2, if_true, if_false, zneq_f, true_and, and_true, false_and, and_false, zKL, eq_self, Nat.reduceEqDiff, zite0, ite_not, zaddr, zaddl, zputr, zsb1, zsb2, zsb0, zsbm, znm1, gX, tEC, S131, b1, t152, s1, a1]
      · simp (config := {maxSteps := 1000000}) (disch := omega) only [↓reduceIte, Int32.reduceLT, Int32.reduceLE, Int32.reduceToNatClampNeg, Int32.reduceAdd, Int32.reduceSub, Int32.reduceMul, Nat.reduceLeDiff, zEL, zup_ne, zup_eq, zT0, zT1, zT2, if_true, if_false, zneq_f, true_and, and_true, false_and, and_false, zKL, eq_self, Nat.reduceEqDiff, zite0, ite_not, zaddr, zaddl, zputr, zsb1, zsb2, zsb0, zsbm, znm1, layM1, tEM1, ze_267, s267_0, s267_1, s267_2, s267_5, s267_6, s267_7, s267_10, s267_13, s267_14, s267_15, s267_18, s267_19, s267_20, s267_21, s267_24, s267_27, s267_30, s267_31, s267_32, s267_35, ← hX, t240m, s2, t173, a2]
    · refine ⟨-1, _, _, ?_, ?_, zTM_d 2 (by decide) h'⟩ <;> unfold zcall
      · simp (config := {maxSteps := 1000000}) (disch := omega) only [↓reduceIte, Int32.reduceLT, Int32.reduceLE, Int32.reduceToNatClampNeg, Int32.reduceAdd, Int32.reduceSub, Int32.reduceMul, Nat.reduceLeDiff, zEL, zup_ne, zup_eq, zT0, zT1, zT2, if_true, if_false, zneq_f, true_and, and_true, false_and, and_false, zKL, eq_self, Nat.reduceEqDiff, zite0, ite_not, zaddr, zaddl, zputr, zsb1, zsb2, zsb0, zsbm, znm1, gX, tEC, S131, b1, t152, s1, a1, a3, a4]
      · simp (config := {maxSteps := 1000000}) (disch := omega) only [↓reduceIte, Int32.reduceLT, Int32.reduceLE, Int32.reduceToNatClampNeg, Int32.reduceAdd, Int32.reduceSub, Int32.reduceMul, Nat.reduceLeDiff, zEL, zup_ne, zup_eq, zT0, zT1, zT2, if_true, if_false, zneq_f, true_and, and_true, false_and, and_false, zKL, eq_self, Nat.reduceEqDiff, zite0, ite_not, zaddr, zaddl, zputr, zsb1, zsb2, zsb0, zsbm, znm1, layM1, tEM1, ze_267, s267_0, s267_1, s267_2, s267_5, s267_6, s267_7, s267_10, s267_13, s267_14, s267_15, s267_18, s267_19, s267_20, s267_21, s267_24, s267_27, s267_30, s267_31, s267_32, s267_35, ← hX, t240m, s2, t173, a2, a3]
  · refine ⟨-1, _, _, ?_, ?_, zTM_d 1 (by decide) h'⟩ <;> unfold zcall
    · simp (config := {maxSteps := 1000000}) (disch := omega) only [↓reduceIte, Int32.reduceLT, Int32.reduceLE, Int32.reduceToNatClampNeg, Int32.reduceAdd, Int32.reduceSub, Int32.reduceMul, Nat.reduceLeDiff, zEL, zup_ne, zup_eq, zT0, zT1, zT2, if_true, if_false, zneq_f, true_and, and_true, false_and, and_false, zKL, eq_self, Nat.reduceEqDiff, zite0, ite_not, zaddr, zaddl, zputr, zsb1, zsb2, zsb0, zsbm, znm1, gX, tEC, S131, b1, t152, s1]
    · simp (config := {maxSteps := 1000000}) (disch := omega) only [↓reduceIte, Int32.reduceLT, Int32.reduceLE, Int32.reduceToNatClampNeg, Int32.reduceAdd, Int32.reduceSub, Int32.reduceMul, Nat.reduceLeDiff, zEL, zup_ne, zup_eq, zT0, zT1, zT2, if_true, if_false, zneq_f, true_and, and_true, false_and, and_false, zKL, eq_self, Nat.reduceEqDiff, zite0, ite_not, zaddr, zaddl, zputr, zsb1, zsb2, zsb0, zsbm, znm1, layM1, tEM1, ze_267, s267_0, s267_1, s267_2, s267_5, s267_6, s267_7, s267_10, s267_13, s267_14, s267_15, s267_18, s267_19, s267_20, s267_21, s267_24, s267_27, s267_30, s267_31, s267_32, s267_35, ← hX, t240m, s2]
end ZHC
