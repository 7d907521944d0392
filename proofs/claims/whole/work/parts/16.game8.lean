/-! GAMES: a throw -/
section ZG8
variable {c : Nat → Nat} {S Sm S0 Sm0 : zS} {L Lm : zL} {rd : Value}
def zsd (s : Nat) : Nat := (75 * s + 74) % 65537
theorem zsd_le {s : Nat} : zsd s ≤ 65536 := by unfold zsd; omega
/-- how a wetness holds -/
def zhd (w : Nat) : Nat := if w ≤ 1 then 0 else if w ≤ 3 then 40 else if w ≤ 6 then 90 else if w ≤ 8 then 70 else 20
theorem zhd_lt {w : Nat} : zhd w ≤ 90 := by unfold zhd; repeat' split
                                            all_goals omega
theorem t78 {i w : Nat} (hi : i < 5) (hw : w ≤ 9) (e : S 9 i = nI w) : zcall 78 [.ref 5, .int (nI i)] zRc S L = some (some (.int (nI (zhd w))), zRc, S, L) := by
  unfold zcall zhd
  simp (config := {maxSteps := 1000000}) (disch := omega) only [↓reduceIte, Int32.reduceLT, Int32.reduceLE, Int32.reduceToNatClampNeg, Int32.reduceAdd, Int32.reduceSub, Int32.reduceMul, Nat.reduceLeDiff, zEL, zup_ne, zup_eq, zT0, zT1, zT2, if_true, if_false, zneq_f, true_and, and_true, false_and, and_false, zKL, eq_self, Nat.reduceEqDiff, zite0, ite_not, zaddr, zaddl, zputr, zsb1, zsb2, zsb0, zsbm, znm1, gM, S78, e]
  repeat' split
  all_goals first | rfl | (exfalso; omega)
theorem t213 {hh w : Nat} (hh24 : hh < 24) (hw : w ≤ 9) (e : Sm 2 0 = nI hh) (e1 : Sm 12 hh = nI (w + 1)) : zcall 213 [.ref 0] (zRm1 rd) Sm Lm = some (some (.int (nI (zhd w))), zRm1 rd, Sm, Lm) := by
  have t211 : zcall 211 [.ref 0, .int (nI hh)] (zRm1 rd) Sm Lm = some (some (.int (nI w)), zRm1 rd, Sm, Lm) := by
    unfold zcall
    simp (config := {maxSteps := 1000000}) (disch := omega) only [↓reduceIte, Int32.reduceLT, Int32.reduceLE, Int32.reduceToNatClampNeg, Int32.reduceAdd, Int32.reduceSub, Int32.reduceMul, Nat.reduceLeDiff, zEL, zup_ne, zup_eq, zT0, zT1, zT2, if_true, if_false, zneq_f, true_and, and_true, false_and, and_false, zKL, eq_self, Nat.reduceEqDiff, zite0, ite_not, zaddr, zaddl, zputr, zsb1, zsb2, zsb0, zsbm, znm1, layM1, S211, e1]
  have t212 : zcall 212 [.ref 0, .int (nI hh)] (zRm1 rd) Sm Lm = some (some (.int (nI (zhd w))), zRm1 rd, Sm, Lm) := by
    unfold zcall zhd
    simp (config := {maxSteps := 1000000}) (disch := omega) only [↓reduceIte, Int32.reduceLT, Int32.reduceLE, Int32.reduceToNatClampNeg, Int32.reduceAdd, Int32.reduceSub, Int32.reduceMul, Nat.reduceLeDiff, zEL, zup_ne, zup_eq, zT0, zT1, zT2, if_true, if_false, zneq_f, true_and, and_true, false_and, and_false, zKL, eq_self, Nat.reduceEqDiff, zite0, ite_not, zaddr, zaddl, zputr, zsb1, zsb2, zsb0, zsbm, znm1, layM1, S212, t211]
    repeat' split
    all_goals first | rfl | (exfalso; omega)
  unfold zcall
  simp (config := {maxSteps := 1000000}) (disch := omega) only [↓reduceIte, Int32.reduceLT, Int32.reduceLE, Int32.reduceToNatClampNeg, Int32.reduceAdd, Int32.reduceSub, Int32.reduceMul, Nat.reduceLeDiff, zEL, zup_ne, zup_eq, zT0, zT1, zT2, if_true, if_false, zneq_f, true_and, and_true, false_and, and_false, zKL, eq_self, Nat.reduceEqDiff, zite0, ite_not, zaddr, zaddl, zputr, zsb1, zsb2, zsb0, zsbm, znm1, layM1, S213, e, t212]
theorem t217 {s : Nat} (hs : s ≤ 65536) (e : Sm 2 1 = nI s) : zcall 217 [.ref 0, .int 100] (zRm1 rd) Sm Lm = some (some (.int (nI (zsd s % 100))), zRm1 rd, zup Sm 2 1 (nI (zsd s)), Lm) := by
  have hz := @zsd_le s
  have hz1 : 75 * nI s + 74 - (75 * nI s + 74) / 65537 * 65537 = nI (zsd s) := zsd1 hs
  have hz2 : (75 * (nI s).toInt64 + 74 - (75 * (nI s).toInt64 + 74) / 65537 * 65537).toInt32 = nI (zsd s) := zsd2 hs
  have hz3 := zsd3 hz
  unfold zcall
  simp (config := {maxSteps := 1000000}) (disch := omega) only [↓reduceIte, Int32.reduceLT, Int32.reduceLE, Int32.reduceToNatClampNeg, Int32.reduceAdd, Int32.reduceSub, Int32.reduceMul, Nat.reduceLeDiff, zEL, zup_ne, zup_eq, zT0, zT1, zT2, if_true, if_false, layM1, S217, e, zsd4, hz2, hz3, zsd5]
theorem zmx100 {n : Nat} (hn : n ≤ 171) : (if 0 < (100 : Int32) - nI n then (100 : Int32) - nI n else 0) = nI (100 - n) := by
  by_cases h : n ≤ 100
  · rw [show (100 : Int32) = nI 100 from rfl, znI_sub h]
    by_cases h1 : n = 100
    · subst h1
      rfl
    · rw [if_pos (by rw [znI_0, znI_lt (by omega) (by omega)]; omega)]
  · rw [if_neg]
    · rw [show 100 - n = 0 by omega]
      rfl
    · intro h1
      rw [Int32.lt_iff_toInt_lt, Int32.toInt_sub, zint_nI (by omega), show (100 : Int32).toInt = 100 from rfl, show (0 : Int32).toInt = 0 from rfl, Int.bmod_eq_of_le (by omega) (by omega)] at h1
      omega
theorem z100s {n : Nat} (hn : n ≤ 100) : (100 : Int32) - nI n = nI (100 - n) := by
  rw [show (100 : Int32) = nI 100 from rfl, znI_sub hn]
theorem z100n {n : Nat} (hn : 100 < n) (hn1 : n ≤ 171) : (0 ≤ (100 : Int32) - nI n) = False := eq_false (fun h1 => by
  rw [Int32.le_iff_toInt_le, Int32.toInt_sub, zint_nI (by omega), show (100 : Int32).toInt = 100 from rfl, show (0 : Int32).toInt = 0 from rfl, Int.bmod_eq_of_le (by omega) (by omega)] at h1
  omega)
theorem znr_bt {bt : Nat → Bool} {ds : Nat → Nat} {k b : Nat} (h : znr bt ds k = some b) : bt b = true := by
  induction k generalizing b with
  | zero => cases h
  | succ k ih =>
    rw [znr_s] at h
    cases e : znr bt ds k with
    | none =>
      rw [e] at h
      have h : (if bt k = true then some k else none) = some b := h
      split at h
      · cases h; assumption
      · cases h
    | some b' =>
      rw [e] at h
      have h : (if bt k = true ∧ ds k < ds b' then some k else some b') = some b := h
      split at h
      · rename_i h1
        cases h; exact h1.1
      · cases h; exact ih e
theorem t26x_168 {s : Nat} (hs : s ≤ 65536) (e : S 168 8 = nI s) : zcall 26 [.ref 168] zRc S L = some (some (.int (nI (zsd s % 100))), zRc, zup S 168 8 (nI (zsd s)), L) := by
  have hz := @zsd_le s
  have hz1 : 75 * nI s + 74 - (75 * nI s + 74) / 65537 * 65537 = nI (zsd s) := zsd1 hs
  have hz3 := zsd3 hz
  unfold zcall
  simp (config := {maxSteps := 1000000}) (disch := omega) only [↓reduceIte, Int32.reduceLT, Int32.reduceLE, Int32.reduceToNatClampNeg, Int32.reduceAdd, Int32.reduceSub, Int32.reduceMul, Nat.reduceLeDiff, zEL, zup_ne, zup_eq, zT0, zT1, zT2, if_true, if_false, g168, S26, e, zsd0, hz1, hz3, zsd5]
/-- who hides q from p -/
theorem thid_168 {p q : Nat} (hM : zMD c S Sm) (hG : zGD 168 c S (Sm 2)) (hp : p < c 0) (hq : q < c 0) : ∃ o : Option Nat, (∀ b, o = some b → b < c 1 ∧ ∃ s, s ≤ 8 ∧ S 178 b = nI (s + 1)) ∧ zcall 28 [.ref 168, .ref 25, .ref 177, .int (nI p), .int (nI q)] zRc S L = some (some (.int (zon o)), zRc, S, L) ∧ zcall 220 [.ref 0, .int (nI p), .int (nI q)] (zRm1 rd) Sm Lm = some (some (.int (zon o)), zRm1 rd, Sm, Lm) := by
  obtain ⟨⟨b0, b0', b1, -⟩, ⟨-, a1, -⟩, ⟨-, m1, -⟩, -, -, hP, hB, -⟩ := hM
  obtain ⟨g0, g1, -⟩ := hG
  obtain ⟨e1, -, -, -, ⟨xp, hxp, exp⟩, -⟩ := g0 p hp
  obtain ⟨f1, -, -, -, ⟨xq, hxq, exq⟩, -⟩ := g0 q hq
  obtain ⟨-, q2, -⟩ := hP q hq
  let X : Nat → Nat := fun w => (Sm 16 w).toInt.toNat
  have hX : ∀ w, w < c 1 → X w ≤ 19 ∧ Sm 16 w = nI (X w) := fun w hw => by
    obtain ⟨-, -, -, -, -, -, ⟨x, hx, ex⟩, -⟩ := hB w hw
    have : X w = x := by
      show (Sm 16 w).toInt.toNat = x
      rw [ex, zint_nI (by omega)]
      omega
    rw [this]
    exact ⟨hx, ex⟩
  let bt : Nat → Bool := fun w => zbt (Sm 15 w) (Sm 19 q) xp xq (X w) (Sm 2 (41 + w))
  let ds : Nat → Nat := fun w => zdist (X w) xq
  refine ⟨znr bt ds (c 1), fun b hb => ?_, ?_, ?_⟩
  · have h1 := znr_lt hb
    have h2 : 0 < Sm 2 (41 + b) := (zbt_iff.mp (znr_bt hb)).2.2.2
    obtain ⟨e, s, hs, es⟩ := g1 b h1
    refine ⟨h1, s - 1, by omega, ?_⟩
    have e : S 178 b = Sm 2 (41 + b) := e
    have es : Sm 2 (41 + b) = nI s := es
    rw [es, znI_0, znI_lt (by omega) (by omega)] at h2
    rw [e, es, show s - 1 + 1 = s by omega]
  · refine t28_168_g a1 b1 (by omega) (by omega) (e1.trans exp) (f1.trans exq) hxp hxq (fun w hw => ?_)
    obtain ⟨-, k2, k3, -⟩ := hB w hw
    obtain ⟨h1, h2⟩ := hX w hw
    obtain ⟨k4, -⟩ := g1 w hw
    refine ⟨X w, h1, k3.trans h2, ?_, rfl⟩
    have k4 : S 178 w = Sm 2 (41 + w) := k4
    rw [k2, q2, k4]
  · refine t220 m1 b1 (by omega) (by omega) exp exq hxp hxq (fun w hw => ?_)
    obtain ⟨h1, h2⟩ := hX w hw
    obtain ⟨-, s, hs, es⟩ := g1 w hw
    have es : Sm 2 (41 + w) = nI s := es
    refine ⟨X w, s, h1, h2, hs, es, ?_, rfl⟩
    rw [← es]
theorem t25_168 {q : Nat} (h : zGJ 168 c S0 Sm0 S Sm) (hq : q < c 0) : ∃ S' Sm', zcall 25 [.ref 168, .int (nI q)] zRc S L = some (none, zRc, S', L) ∧ (∀ (p hi ch hd bk : Int32) (j : Value), zgo 221 237 [.ref 0, .int p, .int (nI q), .int hi, .int ch, .int hd, .int bk, j] [] (zRm1 rd) Sm Lm = some (none, zRm1 rd, Sm', Lm)) ∧ zGJ 168 c S0 Sm0 S' Sm' := by
  have e3 : Sm 2 7 = S 180 3 := (h.2.1.2.2.1 3 (by omega)).symm
  have h1 : zGJ 168 c S0 Sm0 (zup S 180 3 (S 180 3 + 1)) (zup Sm 2 7 (S 180 3 + 1)) := gj_sums_168 h (p := 3) (by omega) trivial
  obtain ⟨⟨b0, b0', -⟩, -, -, -, hr, -⟩ := h.1
  obtain ⟨g0, -, -, -, ⟨g8, ⟨s, hs, es⟩⟩, -⟩ := h.2.1
  obtain ⟨x1, -, -, -, ⟨x, hx, ex⟩, -⟩ := g0 q hq
  clear g0
  have k1 := t26x_168 (S := zup S 180 3 (S 180 3 + 1)) (L := L) hs (by rw [zup_ne (by omega), g8, es])
  have k2 := t217 (Sm := zup Sm 2 7 (S 180 3 + 1)) (Lm := Lm) (rd := rd) hs (by rw [zup_ne (by omega)]; exact es)
  have h2 : zGJ 168 c S0 Sm0 (zup (zup S 180 3 (S 180 3 + 1)) 168 8 (nI (zsd s))) (zup (zup Sm 2 7 (S 180 3 + 1)) 2 1 (nI (zsd s))) := gj_seed_168 h1 ⟨zsd s, zsd_le, rfl⟩
  have e4 : Sm 2 8 = S 180 4 := (h.2.1.2.2.1 4 (by omega)).symm
  rcases hr with ⟨r1, r2⟩ | ⟨r1, r2, r3, ⟨rx, hrx, erx⟩, ⟨se, hse, ese⟩⟩
  · refine ⟨_, _, ?_, fun p hi ch hd bk j => ?_, gj_out_168 h1 hq ⟨1, by omega, rfl⟩⟩
    · unfold zcall
      simp (config := {maxSteps := 1000000}) (disch := omega) only [↓reduceIte, Int32.reduceLT, Int32.reduceLE, Int32.reduceToNatClampNeg, Int32.reduceAdd, Int32.reduceSub, Int32.reduceMul, Nat.reduceLeDiff, zEL, zup_ne, zup_eq, zT0, zT1, zT2, if_true, if_false, zneq_f, true_and, and_true, false_and, and_false, zKL, eq_self, Nat.reduceEqDiff, zite0, ite_not, zaddr, zaddl, zputr, zsb1, zsb2, zsb0, zsbm, znm1, gM, g168, S25, r1]
      all_goals rfl
    · simp (config := {maxSteps := 1000000}) (disch := omega) only [↓reduceIte, Int32.reduceLT, Int32.reduceLE, Int32.reduceToNatClampNeg, Int32.reduceAdd, Int32.reduceSub, Int32.reduceMul, Nat.reduceLeDiff, zEL, zup_ne, zup_eq, zT0, zT1, zT2, if_true, if_false, zneq_f, true_and, and_true, false_and, and_false, zKL, eq_self, Nat.reduceEqDiff, zite0, ite_not, zaddr, zaddl, zputr, zsb1, zsb2, zsb0, zsbm, znm1, layM1, s221_237, s221_238, s221_241, s221_243, s221_244, s221_245, s221_246, s221_247, s221_248, s221_249, s221_252, s221_255, s221_256, s221_259, s221_261, s221_264, s221_266, s221_267, s221_270, s221_273, s221_274, s221_277, s221_279, s221_280, s221_281, s221_282, s221_283, s221_286, s221_289, s221_292, s221_293, s221_294, s221_296, s221_298, s221_301, s221_302, s221_305, s221_307, s221_309, s221_311, s221_313, s221_316, s221_317, s221_319, s221_322, s221_324, s221_327, s221_328, s221_331, s221_333, s221_334, s221_335, s221_336, s221_337, s221_340, s221_341, s221_344, s221_346, s221_347, s221_348, s221_349, s221_350, s221_351, r2, e3]
      all_goals rfl
  · have hd171 : se * ((x - rx) + (rx - x)) ≤ 171 := Nat.le_trans (Nat.mul_le_mul hse (show (x - rx) + (rx - x) ≤ 19 by omega)) (by omega)
    have em : nI se * nI ((x - rx) + (rx - x)) = nI (se * ((x - rx) + (rx - x))) := znI_mul (by omega)
    have ed := zabd (a := x) (b := rx) (by omega) (by omega)
    have ef := t174 (S := zup Sm 2 7 (S 180 3 + 1)) (L := Lm) (R := zRm1 rd) (a := x) (b := rx) (by omega) (by omega)
    generalize hn : se * ((x - rx) + (rx - x)) = n at hd171 em
    have hm := zmx100 hd171
    have r4 : Sm 11 4 ≠ -1 := by
      rw [erx]
      intro h9
      rw [znm1 (by omega)] at h9
      exact h9
    have r5 : (Sm 11 4 = -1) = False := eq_false r4
    by_cases n0 : n = 0
    · subst n0
      refine ⟨_, _, ?_, fun p hi ch hd bk j => ?_, gj_out_168 h1 hq ⟨1, by omega, rfl⟩⟩
      · unfold zcall
        simp (config := {maxSteps := 1000000}) (disch := omega) only [↓reduceIte, Int32.reduceLT, Int32.reduceLE, Int32.reduceToNatClampNeg, Int32.reduceAdd, Int32.reduceSub, Int32.reduceMul, Nat.reduceLeDiff, zEL, zup_ne, zup_eq, zT0, zT1, zT2, if_true, if_false, zneq_f, true_and, and_true, false_and, and_false, zKL, eq_self, Nat.reduceEqDiff, zite0, ite_not, zaddr, zaddl, zputr, zsb1, zsb2, zsb0, zsbm, znm1, gM, g168, S25, r1, r2, r3, x1, ex, erx, ese, ed, em, hm]
        all_goals rfl
      · have hz := z100s (n := 0) (by omega)
        simp (config := {maxSteps := 1000000}) (disch := omega) only [↓reduceIte, Int32.reduceLT, Int32.reduceLE, Int32.reduceToNatClampNeg, Int32.reduceAdd, Int32.reduceSub, Int32.reduceMul, Nat.reduceLeDiff, zEL, zup_ne, zup_eq, zT0, zT1, zT2, if_true, if_false, zneq_f, true_and, and_true, false_and, and_false, zKL, eq_self, Nat.reduceEqDiff, zite0, ite_not, zaddr, zaddl, zputr, zsb1, zsb2, zsb0, zsbm, znm1, layM1, s221_237, s221_238, s221_241, s221_243, s221_244, s221_245, s221_246, s221_247, s221_248, s221_249, s221_252, s221_255, s221_256, s221_259, s221_261, s221_264, s221_266, s221_267, s221_270, s221_273, s221_274, s221_277, s221_279, s221_280, s221_281, s221_282, s221_283, s221_286, s221_289, s221_292, s221_293, s221_294, s221_296, s221_298, s221_301, s221_302, s221_305, s221_307, s221_309, s221_311, s221_313, s221_316, s221_317, s221_319, s221_322, s221_324, s221_327, s221_328, s221_331, s221_333, s221_334, s221_335, s221_336, s221_337, s221_340, s221_341, s221_344, s221_346, s221_347, s221_348, s221_349, s221_350, s221_351, znm1, ex, erx, ese, ef, em, hz, e3]
        all_goals rfl
    · have n1 : (100 - n = 100) = False := eq_false (by omega)
      by_cases hh : zsd s % 100 < 100 - n
      · refine ⟨_, _, ?_, fun p hi ch hd bk j => ?_, gj_out_168 h2 hq ⟨1, by omega, rfl⟩⟩
        · unfold zcall
          simp (config := {maxSteps := 1000000}) (disch := omega) only [↓reduceIte, Int32.reduceLT, Int32.reduceLE, Int32.reduceToNatClampNeg, Int32.reduceAdd, Int32.reduceSub, Int32.reduceMul, Nat.reduceLeDiff, zEL, zup_ne, zup_eq, zT0, zT1, zT2, if_true, if_false, zneq_f, true_and, and_true, false_and, and_false, zKL, eq_self, Nat.reduceEqDiff, zite0, ite_not, zaddr, zaddl, zputr, zsb1, zsb2, zsb0, zsbm, znm1, gM, g168, S25, r1, r2, r3, x1, ex, erx, ese, ed, em, hm, n1, k1]
          all_goals rfl
        · have hz := z100s (n := n) (by omega)
          simp (config := {maxSteps := 1000000}) (disch := omega) only [↓reduceIte, Int32.reduceLT, Int32.reduceLE, Int32.reduceToNatClampNeg, Int32.reduceAdd, Int32.reduceSub, Int32.reduceMul, Nat.reduceLeDiff, zEL, zup_ne, zup_eq, zT0, zT1, zT2, if_true, if_false, zneq_f, true_and, and_true, false_and, and_false, zKL, eq_self, Nat.reduceEqDiff, zite0, ite_not, zaddr, zaddl, zputr, zsb1, zsb2, zsb0, zsbm, znm1, layM1, s221_237, s221_238, s221_241, s221_243, s221_244, s221_245, s221_246, s221_247, s221_248, s221_249, s221_252, s221_255, s221_256, s221_259, s221_261, s221_264, s221_266, s221_267, s221_270, s221_273, s221_274, s221_277, s221_279, s221_280, s221_281, s221_282, s221_283, s221_286, s221_289, s221_292, s221_293, s221_294, s221_296, s221_298, s221_301, s221_302, s221_305, s221_307, s221_309, s221_311, s221_313, s221_316, s221_317, s221_319, s221_322, s221_324, s221_327, s221_328, s221_331, s221_333, s221_334, s221_335, s221_336, s221_337, s221_340, s221_341, s221_344, s221_346, s221_347, s221_348, s221_349, s221_350, s221_351, znm1, ex, erx, ese, ef, em, hz, e3, n1, k2]
          all_goals rfl
      · have h3 := gj_sums_168 (v := S 180 4 + 1) h2 (p := 4) (by omega) trivial
        refine ⟨_, _, ?_, fun p hi ch hd bk j => ?_, h3⟩
        · unfold zcall
          simp (config := {maxSteps := 1000000}) (disch := omega) only [↓reduceIte, Int32.reduceLT, Int32.reduceLE, Int32.reduceToNatClampNeg, Int32.reduceAdd, Int32.reduceSub, Int32.reduceMul, Nat.reduceLeDiff, zEL, zup_ne, zup_eq, zT0, zT1, zT2, if_true, if_false, zneq_f, true_and, and_true, false_and, and_false, zKL, eq_self, Nat.reduceEqDiff, zite0, ite_not, zaddr, zaddl, zputr, zsb1, zsb2, zsb0, zsbm, znm1, gM, g168, S25, r1, r2, r3, x1, ex, erx, ese, ed, em, hm, n1, k1]
        · by_cases hz1 : n ≤ 100
          · have hz := z100s (n := n) hz1
            simp (config := {maxSteps := 1000000}) (disch := omega) only [↓reduceIte, Int32.reduceLT, Int32.reduceLE, Int32.reduceToNatClampNeg, Int32.reduceAdd, Int32.reduceSub, Int32.reduceMul, Nat.reduceLeDiff, zEL, zup_ne, zup_eq, zT0, zT1, zT2, if_true, if_false, zneq_f, true_and, and_true, false_and, and_false, zKL, eq_self, Nat.reduceEqDiff, zite0, ite_not, zaddr, zaddl, zputr, zsb1, zsb2, zsb0, zsbm, znm1, layM1, s221_237, s221_238, s221_241, s221_243, s221_244, s221_245, s221_246, s221_247, s221_248, s221_249, s221_252, s221_255, s221_256, s221_259, s221_261, s221_264, s221_266, s221_267, s221_270, s221_273, s221_274, s221_277, s221_279, s221_280, s221_281, s221_282, s221_283, s221_286, s221_289, s221_292, s221_293, s221_294, s221_296, s221_298, s221_301, s221_302, s221_305, s221_307, s221_309, s221_311, s221_313, s221_316, s221_317, s221_319, s221_322, s221_324, s221_327, s221_328, s221_331, s221_333, s221_334, s221_335, s221_336, s221_337, s221_340, s221_341, s221_344, s221_346, s221_347, s221_348, s221_349, s221_350, s221_351, znm1, ex, erx, ese, ef, em, hz, e3, e4, n1, k2]
          · have hz := z100n (n := n) (by omega) hd171
            have h0 : ((0 : Int32) = 100) = False := by decide
            simp (config := {maxSteps := 1000000}) (disch := omega) only [↓reduceIte, Int32.reduceLT, Int32.reduceLE, Int32.reduceToNatClampNeg, Int32.reduceAdd, Int32.reduceSub, Int32.reduceMul, Nat.reduceLeDiff, zEL, zup_ne, zup_eq, zT0, zT1, zT2, if_true, if_false, zneq_f, true_and, and_true, false_and, and_false, zKL, eq_self, Nat.reduceEqDiff, zite0, ite_not, zaddr, zaddl, zputr, zsb1, zsb2, zsb0, zsbm, znm1, layM1, s221_237, s221_238, s221_241, s221_243, s221_244, s221_245, s221_246, s221_247, s221_248, s221_249, s221_252, s221_255, s221_256, s221_259, s221_261, s221_264, s221_266, s221_267, s221_270, s221_273, s221_274, s221_277, s221_279, s221_280, s221_281, s221_282, s221_283, s221_286, s221_289, s221_292, s221_293, s221_294, s221_296, s221_298, s221_301, s221_302, s221_305, s221_307, s221_309, s221_311, s221_313, s221_316, s221_317, s221_319, s221_322, s221_324, s221_327, s221_328, s221_331, s221_333, s221_334, s221_335, s221_336, s221_337, s221_340, s221_341, s221_344, s221_346, s221_347, s221_348, s221_349, s221_350, s221_351, znm1, ex, erx, ese, ef, em, hz, e3, e4, k2, h0]
theorem t26x_187 {s : Nat} (hs : s ≤ 65536) (e : S 187 8 = nI s) : zcall 26 [.ref 187] zRc S L = some (some (.int (nI (zsd s % 100))), zRc, zup S 187 8 (nI (zsd s)), L) := by
  have hz := @zsd_le s
  have hz1 : 75 * nI s + 74 - (75 * nI s + 74) / 65537 * 65537 = nI (zsd s) := zsd1 hs
  have hz3 := zsd3 hz
  unfold zcall
  simp (config := {maxSteps := 1000000}) (disch := omega) only [↓reduceIte, Int32.reduceLT, Int32.reduceLE, Int32.reduceToNatClampNeg, Int32.reduceAdd, Int32.reduceSub, Int32.reduceMul, Nat.reduceLeDiff, zEL, zup_ne, zup_eq, zT0, zT1, zT2, if_true, if_false, g187, S26, e, zsd0, hz1, hz3, zsd5]
/-- who hides q from p -/
theorem thid_187 {p q : Nat} (hM : zMD c S Sm) (hG : zGD 187 c S (Sm 2)) (hp : p < c 0) (hq : q < c 0) : ∃ o : Option Nat, (∀ b, o = some b → b < c 1 ∧ ∃ s, s ≤ 8 ∧ S 197 b = nI (s + 1)) ∧ zcall 28 [.ref 187, .ref 25, .ref 196, .int (nI p), .int (nI q)] zRc S L = some (some (.int (zon o)), zRc, S, L) ∧ zcall 220 [.ref 0, .int (nI p), .int (nI q)] (zRm1 rd) Sm Lm = some (some (.int (zon o)), zRm1 rd, Sm, Lm) := by
  obtain ⟨⟨b0, b0', b1, -⟩, ⟨-, a1, -⟩, ⟨-, m1, -⟩, -, -, hP, hB, -⟩ := hM
  obtain ⟨g0, g1, -⟩ := hG
  obtain ⟨e1, -, -, -, ⟨xp, hxp, exp⟩, -⟩ := g0 p hp
  obtain ⟨f1, -, -, -, ⟨xq, hxq, exq⟩, -⟩ := g0 q hq
  obtain ⟨-, q2, -⟩ := hP q hq
  let X : Nat → Nat := fun w => (Sm 16 w).toInt.toNat
  have hX : ∀ w, w < c 1 → X w ≤ 19 ∧ Sm 16 w = nI (X w) := fun w hw => by
    obtain ⟨-, -, -, -, -, -, ⟨x, hx, ex⟩, -⟩ := hB w hw
    have : X w = x := by
      show (Sm 16 w).toInt.toNat = x
      rw [ex, zint_nI (by omega)]
      omega
    rw [this]
    exact ⟨hx, ex⟩
  let bt : Nat → Bool := fun w => zbt (Sm 15 w) (Sm 19 q) xp xq (X w) (Sm 2 (41 + w))
  let ds : Nat → Nat := fun w => zdist (X w) xq
  refine ⟨znr bt ds (c 1), fun b hb => ?_, ?_, ?_⟩
  · have h1 := znr_lt hb
    have h2 : 0 < Sm 2 (41 + b) := (zbt_iff.mp (znr_bt hb)).2.2.2
    obtain ⟨e, s, hs, es⟩ := g1 b h1
    refine ⟨h1, s - 1, by omega, ?_⟩
    have e : S 197 b = Sm 2 (41 + b) := e
    have es : Sm 2 (41 + b) = nI s := es
    rw [es, znI_0, znI_lt (by omega) (by omega)] at h2
    rw [e, es, show s - 1 + 1 = s by omega]
  · refine t28_187_g a1 b1 (by omega) (by omega) (e1.trans exp) (f1.trans exq) hxp hxq (fun w hw => ?_)
    obtain ⟨-, k2, k3, -⟩ := hB w hw
    obtain ⟨h1, h2⟩ := hX w hw
    obtain ⟨k4, -⟩ := g1 w hw
    refine ⟨X w, h1, k3.trans h2, ?_, rfl⟩
    have k4 : S 197 w = Sm 2 (41 + w) := k4
    rw [k2, q2, k4]
  · refine t220 m1 b1 (by omega) (by omega) exp exq hxp hxq (fun w hw => ?_)
    obtain ⟨h1, h2⟩ := hX w hw
    obtain ⟨-, s, hs, es⟩ := g1 w hw
    have es : Sm 2 (41 + w) = nI s := es
    refine ⟨X w, s, h1, h2, hs, es, ?_, rfl⟩
    rw [← es]
theorem t25_187 {q : Nat} (h : zGJ 187 c S0 Sm0 S Sm) (hq : q < c 0) : ∃ S' Sm', zcall 25 [.ref 187, .int (nI q)] zRc S L = some (none, zRc, S', L) ∧ (∀ (p hi ch hd bk : Int32) (j : Value), zgo 221 237 [.ref 0, .int p, .int (nI q), .int hi, .int ch, .int hd, .int bk, j] [] (zRm1 rd) Sm Lm = some (none, zRm1 rd, Sm', Lm)) ∧ zGJ 187 c S0 Sm0 S' Sm' := by
  have e3 : Sm 2 7 = S 199 3 := (h.2.1.2.2.1 3 (by omega)).symm
  have h1 : zGJ 187 c S0 Sm0 (zup S 199 3 (S 199 3 + 1)) (zup Sm 2 7 (S 199 3 + 1)) := gj_sums_187 h (p := 3) (by omega) trivial
  obtain ⟨⟨b0, b0', -⟩, -, -, -, hr, -⟩ := h.1
  obtain ⟨g0, -, -, -, ⟨g8, ⟨s, hs, es⟩⟩, -⟩ := h.2.1
  obtain ⟨x1, -, -, -, ⟨x, hx, ex⟩, -⟩ := g0 q hq
  clear g0
  have k1 := t26x_187 (S := zup S 199 3 (S 199 3 + 1)) (L := L) hs (by rw [zup_ne (by omega), g8, es])
  have k2 := t217 (Sm := zup Sm 2 7 (S 199 3 + 1)) (Lm := Lm) (rd := rd) hs (by rw [zup_ne (by omega)]; exact es)
  have h2 : zGJ 187 c S0 Sm0 (zup (zup S 199 3 (S 199 3 + 1)) 187 8 (nI (zsd s))) (zup (zup Sm 2 7 (S 199 3 + 1)) 2 1 (nI (zsd s))) := gj_seed_187 h1 ⟨zsd s, zsd_le, rfl⟩
  have e4 : Sm 2 8 = S 199 4 := (h.2.1.2.2.1 4 (by omega)).symm
  rcases hr with ⟨r1, r2⟩ | ⟨r1, r2, r3, ⟨rx, hrx, erx⟩, ⟨se, hse, ese⟩⟩
  · refine ⟨_, _, ?_, fun p hi ch hd bk j => ?_, gj_out_187 h1 hq ⟨1, by omega, rfl⟩⟩
    · unfold zcall
      simp (config := {maxSteps := 1000000}) (disch := omega) only [↓reduceIte, Int32.reduceLT, Int32.reduceLE, Int32.reduceToNatClampNeg, Int32.reduceAdd, Int32.reduceSub, Int32.reduceMul, Nat.reduceLeDiff, zEL, zup_ne, zup_eq, zT0, zT1, zT2, if_true, if_false, zneq_f, true_and, and_true, false_and, and_false, zKL, eq_self, Nat.reduceEqDiff, zite0, ite_not, zaddr, zaddl, zputr, zsb1, zsb2, zsb0, zsbm, znm1, gM, g187, S25, r1]
      all_goals rfl
    · simp (config := {maxSteps := 1000000}) (disch := omega) only [↓reduceIte, Int32.reduceLT, Int32.reduceLE, Int32.reduceToNatClampNeg, Int32.reduceAdd, Int32.reduceSub, Int32.reduceMul, Nat.reduceLeDiff, zEL, zup_ne, zup_eq, zT0, zT1, zT2, if_true, if_false, zneq_f, true_and, and_true, false_and, and_false, zKL, eq_self, Nat.reduceEqDiff, zite0, ite_not, zaddr, zaddl, zputr, zsb1, zsb2, zsb0, zsbm, znm1, layM1, s221_237, s221_238, s221_241, s221_243, s221_244, s221_245, s221_246, s221_247, s221_248, s221_249, s221_252, s221_255, s221_256, s221_259, s221_261, s221_264, s221_266, s221_267, s221_270, s221_273, s221_274, s221_277, s221_279, s221_280, s221_281, s221_282, s221_283, s221_286, s221_289, s221_292, s221_293, s221_294, s221_296, s221_298, s221_301, s221_302, s221_305, s221_307, s221_309, s221_311, s221_313, s221_316, s221_317, s221_319, s221_322, s221_324, s221_327, s221_328, s221_331, s221_333, s221_334, s221_335, s221_336, s221_337, s221_340, s221_341, s221_344, s221_346, s221_347, s221_348, s221_349, s221_350, s221_351, r2, e3]
      all_goals rfl
  · have hd171 : se * ((x - rx) + (rx - x)) ≤ 171 := Nat.le_trans (Nat.mul_le_mul hse (show (x - rx) + (rx - x) ≤ 19 by omega)) (by omega)
    have em : nI se * nI ((x - rx) + (rx - x)) = nI (se * ((x - rx) + (rx - x))) := znI_mul (by omega)
    have ed := zabd (a := x) (b := rx) (by omega) (by omega)
    have ef := t174 (S := zup Sm 2 7 (S 199 3 + 1)) (L := Lm) (R := zRm1 rd) (a := x) (b := rx) (by omega) (by omega)
    generalize hn : se * ((x - rx) + (rx - x)) = n at hd171 em
    have hm := zmx100 hd171
    have r4 : Sm 11 4 ≠ -1 := by
      rw [erx]
      intro h9
      rw [znm1 (by omega)] at h9
      exact h9
    have r5 : (Sm 11 4 = -1) = False := eq_false r4
    by_cases n0 : n = 0
    · subst n0
      refine ⟨_, _, ?_, fun p hi ch hd bk j => ?_, gj_out_187 h1 hq ⟨1, by omega, rfl⟩⟩
      · unfold zcall
        simp (config := {maxSteps := 1000000}) (disch := omega) only [↓reduceIte, Int32.reduceLT, Int32.reduceLE, Int32.reduceToNatClampNeg, Int32.reduceAdd, Int32.reduceSub, Int32.reduceMul, Nat.reduceLeDiff, zEL, zup_ne, zup_eq, zT0, zT1, zT2, if_true, if_false, zneq_f, true_and, and_true, false_and, and_false, zKL, eq_self, Nat.reduceEqDiff, zite0, ite_not, zaddr, zaddl, zputr, zsb1, zsb2, zsb0, zsbm, znm1, gM, g187, S25, r1, r2, r3, x1, ex, erx, ese, ed, em, hm]
        all_goals rfl
      · have hz := z100s (n := 0) (by omega)
        simp (config := {maxSteps := 1000000}) (disch := omega) only [↓reduceIte, Int32.reduceLT, Int32.reduceLE, Int32.reduceToNatClampNeg, Int32.reduceAdd, Int32.reduceSub, Int32.reduceMul, Nat.reduceLeDiff, zEL, zup_ne, zup_eq, zT0, zT1, zT2, if_true, if_false, zneq_f, true_and, and_true, false_and, and_false, zKL, eq_self, Nat.reduceEqDiff, zite0, ite_not, zaddr, zaddl, zputr, zsb1, zsb2, zsb0, zsbm, znm1, layM1, s221_237, s221_238, s221_241, s221_243, s221_244, s221_245, s221_246, s221_247, s221_248, s221_249, s221_252, s221_255, s221_256, s221_259, s221_261, s221_264, s221_266, s221_267, s221_270, s221_273, s221_274, s221_277, s221_279, s221_280, s221_281, s221_282, s221_283, s221_286, s221_289, s221_292, s221_293, s221_294, s221_296, s221_298, s221_301, s221_302, s221_305, s221_307, s221_309, s221_311, s221_313, s221_316, s221_317, s221_319, s221_322, s221_324, s221_327, s221_328, s221_331, s221_333, s221_334, s221_335, s221_336, s221_337, s221_340, s221_341, s221_344, s221_346, s221_347, s221_348, s221_349, s221_350, s221_351, znm1, ex, erx, ese, ef, em, hz, e3]
        all_goals rfl
    · have n1 : (100 - n = 100) = False := eq_false (by omega)
      by_cases hh : zsd s % 100 < 100 - n
      · refine ⟨_, _, ?_, fun p hi ch hd bk j => ?_, gj_out_187 h2 hq ⟨1, by omega, rfl⟩⟩
        · unfold zcall
          simp (config := {maxSteps := 1000000}) (disch := omega) only [↓reduceIte, Int32.reduceLT, Int32.reduceLE, Int32.reduceToNatClampNeg, Int32.reduceAdd, Int32.reduceSub, Int32.reduceMul, Nat.reduceLeDiff, zEL, zup_ne, zup_eq, zT0, zT1, zT2, if_true, if_false, zneq_f, true_and, and_true, false_and, and_false, zKL, eq_self, Nat.reduceEqDiff, zite0, ite_not, zaddr, zaddl, zputr, zsb1, zsb2, zsb0, zsbm, znm1, gM, g187, S25, r1, r2, r3, x1, ex, erx, ese, ed, em, hm, n1, k1]
          all_goals rfl
        · have hz := z100s (n := n) (by omega)
          simp (config := {maxSteps := 1000000}) (disch := omega) only [↓reduceIte, Int32.reduceLT, Int32.reduceLE, Int32.reduceToNatClampNeg, Int32.reduceAdd, Int32.reduceSub, Int32.reduceMul, Nat.reduceLeDiff, zEL, zup_ne, zup_eq, zT0, zT1, zT2, if_true, if_false, zneq_f, true_and, and_true, false_and, and_false, zKL, eq_self, Nat.reduceEqDiff, zite0, ite_not, zaddr, zaddl, zputr, zsb1, zsb2, zsb0, zsbm, znm1, layM1, s221_237, s221_238, s221_241, s221_243, s221_244, s221_245, s221_246, s221_247, s221_248, s221_249, s221_252, s221_255, s221_256, s221_259, s221_261, s221_264, s221_266, s221_267, s221_270, s221_273, s221_274, s221_277, s221_279, s221_280, s221_281, s221_282, s221_283, s221_286, s221_289, s221_292, s221_293, s221_294, s221_296, s221_298, s221_301, s221_302, s221_305, s221_307, s221_309, s221_311, s221_313, s221_316, s221_317, s221_319, s221_322, s221_324, s221_327, s221_328, s221_331, s221_333, s221_334, s221_335, s221_336, s221_337, s221_340, s221_341, s221_344, s221_346, s221_347, s221_348, s221_349, s221_350, s221_351, znm1, ex, erx, ese, ef, em, hz, e3, n1, k2]
          all_goals rfl
      · have h3 := gj_sums_187 (v := S 199 4 + 1) h2 (p := 4) (by omega) trivial
        refine ⟨_, _, ?_, fun p hi ch hd bk j => ?_, h3⟩
        · unfold zcall
          simp (config := {maxSteps := 1000000}) (disch := omega) only [↓reduceIte, Int32.reduceLT, Int32.reduceLE, Int32.reduceToNatClampNeg, Int32.reduceAdd, Int32.reduceSub, Int32.reduceMul, Nat.reduceLeDiff, zEL, zup_ne, zup_eq, zT0, zT1, zT2, if_true, if_false, zneq_f, true_and, and_true, false_and, and_false, zKL, eq_self, Nat.reduceEqDiff, zite0, ite_not, zaddr, zaddl, zputr, zsb1, zsb2, zsb0, zsbm, znm1, gM, g187, S25, r1, r2, r3, x1, ex, erx, ese, ed, em, hm, n1, k1]
        · by_cases hz1 : n ≤ 100
          · have hz := z100s (n := n) hz1
            simp (config := {maxSteps := 1000000}) (disch := omega) only [↓reduceIte, Int32.reduceLT, Int32.reduceLE, Int32.reduceToNatClampNeg, Int32.reduceAdd, Int32.reduceSub, Int32.reduceMul, Nat.reduceLeDiff, zEL, zup_ne, zup_eq, zT0, zT1, zT2, if_true, if_false, zneq_f, true_and, and_true, false_and, and_false, zKL, eq_self, Nat.reduceEqDiff, zite0, ite_not, zaddr, zaddl, zputr, zsb1, zsb2, zsb0, zsbm, znm1, layM1, s221_237, s221_238, s221_241, s221_243, s221_244, s221_245, s221_246, s221_247, s221_248, s221_249, s221_252, s221_255, s221_256, s221_259, s221_261, s221_264, s221_266, s221_267, s221_270, s221_273, s221_274, s221_277, s221_279, s221_280, s221_281, s221_282, s221_283, s221_286, s221_289, s221_292, s221_293, s221_294, s221_296, s221_298, s221_301, s221_302, s221_305, s221_307, s221_309, s221_311, s221_313, s221_316, s221_317, s221_319, s221_322, s221_324, s221_327, s221_328, s221_331, s221_333, s221_334, s221_335, s221_336, s221_337, s221_340, s221_341, s221_344, s221_346, s221_347, s221_348, s221_349, s221_350, s221_351, znm1, ex, erx, ese, ef, em, hz, e3, e4, n1, k2]
          · have hz := z100n (n := n) (by omega) hd171
            have h0 : ((0 : Int32) = 100) = False := by decide
            simp (config := {maxSteps := 1000000}) (disch := omega) only [↓reduceIte, Int32.reduceLT, Int32.reduceLE, Int32.reduceToNatClampNeg, Int32.reduceAdd, Int32.reduceSub, Int32.reduceMul, Nat.reduceLeDiff, zEL, zup_ne, zup_eq, zT0, zT1, zT2, if_true, if_false, zneq_f, true_and, and_true, false_and, and_false, zKL, eq_self, Nat.reduceEqDiff, zite0, ite_not, zaddr, zaddl, zputr, zsb1, zsb2, zsb0, zsbm, znm1, layM1, s221_237, s221_238, s221_241, s221_243, s221_244, s221_245, s221_246, s221_247, s221_248, s221_249, s221_252, s221_255, s221_256, s221_259, s221_261, s221_264, s221_266, s221_267, s221_270, s221_273, s221_274, s221_277, s221_279, s221_280, s221_281, s221_282, s221_283, s221_286, s221_289, s221_292, s221_293, s221_294, s221_296, s221_298, s221_301, s221_302, s221_305, s221_307, s221_309, s221_311, s221_313, s221_316, s221_317, s221_319, s221_322, s221_324, s221_327, s221_328, s221_331, s221_333, s221_334, s221_335, s221_336, s221_337, s221_340, s221_341, s221_344, s221_346, s221_347, s221_348, s221_349, s221_350, s221_351, znm1, ex, erx, ese, ef, em, hz, e3, e4, k2, h0]
end ZG8
