/-! GAMES: the draw, the chance, the nearest block -/
section ZG3
variable {c : Nat → Nat} {S Sm S0 Sm0 : zS} {L Lm : zL} {rd : Value}
theorem zsd1 {s : Nat} (hs : s ≤ 65536) : 75 * nI s + 74 - (75 * nI s + 74) / 65537 * 65537 = nI ((75 * s + 74) % 65537) := by
  rw [show (75 : Int32) = nI 75 from rfl, show (74 : Int32) = nI 74 from rfl, show (65537 : Int32) = nI 65537 from rfl, znI_mul (by omega), zadd_nI, znI_rem (by omega) (by omega)]
theorem zsd2 {s : Nat} (hs : s ≤ 65536) : (75 * (nI s).toInt64 + 74 - (75 * (nI s).toInt64 + 74) / 65537 * 65537).toInt32 = nI ((75 * s + 74) % 65537) := by
  rw [zl_i2l (by omega), show (75 : Int64) = lN 75 from rfl, show (74 : Int64) = lN 74 from rfl, show (65537 : Int64) = lN 65537 from rfl, zl_mul, zl_add, zl_rem (by omega) (by omega), zl_l2i (by omega)]
theorem zsd3 {s : Nat} (hs : s ≤ 65536) : nI s - nI s / 100 * 100 = nI (s % 100) := by
  rw [show (100 : Int32) = nI 100 from rfl, znI_rem (by omega) (by omega)]
theorem zsd0 : ((65537 : Int32) = 0) = False := eq_false (by decide)
theorem zsd4 : ((65537 : Int64) = 0) = False := eq_false (by decide)
theorem zsd5 : ((100 : Int32) = 0) = False := eq_false (by decide)
theorem znI_dneg {a b : Nat} (ha : a < 1000000) (hb : b < 1000000) : (0 ≤ nI a - nI b) ↔ b ≤ a := by
  rw [Int32.le_iff_toInt_le, Int32.toInt_sub, zint_nI (by omega), zint_nI (by omega), Int.bmod_eq_of_le (by omega) (by omega), show (0 : Int32).toInt = 0 from rfl]
  omega
theorem zabd {a b : Nat} (ha : a < 1000000) (hb : b < 1000000) : (if 0 ≤ nI a - nI b then nI a - nI b else 0 - (nI a - nI b)) = nI ((a - b) + (b - a)) := by
  by_cases h : b ≤ a
  · rw [if_pos ((znI_dneg ha hb).mpr h), znI_sub h, show b - a = 0 by omega, Nat.add_zero]
  · rw [if_neg (fun h' => h ((znI_dneg ha hb).mp h')), Int32.zero_sub, Int32.neg_sub, znI_sub (by omega), show a - b = 0 by omega, Nat.zero_add]
theorem t174 {a b : Nat} {R : List zE} (ha : a < 1000000) (hb : b < 1000000) : zcall 174 [.int (nI a), .int (nI b)] R S L = some (some (.int (nI ((a - b) + (b - a)))), R, S, L) := by
  unfold zcall
  simp (disch := omega) only [S174, zT0, zT2]
  split
  · rw [znI_sub (by omega), show b - a = 0 by omega, Nat.add_zero]
  · rw [znI_sub (by omega), show a - b = 0 by omega, Nat.zero_add]
theorem zclp {v : Int32} {R R' : List zE} {S S' : zS} {L L' : zL} : ∃ n, n ≤ 100 ∧ some (some (Value.int (if 0 < if v < 100 then v else 100 then (if v < 100 then v else 100) else 0)), R, S, L) = some (some (Value.int (nI n)), R, S, L) ∧ (if 0 ≤ v then if v ≤ 100 then some (some (Value.int v), R', S', L') else some (some (Value.int 100), R', S', L') else some (some (Value.int 0), R', S', L')) = some (some (Value.int (nI n)), R', S', L') := by
  have e0 : (0 : Int32).toInt = 0 := rfl
  have e1 : (100 : Int32).toInt = 100 := rfl
  by_cases h0 : 0 ≤ v
  · have h0' := h0
    rw [Int32.le_iff_toInt_le, e0] at h0'
    by_cases h1 : v ≤ 100
    · have h1' := h1
      rw [Int32.le_iff_toInt_le, e1] at h1'
      have hv : v = nI v.toInt.toNat := znI_of (by omega)
      refine ⟨v.toInt.toNat, by omega, ?_, ?_⟩
      · by_cases h2 : v < 100
        · simp only [h2, if_true]
          by_cases h3 : 0 < v
          · simp only [h3, if_true]
            rw [← hv]
          · have : v = 0 := Int32.toInt_inj.mp (by rw [Int32.lt_iff_toInt_lt, e0] at h3; rw [e0]; omega)
            subst this
            rfl
        · have : v = 100 := Int32.toInt_inj.mp (by rw [Int32.lt_iff_toInt_lt, e1] at h2; rw [e1]; omega)
          subst this
          rfl
      · simp only [h0, h1, if_true]
        rw [← hv]
    · refine ⟨100, by omega, ?_, ?_⟩
      · have h2 : ¬ v < 100 := by
          rw [Int32.lt_iff_toInt_lt, e1]
          rw [Int32.le_iff_toInt_le, e1] at h1
          omega
        simp only [h2, if_false]
        rfl
      · simp only [h0, h1, if_true, if_false]
        rfl
  · refine ⟨0, by omega, ?_, ?_⟩
    · have h0' := h0
      rw [Int32.le_iff_toInt_le, e0] at h0'
      have h2 : v < 100 := by
        rw [Int32.lt_iff_toInt_lt, e1]
        omega
      have h3 : ¬ 0 < v := by
        rw [Int32.lt_iff_toInt_lt, e0]
        omega
      simp only [h2, h3, if_true, if_false]
      rfl
    · simp only [h0, if_false]
      rfl
theorem t26_168 (h : zGJ 168 c S0 Sm0 S Sm) : ∃ n : Nat, n < 100 ∧ ∃ S' Sm', zcall 26 [.ref 168] zRc S L = some (some (.int (nI n)), zRc, S', L) ∧ zcall 217 [.ref 0, .int 100] (zRm1 rd) Sm Lm = some (some (.int (nI n)), zRm1 rd, Sm', Lm) ∧ zGJ 168 c S0 Sm0 S' Sm' := by
  obtain ⟨-, -, -, -, ⟨g8, ⟨s, hs, es⟩⟩, -⟩ := h.2.1
  refine ⟨(75 * s + 74) % 65537 % 100, by omega, zup S 168 8 (nI ((75 * s + 74) % 65537)), zup Sm 2 1 (nI ((75 * s + 74) % 65537)), ?_, ?_, gj_seed_168 h ⟨(75 * s + 74) % 65537, by omega, rfl⟩⟩
  · unfold zcall
    simp (config := {maxSteps := 1000000}) (disch := omega) only [Int32.reduceLT, Int32.reduceLE, Int32.reduceToNatClampNeg, Int32.reduceAdd, Int32.reduceSub, Int32.reduceMul, Nat.reduceLeDiff, zEL, zup_ne, zup_eq, layC, layM1, rowsC, zT0, zT1, zT2, if_true, if_false, S26, g8, es, zsd0, zsd1 hs, zsd3 (show (75 * s + 74) % 65537 ≤ 65536 by omega), zsd5]
  · unfold zcall
    simp (config := {maxSteps := 1000000}) (disch := omega) only [Int32.reduceLT, Int32.reduceLE, Int32.reduceToNatClampNeg, Int32.reduceAdd, Int32.reduceSub, Int32.reduceMul, Nat.reduceLeDiff, zEL, zup_ne, zup_eq, layC, layM1, rowsC, zT0, zT1, zT2, if_true, if_false, S217, es, zsd4, zsd2 hs, zsd3 (show (75 * s + 74) % 65537 ≤ 65536 by omega), zsd5]
theorem t27_168 {p q : Nat} {hi dk dodge does : Int32} (hM : zMD c S Sm) (hG : zGD 168 c S (Sm 2)) (hp : p < c 0) (hq : q < c 0) (hhi : hi = 0 ∨ hi = 1) (hd : (dk = 1 ∧ does = 1) ∨ (dk = 0 ∧ (does = 0 ∨ does = 2))) : ∃ n : Nat, n ≤ 100 ∧ zcall 27 [.ref 168, .int (nI p), .int (nI q), .int hi, .int dodge, .int dk] zRc S L = some (some (.int (nI n)), zRc, S, L) ∧ zcall 218 [.ref 0, .int (nI p), .int (nI q), .int hi, .int does, .int dodge] (zRm1 rd) Sm Lm = some (some (.int (nI n)), zRm1 rd, Sm, Lm) := by
  obtain ⟨⟨b0, b0', b1, -⟩, ⟨a0, -⟩, ⟨m0, -⟩, -, -, hP, -⟩ := hM
  obtain ⟨g0, -⟩ := hG
  obtain ⟨p1, p2, p3, p4, p5, p6, -, ⟨lp, hlp, elp⟩, -, -, ⟨ap, hap, eap⟩, -⟩ := hP p hp
  obtain ⟨q1, q2, q3, q4, q5, q6, -, ⟨lq, hlq, elq⟩, -⟩ := hP q hq
  obtain ⟨r1, -, r3, -, ⟨xp, hxp, exp⟩, -⟩ := g0 p hp
  obtain ⟨r1', -, -, -, ⟨xq, hxq, exq⟩, -⟩ := g0 q hq
  rcases hhi with rfl | rfl <;> rcases hd with ⟨rfl, rfl⟩ | ⟨rfl, rfl | rfl⟩ <;> unfold zcall
  all_goals simp (config := {maxSteps := 1000000}) (disch := omega) only [Int32.reduceLT, Int32.reduceLE, Int32.reduceToNatClampNeg, Int32.reduceAdd, Int32.reduceSub, Int32.reduceMul, Nat.reduceLeDiff, zEL, zup_ne, zup_eq, layC, layM1, rowsC, zT0, zT1, zT2, if_true, if_false, S27, S218, a0, m0, p1, p2, p3, p4, p5, p6, elp, eap, q1, q2, q3, q4, q5, q6, elq, r1, r3, exp, r1', exq, zabd, t174]
  all_goals exact zclp
theorem t26_187 (h : zGJ 187 c S0 Sm0 S Sm) : ∃ n : Nat, n < 100 ∧ ∃ S' Sm', zcall 26 [.ref 187] zRc S L = some (some (.int (nI n)), zRc, S', L) ∧ zcall 217 [.ref 0, .int 100] (zRm1 rd) Sm Lm = some (some (.int (nI n)), zRm1 rd, Sm', Lm) ∧ zGJ 187 c S0 Sm0 S' Sm' := by
  obtain ⟨-, -, -, -, ⟨g8, ⟨s, hs, es⟩⟩, -⟩ := h.2.1
  refine ⟨(75 * s + 74) % 65537 % 100, by omega, zup S 187 8 (nI ((75 * s + 74) % 65537)), zup Sm 2 1 (nI ((75 * s + 74) % 65537)), ?_, ?_, gj_seed_187 h ⟨(75 * s + 74) % 65537, by omega, rfl⟩⟩
  · unfold zcall
    simp (config := {maxSteps := 1000000}) (disch := omega) only [Int32.reduceLT, Int32.reduceLE, Int32.reduceToNatClampNeg, Int32.reduceAdd, Int32.reduceSub, Int32.reduceMul, Nat.reduceLeDiff, zEL, zup_ne, zup_eq, layC, layM1, rowsC, zT0, zT1, zT2, if_true, if_false, S26, g8, es, zsd0, zsd1 hs, zsd3 (show (75 * s + 74) % 65537 ≤ 65536 by omega), zsd5]
  · unfold zcall
    simp (config := {maxSteps := 1000000}) (disch := omega) only [Int32.reduceLT, Int32.reduceLE, Int32.reduceToNatClampNeg, Int32.reduceAdd, Int32.reduceSub, Int32.reduceMul, Nat.reduceLeDiff, zEL, zup_ne, zup_eq, layC, layM1, rowsC, zT0, zT1, zT2, if_true, if_false, S217, es, zsd4, zsd2 hs, zsd3 (show (75 * s + 74) % 65537 ≤ 65536 by omega), zsd5]
theorem t27_187 {p q : Nat} {hi dk dodge does : Int32} (hM : zMD c S Sm) (hG : zGD 187 c S (Sm 2)) (hp : p < c 0) (hq : q < c 0) (hhi : hi = 0 ∨ hi = 1) (hd : (dk = 1 ∧ does = 1) ∨ (dk = 0 ∧ (does = 0 ∨ does = 2))) : ∃ n : Nat, n ≤ 100 ∧ zcall 27 [.ref 187, .int (nI p), .int (nI q), .int hi, .int dodge, .int dk] zRc S L = some (some (.int (nI n)), zRc, S, L) ∧ zcall 218 [.ref 0, .int (nI p), .int (nI q), .int hi, .int does, .int dodge] (zRm1 rd) Sm Lm = some (some (.int (nI n)), zRm1 rd, Sm, Lm) := by
  obtain ⟨⟨b0, b0', b1, -⟩, ⟨a0, -⟩, ⟨m0, -⟩, -, -, hP, -⟩ := hM
  obtain ⟨g0, -⟩ := hG
  obtain ⟨p1, p2, p3, p4, p5, p6, -, ⟨lp, hlp, elp⟩, -, -, ⟨ap, hap, eap⟩, -⟩ := hP p hp
  obtain ⟨q1, q2, q3, q4, q5, q6, -, ⟨lq, hlq, elq⟩, -⟩ := hP q hq
  obtain ⟨r1, -, r3, -, ⟨xp, hxp, exp⟩, -⟩ := g0 p hp
  obtain ⟨r1', -, -, -, ⟨xq, hxq, exq⟩, -⟩ := g0 q hq
  rcases hhi with rfl | rfl <;> rcases hd with ⟨rfl, rfl⟩ | ⟨rfl, rfl | rfl⟩ <;> unfold zcall
  all_goals simp (config := {maxSteps := 1000000}) (disch := omega) only [Int32.reduceLT, Int32.reduceLE, Int32.reduceToNatClampNeg, Int32.reduceAdd, Int32.reduceSub, Int32.reduceMul, Nat.reduceLeDiff, zEL, zup_ne, zup_eq, layC, layM1, rowsC, zT0, zT1, zT2, if_true, if_false, S27, S218, a0, m0, p1, p2, p3, p4, p5, p6, elp, eap, q1, q2, q3, q4, q5, q6, elq, r1, r3, exp, r1', exq, zabd, t174]
  all_goals exact zclp
end ZG3
