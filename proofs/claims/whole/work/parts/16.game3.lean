/-! GAMES: the draw, the chance, the nearest block -/
section ZG3
variable {c : Nat → Nat} {S Sm S0 Sm0 : zS} {L Lm : zL} {rd : Value}
theorem t26_168 (h : zGJ 168 c S0 Sm0 S Sm) : ∃ n : Nat, n < 100 ∧ ∃ S' Sm', zcall 26 [.ref 168] zRc S L = some (some (.int (nI n)), zRc, S', L) ∧ zcall 217 [.ref 0, .int 100] (zRm1 rd) Sm Lm = some (some (.int (nI n)), zRm1 rd, Sm', Lm) ∧ zGJ 168 c S0 Sm0 S' Sm' := by
  obtain ⟨-, -, -, -, ⟨g8, ⟨s, hs, es⟩⟩, -⟩ := h.2.1
  refine ⟨(75 * s + 74) % 65537 % 100, by omega, zup S 168 8 (nI ((75 * s + 74) % 65537)), zup Sm 2 1 (nI ((75 * s + 74) % 65537)), ?_, ?_, gj_seed_168 h ⟨(75 * s + 74) % 65537, by omega, rfl⟩⟩
  · unfold zcall
    simp (disch := omega) only [Int32.reduceLT, Int32.reduceLE, Int32.reduceToNatClampNeg, Int32.reduceAdd, Int32.reduceSub, Int32.reduceMul, Nat.reduceLeDiff, zEL, zup_ne, zup_eq, layC, layM1, rowsC, zT0, zT1, zT2, if_true, if_false, S26, g8, es]
    trace_state
    sorry
  · unfold zcall
    simp (disch := omega) only [Int32.reduceLT, Int32.reduceLE, Int32.reduceToNatClampNeg, Int32.reduceAdd, Int32.reduceSub, Int32.reduceMul, Nat.reduceLeDiff, zEL, zup_ne, zup_eq, layC, layM1, rowsC, zT0, zT1, zT2, if_true, if_false, S217, es]
    trace_state
    sorry
theorem t27_168 {p q : Nat} {hi dk dodge does : Int32} (hM : zMD c S Sm) (hG : zGD 168 c S (Sm 2)) (hp : p < c 0) (hq : q < c 0) (hhi : hi = 0 ∨ hi = 1) (hd : (dk = 1 ∧ does = 1) ∨ (dk = 0 ∧ (does = 0 ∨ does = 2))) : ∃ n : Nat, n ≤ 100 ∧ zcall 27 [.ref 168, .int (nI p), .int (nI q), .int hi, .int dodge, .int dk] zRc S L = some (some (.int (nI n)), zRc, S, L) ∧ zcall 218 [.ref 0, .int (nI p), .int (nI q), .int hi, .int does, .int dodge] (zRm1 rd) Sm Lm = some (some (.int (nI n)), zRm1 rd, Sm, Lm) := by
  obtain ⟨⟨b0, b0', b1, -⟩, ⟨a0, -⟩, ⟨m0, -⟩, -, -, hP, -⟩ := hM
  obtain ⟨g0, -⟩ := hG
  obtain ⟨p1, p2, p3, p4, p5, p6, -, ⟨lp, hlp, elp⟩, -, -, ⟨ap, hap, eap⟩, -⟩ := hP p hp
  obtain ⟨q1, q2, q3, q4, q5, q6, -, ⟨lq, hlq, elq⟩, -⟩ := hP q hq
  obtain ⟨r1, -, r3, -, ⟨xp, hxp, exp⟩, -⟩ := g0 p hp
  obtain ⟨r1', -, -, -, ⟨xq, hxq, exq⟩, -⟩ := g0 q hq
  unfold zcall
  simp (disch := omega) only [Int32.reduceLT, Int32.reduceLE, Int32.reduceToNatClampNeg, Int32.reduceAdd, Int32.reduceSub, Int32.reduceMul, Nat.reduceLeDiff, zEL, zup_ne, zup_eq, layC, layM1, rowsC, zT0, zT1, zT2, if_true, if_false, S27, S218, a0, m0, p1, p2, p3, p4, p5, p6, elp, eap, q1, q2, q3, q4, q5, q6, elq, r1, r3, exp, r1', exq]
  trace_state
  sorry
theorem t26_187 (h : zGJ 187 c S0 Sm0 S Sm) : ∃ n : Nat, n < 100 ∧ ∃ S' Sm', zcall 26 [.ref 187] zRc S L = some (some (.int (nI n)), zRc, S', L) ∧ zcall 217 [.ref 0, .int 100] (zRm1 rd) Sm Lm = some (some (.int (nI n)), zRm1 rd, Sm', Lm) ∧ zGJ 187 c S0 Sm0 S' Sm' := by
  obtain ⟨-, -, -, -, ⟨g8, ⟨s, hs, es⟩⟩, -⟩ := h.2.1
  refine ⟨(75 * s + 74) % 65537 % 100, by omega, zup S 187 8 (nI ((75 * s + 74) % 65537)), zup Sm 2 1 (nI ((75 * s + 74) % 65537)), ?_, ?_, gj_seed_187 h ⟨(75 * s + 74) % 65537, by omega, rfl⟩⟩
  · unfold zcall
    simp (disch := omega) only [Int32.reduceLT, Int32.reduceLE, Int32.reduceToNatClampNeg, Int32.reduceAdd, Int32.reduceSub, Int32.reduceMul, Nat.reduceLeDiff, zEL, zup_ne, zup_eq, layC, layM1, rowsC, zT0, zT1, zT2, if_true, if_false, S26, g8, es]
    trace_state
    sorry
  · unfold zcall
    simp (disch := omega) only [Int32.reduceLT, Int32.reduceLE, Int32.reduceToNatClampNeg, Int32.reduceAdd, Int32.reduceSub, Int32.reduceMul, Nat.reduceLeDiff, zEL, zup_ne, zup_eq, layC, layM1, rowsC, zT0, zT1, zT2, if_true, if_false, S217, es]
    trace_state
    sorry
theorem t27_187 {p q : Nat} {hi dk dodge does : Int32} (hM : zMD c S Sm) (hG : zGD 187 c S (Sm 2)) (hp : p < c 0) (hq : q < c 0) (hhi : hi = 0 ∨ hi = 1) (hd : (dk = 1 ∧ does = 1) ∨ (dk = 0 ∧ (does = 0 ∨ does = 2))) : ∃ n : Nat, n ≤ 100 ∧ zcall 27 [.ref 187, .int (nI p), .int (nI q), .int hi, .int dodge, .int dk] zRc S L = some (some (.int (nI n)), zRc, S, L) ∧ zcall 218 [.ref 0, .int (nI p), .int (nI q), .int hi, .int does, .int dodge] (zRm1 rd) Sm Lm = some (some (.int (nI n)), zRm1 rd, Sm, Lm) := by
  obtain ⟨⟨b0, b0', b1, -⟩, ⟨a0, -⟩, ⟨m0, -⟩, -, -, hP, -⟩ := hM
  obtain ⟨g0, -⟩ := hG
  obtain ⟨p1, p2, p3, p4, p5, p6, -, ⟨lp, hlp, elp⟩, -, -, ⟨ap, hap, eap⟩, -⟩ := hP p hp
  obtain ⟨q1, q2, q3, q4, q5, q6, -, ⟨lq, hlq, elq⟩, -⟩ := hP q hq
  obtain ⟨r1, -, r3, -, ⟨xp, hxp, exp⟩, -⟩ := g0 p hp
  obtain ⟨r1', -, -, -, ⟨xq, hxq, exq⟩, -⟩ := g0 q hq
  unfold zcall
  simp (disch := omega) only [Int32.reduceLT, Int32.reduceLE, Int32.reduceToNatClampNeg, Int32.reduceAdd, Int32.reduceSub, Int32.reduceMul, Nat.reduceLeDiff, zEL, zup_ne, zup_eq, layC, layM1, rowsC, zT0, zT1, zT2, if_true, if_false, S27, S218, a0, m0, p1, p2, p3, p4, p5, p6, elp, eap, q1, q2, q3, q4, q5, q6, elq, r1, r3, exp, r1', exq]
  trace_state
  sorry
end ZG3
