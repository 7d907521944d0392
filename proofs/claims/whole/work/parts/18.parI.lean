/-! THE TEXT: all LINES -/
section ZPI
variable {S Sm S' Sm' : zS} {L Lm L' Lm' : zL} {R : List zE} {n B p q : Nat} {b : Nat → Nat}
theorem zLf_of_80 (h : zfr 80 S Sm Lm S' Sm' Lm') : zLf_80 B S Sm L Lm S' Sm' L Lm' := ⟨fun j k a c d e f => h.1 j k a (by omega), fun j k a c => h.2.1 j k (by omega), fun _ _ _ => rfl, fun j k a c => h.2.2 j k a⟩
theorem zPr_fr_80 (h : zPr_80 S) (f : zLf_80 B S Sm L Lm S' Sm' L' Lm') : zPr_80 S' := by
  obtain ⟨r1, r2, r3, r4⟩ := h
  exact ⟨(f.1 _ _ (by omega) (by omega) (by omega) (by omega) (by omega)).trans r1, (f.1 _ _ (by omega) (by omega) (by omega) (by omega) (by omega)).trans r2, (f.1 _ _ (by omega) (by omega) (by omega) (by omega) (by omega)).trans r3, (f.1 _ _ (by omega) (by omega) (by omega) (by omega) (by omega)).trans r4⟩
theorem zPA_zfr_80 {N : Nat} (hB11 : 11 ≤ B) (h : zPA_80 B N S Sm L Lm) (f : zfr 80 S Sm Lm S' Sm' Lm') : zPA_80 B N S' Sm' L Lm' := by
  obtain ⟨c0, c1, c2, c3, c4, c5, c6, k, eN, hlw, hrf, hpl, hbl, hsi, hpr, hac, hsn, hgu, hnm, ek⟩ := h
  have m := f.2.1
  have c := f.1
  refine ⟨c0, c1, c2, c3, c4, c5, c6, k, by rw [eN, m B 0 (by omega), m B 4 (by omega)], zPlw_fr_80 hlw (fun i h => c _ i (by omega) (by omega)) (fun i h => m _ i (by omega)), zPrf_fr_80 hrf (fun i h h2 => c _ i (by omega) (by omega)) (fun i h => m _ i (by omega)), zPpl_fr_80 hpl (fun j i h => c j i (by omega) (by omega)) (fun j i h => m j i (by omega)), zPbl_fr_80 hbl (fun j i h => c j i (by omega) (by omega)) (fun j i h => m j i (by omega)), zPsi_fr_80 hsi (fun j i h => c j i (by omega) (by omega)) (fun j i h => m j i (by omega)), zPpr_fr_80 hpr (fun j i h => c j i (by omega) (by omega)) (fun j i h => m j i (by omega)), zPac_fr_80 hac (fun j i h => c j i (by omega) (by omega)) (fun j i h => m j i (by omega)), zPsn_fr_80 hsn (fun j i h => c j i (by omega) (by omega)) (fun j i h => m j i (by omega)), zPgu_fr_80 hgu (fun j i h => c j i (by omega) (by omega)) (fun j i h => m j i (by omega)), zPnm_fr_80 hnm (fun j i h => c j i (by omega) (by omega)) (fun j i h => m j i (by omega)) (fun i => rfl) (fun i => f.2.2 _ i (by omega)), ek⟩
/-- a semicolon, or none -/
theorem sem_80 {x i : Int32} (hR : zLT R) (h : zST 80 n b S Sm Lm) : ∃ f : Bool, ∃ S' Sm' Lm', zgo 47 245 [.ref 80, .int x, .int 1, .int i] [] zRc S L = zgo 47 280 [.ref 80, .int x, .int (zbi f), .int i] [] zRc S' L ∧ zcall 182 [.ref 0, .int 59] R Sm Lm = some (some (.int (zbi f)), R, Sm', Lm') ∧ zST 80 n b S' Sm' Lm' ∧ zfr 80 S Sm Lm S' Sm' Lm' ∧ (f = true → S 80 6 = 0) ∧ (S' 80 6 = 0 → S 80 6 = 0) ∧ (S 80 6 = 0 → S' 80 6 = 0) := by
  have r0 := hR
  unfold zLT at r0
  obtain ⟨p, q, hT, hO⟩ := h
  have t2 := hT.2.2.2.2.1
  have hr := @zkN_r n p q b
  rcases hO with hO | hF
  · have h6 := hO.1
    obtain ⟨m8, m9, m10, m11, m12, -⟩ := hO.2.2.2
    by_cases hk : zkN b n p q = 3
    · obtain ⟨S', Sm', Lm', a1, a2, a3, a4, a5⟩ := zsn_80 (L := L) hR hT hO (by omega) (by omega)
      have m11 := m11 hk
      rw [hk] at t2 m9
      have t2 : S 1 2 = 3 := t2
      have m9 : Sm 0 9 = 4 := m9
      refine ⟨true, S', Sm', Lm', ?_, ?_, a3, a4, fun _ => h6, fun _ => h6, fun _ => a5⟩
      · rw [zbi_t]
        simp (config := {maxSteps := 1000000}) (disch := omega) only [↓reduceIte, Int32.reduceLT, Int32.reduceLE, Int32.reduceToNatClampNeg, Int32.reduceAdd, Int32.reduceSub, Int32.reduceMul, Nat.reduceLeDiff, zEL, zup_ne, zup_eq, zT0, zT1, zT2, if_true, if_false, gR, gX, s47_245, s47_246, s47_249, s47_252, s47_253, s47_256, s47_259, s47_260, s47_263, s47_264, s47_267, s47_268, s47_269, s47_270, s47_273, s47_274, s47_277, t2, h6, a1]
      · unfold zcall
        rw [zbi_t]
        simp (config := {maxSteps := 1000000}) (disch := omega) only [↓reduceIte, Int32.reduceLT, Int32.reduceLE, Int32.reduceToNatClampNeg, Int32.reduceAdd, Int32.reduceSub, Int32.reduceMul, Nat.reduceLeDiff, zEL, zup_ne, zup_eq, zT0, zT1, zT2, if_true, if_false, r0, ze_182, s182_0, s182_1, s182_4, s182_5, s182_8, s182_9, s182_12, s182_13, s182_16, s182_17, s182_20, s182_21, s182_22, s182_23, s182_26, s182_27, s182_30, s182_31, m9, m11, a2]
    · refine ⟨false, S, Sm, Lm, ?_, ?_, ⟨p, q, hT, .inl hO⟩, zfr_r, fun h => absurd h (by decide), fun h => h, fun h => h⟩
      · have t3 : (S 1 2 = 3) = False := eq_false (by rw [t2]; intro h9; exact hk ((znI_inj (b := 3) (by omega) (by omega)).mp h9))
        rw [zbi_f]
        simp (config := {maxSteps := 1000000}) (disch := omega) only [↓reduceIte, Int32.reduceLT, Int32.reduceLE, Int32.reduceToNatClampNeg, Int32.reduceAdd, Int32.reduceSub, Int32.reduceMul, Nat.reduceLeDiff, zEL, zup_ne, zup_eq, zT0, zT1, zT2, if_true, if_false, gR, gX, s47_245, s47_246, s47_249, s47_252, s47_253, s47_256, s47_259, s47_260, s47_263, s47_264, s47_267, s47_268, s47_269, s47_270, s47_273, s47_274, s47_277, t3, h6]
      · unfold zcall
        rw [zbi_f]
        rcases (show zkN b n p q = 4 ∨ zkN b n p q ≠ 4 by omega) with hk3 | hk3
        · have m12 := m12 hk3
          rw [hk3] at m9
          have m9 : Sm 0 9 = 4 := m9
          have c1 : ((44 : Int32) = 59) = False := by decide
          simp (config := {maxSteps := 1000000}) (disch := omega) only [↓reduceIte, Int32.reduceLT, Int32.reduceLE, Int32.reduceToNatClampNeg, Int32.reduceAdd, Int32.reduceSub, Int32.reduceMul, Nat.reduceLeDiff, zEL, zup_ne, zup_eq, zT0, zT1, zT2, if_true, if_false, r0, ze_182, s182_0, s182_1, s182_4, s182_5, s182_8, s182_9, s182_12, s182_13, s182_16, s182_17, s182_20, s182_21, s182_22, s182_23, s182_26, s182_27, s182_30, s182_31, m9, m12, c1]
        · have m92 : (nI (zst (zkN b n p q)) = 4) = False := by
            unfold zst
            rcases (show zkN b n p q = 0 ∨ zkN b n p q = 1 ∨ zkN b n p q = 2 ∨ zkN b n p q = 5 by omega) with e | e | e | e <;> rw [e] <;> decide
          simp (config := {maxSteps := 1000000}) (disch := omega) only [↓reduceIte, Int32.reduceLT, Int32.reduceLE, Int32.reduceToNatClampNeg, Int32.reduceAdd, Int32.reduceSub, Int32.reduceMul, Nat.reduceLeDiff, zEL, zup_ne, zup_eq, zT0, zT1, zT2, if_true, if_false, r0, ze_182, s182_0, s182_1, s182_4, s182_5, s182_8, s182_9, s182_12, s182_13, s182_16, s182_17, s182_20, s182_21, s182_22, s182_23, s182_26, s182_27, s182_30, s182_31, m9, m92]
  · have hne := zFA_ne hF
    have m9 : Sm 0 9 = 5 := by obtain ⟨f, pl, -, -, -, -, -, h9, -⟩ := hF; exact h9
    have c1 : ((5 : Int32) = 4) = False := by decide
    refine ⟨false, S, Sm, Lm, ?_, ?_, ⟨p, q, hT, .inr hF⟩, zfr_r, fun h => absurd h (by decide), fun h => h, fun h => h⟩
    · rw [zbi_f]
      simp (config := {maxSteps := 1000000}) (disch := omega) only [↓reduceIte, Int32.reduceLT, Int32.reduceLE, Int32.reduceToNatClampNeg, Int32.reduceAdd, Int32.reduceSub, Int32.reduceMul, Nat.reduceLeDiff, zEL, zup_ne, zup_eq, zT0, zT1, zT2, if_true, if_false, gR, gX, s47_245, s47_246, s47_249, s47_252, s47_253, s47_256, s47_259, s47_260, s47_263, s47_264, s47_267, s47_268, s47_269, s47_270, s47_273, s47_274, s47_277, hne]
    · unfold zcall
      rw [zbi_f]
      simp (config := {maxSteps := 1000000}) (disch := omega) only [↓reduceIte, Int32.reduceLT, Int32.reduceLE, Int32.reduceToNatClampNeg, Int32.reduceAdd, Int32.reduceSub, Int32.reduceMul, Nat.reduceLeDiff, zEL, zup_ne, zup_eq, zT0, zT1, zT2, if_true, if_false, r0, ze_182, s182_0, s182_1, s182_4, s182_5, s182_8, s182_9, s182_12, s182_13, s182_16, s182_17, s182_20, s182_21, s182_22, s182_23, s182_26, s182_27, s182_30, s182_31, m9, c1]
theorem loop_80 {x : Int32} (hR : zLT R) (hB : zLB R B) (hB11 : 11 ≤ B) : ∀ d i, i + d = 60 → ∀ {S Sm : zS} {L Lm : zL}, zST 80 n b S Sm Lm → S 80 6 = 0 → zPA_80 B i S Sm L Lm → zPr_80 S → ∃ S' Sm' L' Lm', ∃ i' : Int32, zgo 47 34 [.ref 80, .int x, .int 1, .int (nI i)] [] zRc S L = zgo 47 286 [.ref 80, .int x, .int 0, .int i'] [] zRc S' L' ∧ zgo 192 2 [.ref 0, .int 1] [] R Sm Lm = zgo 192 20 [.ref 0, .int 0] [] R Sm' Lm' ∧ zST 80 n b S' Sm' Lm' ∧ zLf_80 B S Sm L Lm S' Sm' L' Lm' ∧ (S' 80 6 = 0 → ∃ N, zPA_80 B N S' Sm' L' Lm') := by
  have r0 := hR
  unfold zLT at r0
  intro d
  induction d with
  | zero =>
    intro i hd S Sm L Lm _ _ hA _
    have := zPA_le_80 hA
    omega
  | succ d ih =>
    intro i hd S Sm L Lm h h6 hA hr
    have hi := zPA_le_80 hA
    have e9 : (900 < nI i) = False := eq_false (fun h => by rw [show (900 : Int32) = nI 900 from rfl, znI_lt (by omega) (by omega)] at h; omega)
    have e8 : (nI i ≤ 900) = True := eq_true (by rw [show (900 : Int32) = nI 900 from rfl, znI_le (by omega) (by omega)]; omega)
    obtain ⟨S1, Sm1, L1, Lm1, a1, a2, a3, a4, a5⟩ := line_80 (x := x) (i := nI i) hR hB hB11 h h6 hA hr
    obtain ⟨f, S2, Sm2, Lm2, b1, b2, b3, b4, b5, b6, b7⟩ := sem_80 (L := L1) (x := x) (i := nI i) hR a3
    have fr := zLf_t_80 a4 (zLf_of_80 (B := B) (L := L1) b4)
    have c1 : zgo 47 34 [.ref 80, .int x, .int 1, .int (nI i)] [] zRc S L = zgo 47 45 [.ref 80, .int x, .int 1, .int (nI i)] [] zRc S L := by
      simp (config := {maxSteps := 1000000}) (disch := omega) only [↓reduceIte, Int32.reduceLT, Int32.reduceLE, Int32.reduceToNatClampNeg, Int32.reduceAdd, Int32.reduceSub, Int32.reduceMul, Nat.reduceLeDiff, zEL, zup_ne, zup_eq, zT0, zT1, zT2, if_true, if_false, gR, gX, s47_34, s47_35, s47_38, s47_39, s47_42, e9, e8]
    have c2 : zgo 47 280 [.ref 80, .int x, .int (zbi f), .int (nI i)] [] zRc S2 L1 = zgo 47 34 [.ref 80, .int x, .int (zbi f), .int (nI (i + 1))] [] zRc S2 L1 := by
      simp (config := {maxSteps := 1000000}) (disch := omega) only [↓reduceIte, Int32.reduceLT, Int32.reduceLE, Int32.reduceToNatClampNeg, Int32.reduceAdd, Int32.reduceSub, Int32.reduceMul, Nat.reduceLeDiff, zEL, zup_ne, zup_eq, zT0, zT1, zT2, if_true, if_false, gR, gX, s47_280, s47_283]
    have d1 : zgo 192 2 [.ref 0, .int 1] [] R Sm Lm = zgo 192 2 [.ref 0, .int (zbi f)] [] R Sm2 Lm2 := by
      have : zgo 192 2 [.ref 0, .int 1] [] R Sm Lm = zgo 192 6 [.ref 0, .int 1] [] R Sm Lm := by
        simp (config := {maxSteps := 1000000}) (disch := omega) only [↓reduceIte, Int32.reduceLT, Int32.reduceLE, Int32.reduceToNatClampNeg, Int32.reduceAdd, Int32.reduceSub, Int32.reduceMul, Nat.reduceLeDiff, zEL, zup_ne, zup_eq, zT0, zT1, zT2, if_true, if_false, r0, s192_2, s192_3]
      rw [this]
      simp (config := {maxSteps := 1000000}) (disch := omega) only [↓reduceIte, Int32.reduceLT, Int32.reduceLE, Int32.reduceToNatClampNeg, Int32.reduceAdd, Int32.reduceSub, Int32.reduceMul, Nat.reduceLeDiff, zEL, zup_ne, zup_eq, zT0, zT1, zT2, if_true, if_false, r0, s192_6, s192_7, s192_10, s192_11, s192_13, s192_16, s192_17, a2, b2]
    rw [c1, a1, b1, c2, d1]
    cases f with
    | true =>
      obtain ⟨S', Sm', L', Lm', i', g1, g2, g3, g4, g5⟩ := ih (i + 1) (by omega) b3 (b7 (b5 rfl)) (zPA_zfr_80 hB11 (a5 (b5 rfl)) b4) (zPr_fr_80 hr fr)
      exact ⟨S', Sm', L', Lm', i', g1, g2, g3, zLf_t_80 fr g4, g5⟩
    | false =>
      refine ⟨S2, Sm2, L1, Lm2, nI (i + 1), ?_, ?_, b3, fr, fun h => ⟨i + 1, zPA_zfr_80 hB11 (a5 (b6 h)) b4⟩⟩
      · rw [zbi_f]
        simp (config := {maxSteps := 1000000}) (disch := omega) only [↓reduceIte, Int32.reduceLT, Int32.reduceLE, Int32.reduceToNatClampNeg, Int32.reduceAdd, Int32.reduceSub, Int32.reduceMul, Nat.reduceLeDiff, zEL, zup_ne, zup_eq, zT0, zT1, zT2, if_true, if_false, gR, gX, s47_34, s47_35]
      · rw [zbi_f]
        simp (config := {maxSteps := 1000000}) (disch := omega) only [↓reduceIte, Int32.reduceLT, Int32.reduceLE, Int32.reduceToNatClampNeg, Int32.reduceAdd, Int32.reduceSub, Int32.reduceMul, Nat.reduceLeDiff, zEL, zup_ne, zup_eq, zT0, zT1, zT2, if_true, if_false, r0, s192_2, s192_3]
theorem zLf_of_162 (h : zfr 162 S Sm Lm S' Sm' Lm') : zLf_162 B S Sm L Lm S' Sm' L Lm' := ⟨fun j k a c d e f => h.1 j k a (by omega), fun j k a c => h.2.1 j k (by omega), fun _ _ _ => rfl, fun j k a c => h.2.2 j k a⟩
theorem zPr_fr_162 (h : zPr_162 S) (f : zLf_162 B S Sm L Lm S' Sm' L' Lm') : zPr_162 S' := by
  obtain ⟨r1, r2, r3, r4⟩ := h
  exact ⟨(f.1 _ _ (by omega) (by omega) (by omega) (by omega) (by omega)).trans r1, (f.1 _ _ (by omega) (by omega) (by omega) (by omega) (by omega)).trans r2, (f.1 _ _ (by omega) (by omega) (by omega) (by omega) (by omega)).trans r3, (f.1 _ _ (by omega) (by omega) (by omega) (by omega) (by omega)).trans r4⟩
theorem zPA_zfr_162 {N : Nat} (hB11 : 11 ≤ B) (h : zPA_162 B N S Sm L Lm) (f : zfr 162 S Sm Lm S' Sm' Lm') : zPA_162 B N S' Sm' L Lm' := by
  obtain ⟨c0, c1, c2, c3, c4, c5, c6, k, eN, hlw, hrf, hpl, hbl, hsi, hpr, hac, hsn, hgu, hnm, ek⟩ := h
  have m := f.2.1
  have c := f.1
  refine ⟨c0, c1, c2, c3, c4, c5, c6, k, by rw [eN, m B 0 (by omega), m B 4 (by omega)], zPlw_fr_162 hlw (fun i h => c _ i (by omega) (by omega)) (fun i h => m _ i (by omega)), zPrf_fr_162 hrf (fun i h h2 => c _ i (by omega) (by omega)) (fun i h => m _ i (by omega)), zPpl_fr_162 hpl (fun j i h => c j i (by omega) (by omega)) (fun j i h => m j i (by omega)), zPbl_fr_162 hbl (fun j i h => c j i (by omega) (by omega)) (fun j i h => m j i (by omega)), zPsi_fr_162 hsi (fun j i h => c j i (by omega) (by omega)) (fun j i h => m j i (by omega)), zPpr_fr_162 hpr (fun j i h => c j i (by omega) (by omega)) (fun j i h => m j i (by omega)), zPac_fr_162 hac (fun j i h => c j i (by omega) (by omega)) (fun j i h => m j i (by omega)), zPsn_fr_162 hsn (fun j i h => c j i (by omega) (by omega)) (fun j i h => m j i (by omega)), zPgu_fr_162 hgu (fun j i h => c j i (by omega) (by omega)) (fun j i h => m j i (by omega)), zPnm_fr_162 hnm (fun j i h => c j i (by omega) (by omega)) (fun j i h => m j i (by omega)) (fun i => rfl) (fun i => f.2.2 _ i (by omega)), ek⟩
/-- a semicolon, or none -/
theorem sem_162 {x i : Int32} (hR : zLT R) (h : zST 162 n b S Sm Lm) : ∃ f : Bool, ∃ S' Sm' Lm', zgo 47 245 [.ref 162, .int x, .int 1, .int i] [] zRc S L = zgo 47 280 [.ref 162, .int x, .int (zbi f), .int i] [] zRc S' L ∧ zcall 182 [.ref 0, .int 59] R Sm Lm = some (some (.int (zbi f)), R, Sm', Lm') ∧ zST 162 n b S' Sm' Lm' ∧ zfr 162 S Sm Lm S' Sm' Lm' ∧ (f = true → S 162 6 = 0) ∧ (S' 162 6 = 0 → S 162 6 = 0) ∧ (S 162 6 = 0 → S' 162 6 = 0) := by
  have r0 := hR
  unfold zLT at r0
  obtain ⟨p, q, hT, hO⟩ := h
  have t2 := hT.2.2.2.2.1
  have hr := @zkN_r n p q b
  rcases hO with hO | hF
  · have h6 := hO.1
    obtain ⟨m8, m9, m10, m11, m12, -⟩ := hO.2.2.2
    by_cases hk : zkN b n p q = 3
    · obtain ⟨S', Sm', Lm', a1, a2, a3, a4, a5⟩ := zsn_162 (L := L) hR hT hO (by omega) (by omega)
      have m11 := m11 hk
      rw [hk] at t2 m9
      have t2 : S 1 2 = 3 := t2
      have m9 : Sm 0 9 = 4 := m9
      refine ⟨true, S', Sm', Lm', ?_, ?_, a3, a4, fun _ => h6, fun _ => h6, fun _ => a5⟩
      · rw [zbi_t]
        simp (config := {maxSteps := 1000000}) (disch := omega) only [↓reduceIte, Int32.reduceLT, Int32.reduceLE, Int32.reduceToNatClampNeg, Int32.reduceAdd, Int32.reduceSub, Int32.reduceMul, Nat.reduceLeDiff, zEL, zup_ne, zup_eq, zT0, zT1, zT2, if_true, if_false, gR, gX, s47_245, s47_246, s47_249, s47_252, s47_253, s47_256, s47_259, s47_260, s47_263, s47_264, s47_267, s47_268, s47_269, s47_270, s47_273, s47_274, s47_277, t2, h6, a1]
      · unfold zcall
        rw [zbi_t]
        simp (config := {maxSteps := 1000000}) (disch := omega) only [↓reduceIte, Int32.reduceLT, Int32.reduceLE, Int32.reduceToNatClampNeg, Int32.reduceAdd, Int32.reduceSub, Int32.reduceMul, Nat.reduceLeDiff, zEL, zup_ne, zup_eq, zT0, zT1, zT2, if_true, if_false, r0, ze_182, s182_0, s182_1, s182_4, s182_5, s182_8, s182_9, s182_12, s182_13, s182_16, s182_17, s182_20, s182_21, s182_22, s182_23, s182_26, s182_27, s182_30, s182_31, m9, m11, a2]
    · refine ⟨false, S, Sm, Lm, ?_, ?_, ⟨p, q, hT, .inl hO⟩, zfr_r, fun h => absurd h (by decide), fun h => h, fun h => h⟩
      · have t3 : (S 1 2 = 3) = False := eq_false (by rw [t2]; intro h9; exact hk ((znI_inj (b := 3) (by omega) (by omega)).mp h9))
        rw [zbi_f]
        simp (config := {maxSteps := 1000000}) (disch := omega) only [↓reduceIte, Int32.reduceLT, Int32.reduceLE, Int32.reduceToNatClampNeg, Int32.reduceAdd, Int32.reduceSub, Int32.reduceMul, Nat.reduceLeDiff, zEL, zup_ne, zup_eq, zT0, zT1, zT2, if_true, if_false, gR, gX, s47_245, s47_246, s47_249, s47_252, s47_253, s47_256, s47_259, s47_260, s47_263, s47_264, s47_267, s47_268, s47_269, s47_270, s47_273, s47_274, s47_277, t3, h6]
      · unfold zcall
        rw [zbi_f]
        rcases (show zkN b n p q = 4 ∨ zkN b n p q ≠ 4 by omega) with hk3 | hk3
        · have m12 := m12 hk3
          rw [hk3] at m9
          have m9 : Sm 0 9 = 4 := m9
          have c1 : ((44 : Int32) = 59) = False := by decide
          simp (config := {maxSteps := 1000000}) (disch := omega) only [↓reduceIte, Int32.reduceLT, Int32.reduceLE, Int32.reduceToNatClampNeg, Int32.reduceAdd, Int32.reduceSub, Int32.reduceMul, Nat.reduceLeDiff, zEL, zup_ne, zup_eq, zT0, zT1, zT2, if_true, if_false, r0, ze_182, s182_0, s182_1, s182_4, s182_5, s182_8, s182_9, s182_12, s182_13, s182_16, s182_17, s182_20, s182_21, s182_22, s182_23, s182_26, s182_27, s182_30, s182_31, m9, m12, c1]
        · have m92 : (nI (zst (zkN b n p q)) = 4) = False := by
            unfold zst
            rcases (show zkN b n p q = 0 ∨ zkN b n p q = 1 ∨ zkN b n p q = 2 ∨ zkN b n p q = 5 by omega) with e | e | e | e <;> rw [e] <;> decide
          simp (config := {maxSteps := 1000000}) (disch := omega) only [↓reduceIte, Int32.reduceLT, Int32.reduceLE, Int32.reduceToNatClampNeg, Int32.reduceAdd, Int32.reduceSub, Int32.reduceMul, Nat.reduceLeDiff, zEL, zup_ne, zup_eq, zT0, zT1, zT2, if_true, if_false, r0, ze_182, s182_0, s182_1, s182_4, s182_5, s182_8, s182_9, s182_12, s182_13, s182_16, s182_17, s182_20, s182_21, s182_22, s182_23, s182_26, s182_27, s182_30, s182_31, m9, m92]
  · have hne := zFA_ne hF
    have m9 : Sm 0 9 = 5 := by obtain ⟨f, pl, -, -, -, -, -, h9, -⟩ := hF; exact h9
    have c1 : ((5 : Int32) = 4) = False := by decide
    refine ⟨false, S, Sm, Lm, ?_, ?_, ⟨p, q, hT, .inr hF⟩, zfr_r, fun h => absurd h (by decide), fun h => h, fun h => h⟩
    · rw [zbi_f]
      simp (config := {maxSteps := 1000000}) (disch := omega) only [↓reduceIte, Int32.reduceLT, Int32.reduceLE, Int32.reduceToNatClampNeg, Int32.reduceAdd, Int32.reduceSub, Int32.reduceMul, Nat.reduceLeDiff, zEL, zup_ne, zup_eq, zT0, zT1, zT2, if_true, if_false, gR, gX, s47_245, s47_246, s47_249, s47_252, s47_253, s47_256, s47_259, s47_260, s47_263, s47_264, s47_267, s47_268, s47_269, s47_270, s47_273, s47_274, s47_277, hne]
    · unfold zcall
      rw [zbi_f]
      simp (config := {maxSteps := 1000000}) (disch := omega) only [↓reduceIte, Int32.reduceLT, Int32.reduceLE, Int32.reduceToNatClampNeg, Int32.reduceAdd, Int32.reduceSub, Int32.reduceMul, Nat.reduceLeDiff, zEL, zup_ne, zup_eq, zT0, zT1, zT2, if_true, if_false, r0, ze_182, s182_0, s182_1, s182_4, s182_5, s182_8, s182_9, s182_12, s182_13, s182_16, s182_17, s182_20, s182_21, s182_22, s182_23, s182_26, s182_27, s182_30, s182_31, m9, c1]
theorem loop_162 {x : Int32} (hR : zLT R) (hB : zLB R B) (hB11 : 11 ≤ B) : ∀ d i, i + d = 60 → ∀ {S Sm : zS} {L Lm : zL}, zST 162 n b S Sm Lm → S 162 6 = 0 → zPA_162 B i S Sm L Lm → zPr_162 S → ∃ S' Sm' L' Lm', ∃ i' : Int32, zgo 47 34 [.ref 162, .int x, .int 1, .int (nI i)] [] zRc S L = zgo 47 286 [.ref 162, .int x, .int 0, .int i'] [] zRc S' L' ∧ zgo 192 2 [.ref 0, .int 1] [] R Sm Lm = zgo 192 20 [.ref 0, .int 0] [] R Sm' Lm' ∧ zST 162 n b S' Sm' Lm' ∧ zLf_162 B S Sm L Lm S' Sm' L' Lm' ∧ (S' 162 6 = 0 → ∃ N, zPA_162 B N S' Sm' L' Lm') := by
  have r0 := hR
  unfold zLT at r0
  intro d
  induction d with
  | zero =>
    intro i hd S Sm L Lm _ _ hA _
    have := zPA_le_162 hA
    omega
  | succ d ih =>
    intro i hd S Sm L Lm h h6 hA hr
    have hi := zPA_le_162 hA
    have e9 : (900 < nI i) = False := eq_false (fun h => by rw [show (900 : Int32) = nI 900 from rfl, znI_lt (by omega) (by omega)] at h; omega)
    have e8 : (nI i ≤ 900) = True := eq_true (by rw [show (900 : Int32) = nI 900 from rfl, znI_le (by omega) (by omega)]; omega)
    obtain ⟨S1, Sm1, L1, Lm1, a1, a2, a3, a4, a5⟩ := line_162 (x := x) (i := nI i) hR hB hB11 h h6 hA hr
    obtain ⟨f, S2, Sm2, Lm2, b1, b2, b3, b4, b5, b6, b7⟩ := sem_162 (L := L1) (x := x) (i := nI i) hR a3
    have fr := zLf_t_162 a4 (zLf_of_162 (B := B) (L := L1) b4)
    have c1 : zgo 47 34 [.ref 162, .int x, .int 1, .int (nI i)] [] zRc S L = zgo 47 45 [.ref 162, .int x, .int 1, .int (nI i)] [] zRc S L := by
      simp (config := {maxSteps := 1000000}) (disch := omega) only [↓reduceIte, Int32.reduceLT, Int32.reduceLE, Int32.reduceToNatClampNeg, Int32.reduceAdd, Int32.reduceSub, Int32.reduceMul, Nat.reduceLeDiff, zEL, zup_ne, zup_eq, zT0, zT1, zT2, if_true, if_false, gR, gX, s47_34, s47_35, s47_38, s47_39, s47_42, e9, e8]
    have c2 : zgo 47 280 [.ref 162, .int x, .int (zbi f), .int (nI i)] [] zRc S2 L1 = zgo 47 34 [.ref 162, .int x, .int (zbi f), .int (nI (i + 1))] [] zRc S2 L1 := by
      simp (config := {maxSteps := 1000000}) (disch := omega) only [↓reduceIte, Int32.reduceLT, Int32.reduceLE, Int32.reduceToNatClampNeg, Int32.reduceAdd, Int32.reduceSub, Int32.reduceMul, Nat.reduceLeDiff, zEL, zup_ne, zup_eq, zT0, zT1, zT2, if_true, if_false, gR, gX, s47_280, s47_283]
    have d1 : zgo 192 2 [.ref 0, .int 1] [] R Sm Lm = zgo 192 2 [.ref 0, .int (zbi f)] [] R Sm2 Lm2 := by
      have : zgo 192 2 [.ref 0, .int 1] [] R Sm Lm = zgo 192 6 [.ref 0, .int 1] [] R Sm Lm := by
        simp (config := {maxSteps := 1000000}) (disch := omega) only [↓reduceIte, Int32.reduceLT, Int32.reduceLE, Int32.reduceToNatClampNeg, Int32.reduceAdd, Int32.reduceSub, Int32.reduceMul, Nat.reduceLeDiff, zEL, zup_ne, zup_eq, zT0, zT1, zT2, if_true, if_false, r0, s192_2, s192_3]
      rw [this]
      simp (config := {maxSteps := 1000000}) (disch := omega) only [↓reduceIte, Int32.reduceLT, Int32.reduceLE, Int32.reduceToNatClampNeg, Int32.reduceAdd, Int32.reduceSub, Int32.reduceMul, Nat.reduceLeDiff, zEL, zup_ne, zup_eq, zT0, zT1, zT2, if_true, if_false, r0, s192_6, s192_7, s192_10, s192_11, s192_13, s192_16, s192_17, a2, b2]
    rw [c1, a1, b1, c2, d1]
    cases f with
    | true =>
      obtain ⟨S', Sm', L', Lm', i', g1, g2, g3, g4, g5⟩ := ih (i + 1) (by omega) b3 (b7 (b5 rfl)) (zPA_zfr_162 hB11 (a5 (b5 rfl)) b4) (zPr_fr_162 hr fr)
      exact ⟨S', Sm', L', Lm', i', g1, g2, g3, zLf_t_162 fr g4, g5⟩
    | false =>
      refine ⟨S2, Sm2, L1, Lm2, nI (i + 1), ?_, ?_, b3, fr, fun h => ⟨i + 1, zPA_zfr_162 hB11 (a5 (b6 h)) b4⟩⟩
      · rw [zbi_f]
        simp (config := {maxSteps := 1000000}) (disch := omega) only [↓reduceIte, Int32.reduceLT, Int32.reduceLE, Int32.reduceToNatClampNeg, Int32.reduceAdd, Int32.reduceSub, Int32.reduceMul, Nat.reduceLeDiff, zEL, zup_ne, zup_eq, zT0, zT1, zT2, if_true, if_false, gR, gX, s47_34, s47_35]
      · rw [zbi_f]
        simp (config := {maxSteps := 1000000}) (disch := omega) only [↓reduceIte, Int32.reduceLT, Int32.reduceLE, Int32.reduceToNatClampNeg, Int32.reduceAdd, Int32.reduceSub, Int32.reduceMul, Nat.reduceLeDiff, zEL, zup_ne, zup_eq, zT0, zT1, zT2, if_true, if_false, r0, s192_2, s192_3]
end ZPI
