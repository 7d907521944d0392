/-! THE TEXT: whole -/
section ZPL
variable {S Sm S' Sm' : zS} {L Lm L' Lm' : zL} {R : List zE} {n B p q : Nat} {b : Nat → Nat}
theorem read_80 {len : Nat} (hR : zLT R) (hB : zLB R B) (hB11 : 11 ≤ B) (h1 : S 1 1 = nI len) (hl : n ≤ len) (hl9 : len ≤ 900) (hb : ∀ i, i < n → b i ≤ 255 ∧ S 3 i = nI (b i)) (hr : zPr_80 S) (hTN : zTN n b Sm) (h10 : Sm 0 10 = 0) (h9 : ¬ Sm 0 9 = 5) (h13 : Sm 0 13 = 0) (hm : Sm B 0 = 0 ∧ Sm B 4 = -1 ∧ Sm B 6 = 0 ∧ Sm B 7 = 0 ∧ Sm B 8 = 0 ∧ Sm B 9 = 0 ∧ Sm B 10 = 0 ∧ Sm B 11 = 0 ∧ Sm B 12 = 0 ∧ Sm B 13 = 0) (hm1 : ∀ h, h < 24 → Sm (B + 1) h = 0) : ∃ S' L' Sm2 Lm2 Sm' Lm', zcall 47 [.ref 80, .int (nI n)] zRc S L = some (some (.int (S' 80 6)), zRc, S', L') ∧ zcall 179 [.ref 0] R Sm Lm = some (none, R, Sm2, Lm2) ∧ zcall 192 [.ref 0] R Sm2 Lm2 = some (none, R, Sm', Lm') ∧ zST 80 n b S' Sm' Lm' ∧ (∀ j k, (j ≠ 1 ∨ (k ≠ 2 ∧ k ≠ 3 ∧ k ≠ 4 ∧ k ≠ 5)) → (j ≠ 80 ∨ (k ≠ 5 ∧ k ≠ 6 ∧ k ≠ 7)) → j ≠ 159 → j ≠ 161 → (j < 81 ∨ 156 < j ∨ ((j = 89 ∨ j = 102 ∨ j = 115 ∨ j = 128) ∧ k = 0)) → S' j k = S j k) ∧ (∀ j k, (j ≠ 0 ∨ k < 8 ∨ 18 < k) → (j < B ∨ B + 29 < j) → Sm' j k = Sm j k) ∧ (∀ j k, j ≠ 157 → L' j k = L j k) ∧ (∀ j k, (j ≠ 0 ∨ k ≠ 15) → j ≠ B + 27 → Lm' j k = Lm j k) ∧ (S' 80 6 = 0 → (∃ N, zPA_80 B N S' Sm' L' Lm') ∧ ¬ S' 81 0 = 0 ∧ ¬ S' 82 3 = 0 ∧ ¬ S' 89 7 = 0) := by
  have r0 := hR
  unfold zLT at r0
  obtain ⟨p, q, hN⟩ := zNX_ex (b := b) (show 0 ≤ n by omega)
  obtain ⟨S1, a1, a2, ⟨g1, g2, g3, g4, g5, g6, g7, g8, g9, g10, g11⟩, a3⟩ := beg_80 (L := L) h1 hl hl9 hb hN
  obtain ⟨Sm2, Lm2, b1, b2, b3, b4⟩ := m179 (Lm := Lm) hR hTN h10 h9 hN
  have hO : zOKs 80 n b p q S1 Sm2 Lm2 := ⟨g2, (b2 0 13 (by omega)).trans h13, zTN_fr hTN (b2 0 7 (by omega)) (fun i => b2 1 i (by omega)), b4⟩
  obtain ⟨m0, m4, m6, m7, m8, m9, m10, m11, m12, m13⟩ := hm
  have bB : ∀ k, Sm2 B k = Sm B k := fun k => b2 B k (by omega)
  have hA : zPA_80 B 0 S1 Sm2 L Lm2 := by
    refine ⟨0, 0, 0, 0, 0, 0, 0, 0, ?_, .inl ⟨g3, (bB 0).trans m0⟩, .inl ⟨g4, (bB 4).trans m4⟩, ⟨by omega, g6, (bB 8).trans m8, fun k h => absurd h (Nat.not_lt_zero k)⟩, ⟨by omega, g7, (bB 7).trans m7, fun k h => absurd h (Nat.not_lt_zero k)⟩, ⟨by omega, g8, (bB 9).trans m9, fun k h => absurd h (Nat.not_lt_zero k)⟩, ⟨by omega, g9, (bB 10).trans m10, fun k h => absurd h (Nat.not_lt_zero k)⟩, ⟨by omega, g10, (bB 11).trans m11, fun k h => absurd h (Nat.not_lt_zero k)⟩, ⟨by omega, g5, (bB 6).trans m6, fun k h => absurd h (Nat.not_lt_zero k), fun h hh => .inl ⟨(b2 _ h (by omega)).trans (hm1 h hh), fun i hi => absurd hi (Nat.not_lt_zero i)⟩, fun h => absurd h (by omega)⟩, ⟨by omega, g11, (bB 12).trans m12, fun k h => absurd h (Nat.not_lt_zero k)⟩, ⟨by omega, g1, (bB 13).trans m13, fun k h => absurd h (Nat.not_lt_zero k)⟩, rfl⟩
    rw [bB, bB, if_pos m0, if_pos m4]
  have hr1 : zPr_80 S1 := by
    obtain ⟨r1, r2, r3, r4⟩ := hr
    exact ⟨(a3 _ _ (by omega) (by omega) (by omega)).trans r1, (a3 _ _ (by omega) (by omega) (by omega)).trans r2, (a3 _ _ (by omega) (by omega) (by omega)).trans r3, (a3 _ _ (by omega) (by omega) (by omega)).trans r4⟩
  obtain ⟨S3, Sm3, L3, Lm3, i', c1, c2, c3, c4, c5⟩ := loop_80 (x := nI n) hR hB hB11 60 0 rfl ⟨p, q, a2, .inl hO⟩ g2 hA hr1
  obtain ⟨S4, Sm4, d1, d2, d3, d4, d5⟩ := end_80 (L := L3) (x := nI n) (i := i') hR hB hB11 c3 c5
  have c1 : zgo 47 34 [.ref 80, .int (nI n), .int 1, .int 0] [] zRc S1 L = _ := c1
  have m0 : zcall 192 [.ref 0] R Sm2 Lm2 = zgo 192 2 [.ref 0, .int 1] [] R Sm2 Lm2 := by
    unfold zcall
    simp (config := {maxSteps := 1000000}) (disch := omega) only [↓reduceIte, Int32.reduceLT, Int32.reduceLE, Int32.reduceToNatClampNeg, Int32.reduceAdd, Int32.reduceSub, Int32.reduceMul, Nat.reduceLeDiff, zEL, zup_ne, zup_eq, zT0, zT1, zT2, if_true, if_false, r0, ze_192, s192_0, s192_1]
  have cM : ∀ j k, 81 ≤ j → j ≤ 156 → S4 j k = S3 j k := fun j k h1 h2 => d4.1 j k (by omega) (by omega)
  refine ⟨S4, L3, Sm2, Lm2, Sm4, Lm3, a1.trans (c1.trans d1), b1, m0.trans (c2.trans d2), d3, fun j k h h2 h3 h4 h5 => ?_, fun j k h h2 => ?_, c4.2.2.1, fun j k h h2 => (c4.2.2.2 j k h h2).trans (b3 j k h), fun h => ?_⟩
  · rw [d4.1 j k (by omega) (by omega), c4.1 j k (by omega) h2 h3 h4 h5, a3 j k h h2 h5]
  · rw [d4.2.1 j k (by omega), c4.2.1 j k h h2, b2 j k (by omega)]
  · obtain ⟨e0, e1, e2, e3⟩ := d5 h
    obtain ⟨N, hA⟩ := c5 e0
    exact ⟨⟨N, zPA_zfr_80 hB11 hA d4⟩, by rw [cM _ _ (by omega) (by omega)]; exact e1, by rw [cM _ _ (by omega) (by omega)]; exact e2, by rw [cM _ _ (by omega) (by omega)]; exact e3⟩
theorem read_162 {len : Nat} (hR : zLT R) (hB : zLB R B) (hB11 : 11 ≤ B) (h1 : S 1 1 = nI len) (hl : n ≤ len) (hl9 : len ≤ 900) (hb : ∀ i, i < n → b i ≤ 255 ∧ S 3 i = nI (b i)) (hr : zPr_162 S) (hTN : zTN n b Sm) (h10 : Sm 0 10 = 0) (h9 : ¬ Sm 0 9 = 5) (h13 : Sm 0 13 = 0) (hm : Sm B 0 = 0 ∧ Sm B 4 = -1 ∧ Sm B 6 = 0 ∧ Sm B 7 = 0 ∧ Sm B 8 = 0 ∧ Sm B 9 = 0 ∧ Sm B 10 = 0 ∧ Sm B 11 = 0 ∧ Sm B 12 = 0 ∧ Sm B 13 = 0) (hm1 : ∀ h, h < 24 → Sm (B + 1) h = 0) : ∃ S' L' Sm2 Lm2 Sm' Lm', zcall 47 [.ref 162, .int (nI n)] zRc S L = some (some (.int (S' 162 6)), zRc, S', L') ∧ zcall 179 [.ref 0] R Sm Lm = some (none, R, Sm2, Lm2) ∧ zcall 192 [.ref 0] R Sm2 Lm2 = some (none, R, Sm', Lm') ∧ zST 162 n b S' Sm' Lm' ∧ (∀ j k, (j ≠ 1 ∨ (k ≠ 2 ∧ k ≠ 3 ∧ k ≠ 4 ∧ k ≠ 5)) → (j ≠ 162 ∨ (k ≠ 5 ∧ k ≠ 6 ∧ k ≠ 7)) → j ≠ 165 → j ≠ 167 → (j < 4 ∨ 79 < j ∨ ((j = 12 ∨ j = 25 ∨ j = 38 ∨ j = 51) ∧ k = 0)) → S' j k = S j k) ∧ (∀ j k, (j ≠ 0 ∨ k < 8 ∨ 18 < k) → (j < B ∨ B + 29 < j) → Sm' j k = Sm j k) ∧ (∀ j k, j ≠ 163 → L' j k = L j k) ∧ (∀ j k, (j ≠ 0 ∨ k ≠ 15) → j ≠ B + 27 → Lm' j k = Lm j k) ∧ (S' 162 6 = 0 → (∃ N, zPA_162 B N S' Sm' L' Lm') ∧ ¬ S' 4 0 = 0 ∧ ¬ S' 5 3 = 0 ∧ ¬ S' 12 7 = 0) := by
  have r0 := hR
  unfold zLT at r0
  obtain ⟨p, q, hN⟩ := zNX_ex (b := b) (show 0 ≤ n by omega)
  obtain ⟨S1, a1, a2, ⟨g1, g2, g3, g4, g5, g6, g7, g8, g9, g10, g11⟩, a3⟩ := beg_162 (L := L) h1 hl hl9 hb hN
  obtain ⟨Sm2, Lm2, b1, b2, b3, b4⟩ := m179 (Lm := Lm) hR hTN h10 h9 hN
  have hO : zOKs 162 n b p q S1 Sm2 Lm2 := ⟨g2, (b2 0 13 (by omega)).trans h13, zTN_fr hTN (b2 0 7 (by omega)) (fun i => b2 1 i (by omega)), b4⟩
  obtain ⟨m0, m4, m6, m7, m8, m9, m10, m11, m12, m13⟩ := hm
  have bB : ∀ k, Sm2 B k = Sm B k := fun k => b2 B k (by omega)
  have hA : zPA_162 B 0 S1 Sm2 L Lm2 := by
    refine ⟨0, 0, 0, 0, 0, 0, 0, 0, ?_, .inl ⟨g3, (bB 0).trans m0⟩, .inl ⟨g4, (bB 4).trans m4⟩, ⟨by omega, g6, (bB 8).trans m8, fun k h => absurd h (Nat.not_lt_zero k)⟩, ⟨by omega, g7, (bB 7).trans m7, fun k h => absurd h (Nat.not_lt_zero k)⟩, ⟨by omega, g8, (bB 9).trans m9, fun k h => absurd h (Nat.not_lt_zero k)⟩, ⟨by omega, g9, (bB 10).trans m10, fun k h => absurd h (Nat.not_lt_zero k)⟩, ⟨by omega, g10, (bB 11).trans m11, fun k h => absurd h (Nat.not_lt_zero k)⟩, ⟨by omega, g5, (bB 6).trans m6, fun k h => absurd h (Nat.not_lt_zero k), fun h hh => .inl ⟨(b2 _ h (by omega)).trans (hm1 h hh), fun i hi => absurd hi (Nat.not_lt_zero i)⟩, fun h => absurd h (by omega)⟩, ⟨by omega, g11, (bB 12).trans m12, fun k h => absurd h (Nat.not_lt_zero k)⟩, ⟨by omega, g1, (bB 13).trans m13, fun k h => absurd h (Nat.not_lt_zero k)⟩, rfl⟩
    rw [bB, bB, if_pos m0, if_pos m4]
  have hr1 : zPr_162 S1 := by
    obtain ⟨r1, r2, r3, r4⟩ := hr
    exact ⟨(a3 _ _ (by omega) (by omega) (by omega)).trans r1, (a3 _ _ (by omega) (by omega) (by omega)).trans r2, (a3 _ _ (by omega) (by omega) (by omega)).trans r3, (a3 _ _ (by omega) (by omega) (by omega)).trans r4⟩
  obtain ⟨S3, Sm3, L3, Lm3, i', c1, c2, c3, c4, c5⟩ := loop_162 (x := nI n) hR hB hB11 60 0 rfl ⟨p, q, a2, .inl hO⟩ g2 hA hr1
  obtain ⟨S4, Sm4, d1, d2, d3, d4, d5⟩ := end_162 (L := L3) (x := nI n) (i := i') hR hB hB11 c3 c5
  have c1 : zgo 47 34 [.ref 162, .int (nI n), .int 1, .int 0] [] zRc S1 L = _ := c1
  have m0 : zcall 192 [.ref 0] R Sm2 Lm2 = zgo 192 2 [.ref 0, .int 1] [] R Sm2 Lm2 := by
    unfold zcall
    simp (config := {maxSteps := 1000000}) (disch := omega) only [↓reduceIte, Int32.reduceLT, Int32.reduceLE, Int32.reduceToNatClampNeg, Int32.reduceAdd, Int32.reduceSub, Int32.reduceMul, Nat.reduceLeDiff, zEL, zup_ne, zup_eq, zT0, zT1, zT2, if_true, if_false, r0, ze_192, s192_0, s192_1]
  have cM : ∀ j k, 4 ≤ j → j ≤ 79 → S4 j k = S3 j k := fun j k h1 h2 => d4.1 j k (by omega) (by omega)
  refine ⟨S4, L3, Sm2, Lm2, Sm4, Lm3, a1.trans (c1.trans d1), b1, m0.trans (c2.trans d2), d3, fun j k h h2 h3 h4 h5 => ?_, fun j k h h2 => ?_, c4.2.2.1, fun j k h h2 => (c4.2.2.2 j k h h2).trans (b3 j k h), fun h => ?_⟩
  · rw [d4.1 j k (by omega) (by omega), c4.1 j k (by omega) h2 h3 h4 h5, a3 j k h h2 h5]
  · rw [d4.2.1 j k (by omega), c4.2.1 j k h h2, b2 j k (by omega)]
  · obtain ⟨e0, e1, e2, e3⟩ := d5 h
    obtain ⟨N, hA⟩ := c5 e0
    exact ⟨⟨N, zPA_zfr_162 hB11 hA d4⟩, by rw [cM _ _ (by omega) (by omega)]; exact e1, by rw [cM _ _ (by omega) (by omega)]; exact e2, by rw [cM _ _ (by omega) (by omega)]; exact e3⟩
end ZPL
