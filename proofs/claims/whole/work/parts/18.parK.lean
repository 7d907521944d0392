/-! THE TEXT: its beginning, on the class's side -/
section ZPK
variable {S Sm S' Sm' : zS} {L Lm L' Lm' : zL} {R : List zE} {n B p q : Nat} {b : Nat → Nat}
theorem t89 {len : Nat} (h1 : S 1 1 = nI len) (hl : n ≤ len) (hl9 : len ≤ 900) (hb : ∀ i, i < n → b i ≤ 255 ∧ S 3 i = nI (b i)) (hN : zNX b n 0 p q) : ∃ S', zcall 89 [.ref 1, .int (nI n)] zRc S L = some (none, zRc, S', L) ∧ zTKc n b p q S' ∧ (∀ j k, (j ≠ 1 ∨ (k ≠ 2 ∧ k ≠ 3 ∧ k ≠ 4 ∧ k ≠ 5)) → S' j k = S j k) := by
  have e1 : (nI len < nI n) = False := eq_false (fun h => by rw [znI_lt (by omega) (by omega)] at h; omega)
  have hT : zTC n b (zup (zup S 1 5 (nI n)) 1 4 0) := ⟨by omega, by rw [zup_ne (by omega), zup_eq rfl rfl], fun i hi => by rw [zup_ne (by omega), zup_ne (by omega)]; exact hb i hi⟩
  obtain ⟨S1, a1, a2, a3, a4, a5⟩ := c90 (L := L) hT (zup_eq rfl rfl) hN
  refine ⟨S1, ?_, ⟨zTC_fr hT (a2 1 5 (by omega)) (fun i => a2 3 i (by omega)), hN.1.2.1, hN.2, a4, a3, a5⟩, fun j k h => by rw [a2 j k (by omega), zup_ne (by omega), zup_ne (by omega)]⟩
  unfold zcall
  simp (config := {maxSteps := 1000000}) (disch := omega) only [↓reduceIte, Int32.reduceLT, Int32.reduceLE, Int32.reduceToNatClampNeg, Int32.reduceAdd, Int32.reduceSub, Int32.reduceMul, Nat.reduceLeDiff, zEL, zup_ne, zup_eq, zT0, zT1, zT2, if_true, if_false, gR, gX, ze_89, s89_0, s89_1, s89_2, s89_3, s89_6, s89_9, s89_12, s89_13, s89_14, s89_17, s89_18, s89_21, h1, e1, a1]
theorem t44_80 : zcall 44 [.ref 81] zRc S L = some (none, zRc, zup (zup (zup (zup (zup (zup (zup (zup (zup S 81 0 0) 81 5 0) 82 3 0) 89 7 0) 102 7 0) 115 7 0) 128 7 0) 141 4 0) 150 3 0, L) := by
  unfold zcall
  simp (config := {maxSteps := 1000000}) (disch := omega) only [↓reduceIte, Int32.reduceLT, Int32.reduceLE, Int32.reduceToNatClampNeg, Int32.reduceAdd, Int32.reduceSub, Int32.reduceMul, Nat.reduceLeDiff, zEL, zup_ne, zup_eq, zT0, zT1, zT2, if_true, if_false, gT, ze_44, s44_0, s44_1, s44_2, s44_5, s44_6, s44_7, s44_10, s44_11, s44_14, s44_15, s44_18, s44_19, s44_22, s44_23, s44_26, s44_27, s44_30, s44_31, s44_34, s44_35, s44_38, s44_39, s44_42, s44_43, s44_46, s44_47, s44_50, s44_51, s44_54, s44_55, s44_58, s44_59, s44_62, s44_63, s44_66]
theorem beg_80 {len : Nat} (h1 : S 1 1 = nI len) (hl : n ≤ len) (hl9 : len ≤ 900) (hb : ∀ i, i < n → b i ≤ 255 ∧ S 3 i = nI (b i)) (hN : zNX b n 0 p q) : ∃ S', zcall 47 [.ref 80, .int (nI n)] zRc S L = zgo 47 34 [.ref 80, .int (nI n), .int 1, .int 0] [] zRc S' L ∧ zTKc n b p q S' ∧ (S' 80 5 = 0 ∧ S' 80 6 = 0 ∧ S' 81 0 = 0 ∧ S' 81 5 = 0 ∧ S' 82 3 = 0 ∧ S' 89 7 = 0 ∧ S' 102 7 = 0 ∧ S' 115 7 = 0 ∧ S' 128 7 = 0 ∧ S' 141 4 = 0 ∧ S' 150 3 = 0) ∧ (∀ j k, (j ≠ 1 ∨ (k ≠ 2 ∧ k ≠ 3 ∧ k ≠ 4 ∧ k ≠ 5)) → (j ≠ 80 ∨ (k ≠ 5 ∧ k ≠ 6 ∧ k ≠ 7)) → (j < 81 ∨ 156 < j ∨ ((j = 89 ∨ j = 102 ∨ j = 115 ∨ j = 128) ∧ k = 0)) → S' j k = S j k) := by
  obtain ⟨S1, hS1⟩ : ∃ S1, S1 = zup (zup (zup (zup (zup (zup (zup (zup (zup S 81 0 0) 81 5 0) 82 3 0) 89 7 0) 102 7 0) 115 7 0) 128 7 0) 141 4 0) 150 3 0 := ⟨_, rfl⟩
  have k44 := t44_80 (S := S) (L := L)
  rw [← hS1] at k44
  obtain ⟨S2, hS2⟩ : ∃ S2, S2 = zup (zup (zup S1 80 5 0) 80 6 0) 80 7 (-1) := ⟨_, rfl⟩
  have e1 : ∀ j k, (j ≠ 80 ∨ (k ≠ 5 ∧ k ≠ 6 ∧ k ≠ 7)) → (j < 81 ∨ 156 < j ∨ ((j = 89 ∨ j = 102 ∨ j = 115 ∨ j = 128) ∧ k = 0)) → S2 j k = S j k := fun j k h h2 => by
    rw [hS2, zup_ne (by omega), zup_ne (by omega), zup_ne (by omega), hS1, zup_ne (by omega), zup_ne (by omega), zup_ne (by omega), zup_ne (by omega), zup_ne (by omega), zup_ne (by omega), zup_ne (by omega), zup_ne (by omega), zup_ne (by omega)]
  obtain ⟨S3, a1, a2, a3⟩ := t89 (L := L) (S := S2) ((e1 1 1 (by omega) (by omega)).trans h1) hl hl9 (fun i hi => by rw [e1 3 i (by omega) (by omega)]; exact hb i hi) hN
  rw [hS2] at a1
  refine ⟨S3, ?_, a2, ⟨?_, ?_, ?_, ?_, ?_, ?_, ?_, ?_, ?_, ?_, ?_⟩, fun j k h h2 h3 => (a3 j k h).trans (e1 j k h2 h3)⟩
  · unfold zcall
    simp (config := {maxSteps := 1000000}) (disch := omega) only [↓reduceIte, Int32.reduceLT, Int32.reduceLE, Int32.reduceToNatClampNeg, Int32.reduceAdd, Int32.reduceSub, Int32.reduceMul, Nat.reduceLeDiff, zEL, zup_ne, zup_eq, zT0, zT1, zT2, if_true, if_false, gR, gX, gT, ze_47, s47_0, s47_1, s47_4, s47_7, s47_8, s47_9, s47_12, s47_13, s47_14, s47_17, s47_18, s47_19, s47_22, s47_23, s47_26, s47_27, s47_30, s47_31, s47_32, s47_33, k44, a1]
  all_goals rw [a3 _ _ (by omega), hS2]
  · rw [zup_ne (by omega), zup_ne (by omega), zup_eq rfl rfl]
  · rw [zup_ne (by omega), zup_eq rfl rfl]
  all_goals rw [zup_ne (by omega), zup_ne (by omega), zup_ne (by omega), hS1]
  · rw [zup_ne (by omega), zup_ne (by omega), zup_ne (by omega), zup_ne (by omega), zup_ne (by omega), zup_ne (by omega), zup_ne (by omega), zup_ne (by omega), zup_eq rfl rfl]
  · rw [zup_ne (by omega), zup_ne (by omega), zup_ne (by omega), zup_ne (by omega), zup_ne (by omega), zup_ne (by omega), zup_ne (by omega), zup_eq rfl rfl]
  · rw [zup_ne (by omega), zup_ne (by omega), zup_ne (by omega), zup_ne (by omega), zup_ne (by omega), zup_ne (by omega), zup_eq rfl rfl]
  · rw [zup_ne (by omega), zup_ne (by omega), zup_ne (by omega), zup_ne (by omega), zup_ne (by omega), zup_eq rfl rfl]
  · rw [zup_ne (by omega), zup_ne (by omega), zup_ne (by omega), zup_ne (by omega), zup_eq rfl rfl]
  · rw [zup_ne (by omega), zup_ne (by omega), zup_ne (by omega), zup_eq rfl rfl]
  · rw [zup_ne (by omega), zup_ne (by omega), zup_eq rfl rfl]
  · rw [zup_ne (by omega), zup_eq rfl rfl]
  · rw [zup_eq rfl rfl]
theorem t44_162 : zcall 44 [.ref 4] zRc S L = some (none, zRc, zup (zup (zup (zup (zup (zup (zup (zup (zup S 4 0 0) 4 5 0) 5 3 0) 12 7 0) 25 7 0) 38 7 0) 51 7 0) 64 4 0) 73 3 0, L) := by
  unfold zcall
  simp (config := {maxSteps := 1000000}) (disch := omega) only [↓reduceIte, Int32.reduceLT, Int32.reduceLE, Int32.reduceToNatClampNeg, Int32.reduceAdd, Int32.reduceSub, Int32.reduceMul, Nat.reduceLeDiff, zEL, zup_ne, zup_eq, zT0, zT1, zT2, if_true, if_false, gM, ze_44, s44_0, s44_1, s44_2, s44_5, s44_6, s44_7, s44_10, s44_11, s44_14, s44_15, s44_18, s44_19, s44_22, s44_23, s44_26, s44_27, s44_30, s44_31, s44_34, s44_35, s44_38, s44_39, s44_42, s44_43, s44_46, s44_47, s44_50, s44_51, s44_54, s44_55, s44_58, s44_59, s44_62, s44_63, s44_66]
theorem beg_162 {len : Nat} (h1 : S 1 1 = nI len) (hl : n ≤ len) (hl9 : len ≤ 900) (hb : ∀ i, i < n → b i ≤ 255 ∧ S 3 i = nI (b i)) (hN : zNX b n 0 p q) : ∃ S', zcall 47 [.ref 162, .int (nI n)] zRc S L = zgo 47 34 [.ref 162, .int (nI n), .int 1, .int 0] [] zRc S' L ∧ zTKc n b p q S' ∧ (S' 162 5 = 0 ∧ S' 162 6 = 0 ∧ S' 4 0 = 0 ∧ S' 4 5 = 0 ∧ S' 5 3 = 0 ∧ S' 12 7 = 0 ∧ S' 25 7 = 0 ∧ S' 38 7 = 0 ∧ S' 51 7 = 0 ∧ S' 64 4 = 0 ∧ S' 73 3 = 0) ∧ (∀ j k, (j ≠ 1 ∨ (k ≠ 2 ∧ k ≠ 3 ∧ k ≠ 4 ∧ k ≠ 5)) → (j ≠ 162 ∨ (k ≠ 5 ∧ k ≠ 6 ∧ k ≠ 7)) → (j < 4 ∨ 79 < j ∨ ((j = 12 ∨ j = 25 ∨ j = 38 ∨ j = 51) ∧ k = 0)) → S' j k = S j k) := by
  obtain ⟨S1, hS1⟩ : ∃ S1, S1 = zup (zup (zup (zup (zup (zup (zup (zup (zup S 4 0 0) 4 5 0) 5 3 0) 12 7 0) 25 7 0) 38 7 0) 51 7 0) 64 4 0) 73 3 0 := ⟨_, rfl⟩
  have k44 := t44_162 (S := S) (L := L)
  rw [← hS1] at k44
  obtain ⟨S2, hS2⟩ : ∃ S2, S2 = zup (zup (zup S1 162 5 0) 162 6 0) 162 7 (-1) := ⟨_, rfl⟩
  have e1 : ∀ j k, (j ≠ 162 ∨ (k ≠ 5 ∧ k ≠ 6 ∧ k ≠ 7)) → (j < 4 ∨ 79 < j ∨ ((j = 12 ∨ j = 25 ∨ j = 38 ∨ j = 51) ∧ k = 0)) → S2 j k = S j k := fun j k h h2 => by
    rw [hS2, zup_ne (by omega), zup_ne (by omega), zup_ne (by omega), hS1, zup_ne (by omega), zup_ne (by omega), zup_ne (by omega), zup_ne (by omega), zup_ne (by omega), zup_ne (by omega), zup_ne (by omega), zup_ne (by omega), zup_ne (by omega)]
  obtain ⟨S3, a1, a2, a3⟩ := t89 (L := L) (S := S2) ((e1 1 1 (by omega) (by omega)).trans h1) hl hl9 (fun i hi => by rw [e1 3 i (by omega) (by omega)]; exact hb i hi) hN
  rw [hS2] at a1
  refine ⟨S3, ?_, a2, ⟨?_, ?_, ?_, ?_, ?_, ?_, ?_, ?_, ?_, ?_, ?_⟩, fun j k h h2 h3 => (a3 j k h).trans (e1 j k h2 h3)⟩
  · unfold zcall
    simp (config := {maxSteps := 1000000}) (disch := omega) only [↓reduceIte, Int32.reduceLT, Int32.reduceLE, Int32.reduceToNatClampNeg, Int32.reduceAdd, Int32.reduceSub, Int32.reduceMul, Nat.reduceLeDiff, zEL, zup_ne, zup_eq, zT0, zT1, zT2, if_true, if_false, gR, gX, gM, ze_47, s47_0, s47_1, s47_4, s47_7, s47_8, s47_9, s47_12, s47_13, s47_14, s47_17, s47_18, s47_19, s47_22, s47_23, s47_26, s47_27, s47_30, s47_31, s47_32, s47_33, k44, a1]
  all_goals rw [a3 _ _ (by omega), hS2]
  · rw [zup_ne (by omega), zup_ne (by omega), zup_eq rfl rfl]
  · rw [zup_ne (by omega), zup_eq rfl rfl]
  all_goals rw [zup_ne (by omega), zup_ne (by omega), zup_ne (by omega), hS1]
  · rw [zup_ne (by omega), zup_ne (by omega), zup_ne (by omega), zup_ne (by omega), zup_ne (by omega), zup_ne (by omega), zup_ne (by omega), zup_ne (by omega), zup_eq rfl rfl]
  · rw [zup_ne (by omega), zup_ne (by omega), zup_ne (by omega), zup_ne (by omega), zup_ne (by omega), zup_ne (by omega), zup_ne (by omega), zup_eq rfl rfl]
  · rw [zup_ne (by omega), zup_ne (by omega), zup_ne (by omega), zup_ne (by omega), zup_ne (by omega), zup_ne (by omega), zup_eq rfl rfl]
  · rw [zup_ne (by omega), zup_ne (by omega), zup_ne (by omega), zup_ne (by omega), zup_ne (by omega), zup_eq rfl rfl]
  · rw [zup_ne (by omega), zup_ne (by omega), zup_ne (by omega), zup_ne (by omega), zup_eq rfl rfl]
  · rw [zup_ne (by omega), zup_ne (by omega), zup_ne (by omega), zup_eq rfl rfl]
  · rw [zup_ne (by omega), zup_ne (by omega), zup_eq rfl rfl]
  · rw [zup_ne (by omega), zup_eq rfl rfl]
  · rw [zup_eq rfl rfl]
end ZPK
