/-! THE TWO OBJECTS, side by side: what holds between calls -/
section ZT1
variable {c : Nat → Nat} {S Sm S0 Sm0 : zS} {L Lm : zL} {rd : Value}
/-- the tape, TROUBLE, the FAULT and its place -/
def zHD (S Sm : zS) : Prop :=
  S 0 14 = Sm 0 1 ∧ (if S 0 14 = 4 then S 0 16 else -1) = Sm 0 2 ∧ S 0 15 = Sm 0 13 ∧
  ∃ n : Nat, n ≤ 900 ∧ S 1 1 = nI n ∧ Sm 0 6 = nI n ∧ ∀ i, i < n → S 3 i = Sm 1 i &&& 255
def zcnt (ok : Nat → Bool) : Nat → Nat
  | 0 => 0
  | k + 1 => zcnt ok k + (if ok k = true then 1 else 0)
/-- what was SEEN -/
def zSE (S Sm : zS) : Prop := ∃ se : Nat, se ≤ 14 ∧ S 0 12 = nI se ∧ Sm 0 28 = nI se ∧ (∀ k, k < se → zin (Sm 10 k) 2) ∧ ∀ a, a < 3 → S 292 a = nI (zcnt (fun k => decide (Sm 10 k = nI a)) se)
def zMK (c : Nat → Nat) (S Sm : zS) : Prop := ∃ mk : Nat, mk ≤ 4 ∧ S 0 11 = nI mk ∧ Sm 0 22 = nI mk ∧ ∀ m, m < mk → zGD (209 + 19 * m) c S (fun k => Sm 3 (49 * m + k))
/-- how many there is room for, of both matches -/
def zRO (S : zS) : Prop := S 12 0 = 8 ∧ S 25 0 = 8 ∧ S 38 0 = 6 ∧ S 51 0 = 6 ∧ S 89 0 = 8 ∧ S 102 0 = 8 ∧ S 115 0 = 6 ∧ S 128 0 = 6
theorem zRO_fr {S' : zS} (h : zRO S) (h1 : ∀ j k, ((12 ≤ j ∧ j ≤ 51) ∨ ((j = 89 ∨ j = 102 ∨ j = 115 ∨ j = 128) ∧ k = 0)) → S' j k = S j k) : zRO S' := by
  unfold zRO at h ⊢
  rw [h1 12 0 (by omega), h1 25 0 (by omega), h1 38 0 (by omega), h1 51 0 (by omega), h1 89 0 (by omega), h1 102 0 (by omega), h1 115 0 (by omega), h1 128 0 (by omega)]
  exact h
/-- a MATCH is told -/
def zTM (c : Nat → Nat) (S Sm : zS) : Prop := zHD S Sm ∧ S 0 13 = 1 ∧ zMD c S Sm ∧ zGD 168 c S (Sm 2) ∧ zMK c S Sm ∧ zSE S Sm ∧ zRO S
/-- none is told -/
def zTU (S Sm : zS) : Prop := zHD S Sm ∧ S 0 13 = 0 ∧ (S 12 7 = 0 ∧ S 25 7 = 0 ∧ S 38 7 = 0 ∧ S 51 7 = 0 ∧ S 64 4 = 0 ∧ S 5 3 = 0 ∧ S 73 3 = 0) ∧ (S 168 7 = 0 ∧ S 168 8 = 0 ∧ S 168 9 = 0 ∧ S 7 0 = 0) ∧ S 0 11 = 0 ∧ S 0 12 = 0 ∧ zRO S
theorem zGD_fr {g : Nat} {f f' : Nat → Int32} {S' : zS} (h : zGD g c S f) (b0 : c 0 ≤ 8) (b1 : c 1 ≤ 8) (h1 : ∀ j k, (g ≤ j ∧ j ≤ g + 12) ∨ j = 7 → S' j k = S j k) (h2 : ∀ k, k < 49 → f' k = f k) : zGD g c S' f' := by
  obtain ⟨g0, g1, g2, ⟨g3, g3'⟩, ⟨g4, g4'⟩, ⟨g5, g5'⟩, ⟨i, hh, i1, i2, i3, i4, i5, i6⟩⟩ := h
  refine ⟨fun p hp => ?_, fun b hb => ?_, fun k hk => ?_, ?_, ?_, ?_, ⟨i, hh, i1, i2, ?_, ?_, ?_, ?_⟩⟩
  · rw [h1 _ _ (by omega), h1 _ _ (by omega), h1 _ _ (by omega), h1 _ _ (by omega), h2 _ (by omega), h2 _ (by omega), h2 _ (by omega), h2 _ (by omega)]
    exact g0 p hp
  · rw [h1 _ _ (by omega), h2 _ (by omega)]
    exact g1 b hb
  · rw [h1 _ _ (by omega), h2 _ (by omega)]
    exact g2 k hk
  · rw [h1 _ _ (by omega), h2 _ (by omega)]
    exact ⟨g3, g3'⟩
  · rw [h1 _ _ (by omega), h2 _ (by omega)]
    exact ⟨g4, g4'⟩
  · rw [h1 _ _ (by omega), h2 _ (by omega)]
    exact ⟨g5, g5'⟩
  · rw [h1 _ _ (by omega)]
    exact i3
  · rw [h1 _ _ (by omega)]
    exact i4
  · rw [h2 _ (by omega)]
    exact i5
  · intro j h3 h4
    rw [h1 _ _ (by omega)]
    exact i6 j h3 h4
theorem zMD_fr2 {S' Sm' : zS} (h : zMD c S Sm) (h1 : ∀ j k, 3 ≤ j ∧ j ≤ 79 → S' j k = S j k) (h2 : ∀ j k, 11 ≤ j → Sm' j k = Sm j k) : zMD c S' Sm' := by
  unfold zMD at h ⊢
  have e1 : ∀ j, 3 ≤ j ∧ j ≤ 79 → S' j = S j := fun j hj => funext fun k => h1 j k hj
  have e2 : ∀ j, 11 ≤ j → Sm' j = Sm j := fun j hj => funext fun k => h2 j k hj
  simp (disch := omega) only [e1, e2]
  exact h
/-- the rest stays: what the class may change behind a call's back, and the reference -/
def zrelC (j k : Nat) : Prop := (j = 0 ∧ k ≠ 14) ∨ (j = 1 ∧ k = 1) ∨ (3 ≤ j ∧ j ≤ 79) ∨ (168 ≤ j ∧ j ≤ 180) ∨ (209 ≤ j ∧ j ≤ 284) ∨ j = 292 ∨ ((j = 89 ∨ j = 102 ∨ j = 115 ∨ j = 128) ∧ k = 0)
def zrelM (j k : Nat) : Prop := (j = 0 ∧ 3 ≤ k) ∨ j = 1 ∨ (j = 2 ∧ k < 49) ∨ j = 3 ∨ j = 10 ∨ 11 ≤ j
theorem zTM_fr {S' Sm' : zS} {w : Int32} (h : zTM c S Sm) (h1 : ∀ j k, zrelC j k → S' j k = S j k) (h2 : ∀ j k, zrelM j k → Sm' j k = Sm j k) (h3 : S' 0 14 = w) (h4 : Sm' 0 1 = w) (h5 : Sm' 0 2 = -1) (hw : w ≠ 4) : zTM c S' Sm' := by
  unfold zrelC at h1
  unfold zrelM at h2
  obtain ⟨⟨a1, a2, a3, n, hn, a4, a5, a6⟩, b1, hM, hG, ⟨mk, hmk, m1, m2, m3⟩, ⟨se, hse, s1, s2, s3, s4⟩, ro⟩ := h
  have b0 : c 0 ≤ 8 := hM.1.2.1
  have b2 : c 1 ≤ 8 := hM.1.2.2.1
  refine ⟨⟨h3.trans h4.symm, ?_, ?_, n, hn, ?_, ?_, fun i hi => ?_⟩, ?_, ?_, ?_, ⟨mk, hmk, ?_, ?_, fun m hm => ?_⟩, ⟨se, hse, ?_, ?_, fun k hk => ?_, fun a ha => ?_⟩, zRO_fr ro (fun j k hj => h1 j k (by omega))⟩
  · rw [h3, if_neg hw, h5]
  · rw [h1 _ _ (by omega), h2 _ _ (by omega)]
    exact a3
  · rw [h1 _ _ (by omega)]
    exact a4
  · rw [h2 _ _ (by omega)]
    exact a5
  · rw [h1 _ _ (by omega), h2 _ _ (by omega)]
    exact a6 i hi
  · rw [h1 _ _ (by omega)]
    exact b1
  · exact zMD_fr2 hM (fun j k hj => h1 j k (by omega)) (fun j k hj => h2 j k (by omega))
  · exact zGD_fr hG b0 b2 (fun j k hj => h1 j k (by omega)) (fun k hk => h2 2 k (by omega))
  · rw [h1 _ _ (by omega)]
    exact m1
  · rw [h2 _ _ (by omega)]
    exact m2
  · exact zGD_fr (m3 m hm) b0 b2 (fun j k hj => h1 j k (by omega)) (fun k hk => h2 3 _ (by omega))
  · rw [h1 _ _ (by omega)]
    exact s1
  · rw [h2 _ _ (by omega)]
    exact s2
  · rw [h2 _ _ (by omega)]
    exact s3 k hk
  · rw [h1 _ _ (by omega)]
    have e : Sm' 10 = Sm 10 := funext fun k => h2 10 k (by omega)
    rw [e]
    exact s4 a ha
theorem zTU_fr {S' Sm' : zS} {w : Int32} (h : zTU S Sm) (h1 : ∀ j k, zrelC j k → S' j k = S j k) (h2 : ∀ j k, zrelM j k → Sm' j k = Sm j k) (h3 : S' 0 14 = w) (h4 : Sm' 0 1 = w) (h5 : Sm' 0 2 = -1) (hw : w ≠ 4) : zTU S' Sm' := by
  unfold zrelC at h1
  unfold zrelM at h2
  obtain ⟨⟨a1, a2, a3, n, hn, a4, a5, a6⟩, b1, b2, b3, b4, b5, ro⟩ := h
  refine ⟨⟨h3.trans h4.symm, ?_, ?_, n, hn, ?_, ?_, fun i hi => ?_⟩, ?_, ?_, ?_, ?_, ?_, zRO_fr ro (fun j k hj => h1 j k (by omega))⟩
  · rw [h3, if_neg hw, h5]
  · rw [h1 _ _ (by omega), h2 _ _ (by omega)]
    exact a3
  · rw [h1 _ _ (by omega)]
    exact a4
  · rw [h2 _ _ (by omega)]
    exact a5
  · rw [h1 _ _ (by omega), h2 _ _ (by omega)]
    exact a6 i hi
  · rw [h1 _ _ (by omega)]
    exact b1
  · rw [h1 12 7 (by omega), h1 25 7 (by omega), h1 38 7 (by omega), h1 51 7 (by omega), h1 64 4 (by omega), h1 5 3 (by omega), h1 73 3 (by omega)]
    exact b2
  · rw [h1 168 7 (by omega), h1 168 8 (by omega), h1 168 9 (by omega), h1 7 0 (by omega)]
    exact b3
  · rw [h1 _ _ (by omega)]
    exact b4
  · rw [h1 _ _ (by omega)]
    exact b5
/-- 'thrown' is nobody's -/
theorem zTM_t {v : Int32} (h : zTM c S Sm) : zTM c S (zup Sm 0 0 v) := by
  obtain ⟨⟨a1, a2, a3, n, hn, a4, a5, a6⟩, b1, hM, hG, ⟨mk, hmk, m1, m2, m3⟩, ⟨se, hse, s1, s2, s3, s4⟩, ro⟩ := h
  have e : ∀ j k, j ≠ 0 ∨ k ≠ 0 → zup Sm 0 0 v j k = Sm j k := fun j k h => zup_ne (by omega)
  have ej : ∀ j, j ≠ 0 → zup Sm 0 0 v j = Sm j := fun j h => funext fun k => zup_ne (by omega)
  refine ⟨⟨?_, ?_, ?_, n, hn, a4, ?_, fun i hi => ?_⟩, b1, zMD_fr hM (fun _ _ _ => rfl) (fun j k hj => e j k (by omega)), ?_, ⟨mk, hmk, m1, ?_, fun m hm => ?_⟩, ⟨se, hse, s1, ?_, fun k hk => ?_, fun a ha => ?_⟩, ro⟩
  · rw [e _ _ (by omega)]; exact a1
  · rw [e _ _ (by omega)]; exact a2
  · rw [e _ _ (by omega)]; exact a3
  · rw [e _ _ (by omega)]; exact a5
  · rw [e _ _ (by omega)]; exact a6 i hi
  · rw [ej _ (by omega)]; exact hG
  · rw [e _ _ (by omega)]; exact m2
  · rw [ej _ (by omega)]; exact m3 m hm
  · rw [e _ _ (by omega)]; exact s2
  · rw [e _ _ (by omega)]; exact s3 k hk
  · rw [ej _ (by omega)]; exact s4 a ha
theorem zTU_t {v : Int32} (h : zTU S Sm) : zTU S (zup Sm 0 0 v) := by
  obtain ⟨⟨a1, a2, a3, n, hn, a4, a5, a6⟩, b1⟩ := h
  have e : ∀ j k, j ≠ 0 ∨ k ≠ 0 → zup Sm 0 0 v j k = Sm j k := fun j k h => zup_ne (by omega)
  refine ⟨⟨?_, ?_, ?_, n, hn, a4, ?_, fun i hi => ?_⟩, b1⟩
  · rw [e _ _ (by omega)]; exact a1
  · rw [e _ _ (by omega)]; exact a2
  · rw [e _ _ (by omega)]; exact a3
  · rw [e _ _ (by omega)]; exact a5
  · rw [e _ _ (by omega)]; exact a6 i hi
/-- a call's end: TROUBLE w (not a FAULT) -/
theorem zTM_d (w : Int32) (hw : w ≠ 4) (h : zTM c S Sm) : zTM c (zup S 0 14 w) (zup (zup Sm 0 1 w) 0 2 (-1)) :=
  zTM_fr h (fun j k hj => by unfold zrelC at hj; rw [zup_ne (by omega)]) (fun j k hj => by unfold zrelM at hj; rw [zup_ne (by omega), zup_ne (by omega)]) (zup_eq rfl rfl) (by rw [zup_ne (by omega), zup_eq rfl rfl]) (zup_eq rfl rfl) hw
theorem zTU_d (w : Int32) (hw : w ≠ 4) (h : zTU S Sm) : zTU (zup S 0 14 w) (zup (zup Sm 0 1 w) 0 2 (-1)) :=
  zTU_fr h (fun j k hj => by unfold zrelC at hj; rw [zup_ne (by omega)]) (fun j k hj => by unfold zrelM at hj; rw [zup_ne (by omega), zup_ne (by omega)]) (zup_eq rfl rfl) (by rw [zup_ne (by omega), zup_eq rfl rfl]) (zup_eq rfl rfl) hw
/-! refused, answered -/
theorem t148 {w : Int32} : zcall 148 [.ref 0, .int w] zRc S L = some (some (.int (-1)), zRc, zup S 0 14 w, L) := by
  unfold zcall
  simp (config := {maxSteps := 1000000}) (disch := omega) only [↓reduceIte, Int32.reduceLT, Int32.reduceLE, Int32.reduceToNatClampNeg, Int32.reduceAdd, Int32.reduceSub, Int32.reduceMul, Nat.reduceLeDiff, zEL, zup_ne, zup_eq, zT0, zT1, zT2, if_true, if_false, gX, ze_148, s148_0, s148_1, s148_2, s148_5, s148_6]
theorem t149 {w : Int32} : zcall 149 [.ref 0, .int w] zRc S L = some (some (.int 0), zRc, zup S 0 14 w, L) := by
  unfold zcall
  simp (config := {maxSteps := 1000000}) (disch := omega) only [↓reduceIte, Int32.reduceLT, Int32.reduceLE, Int32.reduceToNatClampNeg, Int32.reduceAdd, Int32.reduceSub, Int32.reduceMul, Nat.reduceLeDiff, zEL, zup_ne, zup_eq, zT0, zT1, zT2, if_true, if_false, gX, ze_149, s149_0, s149_1, s149_2, s149_5, s149_6]
theorem t150 {w : Int32} : zcall 150 [.ref 0, .int w] zRc S L = some (some (.int w), zRc, zup S 0 14 0, L) := by
  unfold zcall
  simp (config := {maxSteps := 1000000}) (disch := omega) only [↓reduceIte, Int32.reduceLT, Int32.reduceLE, Int32.reduceToNatClampNeg, Int32.reduceAdd, Int32.reduceSub, Int32.reduceMul, Nat.reduceLeDiff, zEL, zup_ne, zup_eq, zT0, zT1, zT2, if_true, if_false, gX, ze_150, s150_0, s150_1, s150_2, s150_5, s150_6]
theorem t151 : zcall 151 [.ref 0] zRc S L = some (some (.int 1), zRc, zup S 0 14 0, L) := by
  unfold zcall
  simp (config := {maxSteps := 1000000}) (disch := omega) only [↓reduceIte, Int32.reduceLT, Int32.reduceLE, Int32.reduceToNatClampNeg, Int32.reduceAdd, Int32.reduceSub, Int32.reduceMul, Nat.reduceLeDiff, zEL, zup_ne, zup_eq, zT0, zT1, zT2, if_true, if_false, gX, ze_151, s151_0, s151_1, s151_2, s151_5, s151_6]
theorem t169_0 {w : Int32} : zcall 169 [.ref 0, .int w] (zRm0 rd) Sm Lm = some (some (.int (-1)), zRm0 rd, zup (zup Sm 0 1 w) 0 2 (-1), Lm) := by
  unfold zcall
  simp (config := {maxSteps := 1000000}) (disch := omega) only [↓reduceIte, Int32.reduceLT, Int32.reduceLE, Int32.reduceToNatClampNeg, Int32.reduceAdd, Int32.reduceSub, Int32.reduceMul, Nat.reduceLeDiff, zEL, zup_ne, zup_eq, zT0, zT1, zT2, if_true, if_false, layM0, ze_169, s169_0, s169_1, s169_2, s169_5, s169_6, s169_7, s169_10, s169_11]
theorem t170_0 {w : Int32} : zcall 170 [.ref 0, .int w] (zRm0 rd) Sm Lm = some (some (.int 0), zRm0 rd, zup (zup Sm 0 1 w) 0 2 (-1), Lm) := by
  unfold zcall
  simp (config := {maxSteps := 1000000}) (disch := omega) only [↓reduceIte, Int32.reduceLT, Int32.reduceLE, Int32.reduceToNatClampNeg, Int32.reduceAdd, Int32.reduceSub, Int32.reduceMul, Nat.reduceLeDiff, zEL, zup_ne, zup_eq, zT0, zT1, zT2, if_true, if_false, layM0, ze_170, s170_0, s170_1, s170_2, s170_5, s170_6, s170_7, t169_0]
theorem t171_0 {w : Int32} : zcall 171 [.ref 0, .int w] (zRm0 rd) Sm Lm = some (some (.int w), zRm0 rd, zup (zup Sm 0 1 0) 0 2 (-1), Lm) := by
  unfold zcall
  simp (config := {maxSteps := 1000000}) (disch := omega) only [↓reduceIte, Int32.reduceLT, Int32.reduceLE, Int32.reduceToNatClampNeg, Int32.reduceAdd, Int32.reduceSub, Int32.reduceMul, Nat.reduceLeDiff, zEL, zup_ne, zup_eq, zT0, zT1, zT2, if_true, if_false, layM0, ze_171, s171_0, s171_1, s171_2, s171_5, s171_6, s171_7, s171_10, s171_11]
theorem t172_0 : zcall 172 [.ref 0] (zRm0 rd) Sm Lm = some (some (.int 1), zRm0 rd, zup (zup Sm 0 1 0) 0 2 (-1), Lm) := by
  unfold zcall
  simp (config := {maxSteps := 1000000}) (disch := omega) only [↓reduceIte, Int32.reduceLT, Int32.reduceLE, Int32.reduceToNatClampNeg, Int32.reduceAdd, Int32.reduceSub, Int32.reduceMul, Nat.reduceLeDiff, zEL, zup_ne, zup_eq, zT0, zT1, zT2, if_true, if_false, layM0, ze_172, s172_0, s172_1, s172_2, s172_5, s172_6, s172_7, t171_0]
theorem t169_1 {w : Int32} : zcall 169 [.ref 0, .int w] (zRm1 rd) Sm Lm = some (some (.int (-1)), zRm1 rd, zup (zup Sm 0 1 w) 0 2 (-1), Lm) := by
  unfold zcall
  simp (config := {maxSteps := 1000000}) (disch := omega) only [↓reduceIte, Int32.reduceLT, Int32.reduceLE, Int32.reduceToNatClampNeg, Int32.reduceAdd, Int32.reduceSub, Int32.reduceMul, Nat.reduceLeDiff, zEL, zup_ne, zup_eq, zT0, zT1, zT2, if_true, if_false, layM1, ze_169, s169_0, s169_1, s169_2, s169_5, s169_6, s169_7, s169_10, s169_11]
theorem t170_1 {w : Int32} : zcall 170 [.ref 0, .int w] (zRm1 rd) Sm Lm = some (some (.int 0), zRm1 rd, zup (zup Sm 0 1 w) 0 2 (-1), Lm) := by
  unfold zcall
  simp (config := {maxSteps := 1000000}) (disch := omega) only [↓reduceIte, Int32.reduceLT, Int32.reduceLE, Int32.reduceToNatClampNeg, Int32.reduceAdd, Int32.reduceSub, Int32.reduceMul, Nat.reduceLeDiff, zEL, zup_ne, zup_eq, zT0, zT1, zT2, if_true, if_false, layM1, ze_170, s170_0, s170_1, s170_2, s170_5, s170_6, s170_7, t169_1]
theorem t171_1 {w : Int32} : zcall 171 [.ref 0, .int w] (zRm1 rd) Sm Lm = some (some (.int w), zRm1 rd, zup (zup Sm 0 1 0) 0 2 (-1), Lm) := by
  unfold zcall
  simp (config := {maxSteps := 1000000}) (disch := omega) only [↓reduceIte, Int32.reduceLT, Int32.reduceLE, Int32.reduceToNatClampNeg, Int32.reduceAdd, Int32.reduceSub, Int32.reduceMul, Nat.reduceLeDiff, zEL, zup_ne, zup_eq, zT0, zT1, zT2, if_true, if_false, layM1, ze_171, s171_0, s171_1, s171_2, s171_5, s171_6, s171_7, s171_10, s171_11]
theorem t172_1 : zcall 172 [.ref 0] (zRm1 rd) Sm Lm = some (some (.int 1), zRm1 rd, zup (zup Sm 0 1 0) 0 2 (-1), Lm) := by
  unfold zcall
  simp (config := {maxSteps := 1000000}) (disch := omega) only [↓reduceIte, Int32.reduceLT, Int32.reduceLE, Int32.reduceToNatClampNeg, Int32.reduceAdd, Int32.reduceSub, Int32.reduceMul, Nat.reduceLeDiff, zEL, zup_ne, zup_eq, zT0, zT1, zT2, if_true, if_false, layM1, ze_172, s172_0, s172_1, s172_2, s172_5, s172_6, s172_7, t171_1]
def tEC := And.intro @t148 (And.intro @t149 (And.intro @t150 @t151))
def tEM0 := And.intro @t169_0 (And.intro @t170_0 (And.intro @t171_0 @t172_0))
def tEM1 := And.intro @t169_1 (And.intro @t170_1 (And.intro @t171_1 @t172_1))
/-! numbers that callers give -/
theorem znI_cases (v : Int32) : v < 0 ∨ ∃ n : Nat, n < 2147483648 ∧ v = nI n := by
  by_cases h : v < 0
  · exact .inl h
  · have h' := Int32.not_lt.mp h
    rw [Int32.le_iff_toInt_le, show (0 : Int32).toInt = 0 from rfl] at h'
    have h1 := v.toInt_lt
    exact .inr ⟨v.toInt.toNat, by omega, znI_of (by omega)⟩
theorem zidx (v : Int32) {n : Nat} (hn : n < 1000) : (∃ a, a < n ∧ v = nI a) ∨ ((v < 0) = True ∧ (0 ≤ v) = False) ∨ ((v < 0) = False ∧ (nI n ≤ v) = True) := by
  rcases znI_cases v with h | ⟨a, ha, rfl⟩
  · exact .inr (.inl ⟨eq_true h, eq_false (Int32.not_le.mpr h)⟩)
  · by_cases h : a < n
    · exact .inl ⟨a, h, rfl⟩
    · exact .inr (.inr ⟨eq_false (znI_neg ha), eq_true ((znI_le (by omega) ha).mpr (by omega))⟩)
theorem zrng (v : Int32) (b : Nat) (hb : b < 1000000) (ub lb : Int32) (h1 : ub = nI b) (h2 : lb = nI (b + 1)) : (∃ n, n ≤ b ∧ v = nI n ∧ (v < 0) = False ∧ (0 ≤ v) = True ∧ (v ≤ ub) = True ∧ (ub < v) = False ∧ (lb ≤ v) = False ∧ (v < lb) = True) ∨ ((v < 0) = True ∧ (0 ≤ v) = False ∧ (v ≤ ub) = True ∧ (ub < v) = False ∧ (lb ≤ v) = False ∧ (v < lb) = True) ∨ ((v < 0) = False ∧ (0 ≤ v) = True ∧ (v ≤ ub) = False ∧ (ub < v) = True ∧ (lb ≤ v) = True ∧ (v < lb) = False) := by
  subst h1
  subst h2
  rcases znI_cases v with h | ⟨a, ha, rfl⟩
  · have g : v < nI b ∧ v < nI (b + 1) := by
      rw [Int32.lt_iff_toInt_lt, show (0 : Int32).toInt = 0 from rfl] at h
      rw [Int32.lt_iff_toInt_lt, Int32.lt_iff_toInt_lt, zint_nI (by omega), zint_nI (by omega)]
      omega
    exact .inr (.inl ⟨eq_true h, eq_false (Int32.not_le.mpr h), eq_true (Int32.le_of_lt g.1), eq_false (Int32.not_lt.mpr (Int32.le_of_lt g.1)), eq_false (Int32.not_le.mpr g.2), eq_true g.2⟩)
  · by_cases h : a ≤ b
    · refine .inl ⟨a, h, rfl, ?_⟩
      rw [znI_0, zlt_nI (by omega) (by omega), zle_nI (by omega) (by omega), zle_nI (by omega) (by omega), zlt_nI (by omega) (by omega), zle_nI (by omega) (by omega), zlt_nI (by omega) (by omega)]
      simp only [eq_iff_iff, iff_true, iff_false]
      omega
    · refine .inr (.inr ?_)
      rw [znI_0, zlt_nI (by omega) (by omega), zle_nI (by omega) (by omega), zle_nI (by omega) (by omega), zlt_nI (by omega) (by omega), zle_nI (by omega) (by omega), zlt_nI (by omega) (by omega)]
      simp only [eq_iff_iff, iff_true, iff_false]
      omega
theorem zside (v : Int32) : v = 0 ∨ v = 1 ∨ ((v = 0) = False ∧ (v = 1) = False ∧ (0 ≤ v ∧ v ≤ 1) = False) := by
  rcases zrng v 1 (by omega) 1 2 rfl rfl with ⟨n, hn, e, -⟩ | ⟨a1, a2, -⟩ | ⟨a1, a2, a3, -⟩
  · rcases (show n = 0 ∨ n = 1 by omega) with rfl | rfl
    · exact .inl e
    · exact .inr (.inl e)
  · refine .inr (.inr ⟨eq_false (fun h => ?_), eq_false (fun h => ?_), eq_false (fun h => ?_)⟩)
    · subst h
      exact absurd a1 (by decide)
    · subst h
      exact absurd a1 (by decide)
    · rw [a2] at h
      exact h.1
  · refine .inr (.inr ⟨eq_false (fun h => ?_), eq_false (fun h => ?_), eq_false (fun h => ?_)⟩)
    · subst h
      exact absurd a3 (by decide)
    · subst h
      exact absurd a3 (by decide)
    · rw [a3] at h
      exact h.2
end ZT1
