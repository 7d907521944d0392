/-! THE TEXT: NAMES; LINES: player -/
section ZPC
variable {S Sm S' Sm' : zS} {L Lm L' Lm' : zL} {R : List zE} {n B p q : Nat} {b : Nat → Nat}
/-- the NAMES told -/
def zPnm_80 (B k c0 : Nat) (S Sm : zS) (L Lm : zL) : Prop :=
  k ≤ 26 ∧ S 80 5 = nI k ∧ Sm B 13 = nI k ∧ ∀ i, i < k → L 157 i = Lm (B + 27) i ∧ (S 159 i = 0 ↔ Sm (B + 28) i = 0) ∧ (S 159 i = 0 → ∃ x, x < c0 ∧ S 161 i = nI x ∧ Sm (B + 29) i = nI x)
theorem zPnm_fr_80 {k c0 : Nat} (h : zPnm_80 B k c0 S Sm L Lm) (h1 : ∀ j i, (j = 80 ∧ i = 5) ∨ j = 159 ∨ j = 161 → S' j i = S j i) (h2 : ∀ j i, (j = B ∧ i = 13) ∨ j = B + 28 ∨ j = B + 29 → Sm' j i = Sm j i) (h3 : ∀ i, L' 157 i = L 157 i) (h4 : ∀ i, Lm' (B + 27) i = Lm (B + 27) i) : zPnm_80 B k c0 S' Sm' L' Lm' := by
  obtain ⟨a1, a2, a3, a4⟩ := h
  refine ⟨a1, (h1 _ _ (by omega)).trans a2, (h2 _ _ (by omega)).trans a3, fun i hi => ?_⟩
  rw [h3, h4, h1 _ i (.inr (.inl rfl)), h1 _ i (.inr (.inr rfl)), h2 _ i (.inr (.inl rfl)), h2 _ i (.inr (.inr rfl))]
  exact a4 i hi
theorem zPnm_up_80 {k c0 c0' : Nat} (h : zPnm_80 B k c0 S Sm L Lm) (hc : c0 ≤ c0') : zPnm_80 B k c0' S Sm L Lm := by
  obtain ⟨a1, a2, a3, a4⟩ := h
  refine ⟨a1, a2, a3, fun i hi => ⟨(a4 i hi).1, (a4 i hi).2.1, fun h => ?_⟩⟩
  obtain ⟨x, hx, e⟩ := (a4 i hi).2.2 h
  exact ⟨x, by omega, e⟩
/-- one NAME more: a player's, or another's -/
theorem zPnm_s_80 {k c0 c0' : Nat} {s s' num num' : Int32} (h : zPnm_80 B k c0 S Sm L Lm) (hk : k ≤ 25) (hc : c0 ≤ c0') (h5 : S' 80 5 = nI (k + 1)) (h13 : Sm' B 13 = nI (k + 1)) (hL : ∀ i, i ≤ k → L' 157 i = Lm' (B + 27) i) (hs : ∀ i, S' 159 i = if i = k then s else S 159 i) (hn : ∀ i, S' 161 i = if i = k then num else S 161 i) (hs' : ∀ i, Sm' (B + 28) i = if i = k then s' else Sm (B + 28) i) (hn' : ∀ i, Sm' (B + 29) i = if i = k then num' else Sm (B + 29) i) (hx : (s = 0 ↔ s' = 0) ∧ (s = 0 → ∃ x, x < c0' ∧ num = nI x ∧ num' = nI x)) : zPnm_80 B (k + 1) c0' S' Sm' L' Lm' := by
  obtain ⟨a1, a2, a3, a4⟩ := h
  refine ⟨by omega, h5, h13, fun i hi => ⟨hL i (by omega), ?_⟩⟩
  rw [hs, hn, hs', hn']
  by_cases e : i = k
  · simp only [if_pos e]
    exact hx
  · simp only [if_neg e]
    refine ⟨(a4 i (by omega)).2.1, fun h => ?_⟩
    obtain ⟨x, hx, e⟩ := (a4 i (by omega)).2.2 h
    exact ⟨x, by omega, e⟩
theorem op54x_pl_80 {c : Nat} (hR : zLT R) (h : zST 80 n b S Sm Lm) (hc : S 89 7 = nI c) : ∃ S' Sm' Lm', zcall 54 [.ref 80, .ref 89] zRc S L = some (none, zRc, S', L) ∧ zcall 191 [.ref 0] R Sm Lm = some (none, R, Sm', Lm') ∧ zST 80 n b S' Sm' Lm' ∧ (∀ j k, (j ≠ 1 ∨ (k ≠ 2 ∧ k ≠ 3 ∧ k ≠ 4)) → (j ≠ 80 ∨ (k ≠ 6 ∧ k ≠ 7)) → (j ≠ 89 ∨ k ≠ 7) → j ≠ 91 → j ≠ 93 → j ≠ 95 → S' j k = S j k) ∧ (∀ j k, (j ≠ 0 ∨ k < 8 ∨ 18 < k) → Sm' j k = Sm j k) ∧ (∀ j k, (j ≠ 0 ∨ k ≠ 15) → Lm' j k = Lm j k) ∧ S' 89 7 = nI (c + 1) ∧ (S' 80 6 = 0 → S 80 6 = 0 ∧ ∃ s l y : Nat, s ≤ 1 ∧ l ≤ 4 ∧ y ≤ 19 ∧ Sm' 0 16 = nI s ∧ Sm' 0 17 = nI l ∧ Sm' 0 18 = nI y ∧ (c < 8 → (∀ k, S' 91 k = if k = c then nI s else S 91 k) ∧ (∀ k, S' 93 k = if k = c then nI l else S 93 k) ∧ (∀ k, S' 95 k = if k = c then nI y else S 95 k))) := by
  have r0 := hR
  unfold zLT at r0
  obtain ⟨sd, ln, x, S2, Sm2, Lm2, b1, b2, b3, b4, b5⟩ := op54_80 (L := L) (sp := 89) hR h
  have q1 : S2 89 7 = nI c := (b4.1 _ _ (by omega) (by omega)).trans hc
  have k84 := t84_pl_80 (L := L) (x := sd) (y := ln) (z := x) q1
  obtain ⟨S3, hS3⟩ : ∃ S3, S3 = zup (zput (zput (zput S2 91 8 (nI c) sd) 93 8 (nI c) ln) 95 8 (nI c) x) 89 7 (nI (c + 1)) := ⟨_, rfl⟩
  rw [← hS3] at k84
  have e3 : ∀ j k, (j ≠ 89 ∨ k ≠ 7) → j ≠ 91 → j ≠ 93 → j ≠ 95 → S3 j k = S2 j k := fun j k a c d e => by rw [hS3, zup_ne (by omega), zput_ne (by omega), zput_ne (by omega), zput_ne (by omega)]
  have e6 := e3 80 6 (by omega) (by decide) (by decide) (by decide)
  refine ⟨S3, Sm2, Lm2, ?_, b2, zST_fr b3 (fun k => e3 1 k (by omega) (by decide) (by decide) (by decide)) (fun k => e3 3 k (by omega) (by decide) (by decide) (by decide)) e6 (e3 _ _ (by omega) (by decide) (by decide) (by decide)) (fun _ _ => rfl) (fun _ => rfl) rfl, fun j k a c d e f g => (e3 j k d e f g).trans (b4.1 j k a c), b4.2.1, b4.2.2, by rw [hS3]; exact zup_eq rfl rfl, fun h => ?_⟩
  · rw [b1]
    simp (config := {maxSteps := 1000000}) (disch := omega) only [↓reduceIte, Int32.reduceLT, Int32.reduceLE, Int32.reduceToNatClampNeg, Int32.reduceAdd, Int32.reduceSub, Int32.reduceMul, Nat.reduceLeDiff, zEL, zup_ne, zup_eq, zT0, zT1, zT2, if_true, if_false, gR, gT, s54_66, s54_67, s54_68, s54_69, s54_71, s54_74, k84]
  · rw [e6] at h
    obtain ⟨g, s, l, y, hs, hl, hy, rfl, rfl, rfl, m1, m2, m3⟩ := b5 h
    refine ⟨g, s, l, y, hs, hl, hy, m1, m2, m3, fun hc8 => ⟨fun k => ?_, fun k => ?_, fun k => ?_⟩⟩
    · rw [hS3, zup_ne (by omega), zput_ne (by omega), zput_ne (by omega), zput_at (by omega) (by omega), b4.1 _ _ (by omega) (by omega)]
    · rw [hS3, zup_ne (by omega), zput_ne (by omega), zput_at (by omega) (by omega), zput_ne (by omega), b4.1 _ _ (by omega) (by omega)]
    · rw [hS3, zup_ne (by omega), zput_at (by omega) (by omega), zput_ne (by omega), zput_ne (by omega), b4.1 _ _ (by omega) (by omega)]
theorem op54x_bl_80 {c : Nat} (hR : zLT R) (h : zST 80 n b S Sm Lm) (hc : S 102 7 = nI c) : ∃ S' Sm' Lm', zcall 54 [.ref 80, .ref 102] zRc S L = some (none, zRc, S', L) ∧ zcall 191 [.ref 0] R Sm Lm = some (none, R, Sm', Lm') ∧ zST 80 n b S' Sm' Lm' ∧ (∀ j k, (j ≠ 1 ∨ (k ≠ 2 ∧ k ≠ 3 ∧ k ≠ 4)) → (j ≠ 80 ∨ (k ≠ 6 ∧ k ≠ 7)) → (j ≠ 102 ∨ k ≠ 7) → j ≠ 104 → j ≠ 106 → j ≠ 108 → S' j k = S j k) ∧ (∀ j k, (j ≠ 0 ∨ k < 8 ∨ 18 < k) → Sm' j k = Sm j k) ∧ (∀ j k, (j ≠ 0 ∨ k ≠ 15) → Lm' j k = Lm j k) ∧ S' 102 7 = nI (c + 1) ∧ (S' 80 6 = 0 → S 80 6 = 0 ∧ ∃ s l y : Nat, s ≤ 1 ∧ l ≤ 4 ∧ y ≤ 19 ∧ Sm' 0 16 = nI s ∧ Sm' 0 17 = nI l ∧ Sm' 0 18 = nI y ∧ (c < 8 → (∀ k, S' 104 k = if k = c then nI s else S 104 k) ∧ (∀ k, S' 106 k = if k = c then nI l else S 106 k) ∧ (∀ k, S' 108 k = if k = c then nI y else S 108 k))) := by
  have r0 := hR
  unfold zLT at r0
  obtain ⟨sd, ln, x, S2, Sm2, Lm2, b1, b2, b3, b4, b5⟩ := op54_80 (L := L) (sp := 102) hR h
  have q1 : S2 102 7 = nI c := (b4.1 _ _ (by omega) (by omega)).trans hc
  have k84 := t84_bl_80 (L := L) (x := sd) (y := ln) (z := x) q1
  obtain ⟨S3, hS3⟩ : ∃ S3, S3 = zup (zput (zput (zput S2 104 8 (nI c) sd) 106 8 (nI c) ln) 108 8 (nI c) x) 102 7 (nI (c + 1)) := ⟨_, rfl⟩
  rw [← hS3] at k84
  have e3 : ∀ j k, (j ≠ 102 ∨ k ≠ 7) → j ≠ 104 → j ≠ 106 → j ≠ 108 → S3 j k = S2 j k := fun j k a c d e => by rw [hS3, zup_ne (by omega), zput_ne (by omega), zput_ne (by omega), zput_ne (by omega)]
  have e6 := e3 80 6 (by omega) (by decide) (by decide) (by decide)
  refine ⟨S3, Sm2, Lm2, ?_, b2, zST_fr b3 (fun k => e3 1 k (by omega) (by decide) (by decide) (by decide)) (fun k => e3 3 k (by omega) (by decide) (by decide) (by decide)) e6 (e3 _ _ (by omega) (by decide) (by decide) (by decide)) (fun _ _ => rfl) (fun _ => rfl) rfl, fun j k a c d e f g => (e3 j k d e f g).trans (b4.1 j k a c), b4.2.1, b4.2.2, by rw [hS3]; exact zup_eq rfl rfl, fun h => ?_⟩
  · rw [b1]
    simp (config := {maxSteps := 1000000}) (disch := omega) only [↓reduceIte, Int32.reduceLT, Int32.reduceLE, Int32.reduceToNatClampNeg, Int32.reduceAdd, Int32.reduceSub, Int32.reduceMul, Nat.reduceLeDiff, zEL, zup_ne, zup_eq, zT0, zT1, zT2, if_true, if_false, gR, gT, s54_66, s54_67, s54_68, s54_69, s54_71, s54_74, k84]
  · rw [e6] at h
    obtain ⟨g, s, l, y, hs, hl, hy, rfl, rfl, rfl, m1, m2, m3⟩ := b5 h
    refine ⟨g, s, l, y, hs, hl, hy, m1, m2, m3, fun hc8 => ⟨fun k => ?_, fun k => ?_, fun k => ?_⟩⟩
    · rw [hS3, zup_ne (by omega), zput_ne (by omega), zput_ne (by omega), zput_at (by omega) (by omega), b4.1 _ _ (by omega) (by omega)]
    · rw [hS3, zup_ne (by omega), zput_ne (by omega), zput_at (by omega) (by omega), zput_ne (by omega), b4.1 _ _ (by omega) (by omega)]
    · rw [hS3, zup_ne (by omega), zput_at (by omega) (by omega), zput_ne (by omega), zput_ne (by omega), b4.1 _ _ (by omega) (by omega)]
theorem op54x_si_80 {c : Nat} (hR : zLT R) (h : zST 80 n b S Sm Lm) (hc : S 115 7 = nI c) : ∃ S' Sm' Lm', zcall 54 [.ref 80, .ref 115] zRc S L = some (none, zRc, S', L) ∧ zcall 191 [.ref 0] R Sm Lm = some (none, R, Sm', Lm') ∧ zST 80 n b S' Sm' Lm' ∧ (∀ j k, (j ≠ 1 ∨ (k ≠ 2 ∧ k ≠ 3 ∧ k ≠ 4)) → (j ≠ 80 ∨ (k ≠ 6 ∧ k ≠ 7)) → (j ≠ 115 ∨ k ≠ 7) → j ≠ 117 → j ≠ 119 → j ≠ 121 → S' j k = S j k) ∧ (∀ j k, (j ≠ 0 ∨ k < 8 ∨ 18 < k) → Sm' j k = Sm j k) ∧ (∀ j k, (j ≠ 0 ∨ k ≠ 15) → Lm' j k = Lm j k) ∧ S' 115 7 = nI (c + 1) ∧ (S' 80 6 = 0 → S 80 6 = 0 ∧ ∃ s l y : Nat, s ≤ 1 ∧ l ≤ 4 ∧ y ≤ 19 ∧ Sm' 0 16 = nI s ∧ Sm' 0 17 = nI l ∧ Sm' 0 18 = nI y ∧ (c < 6 → (∀ k, S' 117 k = if k = c then nI s else S 117 k) ∧ (∀ k, S' 119 k = if k = c then nI l else S 119 k) ∧ (∀ k, S' 121 k = if k = c then nI y else S 121 k))) := by
  have r0 := hR
  unfold zLT at r0
  obtain ⟨sd, ln, x, S2, Sm2, Lm2, b1, b2, b3, b4, b5⟩ := op54_80 (L := L) (sp := 115) hR h
  have q1 : S2 115 7 = nI c := (b4.1 _ _ (by omega) (by omega)).trans hc
  have k84 := t84_si_80 (L := L) (x := sd) (y := ln) (z := x) q1
  obtain ⟨S3, hS3⟩ : ∃ S3, S3 = zup (zput (zput (zput S2 117 6 (nI c) sd) 119 6 (nI c) ln) 121 6 (nI c) x) 115 7 (nI (c + 1)) := ⟨_, rfl⟩
  rw [← hS3] at k84
  have e3 : ∀ j k, (j ≠ 115 ∨ k ≠ 7) → j ≠ 117 → j ≠ 119 → j ≠ 121 → S3 j k = S2 j k := fun j k a c d e => by rw [hS3, zup_ne (by omega), zput_ne (by omega), zput_ne (by omega), zput_ne (by omega)]
  have e6 := e3 80 6 (by omega) (by decide) (by decide) (by decide)
  refine ⟨S3, Sm2, Lm2, ?_, b2, zST_fr b3 (fun k => e3 1 k (by omega) (by decide) (by decide) (by decide)) (fun k => e3 3 k (by omega) (by decide) (by decide) (by decide)) e6 (e3 _ _ (by omega) (by decide) (by decide) (by decide)) (fun _ _ => rfl) (fun _ => rfl) rfl, fun j k a c d e f g => (e3 j k d e f g).trans (b4.1 j k a c), b4.2.1, b4.2.2, by rw [hS3]; exact zup_eq rfl rfl, fun h => ?_⟩
  · rw [b1]
    simp (config := {maxSteps := 1000000}) (disch := omega) only [↓reduceIte, Int32.reduceLT, Int32.reduceLE, Int32.reduceToNatClampNeg, Int32.reduceAdd, Int32.reduceSub, Int32.reduceMul, Nat.reduceLeDiff, zEL, zup_ne, zup_eq, zT0, zT1, zT2, if_true, if_false, gR, gT, s54_66, s54_67, s54_68, s54_69, s54_71, s54_74, k84]
  · rw [e6] at h
    obtain ⟨g, s, l, y, hs, hl, hy, rfl, rfl, rfl, m1, m2, m3⟩ := b5 h
    refine ⟨g, s, l, y, hs, hl, hy, m1, m2, m3, fun hc8 => ⟨fun k => ?_, fun k => ?_, fun k => ?_⟩⟩
    · rw [hS3, zup_ne (by omega), zput_ne (by omega), zput_ne (by omega), zput_at (by omega) (by omega), b4.1 _ _ (by omega) (by omega)]
    · rw [hS3, zup_ne (by omega), zput_ne (by omega), zput_at (by omega) (by omega), zput_ne (by omega), b4.1 _ _ (by omega) (by omega)]
    · rw [hS3, zup_ne (by omega), zput_at (by omega) (by omega), zput_ne (by omega), zput_ne (by omega), b4.1 _ _ (by omega) (by omega)]
/-- the players -/
def zPpl_80 (B c : Nat) (S Sm : zS) : Prop :=
  c ≤ 8 ∧ S 89 7 = nI c ∧ Sm B 8 = nI c ∧ ∀ k, k < c → S 91 k = Sm (B + 7) k ∧ S 93 k = Sm (B + 8) k ∧ S 95 k = Sm (B + 9) k ∧ S 97 k = Sm (B + 12) k ∧ S 99 k = Sm (B + 10) k ∧ S 101 k = Sm (B + 11) k ∧ zin (Sm (B + 7) k) 1 ∧ zin (Sm (B + 8) k) 4 ∧ zin (Sm (B + 9) k) 19 ∧ zin (Sm (B + 12) k) 9 ∧ zin (Sm (B + 10) k) 9 ∧ zin (Sm (B + 11) k) 9
theorem zPpl_fr_80 {c : Nat} (h : zPpl_80 B c S Sm) (h1 : ∀ j k, (j = 89 ∧ k = 7) ∨ j = 91 ∨ j = 93 ∨ j = 95 ∨ j = 97 ∨ j = 99 ∨ j = 101 → S' j k = S j k) (h2 : ∀ j k, (j = B ∧ k = 8) ∨ (B + 7 ≤ j ∧ j ≤ B + 12) → Sm' j k = Sm j k) : zPpl_80 B c S' Sm' := by
  unfold zPpl_80 at h ⊢
  have e10 : S' 91 = S 91 := funext fun k => h1 _ k (by omega)
  have e12 : S' 93 = S 93 := funext fun k => h1 _ k (by omega)
  have e14 : S' 95 = S 95 := funext fun k => h1 _ k (by omega)
  have e16 : S' 97 = S 97 := funext fun k => h1 _ k (by omega)
  have e18 : S' 99 = S 99 := funext fun k => h1 _ k (by omega)
  have e20 : S' 101 = S 101 := funext fun k => h1 _ k (by omega)
  have m7 : Sm' (B + 7) = Sm (B + 7) := funext fun k => h2 _ k (by omega)
  have m8 : Sm' (B + 8) = Sm (B + 8) := funext fun k => h2 _ k (by omega)
  have m9 : Sm' (B + 9) = Sm (B + 9) := funext fun k => h2 _ k (by omega)
  have m10 : Sm' (B + 10) = Sm (B + 10) := funext fun k => h2 _ k (by omega)
  have m11 : Sm' (B + 11) = Sm (B + 11) := funext fun k => h2 _ k (by omega)
  have m12 : Sm' (B + 12) = Sm (B + 12) := funext fun k => h2 _ k (by omega)
  rw [e10, e12, e14, e16, e18, e20, m7, m8, m9, m10, m11, m12, h1 _ 7 (by omega), h2 B 8 (by omega)]
  exact h
theorem l52_80 {c k : Nat} (hR : zLT R) (hB : zLB R B) (hB11 : 11 ≤ B) (hT : zTKc n b p q S) (hO : zOKs 80 n b p q S Sm Lm) (hk : zkN b n p q = 1) (h0 : S 89 0 = 8) (hP : zPpl_80 B c S Sm) (hN : zPnm_80 B k c S Sm L Lm) (hck : c < 8 → k ≤ 25) : ∃ S' Sm' L' Lm', zcall 52 [.ref 80] zRc S L = some (none, zRc, S', L') ∧ zcall 198 [.ref 0] R Sm Lm = some (none, R, Sm', Lm') ∧ zST 80 n b S' Sm' Lm' ∧ (∀ j k, (j ≠ 1 ∨ (k ≠ 2 ∧ k ≠ 3 ∧ k ≠ 4)) → (j ≠ 80 ∨ (k ≠ 5 ∧ k ≠ 6 ∧ k ≠ 7)) → j ≠ 159 → j ≠ 161 → (j ≠ 89 ∨ k ≠ 7) → j ≠ 91 → j ≠ 93 → j ≠ 95 → j ≠ 97 → j ≠ 99 → j ≠ 101 → S' j k = S j k) ∧ (∀ j k, (j ≠ 0 ∨ k < 8 ∨ 18 < k) → (j ≠ B ∨ (k ≠ 8 ∧ k ≠ 13)) → j ≠ B + 28 → j ≠ B + 29 → (j < B + 7 ∨ B + 12 < j) → Sm' j k = Sm j k) ∧ (∀ j k, j ≠ 157 → L' j k = L j k) ∧ (∀ j k, (j ≠ 0 ∨ k ≠ 15) → j ≠ B + 27 → Lm' j k = Lm j k) ∧ (S' 80 6 = 0 → c < 8 ∧ zPpl_80 B (c + 1) S' Sm' ∧ zPnm_80 B (k + 1) (c + 1) S' Sm' L' Lm') := by
  have r0 := hR
  unfold zLT at r0
  have rB := hB
  unfold zLB at rB
  obtain ⟨hc8, p1, p2, p3⟩ := hP
  obtain ⟨hk26, n1, n2, n3⟩ := id hN
  have k82 := t82_pl_80 (L := L) hc8 p1 h0
  obtain ⟨S1, Sm1, Lm1, a1, a2, a3, a4, a5⟩ := op59_80 (L := L) (fl := if c = 8 then 1 else 0) (many := nI c) (most := 8) hR hT hO hk (by
    by_cases e : c = 8
    · subst e
      exact .inl ⟨if_pos rfl, rfl⟩
    · exact .inr ⟨if_neg e, fun h => e ((znI_inj (b := 8) (by omega) (by omega)).mp h)⟩)
  have hc7 : S1 80 6 = 0 → c < 8 := fun h => by
    have g0 := a5 h
    rcases Nat.lt_or_ge c 8 with h | h
    · exact h
    · rw [if_pos (by omega)] at g0; exact absurd g0 (by decide)
  have i1 : S1 89 7 = nI c := (a4.1 _ _ (by omega) (by omega)).trans p1
  have j1 : Sm1 B 8 = nI c := (a4.2.1 _ _ (by omega)).trans p2
  obtain ⟨S2, Sm2, L2, Lm2, b1, b2, b3, b4, b5, -⟩ := op64_80 (L := L) (k := k) (k' := k) (s := 0) (s' := 0) (num := nI c) (num' := nI c) hR hB hB11 a3 hk26 hk26 ((a4.1 _ _ (by omega) (by omega)).trans n1) ((a4.2.1 _ _ (by omega)).trans n2) (fun h => ⟨rfl, hck (hc7 h), fun i hi => by rw [a4.2.2 _ _ (by omega)]; exact (n3 i hi).1⟩)
  have i2 : S2 89 7 = nI c := (b4.1 _ _ (by omega) (by omega) (by decide) (by decide)).trans i1
  have j2 : Sm2 B 8 = nI c := (b4.2.1 _ _ (by omega) (by omega) (by omega) (by omega)).trans j1
  obtain ⟨S3, Sm3, Lm3, c1, c2, c3, c4, c5, c6, c7, c8⟩ := op54x_pl_80 (L := L2) hR b3 i2
  have j3 : Sm3 B 8 = nI c := (c5 _ _ (by omega)).trans j2
  obtain ⟨v1, w1, S4, Sm4, Lm4, d1, d2, d3, d4, d5⟩ := op62_80 (L := L2) (l := 0) (u := 9) (lo := 0) (hi := 9) (lo' := 0) (hi' := 9) hR (fun p q S L h => cw_arm h) (fun p q S Sm Lm h => mw_arm hR h) c3 (by omega) (by omega) (fun _ => ⟨rfl, rfl, rfl, rfl⟩)
  have g4 : zST 80 n b (zput S4 99 8 (nI c) v1) Sm4 Lm4 := zST_fr d3 (fun k => zput_ne (by omega)) (fun k => zput_ne (by omega)) (zput_ne (by omega)) (zput_ne (by omega)) (fun _ _ => rfl) (fun _ => rfl) rfl
  obtain ⟨v2, w2, S5, Sm5, Lm5, e1, e2, e3, e4, e5⟩ := op62_80 (L := L2) (l := 0) (u := 9) (lo := 0) (hi := 9) (lo' := 0) (hi' := 9) hR (fun p q S L h => cw_dodge h) (fun p q S Sm Lm h => mw_dodge hR h) g4 (by omega) (by omega) (fun _ => ⟨rfl, rfl, rfl, rfl⟩)
  have g5 : zST 80 n b (zput S5 101 8 (nI c) v2) Sm5 Lm5 := zST_fr e3 (fun k => zput_ne (by omega)) (fun k => zput_ne (by omega)) (zput_ne (by omega)) (zput_ne (by omega)) (fun _ _ => rfl) (fun _ => rfl) rfl
  obtain ⟨v3, w3, S6, Sm6, Lm6, f1, f2, f3, f4, f5⟩ := op62_80 (L := L2) (l := 0) (u := 9) (lo := 0) (hi := 9) (lo' := 0) (hi' := 9) hR (fun p q S L h => cw_balls h) (fun p q S Sm Lm h => mw_balls hR h) g5 (by omega) (by omega) (fun _ => ⟨rfl, rfl, rfl, rfl⟩)
  have cl : zcall 52 [.ref 80] zRc S L = some (none, zRc, zput S6 97 8 (nI c) v3, L2) := by
    unfold zcall
    simp (config := {maxSteps := 1000000}) (disch := omega) only [↓reduceIte, Int32.reduceLT, Int32.reduceLE, Int32.reduceToNatClampNeg, Int32.reduceAdd, Int32.reduceSub, Int32.reduceMul, Nat.reduceLeDiff, zEL, zup_ne, zup_eq, zT0, zT1, zT2, if_true, if_false, gR, gT, ze_52, s52_0, s52_1, s52_4, s52_7, s52_8, s52_9, s52_10, s52_13, s52_16, s52_17, s52_20, s52_21, s52_22, s52_23, s52_24, s52_27, s52_28, s52_29, s52_32, s52_33, s52_36, s52_37, s52_38, s52_40, s52_41, s52_43, s52_46, s52_49, s52_50, s52_53, s52_54, s52_55, s52_57, s52_58, s52_60, s52_63, s52_66, s52_67, s52_70, s52_71, s52_72, s52_74, s52_75, s52_77, s52_80, s52_83, k82, a1, i1, b1, c1, d1, e1, f1]
  have mo : zcall 198 [.ref 0] R Sm Lm = zgo 198 62 [.ref 0, .int w1, .int w2, .int w3, .retAddr 0] [] R Sm6 Lm6 := by
    unfold zcall
    simp (config := {maxSteps := 1000000}) (disch := omega) only [↓reduceIte, Int32.reduceLT, Int32.reduceLE, Int32.reduceToNatClampNeg, Int32.reduceAdd, Int32.reduceSub, Int32.reduceMul, Nat.reduceLeDiff, zEL, zup_ne, zup_eq, zT0, zT1, zT2, if_true, if_false, r0, rB, ze_198, s198_0, s198_1, s198_2, s198_5, s198_8, s198_10, s198_13, s198_14, s198_15, s198_16, s198_19, s198_22, s198_25, s198_26, s198_29, s198_30, s198_33, s198_34, s198_36, s198_39, s198_40, s198_41, s198_44, s198_45, s198_47, s198_50, s198_51, s198_52, s198_55, s198_56, s198_58, s198_61, p2, a2, j1, b2, c2, d2, e2, f2]
  have j6 : Sm6 B 8 = nI c := by rw [f4.2.1 _ _ (by omega), e4.2.1 _ _ (by omega), d4.2.1 _ _ (by omega), j3]
  have st : ∀ Sm7, (∀ j k, (j ≠ B ∨ k ≠ 8) → (j < B + 7 ∨ B + 12 < j) → Sm7 j k = Sm6 j k) → zST 80 n b (zput S6 97 8 (nI c) v3) Sm7 Lm6 := fun Sm7 h => zST_fr f3 (fun k => zput_ne (by omega)) (fun k => zput_ne (by omega)) (zput_ne (by omega)) (zput_ne (by omega)) (fun k _ => h 0 k (by omega) (by omega)) (fun k => h 1 k (by omega) (by omega)) rfl
  have fC : ∀ j k, (j ≠ 1 ∨ (k ≠ 2 ∧ k ≠ 3 ∧ k ≠ 4)) → (j ≠ 80 ∨ (k ≠ 5 ∧ k ≠ 6 ∧ k ≠ 7)) → j ≠ 159 → j ≠ 161 → (j ≠ 89 ∨ k ≠ 7) → j ≠ 91 → j ≠ 93 → j ≠ 95 → j ≠ 97 → j ≠ 99 → j ≠ 101 → zput S6 97 8 (nI c) v3 j k = S j k := fun j k h1 h2 h3 h4 h5 h6 h7 h8 h9 h10 h11 => by
    rw [zput_ne h9, f4.1 j k h1 (by omega), zput_ne h11, e4.1 j k h1 (by omega), zput_ne h10, d4.1 j k h1 (by omega), c4 j k h1 (by omega) h5 h6 h7 h8, b4.1 j k h1 h2 h3 h4, a4.1 j k h1 (by omega)]
  have fM : ∀ j k, (j ≠ 0 ∨ k < 8 ∨ 18 < k) → (j ≠ B ∨ k ≠ 13) → j ≠ B + 28 → j ≠ B + 29 → Sm6 j k = Sm j k := fun j k h1 h2 h3 h4 => by
    rw [f4.2.1 j k (by omega), e4.2.1 j k (by omega), d4.2.1 j k (by omega), c5 j k (by omega), b4.2.1 j k (by omega) h2 h3 h4, a4.2.1 j k (by omega)]
  have fL : ∀ j k, (j ≠ 0 ∨ k ≠ 15) → j ≠ B + 27 → Lm6 j k = Lm j k := fun j k h1 h2 => by
    rw [f4.2.2 j k h1, e4.2.2 j k h1, d4.2.2 j k h1, c6 j k h1, b4.2.2.2 j k h1 h2, a4.2.2 j k h1]
  rcases zST_9 f3 with ⟨o1, o2⟩ | ⟨o1, o2⟩
  · have o2 : (Sm6 0 9 = 5) = False := eq_false o2
    obtain ⟨y5, x3, -, z3, rfl, rfl⟩ := f5 o1
    rw [zput_ne (by omega)] at y5
    obtain ⟨y4, x2, -, z2, rfl, rfl⟩ := e5 y5
    rw [zput_ne (by omega)] at y4
    obtain ⟨y3, x1, -, z1, rfl, rfl⟩ := d5 y4
    obtain ⟨y2, s, l, y, hs, hl, hy, m16, m17, m18, hrow⟩ := c8 y3
    obtain ⟨y1, u1, u2, u3, u4, u5, u6, u7⟩ := b5 y2
    have c7' := hc7 y1
    obtain ⟨w10, w12, w14⟩ := hrow c7'
    have m16' : Sm6 0 16 = nI s := by rw [f4.2.1 _ _ (by omega), e4.2.1 _ _ (by omega), d4.2.1 _ _ (by omega), m16]
    have m17' : Sm6 0 17 = nI l := by rw [f4.2.1 _ _ (by omega), e4.2.1 _ _ (by omega), d4.2.1 _ _ (by omega), m17]
    have m18' : Sm6 0 18 = nI y := by rw [f4.2.1 _ _ (by omega), e4.2.1 _ _ (by omega), d4.2.1 _ _ (by omega), m18]
    obtain ⟨Sm7, hSm7⟩ : ∃ Sm7, Sm7 = zup (zup (zup (zup (zup (zup (zup Sm6 (B + 7) c (nI s)) (B + 8) c (nI l)) (B + 9) c (nI y)) (B + 10) c (nI x1)) (B + 11) c (nI x2)) (B + 12) c (nI x3)) B 8 (nI (c + 1)) := ⟨_, rfl⟩
    have e7 : ∀ j k, (j ≠ B ∨ k ≠ 8) → (j < B + 7 ∨ B + 12 < j) → Sm7 j k = Sm6 j k := fun j k h1 h2 => by
      rw [hSm7, zup_ne (by omega), zup_ne (by omega), zup_ne (by omega), zup_ne (by omega), zup_ne (by omega), zup_ne (by omega), zup_ne (by omega)]
    have fr6 : ∀ j k, B + 7 ≤ j → j ≤ B + 12 → Sm6 j k = Sm j k := fun j k h1 h2 => fM j k (by omega) (by omega) (by omega) (by omega)
    have q7 : ∀ k, Sm7 (B + 7) k = if k = c then nI s else Sm (B + 7) k := fun k => by
      rw [hSm7, zup_ne (by omega), zup_ne (by omega), zup_ne (by omega), zup_ne (by omega), zup_ne (by omega), zup_ne (by omega), ← fr6 (B + 7) k (by omega) (by omega)]
      by_cases e : k = c
      · rw [zup_eq rfl e, if_pos e]
      · rw [zup_ne (by omega), if_neg e]
    have q8 : ∀ k, Sm7 (B + 8) k = if k = c then nI l else Sm (B + 8) k := fun k => by
      rw [hSm7, zup_ne (by omega), zup_ne (by omega), zup_ne (by omega), zup_ne (by omega), zup_ne (by omega), ← fr6 (B + 8) k (by omega) (by omega)]
      by_cases e : k = c
      · rw [zup_eq rfl e, if_pos e]
      · rw [zup_ne (by omega), zup_ne (by omega), if_neg e]
    have q9 : ∀ k, Sm7 (B + 9) k = if k = c then nI y else Sm (B + 9) k := fun k => by
      rw [hSm7, zup_ne (by omega), zup_ne (by omega), zup_ne (by omega), zup_ne (by omega), ← fr6 (B + 9) k (by omega) (by omega)]
      by_cases e : k = c
      · rw [zup_eq rfl e, if_pos e]
      · rw [zup_ne (by omega), zup_ne (by omega), zup_ne (by omega), if_neg e]
    have q10 : ∀ k, Sm7 (B + 10) k = if k = c then nI x1 else Sm (B + 10) k := fun k => by
      rw [hSm7, zup_ne (by omega), zup_ne (by omega), zup_ne (by omega), ← fr6 (B + 10) k (by omega) (by omega)]
      by_cases e : k = c
      · rw [zup_eq rfl e, if_pos e]
      · rw [zup_ne (by omega), zup_ne (by omega), zup_ne (by omega), zup_ne (by omega), if_neg e]
    have q11 : ∀ k, Sm7 (B + 11) k = if k = c then nI x2 else Sm (B + 11) k := fun k => by
      rw [hSm7, zup_ne (by omega), zup_ne (by omega), ← fr6 (B + 11) k (by omega) (by omega)]
      by_cases e : k = c
      · rw [zup_eq rfl e, if_pos e]
      · rw [zup_ne (by omega), zup_ne (by omega), zup_ne (by omega), zup_ne (by omega), zup_ne (by omega), if_neg e]
    have q12 : ∀ k, Sm7 (B + 12) k = if k = c then nI x3 else Sm (B + 12) k := fun k => by
      rw [hSm7, zup_ne (by omega), ← fr6 (B + 12) k (by omega) (by omega)]
      by_cases e : k = c
      · rw [zup_eq rfl e, if_pos e]
      · rw [zup_ne (by omega), zup_ne (by omega), zup_ne (by omega), zup_ne (by omega), zup_ne (by omega), zup_ne (by omega), if_neg e]
    have v10 : ∀ k, zput S6 97 8 (nI c) (nI x3) 91 k = if k = c then nI s else S 91 k := fun k => by
      rw [zput_ne (by omega), f4.1 _ _ (by omega) (by omega), zput_ne (by omega), e4.1 _ _ (by omega) (by omega), zput_ne (by omega), d4.1 _ _ (by omega) (by omega), w10, b4.1 _ _ (by omega) (by omega) (by decide) (by decide), a4.1 _ _ (by omega) (by omega)]
    have v12 : ∀ k, zput S6 97 8 (nI c) (nI x3) 93 k = if k = c then nI l else S 93 k := fun k => by
      rw [zput_ne (by omega), f4.1 _ _ (by omega) (by omega), zput_ne (by omega), e4.1 _ _ (by omega) (by omega), zput_ne (by omega), d4.1 _ _ (by omega) (by omega), w12, b4.1 _ _ (by omega) (by omega) (by decide) (by decide), a4.1 _ _ (by omega) (by omega)]
    have v14 : ∀ k, zput S6 97 8 (nI c) (nI x3) 95 k = if k = c then nI y else S 95 k := fun k => by
      rw [zput_ne (by omega), f4.1 _ _ (by omega) (by omega), zput_ne (by omega), e4.1 _ _ (by omega) (by omega), zput_ne (by omega), d4.1 _ _ (by omega) (by omega), w14, b4.1 _ _ (by omega) (by omega) (by decide) (by decide), a4.1 _ _ (by omega) (by omega)]
    have fS3 : ∀ j k, j = 97 ∨ j = 99 ∨ j = 101 → S3 j k = S j k := fun j k h => by
      rw [c4 j k (by omega) (by omega) (by omega) (by omega) (by omega) (by omega), b4.1 j k (by omega) (by omega) (by omega) (by omega), a4.1 j k (by omega) (by omega)]
    have v16 : ∀ k, zput S6 97 8 (nI c) (nI x3) 97 k = if k = c then nI x3 else S 97 k := fun k => by
      rw [zput_at (by omega) (by omega), f4.1 _ _ (by omega) (by omega), zput_ne (by omega), e4.1 _ _ (by omega) (by omega), zput_ne (by omega), d4.1 _ _ (by omega) (by omega), fS3 _ _ (by omega)]
    have v18 : ∀ k, zput S6 97 8 (nI c) (nI x3) 99 k = if k = c then nI x1 else S 99 k := fun k => by
      rw [zput_ne (by omega), f4.1 _ _ (by omega) (by omega), zput_ne (by omega), e4.1 _ _ (by omega) (by omega), zput_at (by omega) (by omega), d4.1 _ _ (by omega) (by omega), fS3 _ _ (by omega)]
    have v20 : ∀ k, zput S6 97 8 (nI c) (nI x3) 101 k = if k = c then nI x2 else S 101 k := fun k => by
      rw [zput_ne (by omega), f4.1 _ _ (by omega) (by omega), zput_at (by omega) (by omega), e4.1 _ _ (by omega) (by omega), zput_ne (by omega), d4.1 _ _ (by omega) (by omega), fS3 _ _ (by omega)]
    have v7 : zput S6 97 8 (nI c) (nI x3) 89 7 = nI (c + 1) := by
      rw [zput_ne (by omega), f4.1 _ _ (by omega) (by omega), zput_ne (by omega), e4.1 _ _ (by omega) (by omega), zput_ne (by omega), d4.1 _ _ (by omega) (by omega), c7]
    have fN : ∀ j k, (j = 80 ∧ k = 5) ∨ j = 159 ∨ j = 161 → zput S6 97 8 (nI c) (nI x3) j k = S2 j k := fun j k h => by
      rw [zput_ne (by omega), f4.1 _ _ (by omega) (by omega), zput_ne (by omega), e4.1 _ _ (by omega) (by omega), zput_ne (by omega), d4.1 _ _ (by omega) (by omega), c4 j k (by omega) (by omega) (by omega) (by omega) (by omega) (by omega)]
    have fN1 : ∀ j k, (j = 80 ∧ k = 5) ∨ j = 159 ∨ j = 161 → S1 j k = S j k := fun j k h => a4.1 j k (by omega) (by omega)
    have fQ : ∀ j k, (j = B ∧ k = 13) ∨ j = B + 28 ∨ j = B + 29 → Sm7 j k = Sm2 j k := fun j k h => by
      rw [e7 j k (by omega) (by omega), f4.2.1 j k (by omega), e4.2.1 j k (by omega), d4.2.1 j k (by omega), c5 j k (by omega)]
    have fQ1 : ∀ j k, j = B + 28 ∨ j = B + 29 → Sm1 j k = Sm j k := fun j k h => a4.2.1 j k (by omega)
    refine ⟨_, Sm7, L2, Lm6, cl, mo.trans ?_, st _ e7, fC, fun j k h1 h2 h3 h4 h5 => (e7 j k (by omega) h5).trans (fM j k h1 (by omega) h3 h4), b4.2.2.1, fL, fun _ => ⟨c7', ⟨by omega, v7, by rw [hSm7]; exact zup_eq rfl rfl, fun i hi => ?_⟩, zPnm_s_80 hN (hck c7') (by omega) ((fN _ _ (by omega)).trans u1) ((fQ _ _ (by omega)).trans u2) (fun i hi => ?_) (fun i => (fN _ _ (by omega)).trans (by rw [u4, fN1 _ _ (by omega)])) (fun i => (fN _ _ (by omega)).trans (by rw [u5, fN1 _ _ (by omega)])) (fun i => (fQ _ _ (by omega)).trans (by rw [u6, fQ1 _ _ (by omega)])) (fun i => (fQ _ _ (by omega)).trans (by rw [u7, fQ1 _ _ (by omega)])) ⟨Iff.rfl, fun _ => ⟨c, by omega, rfl, rfl⟩⟩⟩⟩
    · rw [hSm7]
      simp (config := {maxSteps := 1000000}) (disch := omega) only [↓reduceIte, Int32.reduceLT, Int32.reduceLE, Int32.reduceToNatClampNeg, Int32.reduceAdd, Int32.reduceSub, Int32.reduceMul, Nat.reduceLeDiff, zEL, zup_ne, zup_eq, zT0, zT1, zT2, if_true, if_false, zneq_f, true_and, and_true, false_and, and_false, zKL, eq_self, Nat.reduceEqDiff, zite0, ite_not, zaddr, zaddl, zputr, zsb1, zsb2, zsb0, zsbm, znm1, r0, rB, s198_62, s198_63, s198_66, s198_67, s198_70, s198_71, s198_72, s198_75, s198_78, s198_80, s198_81, s198_84, s198_87, s198_89, s198_90, s198_93, s198_94, s198_95, s198_98, s198_101, s198_103, s198_104, s198_107, s198_108, s198_109, s198_112, s198_115, s198_117, s198_118, s198_121, s198_122, s198_123, s198_126, s198_129, s198_131, s198_132, s198_133, s198_134, s198_137, s198_140, s198_142, s198_143, s198_144, s198_145, s198_148, s198_151, s198_153, s198_154, s198_155, s198_156, s198_159, s198_160, s198_163, s198_164, s198_165, s198_168, o2, j6, m16', m17', m18']
    · rw [v10, v12, v14, v16, v18, v20, q7, q8, q9, q10, q11, q12]
      by_cases e : i = c
      · simp only [if_pos e]
        exact ⟨trivial, trivial, trivial, trivial, trivial, trivial, ⟨s, hs, rfl⟩, ⟨l, hl, rfl⟩, ⟨y, hy, rfl⟩, ⟨x3, z3, rfl⟩, ⟨x1, z1, rfl⟩, ⟨x2, z2, rfl⟩⟩
      · simp only [if_neg e]
        exact p3 i (by omega)
    · rw [f4.2.2 _ _ (by omega), e4.2.2 _ _ (by omega), d4.2.2 _ _ (by omega), c6 _ _ (by omega)]
      exact u3 i hi
  · refine ⟨_, Sm6, L2, Lm6, cl, mo.trans ?_, st Sm6 (fun _ _ _ _ => rfl), fC, fun j k h1 h2 h3 h4 h5 => fM j k h1 (by omega) h3 h4, b4.2.2.1, fL, fun h => ?_⟩
    · simp (config := {maxSteps := 1000000}) (disch := omega) only [↓reduceIte, Int32.reduceLT, Int32.reduceLE, Int32.reduceToNatClampNeg, Int32.reduceAdd, Int32.reduceSub, Int32.reduceMul, Nat.reduceLeDiff, zEL, zup_ne, zup_eq, zT0, zT1, zT2, if_true, if_false, r0, rB, s198_62, s198_63, s198_66, s198_67, s198_70, s198_71, s198_72, s198_75, s198_78, s198_80, s198_81, s198_84, s198_87, s198_89, s198_90, s198_93, s198_94, s198_95, s198_98, s198_101, s198_103, s198_104, s198_107, s198_108, s198_109, s198_112, s198_115, s198_117, s198_118, s198_121, s198_122, s198_123, s198_126, s198_129, s198_131, s198_132, s198_133, s198_134, s198_137, s198_140, s198_142, s198_143, s198_144, s198_145, s198_148, s198_151, s198_153, s198_154, s198_155, s198_156, s198_159, s198_160, s198_163, s198_164, s198_165, s198_168, o2]
    · rw [zput_ne (by omega)] at h
      exact absurd h o1
/-- the NAMES told -/
def zPnm_162 (B k c0 : Nat) (S Sm : zS) (L Lm : zL) : Prop :=
  k ≤ 26 ∧ S 162 5 = nI k ∧ Sm B 13 = nI k ∧ ∀ i, i < k → L 163 i = Lm (B + 27) i ∧ (S 165 i = 0 ↔ Sm (B + 28) i = 0) ∧ (S 165 i = 0 → ∃ x, x < c0 ∧ S 167 i = nI x ∧ Sm (B + 29) i = nI x)
theorem zPnm_fr_162 {k c0 : Nat} (h : zPnm_162 B k c0 S Sm L Lm) (h1 : ∀ j i, (j = 162 ∧ i = 5) ∨ j = 165 ∨ j = 167 → S' j i = S j i) (h2 : ∀ j i, (j = B ∧ i = 13) ∨ j = B + 28 ∨ j = B + 29 → Sm' j i = Sm j i) (h3 : ∀ i, L' 163 i = L 163 i) (h4 : ∀ i, Lm' (B + 27) i = Lm (B + 27) i) : zPnm_162 B k c0 S' Sm' L' Lm' := by
  obtain ⟨a1, a2, a3, a4⟩ := h
  refine ⟨a1, (h1 _ _ (by omega)).trans a2, (h2 _ _ (by omega)).trans a3, fun i hi => ?_⟩
  rw [h3, h4, h1 _ i (.inr (.inl rfl)), h1 _ i (.inr (.inr rfl)), h2 _ i (.inr (.inl rfl)), h2 _ i (.inr (.inr rfl))]
  exact a4 i hi
theorem zPnm_up_162 {k c0 c0' : Nat} (h : zPnm_162 B k c0 S Sm L Lm) (hc : c0 ≤ c0') : zPnm_162 B k c0' S Sm L Lm := by
  obtain ⟨a1, a2, a3, a4⟩ := h
  refine ⟨a1, a2, a3, fun i hi => ⟨(a4 i hi).1, (a4 i hi).2.1, fun h => ?_⟩⟩
  obtain ⟨x, hx, e⟩ := (a4 i hi).2.2 h
  exact ⟨x, by omega, e⟩
/-- one NAME more: a player's, or another's -/
theorem zPnm_s_162 {k c0 c0' : Nat} {s s' num num' : Int32} (h : zPnm_162 B k c0 S Sm L Lm) (hk : k ≤ 25) (hc : c0 ≤ c0') (h5 : S' 162 5 = nI (k + 1)) (h13 : Sm' B 13 = nI (k + 1)) (hL : ∀ i, i ≤ k → L' 163 i = Lm' (B + 27) i) (hs : ∀ i, S' 165 i = if i = k then s else S 165 i) (hn : ∀ i, S' 167 i = if i = k then num else S 167 i) (hs' : ∀ i, Sm' (B + 28) i = if i = k then s' else Sm (B + 28) i) (hn' : ∀ i, Sm' (B + 29) i = if i = k then num' else Sm (B + 29) i) (hx : (s = 0 ↔ s' = 0) ∧ (s = 0 → ∃ x, x < c0' ∧ num = nI x ∧ num' = nI x)) : zPnm_162 B (k + 1) c0' S' Sm' L' Lm' := by
  obtain ⟨a1, a2, a3, a4⟩ := h
  refine ⟨by omega, h5, h13, fun i hi => ⟨hL i (by omega), ?_⟩⟩
  rw [hs, hn, hs', hn']
  by_cases e : i = k
  · simp only [if_pos e]
    exact hx
  · simp only [if_neg e]
    refine ⟨(a4 i (by omega)).2.1, fun h => ?_⟩
    obtain ⟨x, hx, e⟩ := (a4 i (by omega)).2.2 h
    exact ⟨x, by omega, e⟩
theorem op54x_pl_162 {c : Nat} (hR : zLT R) (h : zST 162 n b S Sm Lm) (hc : S 12 7 = nI c) : ∃ S' Sm' Lm', zcall 54 [.ref 162, .ref 12] zRc S L = some (none, zRc, S', L) ∧ zcall 191 [.ref 0] R Sm Lm = some (none, R, Sm', Lm') ∧ zST 162 n b S' Sm' Lm' ∧ (∀ j k, (j ≠ 1 ∨ (k ≠ 2 ∧ k ≠ 3 ∧ k ≠ 4)) → (j ≠ 162 ∨ (k ≠ 6 ∧ k ≠ 7)) → (j ≠ 12 ∨ k ≠ 7) → j ≠ 14 → j ≠ 16 → j ≠ 18 → S' j k = S j k) ∧ (∀ j k, (j ≠ 0 ∨ k < 8 ∨ 18 < k) → Sm' j k = Sm j k) ∧ (∀ j k, (j ≠ 0 ∨ k ≠ 15) → Lm' j k = Lm j k) ∧ S' 12 7 = nI (c + 1) ∧ (S' 162 6 = 0 → S 162 6 = 0 ∧ ∃ s l y : Nat, s ≤ 1 ∧ l ≤ 4 ∧ y ≤ 19 ∧ Sm' 0 16 = nI s ∧ Sm' 0 17 = nI l ∧ Sm' 0 18 = nI y ∧ (c < 8 → (∀ k, S' 14 k = if k = c then nI s else S 14 k) ∧ (∀ k, S' 16 k = if k = c then nI l else S 16 k) ∧ (∀ k, S' 18 k = if k = c then nI y else S 18 k))) := by
  have r0 := hR
  unfold zLT at r0
  obtain ⟨sd, ln, x, S2, Sm2, Lm2, b1, b2, b3, b4, b5⟩ := op54_162 (L := L) (sp := 12) hR h
  have q1 : S2 12 7 = nI c := (b4.1 _ _ (by omega) (by omega)).trans hc
  have k84 := t84_pl_162 (L := L) (x := sd) (y := ln) (z := x) q1
  obtain ⟨S3, hS3⟩ : ∃ S3, S3 = zup (zput (zput (zput S2 14 8 (nI c) sd) 16 8 (nI c) ln) 18 8 (nI c) x) 12 7 (nI (c + 1)) := ⟨_, rfl⟩
  rw [← hS3] at k84
  have e3 : ∀ j k, (j ≠ 12 ∨ k ≠ 7) → j ≠ 14 → j ≠ 16 → j ≠ 18 → S3 j k = S2 j k := fun j k a c d e => by rw [hS3, zup_ne (by omega), zput_ne (by omega), zput_ne (by omega), zput_ne (by omega)]
  have e6 := e3 162 6 (by omega) (by decide) (by decide) (by decide)
  refine ⟨S3, Sm2, Lm2, ?_, b2, zST_fr b3 (fun k => e3 1 k (by omega) (by decide) (by decide) (by decide)) (fun k => e3 3 k (by omega) (by decide) (by decide) (by decide)) e6 (e3 _ _ (by omega) (by decide) (by decide) (by decide)) (fun _ _ => rfl) (fun _ => rfl) rfl, fun j k a c d e f g => (e3 j k d e f g).trans (b4.1 j k a c), b4.2.1, b4.2.2, by rw [hS3]; exact zup_eq rfl rfl, fun h => ?_⟩
  · rw [b1]
    simp (config := {maxSteps := 1000000}) (disch := omega) only [↓reduceIte, Int32.reduceLT, Int32.reduceLE, Int32.reduceToNatClampNeg, Int32.reduceAdd, Int32.reduceSub, Int32.reduceMul, Nat.reduceLeDiff, zEL, zup_ne, zup_eq, zT0, zT1, zT2, if_true, if_false, gR, gM, s54_66, s54_67, s54_68, s54_69, s54_71, s54_74, k84]
  · rw [e6] at h
    obtain ⟨g, s, l, y, hs, hl, hy, rfl, rfl, rfl, m1, m2, m3⟩ := b5 h
    refine ⟨g, s, l, y, hs, hl, hy, m1, m2, m3, fun hc8 => ⟨fun k => ?_, fun k => ?_, fun k => ?_⟩⟩
    · rw [hS3, zup_ne (by omega), zput_ne (by omega), zput_ne (by omega), zput_at (by omega) (by omega), b4.1 _ _ (by omega) (by omega)]
    · rw [hS3, zup_ne (by omega), zput_ne (by omega), zput_at (by omega) (by omega), zput_ne (by omega), b4.1 _ _ (by omega) (by omega)]
    · rw [hS3, zup_ne (by omega), zput_at (by omega) (by omega), zput_ne (by omega), zput_ne (by omega), b4.1 _ _ (by omega) (by omega)]
theorem op54x_bl_162 {c : Nat} (hR : zLT R) (h : zST 162 n b S Sm Lm) (hc : S 25 7 = nI c) : ∃ S' Sm' Lm', zcall 54 [.ref 162, .ref 25] zRc S L = some (none, zRc, S', L) ∧ zcall 191 [.ref 0] R Sm Lm = some (none, R, Sm', Lm') ∧ zST 162 n b S' Sm' Lm' ∧ (∀ j k, (j ≠ 1 ∨ (k ≠ 2 ∧ k ≠ 3 ∧ k ≠ 4)) → (j ≠ 162 ∨ (k ≠ 6 ∧ k ≠ 7)) → (j ≠ 25 ∨ k ≠ 7) → j ≠ 27 → j ≠ 29 → j ≠ 31 → S' j k = S j k) ∧ (∀ j k, (j ≠ 0 ∨ k < 8 ∨ 18 < k) → Sm' j k = Sm j k) ∧ (∀ j k, (j ≠ 0 ∨ k ≠ 15) → Lm' j k = Lm j k) ∧ S' 25 7 = nI (c + 1) ∧ (S' 162 6 = 0 → S 162 6 = 0 ∧ ∃ s l y : Nat, s ≤ 1 ∧ l ≤ 4 ∧ y ≤ 19 ∧ Sm' 0 16 = nI s ∧ Sm' 0 17 = nI l ∧ Sm' 0 18 = nI y ∧ (c < 8 → (∀ k, S' 27 k = if k = c then nI s else S 27 k) ∧ (∀ k, S' 29 k = if k = c then nI l else S 29 k) ∧ (∀ k, S' 31 k = if k = c then nI y else S 31 k))) := by
  have r0 := hR
  unfold zLT at r0
  obtain ⟨sd, ln, x, S2, Sm2, Lm2, b1, b2, b3, b4, b5⟩ := op54_162 (L := L) (sp := 25) hR h
  have q1 : S2 25 7 = nI c := (b4.1 _ _ (by omega) (by omega)).trans hc
  have k84 := t84_bl_162 (L := L) (x := sd) (y := ln) (z := x) q1
  obtain ⟨S3, hS3⟩ : ∃ S3, S3 = zup (zput (zput (zput S2 27 8 (nI c) sd) 29 8 (nI c) ln) 31 8 (nI c) x) 25 7 (nI (c + 1)) := ⟨_, rfl⟩
  rw [← hS3] at k84
  have e3 : ∀ j k, (j ≠ 25 ∨ k ≠ 7) → j ≠ 27 → j ≠ 29 → j ≠ 31 → S3 j k = S2 j k := fun j k a c d e => by rw [hS3, zup_ne (by omega), zput_ne (by omega), zput_ne (by omega), zput_ne (by omega)]
  have e6 := e3 162 6 (by omega) (by decide) (by decide) (by decide)
  refine ⟨S3, Sm2, Lm2, ?_, b2, zST_fr b3 (fun k => e3 1 k (by omega) (by decide) (by decide) (by decide)) (fun k => e3 3 k (by omega) (by decide) (by decide) (by decide)) e6 (e3 _ _ (by omega) (by decide) (by decide) (by decide)) (fun _ _ => rfl) (fun _ => rfl) rfl, fun j k a c d e f g => (e3 j k d e f g).trans (b4.1 j k a c), b4.2.1, b4.2.2, by rw [hS3]; exact zup_eq rfl rfl, fun h => ?_⟩
  · rw [b1]
    simp (config := {maxSteps := 1000000}) (disch := omega) only [↓reduceIte, Int32.reduceLT, Int32.reduceLE, Int32.reduceToNatClampNeg, Int32.reduceAdd, Int32.reduceSub, Int32.reduceMul, Nat.reduceLeDiff, zEL, zup_ne, zup_eq, zT0, zT1, zT2, if_true, if_false, gR, gM, s54_66, s54_67, s54_68, s54_69, s54_71, s54_74, k84]
  · rw [e6] at h
    obtain ⟨g, s, l, y, hs, hl, hy, rfl, rfl, rfl, m1, m2, m3⟩ := b5 h
    refine ⟨g, s, l, y, hs, hl, hy, m1, m2, m3, fun hc8 => ⟨fun k => ?_, fun k => ?_, fun k => ?_⟩⟩
    · rw [hS3, zup_ne (by omega), zput_ne (by omega), zput_ne (by omega), zput_at (by omega) (by omega), b4.1 _ _ (by omega) (by omega)]
    · rw [hS3, zup_ne (by omega), zput_ne (by omega), zput_at (by omega) (by omega), zput_ne (by omega), b4.1 _ _ (by omega) (by omega)]
    · rw [hS3, zup_ne (by omega), zput_at (by omega) (by omega), zput_ne (by omega), zput_ne (by omega), b4.1 _ _ (by omega) (by omega)]
theorem op54x_si_162 {c : Nat} (hR : zLT R) (h : zST 162 n b S Sm Lm) (hc : S 38 7 = nI c) : ∃ S' Sm' Lm', zcall 54 [.ref 162, .ref 38] zRc S L = some (none, zRc, S', L) ∧ zcall 191 [.ref 0] R Sm Lm = some (none, R, Sm', Lm') ∧ zST 162 n b S' Sm' Lm' ∧ (∀ j k, (j ≠ 1 ∨ (k ≠ 2 ∧ k ≠ 3 ∧ k ≠ 4)) → (j ≠ 162 ∨ (k ≠ 6 ∧ k ≠ 7)) → (j ≠ 38 ∨ k ≠ 7) → j ≠ 40 → j ≠ 42 → j ≠ 44 → S' j k = S j k) ∧ (∀ j k, (j ≠ 0 ∨ k < 8 ∨ 18 < k) → Sm' j k = Sm j k) ∧ (∀ j k, (j ≠ 0 ∨ k ≠ 15) → Lm' j k = Lm j k) ∧ S' 38 7 = nI (c + 1) ∧ (S' 162 6 = 0 → S 162 6 = 0 ∧ ∃ s l y : Nat, s ≤ 1 ∧ l ≤ 4 ∧ y ≤ 19 ∧ Sm' 0 16 = nI s ∧ Sm' 0 17 = nI l ∧ Sm' 0 18 = nI y ∧ (c < 6 → (∀ k, S' 40 k = if k = c then nI s else S 40 k) ∧ (∀ k, S' 42 k = if k = c then nI l else S 42 k) ∧ (∀ k, S' 44 k = if k = c then nI y else S 44 k))) := by
  have r0 := hR
  unfold zLT at r0
  obtain ⟨sd, ln, x, S2, Sm2, Lm2, b1, b2, b3, b4, b5⟩ := op54_162 (L := L) (sp := 38) hR h
  have q1 : S2 38 7 = nI c := (b4.1 _ _ (by omega) (by omega)).trans hc
  have k84 := t84_si_162 (L := L) (x := sd) (y := ln) (z := x) q1
  obtain ⟨S3, hS3⟩ : ∃ S3, S3 = zup (zput (zput (zput S2 40 6 (nI c) sd) 42 6 (nI c) ln) 44 6 (nI c) x) 38 7 (nI (c + 1)) := ⟨_, rfl⟩
  rw [← hS3] at k84
  have e3 : ∀ j k, (j ≠ 38 ∨ k ≠ 7) → j ≠ 40 → j ≠ 42 → j ≠ 44 → S3 j k = S2 j k := fun j k a c d e => by rw [hS3, zup_ne (by omega), zput_ne (by omega), zput_ne (by omega), zput_ne (by omega)]
  have e6 := e3 162 6 (by omega) (by decide) (by decide) (by decide)
  refine ⟨S3, Sm2, Lm2, ?_, b2, zST_fr b3 (fun k => e3 1 k (by omega) (by decide) (by decide) (by decide)) (fun k => e3 3 k (by omega) (by decide) (by decide) (by decide)) e6 (e3 _ _ (by omega) (by decide) (by decide) (by decide)) (fun _ _ => rfl) (fun _ => rfl) rfl, fun j k a c d e f g => (e3 j k d e f g).trans (b4.1 j k a c), b4.2.1, b4.2.2, by rw [hS3]; exact zup_eq rfl rfl, fun h => ?_⟩
  · rw [b1]
    simp (config := {maxSteps := 1000000}) (disch := omega) only [↓reduceIte, Int32.reduceLT, Int32.reduceLE, Int32.reduceToNatClampNeg, Int32.reduceAdd, Int32.reduceSub, Int32.reduceMul, Nat.reduceLeDiff, zEL, zup_ne, zup_eq, zT0, zT1, zT2, if_true, if_false, gR, gM, s54_66, s54_67, s54_68, s54_69, s54_71, s54_74, k84]
  · rw [e6] at h
    obtain ⟨g, s, l, y, hs, hl, hy, rfl, rfl, rfl, m1, m2, m3⟩ := b5 h
    refine ⟨g, s, l, y, hs, hl, hy, m1, m2, m3, fun hc8 => ⟨fun k => ?_, fun k => ?_, fun k => ?_⟩⟩
    · rw [hS3, zup_ne (by omega), zput_ne (by omega), zput_ne (by omega), zput_at (by omega) (by omega), b4.1 _ _ (by omega) (by omega)]
    · rw [hS3, zup_ne (by omega), zput_ne (by omega), zput_at (by omega) (by omega), zput_ne (by omega), b4.1 _ _ (by omega) (by omega)]
    · rw [hS3, zup_ne (by omega), zput_at (by omega) (by omega), zput_ne (by omega), zput_ne (by omega), b4.1 _ _ (by omega) (by omega)]
/-- the players -/
def zPpl_162 (B c : Nat) (S Sm : zS) : Prop :=
  c ≤ 8 ∧ S 12 7 = nI c ∧ Sm B 8 = nI c ∧ ∀ k, k < c → S 14 k = Sm (B + 7) k ∧ S 16 k = Sm (B + 8) k ∧ S 18 k = Sm (B + 9) k ∧ S 20 k = Sm (B + 12) k ∧ S 22 k = Sm (B + 10) k ∧ S 24 k = Sm (B + 11) k ∧ zin (Sm (B + 7) k) 1 ∧ zin (Sm (B + 8) k) 4 ∧ zin (Sm (B + 9) k) 19 ∧ zin (Sm (B + 12) k) 9 ∧ zin (Sm (B + 10) k) 9 ∧ zin (Sm (B + 11) k) 9
theorem zPpl_fr_162 {c : Nat} (h : zPpl_162 B c S Sm) (h1 : ∀ j k, (j = 12 ∧ k = 7) ∨ j = 14 ∨ j = 16 ∨ j = 18 ∨ j = 20 ∨ j = 22 ∨ j = 24 → S' j k = S j k) (h2 : ∀ j k, (j = B ∧ k = 8) ∨ (B + 7 ≤ j ∧ j ≤ B + 12) → Sm' j k = Sm j k) : zPpl_162 B c S' Sm' := by
  unfold zPpl_162 at h ⊢
  have e10 : S' 14 = S 14 := funext fun k => h1 _ k (by omega)
  have e12 : S' 16 = S 16 := funext fun k => h1 _ k (by omega)
  have e14 : S' 18 = S 18 := funext fun k => h1 _ k (by omega)
  have e16 : S' 20 = S 20 := funext fun k => h1 _ k (by omega)
  have e18 : S' 22 = S 22 := funext fun k => h1 _ k (by omega)
  have e20 : S' 24 = S 24 := funext fun k => h1 _ k (by omega)
  have m7 : Sm' (B + 7) = Sm (B + 7) := funext fun k => h2 _ k (by omega)
  have m8 : Sm' (B + 8) = Sm (B + 8) := funext fun k => h2 _ k (by omega)
  have m9 : Sm' (B + 9) = Sm (B + 9) := funext fun k => h2 _ k (by omega)
  have m10 : Sm' (B + 10) = Sm (B + 10) := funext fun k => h2 _ k (by omega)
  have m11 : Sm' (B + 11) = Sm (B + 11) := funext fun k => h2 _ k (by omega)
  have m12 : Sm' (B + 12) = Sm (B + 12) := funext fun k => h2 _ k (by omega)
  rw [e10, e12, e14, e16, e18, e20, m7, m8, m9, m10, m11, m12, h1 _ 7 (by omega), h2 B 8 (by omega)]
  exact h
theorem l52_162 {c k : Nat} (hR : zLT R) (hB : zLB R B) (hB11 : 11 ≤ B) (hT : zTKc n b p q S) (hO : zOKs 162 n b p q S Sm Lm) (hk : zkN b n p q = 1) (h0 : S 12 0 = 8) (hP : zPpl_162 B c S Sm) (hN : zPnm_162 B k c S Sm L Lm) (hck : c < 8 → k ≤ 25) : ∃ S' Sm' L' Lm', zcall 52 [.ref 162] zRc S L = some (none, zRc, S', L') ∧ zcall 198 [.ref 0] R Sm Lm = some (none, R, Sm', Lm') ∧ zST 162 n b S' Sm' Lm' ∧ (∀ j k, (j ≠ 1 ∨ (k ≠ 2 ∧ k ≠ 3 ∧ k ≠ 4)) → (j ≠ 162 ∨ (k ≠ 5 ∧ k ≠ 6 ∧ k ≠ 7)) → j ≠ 165 → j ≠ 167 → (j ≠ 12 ∨ k ≠ 7) → j ≠ 14 → j ≠ 16 → j ≠ 18 → j ≠ 20 → j ≠ 22 → j ≠ 24 → S' j k = S j k) ∧ (∀ j k, (j ≠ 0 ∨ k < 8 ∨ 18 < k) → (j ≠ B ∨ (k ≠ 8 ∧ k ≠ 13)) → j ≠ B + 28 → j ≠ B + 29 → (j < B + 7 ∨ B + 12 < j) → Sm' j k = Sm j k) ∧ (∀ j k, j ≠ 163 → L' j k = L j k) ∧ (∀ j k, (j ≠ 0 ∨ k ≠ 15) → j ≠ B + 27 → Lm' j k = Lm j k) ∧ (S' 162 6 = 0 → c < 8 ∧ zPpl_162 B (c + 1) S' Sm' ∧ zPnm_162 B (k + 1) (c + 1) S' Sm' L' Lm') := by
  have r0 := hR
  unfold zLT at r0
  have rB := hB
  unfold zLB at rB
  obtain ⟨hc8, p1, p2, p3⟩ := hP
  obtain ⟨hk26, n1, n2, n3⟩ := id hN
  have k82 := t82_pl_162 (L := L) hc8 p1 h0
  obtain ⟨S1, Sm1, Lm1, a1, a2, a3, a4, a5⟩ := op59_162 (L := L) (fl := if c = 8 then 1 else 0) (many := nI c) (most := 8) hR hT hO hk (by
    by_cases e : c = 8
    · subst e
      exact .inl ⟨if_pos rfl, rfl⟩
    · exact .inr ⟨if_neg e, fun h => e ((znI_inj (b := 8) (by omega) (by omega)).mp h)⟩)
  have hc7 : S1 162 6 = 0 → c < 8 := fun h => by
    have g0 := a5 h
    rcases Nat.lt_or_ge c 8 with h | h
    · exact h
    · rw [if_pos (by omega)] at g0; exact absurd g0 (by decide)
  have i1 : S1 12 7 = nI c := (a4.1 _ _ (by omega) (by omega)).trans p1
  have j1 : Sm1 B 8 = nI c := (a4.2.1 _ _ (by omega)).trans p2
  obtain ⟨S2, Sm2, L2, Lm2, b1, b2, b3, b4, b5, -⟩ := op64_162 (L := L) (k := k) (k' := k) (s := 0) (s' := 0) (num := nI c) (num' := nI c) hR hB hB11 a3 hk26 hk26 ((a4.1 _ _ (by omega) (by omega)).trans n1) ((a4.2.1 _ _ (by omega)).trans n2) (fun h => ⟨rfl, hck (hc7 h), fun i hi => by rw [a4.2.2 _ _ (by omega)]; exact (n3 i hi).1⟩)
  have i2 : S2 12 7 = nI c := (b4.1 _ _ (by omega) (by omega) (by decide) (by decide)).trans i1
  have j2 : Sm2 B 8 = nI c := (b4.2.1 _ _ (by omega) (by omega) (by omega) (by omega)).trans j1
  obtain ⟨S3, Sm3, Lm3, c1, c2, c3, c4, c5, c6, c7, c8⟩ := op54x_pl_162 (L := L2) hR b3 i2
  have j3 : Sm3 B 8 = nI c := (c5 _ _ (by omega)).trans j2
  obtain ⟨v1, w1, S4, Sm4, Lm4, d1, d2, d3, d4, d5⟩ := op62_162 (L := L2) (l := 0) (u := 9) (lo := 0) (hi := 9) (lo' := 0) (hi' := 9) hR (fun p q S L h => cw_arm h) (fun p q S Sm Lm h => mw_arm hR h) c3 (by omega) (by omega) (fun _ => ⟨rfl, rfl, rfl, rfl⟩)
  have g4 : zST 162 n b (zput S4 22 8 (nI c) v1) Sm4 Lm4 := zST_fr d3 (fun k => zput_ne (by omega)) (fun k => zput_ne (by omega)) (zput_ne (by omega)) (zput_ne (by omega)) (fun _ _ => rfl) (fun _ => rfl) rfl
  obtain ⟨v2, w2, S5, Sm5, Lm5, e1, e2, e3, e4, e5⟩ := op62_162 (L := L2) (l := 0) (u := 9) (lo := 0) (hi := 9) (lo' := 0) (hi' := 9) hR (fun p q S L h => cw_dodge h) (fun p q S Sm Lm h => mw_dodge hR h) g4 (by omega) (by omega) (fun _ => ⟨rfl, rfl, rfl, rfl⟩)
  have g5 : zST 162 n b (zput S5 24 8 (nI c) v2) Sm5 Lm5 := zST_fr e3 (fun k => zput_ne (by omega)) (fun k => zput_ne (by omega)) (zput_ne (by omega)) (zput_ne (by omega)) (fun _ _ => rfl) (fun _ => rfl) rfl
  obtain ⟨v3, w3, S6, Sm6, Lm6, f1, f2, f3, f4, f5⟩ := op62_162 (L := L2) (l := 0) (u := 9) (lo := 0) (hi := 9) (lo' := 0) (hi' := 9) hR (fun p q S L h => cw_balls h) (fun p q S Sm Lm h => mw_balls hR h) g5 (by omega) (by omega) (fun _ => ⟨rfl, rfl, rfl, rfl⟩)
  have cl : zcall 52 [.ref 162] zRc S L = some (none, zRc, zput S6 20 8 (nI c) v3, L2) := by
    unfold zcall
    simp (config := {maxSteps := 1000000}) (disch := omega) only [↓reduceIte, Int32.reduceLT, Int32.reduceLE, Int32.reduceToNatClampNeg, Int32.reduceAdd, Int32.reduceSub, Int32.reduceMul, Nat.reduceLeDiff, zEL, zup_ne, zup_eq, zT0, zT1, zT2, if_true, if_false, gR, gM, ze_52, s52_0, s52_1, s52_4, s52_7, s52_8, s52_9, s52_10, s52_13, s52_16, s52_17, s52_20, s52_21, s52_22, s52_23, s52_24, s52_27, s52_28, s52_29, s52_32, s52_33, s52_36, s52_37, s52_38, s52_40, s52_41, s52_43, s52_46, s52_49, s52_50, s52_53, s52_54, s52_55, s52_57, s52_58, s52_60, s52_63, s52_66, s52_67, s52_70, s52_71, s52_72, s52_74, s52_75, s52_77, s52_80, s52_83, k82, a1, i1, b1, c1, d1, e1, f1]
  have mo : zcall 198 [.ref 0] R Sm Lm = zgo 198 62 [.ref 0, .int w1, .int w2, .int w3, .retAddr 0] [] R Sm6 Lm6 := by
    unfold zcall
    simp (config := {maxSteps := 1000000}) (disch := omega) only [↓reduceIte, Int32.reduceLT, Int32.reduceLE, Int32.reduceToNatClampNeg, Int32.reduceAdd, Int32.reduceSub, Int32.reduceMul, Nat.reduceLeDiff, zEL, zup_ne, zup_eq, zT0, zT1, zT2, if_true, if_false, r0, rB, ze_198, s198_0, s198_1, s198_2, s198_5, s198_8, s198_10, s198_13, s198_14, s198_15, s198_16, s198_19, s198_22, s198_25, s198_26, s198_29, s198_30, s198_33, s198_34, s198_36, s198_39, s198_40, s198_41, s198_44, s198_45, s198_47, s198_50, s198_51, s198_52, s198_55, s198_56, s198_58, s198_61, p2, a2, j1, b2, c2, d2, e2, f2]
  have j6 : Sm6 B 8 = nI c := by rw [f4.2.1 _ _ (by omega), e4.2.1 _ _ (by omega), d4.2.1 _ _ (by omega), j3]
  have st : ∀ Sm7, (∀ j k, (j ≠ B ∨ k ≠ 8) → (j < B + 7 ∨ B + 12 < j) → Sm7 j k = Sm6 j k) → zST 162 n b (zput S6 20 8 (nI c) v3) Sm7 Lm6 := fun Sm7 h => zST_fr f3 (fun k => zput_ne (by omega)) (fun k => zput_ne (by omega)) (zput_ne (by omega)) (zput_ne (by omega)) (fun k _ => h 0 k (by omega) (by omega)) (fun k => h 1 k (by omega) (by omega)) rfl
  have fC : ∀ j k, (j ≠ 1 ∨ (k ≠ 2 ∧ k ≠ 3 ∧ k ≠ 4)) → (j ≠ 162 ∨ (k ≠ 5 ∧ k ≠ 6 ∧ k ≠ 7)) → j ≠ 165 → j ≠ 167 → (j ≠ 12 ∨ k ≠ 7) → j ≠ 14 → j ≠ 16 → j ≠ 18 → j ≠ 20 → j ≠ 22 → j ≠ 24 → zput S6 20 8 (nI c) v3 j k = S j k := fun j k h1 h2 h3 h4 h5 h6 h7 h8 h9 h10 h11 => by
    rw [zput_ne h9, f4.1 j k h1 (by omega), zput_ne h11, e4.1 j k h1 (by omega), zput_ne h10, d4.1 j k h1 (by omega), c4 j k h1 (by omega) h5 h6 h7 h8, b4.1 j k h1 h2 h3 h4, a4.1 j k h1 (by omega)]
  have fM : ∀ j k, (j ≠ 0 ∨ k < 8 ∨ 18 < k) → (j ≠ B ∨ k ≠ 13) → j ≠ B + 28 → j ≠ B + 29 → Sm6 j k = Sm j k := fun j k h1 h2 h3 h4 => by
    rw [f4.2.1 j k (by omega), e4.2.1 j k (by omega), d4.2.1 j k (by omega), c5 j k (by omega), b4.2.1 j k (by omega) h2 h3 h4, a4.2.1 j k (by omega)]
  have fL : ∀ j k, (j ≠ 0 ∨ k ≠ 15) → j ≠ B + 27 → Lm6 j k = Lm j k := fun j k h1 h2 => by
    rw [f4.2.2 j k h1, e4.2.2 j k h1, d4.2.2 j k h1, c6 j k h1, b4.2.2.2 j k h1 h2, a4.2.2 j k h1]
  rcases zST_9 f3 with ⟨o1, o2⟩ | ⟨o1, o2⟩
  · have o2 : (Sm6 0 9 = 5) = False := eq_false o2
    obtain ⟨y5, x3, -, z3, rfl, rfl⟩ := f5 o1
    rw [zput_ne (by omega)] at y5
    obtain ⟨y4, x2, -, z2, rfl, rfl⟩ := e5 y5
    rw [zput_ne (by omega)] at y4
    obtain ⟨y3, x1, -, z1, rfl, rfl⟩ := d5 y4
    obtain ⟨y2, s, l, y, hs, hl, hy, m16, m17, m18, hrow⟩ := c8 y3
    obtain ⟨y1, u1, u2, u3, u4, u5, u6, u7⟩ := b5 y2
    have c7' := hc7 y1
    obtain ⟨w10, w12, w14⟩ := hrow c7'
    have m16' : Sm6 0 16 = nI s := by rw [f4.2.1 _ _ (by omega), e4.2.1 _ _ (by omega), d4.2.1 _ _ (by omega), m16]
    have m17' : Sm6 0 17 = nI l := by rw [f4.2.1 _ _ (by omega), e4.2.1 _ _ (by omega), d4.2.1 _ _ (by omega), m17]
    have m18' : Sm6 0 18 = nI y := by rw [f4.2.1 _ _ (by omega), e4.2.1 _ _ (by omega), d4.2.1 _ _ (by omega), m18]
    obtain ⟨Sm7, hSm7⟩ : ∃ Sm7, Sm7 = zup (zup (zup (zup (zup (zup (zup Sm6 (B + 7) c (nI s)) (B + 8) c (nI l)) (B + 9) c (nI y)) (B + 10) c (nI x1)) (B + 11) c (nI x2)) (B + 12) c (nI x3)) B 8 (nI (c + 1)) := ⟨_, rfl⟩
    have e7 : ∀ j k, (j ≠ B ∨ k ≠ 8) → (j < B + 7 ∨ B + 12 < j) → Sm7 j k = Sm6 j k := fun j k h1 h2 => by
      rw [hSm7, zup_ne (by omega), zup_ne (by omega), zup_ne (by omega), zup_ne (by omega), zup_ne (by omega), zup_ne (by omega), zup_ne (by omega)]
    have fr6 : ∀ j k, B + 7 ≤ j → j ≤ B + 12 → Sm6 j k = Sm j k := fun j k h1 h2 => fM j k (by omega) (by omega) (by omega) (by omega)
    have q7 : ∀ k, Sm7 (B + 7) k = if k = c then nI s else Sm (B + 7) k := fun k => by
      rw [hSm7, zup_ne (by omega), zup_ne (by omega), zup_ne (by omega), zup_ne (by omega), zup_ne (by omega), zup_ne (by omega), ← fr6 (B + 7) k (by omega) (by omega)]
      by_cases e : k = c
      · rw [zup_eq rfl e, if_pos e]
      · rw [zup_ne (by omega), if_neg e]
    have q8 : ∀ k, Sm7 (B + 8) k = if k = c then nI l else Sm (B + 8) k := fun k => by
      rw [hSm7, zup_ne (by omega), zup_ne (by omega), zup_ne (by omega), zup_ne (by omega), zup_ne (by omega), ← fr6 (B + 8) k (by omega) (by omega)]
      by_cases e : k = c
      · rw [zup_eq rfl e, if_pos e]
      · rw [zup_ne (by omega), zup_ne (by omega), if_neg e]
    have q9 : ∀ k, Sm7 (B + 9) k = if k = c then nI y else Sm (B + 9) k := fun k => by
      rw [hSm7, zup_ne (by omega), zup_ne (by omega), zup_ne (by omega), zup_ne (by omega), ← fr6 (B + 9) k (by omega) (by omega)]
      by_cases e : k = c
      · rw [zup_eq rfl e, if_pos e]
      · rw [zup_ne (by omega), zup_ne (by omega), zup_ne (by omega), if_neg e]
    have q10 : ∀ k, Sm7 (B + 10) k = if k = c then nI x1 else Sm (B + 10) k := fun k => by
      rw [hSm7, zup_ne (by omega), zup_ne (by omega), zup_ne (by omega), ← fr6 (B + 10) k (by omega) (by omega)]
      by_cases e : k = c
      · rw [zup_eq rfl e, if_pos e]
      · rw [zup_ne (by omega), zup_ne (by omega), zup_ne (by omega), zup_ne (by omega), if_neg e]
    have q11 : ∀ k, Sm7 (B + 11) k = if k = c then nI x2 else Sm (B + 11) k := fun k => by
      rw [hSm7, zup_ne (by omega), zup_ne (by omega), ← fr6 (B + 11) k (by omega) (by omega)]
      by_cases e : k = c
      · rw [zup_eq rfl e, if_pos e]
      · rw [zup_ne (by omega), zup_ne (by omega), zup_ne (by omega), zup_ne (by omega), zup_ne (by omega), if_neg e]
    have q12 : ∀ k, Sm7 (B + 12) k = if k = c then nI x3 else Sm (B + 12) k := fun k => by
      rw [hSm7, zup_ne (by omega), ← fr6 (B + 12) k (by omega) (by omega)]
      by_cases e : k = c
      · rw [zup_eq rfl e, if_pos e]
      · rw [zup_ne (by omega), zup_ne (by omega), zup_ne (by omega), zup_ne (by omega), zup_ne (by omega), zup_ne (by omega), if_neg e]
    have v10 : ∀ k, zput S6 20 8 (nI c) (nI x3) 14 k = if k = c then nI s else S 14 k := fun k => by
      rw [zput_ne (by omega), f4.1 _ _ (by omega) (by omega), zput_ne (by omega), e4.1 _ _ (by omega) (by omega), zput_ne (by omega), d4.1 _ _ (by omega) (by omega), w10, b4.1 _ _ (by omega) (by omega) (by decide) (by decide), a4.1 _ _ (by omega) (by omega)]
    have v12 : ∀ k, zput S6 20 8 (nI c) (nI x3) 16 k = if k = c then nI l else S 16 k := fun k => by
      rw [zput_ne (by omega), f4.1 _ _ (by omega) (by omega), zput_ne (by omega), e4.1 _ _ (by omega) (by omega), zput_ne (by omega), d4.1 _ _ (by omega) (by omega), w12, b4.1 _ _ (by omega) (by omega) (by decide) (by decide), a4.1 _ _ (by omega) (by omega)]
    have v14 : ∀ k, zput S6 20 8 (nI c) (nI x3) 18 k = if k = c then nI y else S 18 k := fun k => by
      rw [zput_ne (by omega), f4.1 _ _ (by omega) (by omega), zput_ne (by omega), e4.1 _ _ (by omega) (by omega), zput_ne (by omega), d4.1 _ _ (by omega) (by omega), w14, b4.1 _ _ (by omega) (by omega) (by decide) (by decide), a4.1 _ _ (by omega) (by omega)]
    have fS3 : ∀ j k, j = 20 ∨ j = 22 ∨ j = 24 → S3 j k = S j k := fun j k h => by
      rw [c4 j k (by omega) (by omega) (by omega) (by omega) (by omega) (by omega), b4.1 j k (by omega) (by omega) (by omega) (by omega), a4.1 j k (by omega) (by omega)]
    have v16 : ∀ k, zput S6 20 8 (nI c) (nI x3) 20 k = if k = c then nI x3 else S 20 k := fun k => by
      rw [zput_at (by omega) (by omega), f4.1 _ _ (by omega) (by omega), zput_ne (by omega), e4.1 _ _ (by omega) (by omega), zput_ne (by omega), d4.1 _ _ (by omega) (by omega), fS3 _ _ (by omega)]
    have v18 : ∀ k, zput S6 20 8 (nI c) (nI x3) 22 k = if k = c then nI x1 else S 22 k := fun k => by
      rw [zput_ne (by omega), f4.1 _ _ (by omega) (by omega), zput_ne (by omega), e4.1 _ _ (by omega) (by omega), zput_at (by omega) (by omega), d4.1 _ _ (by omega) (by omega), fS3 _ _ (by omega)]
    have v20 : ∀ k, zput S6 20 8 (nI c) (nI x3) 24 k = if k = c then nI x2 else S 24 k := fun k => by
      rw [zput_ne (by omega), f4.1 _ _ (by omega) (by omega), zput_at (by omega) (by omega), e4.1 _ _ (by omega) (by omega), zput_ne (by omega), d4.1 _ _ (by omega) (by omega), fS3 _ _ (by omega)]
    have v7 : zput S6 20 8 (nI c) (nI x3) 12 7 = nI (c + 1) := by
      rw [zput_ne (by omega), f4.1 _ _ (by omega) (by omega), zput_ne (by omega), e4.1 _ _ (by omega) (by omega), zput_ne (by omega), d4.1 _ _ (by omega) (by omega), c7]
    have fN : ∀ j k, (j = 162 ∧ k = 5) ∨ j = 165 ∨ j = 167 → zput S6 20 8 (nI c) (nI x3) j k = S2 j k := fun j k h => by
      rw [zput_ne (by omega), f4.1 _ _ (by omega) (by omega), zput_ne (by omega), e4.1 _ _ (by omega) (by omega), zput_ne (by omega), d4.1 _ _ (by omega) (by omega), c4 j k (by omega) (by omega) (by omega) (by omega) (by omega) (by omega)]
    have fN1 : ∀ j k, (j = 162 ∧ k = 5) ∨ j = 165 ∨ j = 167 → S1 j k = S j k := fun j k h => a4.1 j k (by omega) (by omega)
    have fQ : ∀ j k, (j = B ∧ k = 13) ∨ j = B + 28 ∨ j = B + 29 → Sm7 j k = Sm2 j k := fun j k h => by
      rw [e7 j k (by omega) (by omega), f4.2.1 j k (by omega), e4.2.1 j k (by omega), d4.2.1 j k (by omega), c5 j k (by omega)]
    have fQ1 : ∀ j k, j = B + 28 ∨ j = B + 29 → Sm1 j k = Sm j k := fun j k h => a4.2.1 j k (by omega)
    refine ⟨_, Sm7, L2, Lm6, cl, mo.trans ?_, st _ e7, fC, fun j k h1 h2 h3 h4 h5 => (e7 j k (by omega) h5).trans (fM j k h1 (by omega) h3 h4), b4.2.2.1, fL, fun _ => ⟨c7', ⟨by omega, v7, by rw [hSm7]; exact zup_eq rfl rfl, fun i hi => ?_⟩, zPnm_s_162 hN (hck c7') (by omega) ((fN _ _ (by omega)).trans u1) ((fQ _ _ (by omega)).trans u2) (fun i hi => ?_) (fun i => (fN _ _ (by omega)).trans (by rw [u4, fN1 _ _ (by omega)])) (fun i => (fN _ _ (by omega)).trans (by rw [u5, fN1 _ _ (by omega)])) (fun i => (fQ _ _ (by omega)).trans (by rw [u6, fQ1 _ _ (by omega)])) (fun i => (fQ _ _ (by omega)).trans (by rw [u7, fQ1 _ _ (by omega)])) ⟨Iff.rfl, fun _ => ⟨c, by omega, rfl, rfl⟩⟩⟩⟩
    · rw [hSm7]
      simp (config := {maxSteps := 1000000}) (disch := omega) only [↓reduceIte, Int32.reduceLT, Int32.reduceLE, Int32.reduceToNatClampNeg, Int32.reduceAdd, Int32.reduceSub, Int32.reduceMul, Nat.reduceLeDiff, zEL, zup_ne, zup_eq, zT0, zT1, zT2, if_true, if_false, zneq_f, true_and, and_true, false_and, and_false, zKL, eq_self, Nat.reduceEqDiff, zite0, ite_not, zaddr, zaddl, zputr, zsb1, zsb2, zsb0, zsbm, znm1, r0, rB, s198_62, s198_63, s198_66, s198_67, s198_70, s198_71, s198_72, s198_75, s198_78, s198_80, s198_81, s198_84, s198_87, s198_89, s198_90, s198_93, s198_94, s198_95, s198_98, s198_101, s198_103, s198_104, s198_107, s198_108, s198_109, s198_112, s198_115, s198_117, s198_118, s198_121, s198_122, s198_123, s198_126, s198_129, s198_131, s198_132, s198_133, s198_134, s198_137, s198_140, s198_142, s198_143, s198_144, s198_145, s198_148, s198_151, s198_153, s198_154, s198_155, s198_156, s198_159, s198_160, s198_163, s198_164, s198_165, s198_168, o2, j6, m16', m17', m18']
    · rw [v10, v12, v14, v16, v18, v20, q7, q8, q9, q10, q11, q12]
      by_cases e : i = c
      · simp only [if_pos e]
        exact ⟨trivial, trivial, trivial, trivial, trivial, trivial, ⟨s, hs, rfl⟩, ⟨l, hl, rfl⟩, ⟨y, hy, rfl⟩, ⟨x3, z3, rfl⟩, ⟨x1, z1, rfl⟩, ⟨x2, z2, rfl⟩⟩
      · simp only [if_neg e]
        exact p3 i (by omega)
    · rw [f4.2.2 _ _ (by omega), e4.2.2 _ _ (by omega), d4.2.2 _ _ (by omega), c6 _ _ (by omega)]
      exact u3 i hi
  · refine ⟨_, Sm6, L2, Lm6, cl, mo.trans ?_, st Sm6 (fun _ _ _ _ => rfl), fC, fun j k h1 h2 h3 h4 h5 => fM j k h1 (by omega) h3 h4, b4.2.2.1, fL, fun h => ?_⟩
    · simp (config := {maxSteps := 1000000}) (disch := omega) only [↓reduceIte, Int32.reduceLT, Int32.reduceLE, Int32.reduceToNatClampNeg, Int32.reduceAdd, Int32.reduceSub, Int32.reduceMul, Nat.reduceLeDiff, zEL, zup_ne, zup_eq, zT0, zT1, zT2, if_true, if_false, r0, rB, s198_62, s198_63, s198_66, s198_67, s198_70, s198_71, s198_72, s198_75, s198_78, s198_80, s198_81, s198_84, s198_87, s198_89, s198_90, s198_93, s198_94, s198_95, s198_98, s198_101, s198_103, s198_104, s198_107, s198_108, s198_109, s198_112, s198_115, s198_117, s198_118, s198_121, s198_122, s198_123, s198_126, s198_129, s198_131, s198_132, s198_133, s198_134, s198_137, s198_140, s198_142, s198_143, s198_144, s198_145, s198_148, s198_151, s198_153, s198_154, s198_155, s198_156, s198_159, s198_160, s198_163, s198_164, s198_165, s198_168, o2]
    · rw [zput_ne (by omega)] at h
      exact absurd h o1
end ZPC
