/-! THE TEXT: where a spot is; prints -/
section ZPB
variable {S Sm S' Sm' : zS} {L Lm L' Lm' : zL} {R : List zE} {n B p q : Nat} {b : Nat → Nat}
/-- what stays while a spot is read -/
def zf54 (rd : Nat) (S Sm : zS) (Lm : zL) (S' Sm' : zS) (Lm' : zL) : Prop := (∀ j k, (j ≠ 1 ∨ (k ≠ 2 ∧ k ≠ 3 ∧ k ≠ 4)) → (j ≠ rd ∨ (k ≠ 6 ∧ k ≠ 7)) → S' j k = S j k) ∧ (∀ j k, (j ≠ 0 ∨ k < 8 ∨ 18 < k) → Sm' j k = Sm j k) ∧ (∀ j k, (j ≠ 0 ∨ k ≠ 15) → Lm' j k = Lm j k)
theorem zf54_of {rd : Nat} (h : zfr rd S Sm Lm S' Sm' Lm') : zf54 rd S Sm Lm S' Sm' Lm' := ⟨h.1, fun j k a => h.2.1 j k (by omega), h.2.2⟩
theorem zf54_t {rd : Nat} {S2 Sm2 : zS} {Lm2 : zL} (h : zf54 rd S Sm Lm S' Sm' Lm') (h2 : zf54 rd S' Sm' Lm' S2 Sm2 Lm2) : zf54 rd S Sm Lm S2 Sm2 Lm2 := ⟨fun j k a c => (h2.1 j k a c).trans (h.1 j k a c), fun j k a => (h2.2.1 j k a).trans (h.2.1 j k a), fun j k a => (h2.2.2 j k a).trans (h.2.2 j k a)⟩
theorem c60F_80 {r : Nat} {w : Bool} (k1 : zcall 92 [.ref 1, .ref r] zRc S L = some (some (.int (zbi w)), zRc, S, L)) (hne : ¬ S 80 6 = 0) : zcall 60 [.ref 80, .ref r] zRc S L = some (none, zRc, S, L) := by
  have k3 := fun k => c58F_80 (L := L) (k := k) hne
  unfold zcall
  cases w
  all_goals rw [zbi] at k1
  all_goals simp (config := {maxSteps := 1000000}) (disch := omega) only [↓reduceIte, Int32.reduceLT, Int32.reduceLE, Int32.reduceToNatClampNeg, Int32.reduceAdd, Int32.reduceSub, Int32.reduceMul, Nat.reduceLeDiff, zEL, zup_ne, zup_eq, zT0, zT1, zT2, if_true, if_false, gR, gX, ze_60, s60_0, s60_1, s60_4, s60_5, s60_8, s60_11, s60_12, s60_13, s60_16, s60_17, s60_20, s60_23, s60_24, s60_27, s60_30, k1, k3, hne, Bool.false_eq_true]
/-- left or right -/
theorem op54a_80 {sp : Nat} (hR : zLT R) (h : zST 80 n b S Sm Lm) : ∃ sd : Int32, ∃ S' Sm' Lm', zgo 54 6 [.ref 80, .ref sp, .retAddr 0, .retAddr 0, .retAddr 0] [] zRc S L = zgo 54 40 [.ref 80, .ref sp, .int sd, .retAddr 0, .retAddr 0] [] zRc S' L ∧ zgo 191 6 [.ref 0] [] R Sm Lm = zgo 191 54 [.ref 0] [] R Sm' Lm' ∧ zST 80 n b S' Sm' Lm' ∧ zf54 80 S Sm Lm S' Sm' Lm' ∧ (S' 80 6 = 0 → S 80 6 = 0 ∧ ∃ s : Nat, s ≤ 1 ∧ sd = nI s ∧ Sm' 0 16 = nI s) := by
  have r0 := hR
  unfold zLT at r0
  obtain ⟨p, q, hT, hO⟩ := h
  have kr := cw_right (L := L) hT
  have kl := cw_left (L := L) hT
  rcases hO with hO | hF
  · have h6 := hO.1
    have mr := mw_right hR ⟨hT, hO.2.2.1, hO.2.2.2⟩
    have ml := mw_left hR ⟨hT, hO.2.2.1, hO.2.2.2⟩
    have st : ∀ v : Int32, zkN b n p q = 1 → ∃ S' Sm' Lm', zcall 90 [.ref 1] zRc S L = some (none, zRc, S', L) ∧ zcall 179 [.ref 0] R (zup Sm 0 16 v) Lm = some (none, R, Sm', Lm') ∧ zST 80 n b S' Sm' Lm' ∧ zf54 80 S Sm Lm S' Sm' Lm' ∧ S' 80 6 = 0 ∧ Sm' 0 16 = v := fun v hk => by
      have hO1 : zOKs 80 n b p q S (zup Sm 0 16 v) Lm := by
        obtain ⟨a1, a2, a3, a4⟩ := hO
        refine ⟨a1, (zup_ne (by omega)).trans a2, zTN_fr a3 (zup_ne (by omega)) (fun i => zup_ne (by omega)), ?_⟩
        unfold zTM1 at a4 ⊢
        simp (disch := omega) only [zup_ne]
        exact a4
      obtain ⟨S', Sm', Lm', a1, a2, a3, a4, a5⟩ := zsn_80 (L := L) hR hT hO1 (by omega) (by omega)
      refine ⟨S', Sm', Lm', a1, a2, a3, ⟨a4.1, fun j k a => (a4.2.1 j k (by omega)).trans (zup_ne (by omega)), a4.2.2⟩, a5, (a4.2.1 0 16 (by omega)).trans (zup_eq rfl rfl)⟩
    cases hr : zW b n p q zw_right with
    | true =>
      have hk : zkN b n p q = 1 ∧ q - p = 5 := by
        unfold zW at hr
        rw [Bool.and_eq_true, Bool.and_eq_true, decide_eq_true_eq, decide_eq_true_eq] at hr
        exact ⟨hr.1, hr.2.1⟩
      have hl : zW b n p q zw_left = false := by
        unfold zW
        rw [show decide (q - p = zw_left.length) = false from decide_eq_false (by rw [hk.2]; decide), Bool.false_and, Bool.and_false]
      obtain ⟨S', Sm', Lm', a1, a2, a3, a4, a5, a6⟩ := st 1 hk.1
      rw [hr, zbi_t] at kr mr
      rw [hl, zbi_f] at kl ml
      have c1 : ((1 : Int32) = -1) = False := by decide
      have k60 : zcall 60 [.ref 80, .ref 1000054] zRc S L = some (none, zRc, S', L) := by
        unfold zcall
        simp (config := {maxSteps := 1000000}) (disch := omega) only [↓reduceIte, Int32.reduceLT, Int32.reduceLE, Int32.reduceToNatClampNeg, Int32.reduceAdd, Int32.reduceSub, Int32.reduceMul, Nat.reduceLeDiff, zEL, zup_ne, zup_eq, zT0, zT1, zT2, if_true, if_false, gR, gX, ze_60, s60_0, s60_1, s60_4, s60_5, s60_8, s60_11, s60_12, s60_13, s60_16, s60_17, s60_20, s60_23, s60_24, s60_27, s60_30, kr, h6, a1]
      refine ⟨1, S', Sm', Lm', ?_, ?_, a3, a4, fun _ => ⟨h6, 1, by omega, rfl, a6⟩⟩
      · simp (config := {maxSteps := 1000000}) (disch := omega) only [↓reduceIte, Int32.reduceLT, Int32.reduceLE, Int32.reduceToNatClampNeg, Int32.reduceAdd, Int32.reduceSub, Int32.reduceMul, Nat.reduceLeDiff, zEL, zup_ne, zup_eq, zT0, zT1, zT2, if_true, if_false, gR, gX, s54_6, s54_7, s54_10, s54_12, s54_15, s54_18, s54_19, s54_22, s54_23, s54_24, s54_25, s54_26, s54_27, s54_30, s54_32, s54_35, s54_37, kr, k60]
      · simp (config := {maxSteps := 1000000}) (disch := omega) only [↓reduceIte, Int32.reduceLT, Int32.reduceLE, Int32.reduceToNatClampNeg, Int32.reduceAdd, Int32.reduceSub, Int32.reduceMul, Nat.reduceLeDiff, zEL, zup_ne, zup_eq, zT0, zT1, zT2, if_true, if_false, r0, s191_6, s191_7, s191_8, s191_10, s191_13, s191_16, s191_17, s191_20, s191_21, s191_23, s191_26, s191_29, s191_30, s191_33, s191_34, s191_37, s191_38, s191_41, s191_42, s191_45, s191_46, s191_47, s191_50, s191_51, ml, mr, c1, a2]
    | false =>
      rw [hr, zbi_f] at kr mr
      cases hl : zW b n p q zw_left with
      | true =>
        have hk : zkN b n p q = 1 := by
          unfold zW at hl
          rw [Bool.and_eq_true, decide_eq_true_eq] at hl
          exact hl.1
        obtain ⟨S', Sm', Lm', a1, a2, a3, a4, a5, a6⟩ := st 0 hk
        rw [hl, zbi_t] at kl ml
        have c1 : ((0 : Int32) = -1) = False := by decide
        have k60 : zcall 60 [.ref 80, .ref 1000055] zRc S L = some (none, zRc, S', L) := by
          unfold zcall
          simp (config := {maxSteps := 1000000}) (disch := omega) only [↓reduceIte, Int32.reduceLT, Int32.reduceLE, Int32.reduceToNatClampNeg, Int32.reduceAdd, Int32.reduceSub, Int32.reduceMul, Nat.reduceLeDiff, zEL, zup_ne, zup_eq, zT0, zT1, zT2, if_true, if_false, gR, gX, ze_60, s60_0, s60_1, s60_4, s60_5, s60_8, s60_11, s60_12, s60_13, s60_16, s60_17, s60_20, s60_23, s60_24, s60_27, s60_30, kl, h6, a1]
        refine ⟨0, S', Sm', Lm', ?_, ?_, a3, a4, fun _ => ⟨h6, 0, by omega, rfl, a6⟩⟩
        · simp (config := {maxSteps := 1000000}) (disch := omega) only [↓reduceIte, Int32.reduceLT, Int32.reduceLE, Int32.reduceToNatClampNeg, Int32.reduceAdd, Int32.reduceSub, Int32.reduceMul, Nat.reduceLeDiff, zEL, zup_ne, zup_eq, zT0, zT1, zT2, if_true, if_false, gR, gX, s54_6, s54_7, s54_10, s54_12, s54_15, s54_18, s54_19, s54_22, s54_23, s54_24, s54_25, s54_26, s54_27, s54_30, s54_32, s54_35, s54_37, kr, k60]
        · simp (config := {maxSteps := 1000000}) (disch := omega) only [↓reduceIte, Int32.reduceLT, Int32.reduceLE, Int32.reduceToNatClampNeg, Int32.reduceAdd, Int32.reduceSub, Int32.reduceMul, Nat.reduceLeDiff, zEL, zup_ne, zup_eq, zT0, zT1, zT2, if_true, if_false, r0, s191_6, s191_7, s191_8, s191_10, s191_13, s191_16, s191_17, s191_20, s191_21, s191_23, s191_26, s191_29, s191_30, s191_33, s191_34, s191_37, s191_38, s191_41, s191_42, s191_45, s191_46, s191_47, s191_50, s191_51, ml, mr, c1, a2]
      | false =>
        rw [hl, zbi_f] at kl ml
        have hO1 : zOKs 80 n b p q S (zup Sm 0 16 (-1)) Lm := by
          obtain ⟨a1, a2, a3, a4⟩ := hO
          refine ⟨a1, (zup_ne (by omega)).trans a2, zTN_fr a3 (zup_ne (by omega)) (fun i => zup_ne (by omega)), ?_⟩
          unfold zTM1 at a4 ⊢
          simp (disch := omega) only [zup_ne]
          exact a4
        obtain ⟨f1, f2, f3, f4, -⟩ := zFk_80 (f := 1) rfl (by omega) (by omega) hT hO1
        have k3 : zcall 58 [.ref 80, .int 1] zRc S L = _ := c58O_80 (L := L) (k := nI 1) h6
        have k4 : zcall 180 [.ref 0, .int 1] R (zup Sm 0 16 (-1)) Lm = _ := m180O (Lm := Lm) (k := nI 1) hR (zOK_9 hO1)
        have k5 := m179F (Lm := Lm) hR f4
        generalize hS1 : zup (zup S 80 6 (nI 1)) 80 7 (S 1 3) = S1 at f1 f2 f3 k3
        generalize hSm1 : zup (zup (zup (zup Sm 0 16 (-1)) 0 13 (nI 1)) 0 14 (zup Sm 0 16 (-1) 0 8)) 0 9 5 = Sm1 at f1 f2 f4 k4 k5
        have k60 : zcall 60 [.ref 80, .ref 1000055] zRc S L = some (none, zRc, S1, L) := by
          unfold zcall
          simp (config := {maxSteps := 1000000}) (disch := omega) only [↓reduceIte, Int32.reduceLT, Int32.reduceLE, Int32.reduceToNatClampNeg, Int32.reduceAdd, Int32.reduceSub, Int32.reduceMul, Nat.reduceLeDiff, zEL, zup_ne, zup_eq, zT0, zT1, zT2, if_true, if_false, gR, gX, ze_60, s60_0, s60_1, s60_4, s60_5, s60_8, s60_11, s60_12, s60_13, s60_16, s60_17, s60_20, s60_23, s60_24, s60_27, s60_30, kl, k3, f3]
        refine ⟨0, S1, Sm1, Lm, ?_, ?_, f1, ⟨f2.1, fun j k a => (f2.2.1 j k (by omega)).trans (zup_ne (by omega)), f2.2.2⟩, fun h => absurd h f3⟩
        · simp (config := {maxSteps := 1000000}) (disch := omega) only [↓reduceIte, Int32.reduceLT, Int32.reduceLE, Int32.reduceToNatClampNeg, Int32.reduceAdd, Int32.reduceSub, Int32.reduceMul, Nat.reduceLeDiff, zEL, zup_ne, zup_eq, zT0, zT1, zT2, if_true, if_false, gR, gX, s54_6, s54_7, s54_10, s54_12, s54_15, s54_18, s54_19, s54_22, s54_23, s54_24, s54_25, s54_26, s54_27, s54_30, s54_32, s54_35, s54_37, kr, k60]
        · simp (config := {maxSteps := 1000000}) (disch := omega) only [↓reduceIte, Int32.reduceLT, Int32.reduceLE, Int32.reduceToNatClampNeg, Int32.reduceAdd, Int32.reduceSub, Int32.reduceMul, Nat.reduceLeDiff, zEL, zup_ne, zup_eq, zT0, zT1, zT2, if_true, if_false, r0, s191_6, s191_7, s191_8, s191_10, s191_13, s191_16, s191_17, s191_20, s191_21, s191_23, s191_26, s191_29, s191_30, s191_33, s191_34, s191_37, s191_38, s191_41, s191_42, s191_45, s191_46, s191_47, s191_50, s191_51, ml, mr, k4, k5]
  · have hne := zFA_ne hF
    have m9 : Sm 0 9 = 5 := by obtain ⟨f, pl, -, -, -, -, -, h9, -⟩ := hF; exact h9
    have m92 : zup Sm 0 16 (-1) 0 9 = 5 := (zup_ne (by omega)).trans m9
    have k4 := fun k => m180F (Lm := Lm) (k := k) hR m92
    have k5 := m179F (Lm := Lm) hR m92
    have ml := m181F (Lm := Lm) (r := 1000010) hR m9
    have mr := m181F (Lm := Lm) (r := 1000011) hR m9
    have c1 := c60F_80 kr hne
    have c2 := c60F_80 kl hne
    have mo : zgo 191 6 [.ref 0] [] R Sm Lm = zgo 191 54 [.ref 0] [] R (zup Sm 0 16 (-1)) Lm := by
      simp (config := {maxSteps := 1000000}) (disch := omega) only [↓reduceIte, Int32.reduceLT, Int32.reduceLE, Int32.reduceToNatClampNeg, Int32.reduceAdd, Int32.reduceSub, Int32.reduceMul, Nat.reduceLeDiff, zEL, zup_ne, zup_eq, zT0, zT1, zT2, if_true, if_false, r0, s191_6, s191_7, s191_8, s191_10, s191_13, s191_16, s191_17, s191_20, s191_21, s191_23, s191_26, s191_29, s191_30, s191_33, s191_34, s191_37, s191_38, s191_41, s191_42, s191_45, s191_46, s191_47, s191_50, s191_51, ml, mr, k4, k5]
    have hF2 : zST 80 n b S (zup Sm 0 16 (-1)) Lm := by
      obtain ⟨f, pl, a1, a2, a3, a4, a5, a6, a7, a8⟩ := hF
      exact ⟨p, q, hT, .inr ⟨f, pl, a1, a2, a3, a4, a5, m92, (zup_ne (by omega)).trans a7, (zup_ne (by omega)).trans a8⟩⟩
    have fr : zf54 80 S Sm Lm S (zup Sm 0 16 (-1)) Lm := ⟨fun _ _ _ _ => rfl, fun j k a => zup_ne (by omega), fun _ _ _ => rfl⟩
    cases hw : zW b n p q zw_right with
    | true =>
      rw [hw, zbi_t] at kr
      refine ⟨1, S, _, Lm, ?_, mo, hF2, fr, fun h => absurd h hne⟩
      simp (config := {maxSteps := 1000000}) (disch := omega) only [↓reduceIte, Int32.reduceLT, Int32.reduceLE, Int32.reduceToNatClampNeg, Int32.reduceAdd, Int32.reduceSub, Int32.reduceMul, Nat.reduceLeDiff, zEL, zup_ne, zup_eq, zT0, zT1, zT2, if_true, if_false, gR, gX, s54_6, s54_7, s54_10, s54_12, s54_15, s54_18, s54_19, s54_22, s54_23, s54_24, s54_25, s54_26, s54_27, s54_30, s54_32, s54_35, s54_37, kr, c1]
    | false =>
      rw [hw, zbi_f] at kr
      refine ⟨0, S, _, Lm, ?_, mo, hF2, fr, fun h => absurd h hne⟩
      simp (config := {maxSteps := 1000000}) (disch := omega) only [↓reduceIte, Int32.reduceLT, Int32.reduceLE, Int32.reduceToNatClampNeg, Int32.reduceAdd, Int32.reduceSub, Int32.reduceMul, Nat.reduceLeDiff, zEL, zup_ne, zup_eq, zT0, zT1, zT2, if_true, if_false, gR, gX, s54_6, s54_7, s54_10, s54_12, s54_15, s54_18, s54_19, s54_22, s54_23, s54_24, s54_25, s54_26, s54_27, s54_30, s54_32, s54_35, s54_37, kr, c2]
theorem op54_80 {sp : Nat} (hR : zLT R) (h : zST 80 n b S Sm Lm) : ∃ sd ln x : Int32, ∃ S' Sm' Lm', zcall 54 [.ref 80, .ref sp] zRc S L = zgo 54 66 [.ref 80, .ref sp, .int sd, .int ln, .int x] [] zRc S' L ∧ zcall 191 [.ref 0] R Sm Lm = some (none, R, Sm', Lm') ∧ zST 80 n b S' Sm' Lm' ∧ zf54 80 S Sm Lm S' Sm' Lm' ∧ (S' 80 6 = 0 → S 80 6 = 0 ∧ ∃ s l y : Nat, s ≤ 1 ∧ l ≤ 4 ∧ y ≤ 19 ∧ sd = nI s ∧ ln = nI l ∧ x = nI y ∧ Sm' 0 16 = nI s ∧ Sm' 0 17 = nI l ∧ Sm' 0 18 = nI y) := by
  have r0 := hR
  unfold zLT at r0
  obtain ⟨S1, Sm1, Lm1, a1, a2, a3, a4, a5⟩ := op60_80 (L := L) hR (fun p q S L h => cw_of h) (fun p q S Sm Lm h => mw_of hR h) h
  obtain ⟨sd, S2, Sm2, Lm2, b1, b2, b3, b4, b5⟩ := op54a_80 (L := L) (sp := sp) hR a3
  obtain ⟨S3, Sm3, Lm3, c1, c2, c3, c4, c5⟩ := op60_80 (L := L) hR (fun p q S L h => cw_at h) (fun p q S Sm Lm h => mw_at hR h) b3
  obtain ⟨v1, w1, S4, Sm4, Lm4, d1, d2, d3, d4, d5⟩ := op63_80 (L := L) (l := 0) (u := 4) (lo := 0) (hi := 4) (lo' := 0) (hi' := 4) hR c3 (by omega) (by omega) (fun _ => ⟨rfl, rfl, rfl, rfl⟩)
  have k186 : zcall 186 [.ref 0, .ref 1000008, .int 0, .int 4] R Sm2 Lm2 = some (some (.int w1), R, Sm4, Lm4) := by
    unfold zcall
    simp (config := {maxSteps := 1000000}) (disch := omega) only [↓reduceIte, Int32.reduceLT, Int32.reduceLE, Int32.reduceToNatClampNeg, Int32.reduceAdd, Int32.reduceSub, Int32.reduceMul, Nat.reduceLeDiff, zEL, zup_ne, zup_eq, zT0, zT1, zT2, if_true, if_false, r0, ze_186, s186_0, s186_1, s186_2, s186_5, s186_6, s186_7, s186_8, s186_11, c2, d2]
  have g4 : zST 80 n b S4 (zup Sm4 0 17 w1) Lm4 := by
    refine zST_fr d3 (fun _ => rfl) (fun _ => rfl) rfl rfl (fun k hk => zup_ne (by omega)) (fun _ => zup_ne (by omega)) rfl
  obtain ⟨S5, Sm5, Lm5, e1, e2, e3, e4, e5⟩ := op61_80 (L := L) hR g4
  obtain ⟨v2, w2, S6, Sm6, Lm6, f1, f2, f3, f4, f5⟩ := op63_80 (L := L) (l := 0) (u := 19) (lo := 0) (hi := 19) (lo' := 0) (hi' := 19) hR e3 (by omega) (by omega) (fun _ => ⟨rfl, rfl, rfl, rfl⟩)
  have g6 : zST 80 n b S6 (zup Sm6 0 18 w2) Lm6 := by
    refine zST_fr f3 (fun _ => rfl) (fun _ => rfl) rfl rfl (fun k hk => zup_ne (by omega)) (fun _ => zup_ne (by omega)) rfl
  refine ⟨sd, v1, v2, S6, zup Sm6 0 18 w2, Lm6, ?_, ?_, g6, ⟨fun j k x y => ?_, fun j k x => ?_, fun j k x => ?_⟩, fun h => ?_⟩
  · unfold zcall
    simp (config := {maxSteps := 1000000}) (disch := omega) only [↓reduceIte, Int32.reduceLT, Int32.reduceLE, Int32.reduceToNatClampNeg, Int32.reduceAdd, Int32.reduceSub, Int32.reduceMul, Nat.reduceLeDiff, zEL, zup_ne, zup_eq, zT0, zT1, zT2, if_true, if_false, gR, gX, ze_54, s54_0, s54_1, s54_3, a1]
    rw [b1]
    simp (config := {maxSteps := 1000000}) (disch := omega) only [↓reduceIte, Int32.reduceLT, Int32.reduceLE, Int32.reduceToNatClampNeg, Int32.reduceAdd, Int32.reduceSub, Int32.reduceMul, Nat.reduceLeDiff, zEL, zup_ne, zup_eq, zT0, zT1, zT2, if_true, if_false, gR, gX, s54_40, s54_41, s54_43, s54_46, s54_47, s54_48, s54_49, s54_52, s54_53, s54_54, s54_57, s54_58, s54_59, s54_61, s54_64, c1, d1, e1, f1]
  · unfold zcall
    simp (config := {maxSteps := 1000000}) (disch := omega) only [↓reduceIte, Int32.reduceLT, Int32.reduceLE, Int32.reduceToNatClampNeg, Int32.reduceAdd, Int32.reduceSub, Int32.reduceMul, Nat.reduceLeDiff, zEL, zup_ne, zup_eq, zT0, zT1, zT2, if_true, if_false, r0, ze_191, s191_0, s191_1, s191_3, a2]
    rw [b2]
    simp (config := {maxSteps := 1000000}) (disch := omega) only [↓reduceIte, Int32.reduceLT, Int32.reduceLE, Int32.reduceToNatClampNeg, Int32.reduceAdd, Int32.reduceSub, Int32.reduceMul, Nat.reduceLeDiff, zEL, zup_ne, zup_eq, zT0, zT1, zT2, if_true, if_false, r0, s191_54, s191_55, s191_56, s191_58, s191_59, s191_60, s191_63, s191_66, s191_67, s191_69, s191_72, s191_73, s191_74, s191_75, s191_77, s191_80, s191_83, k186, e2, f2]
  · rw [f4.1 j k x y, e4.1 j k x y, d4.1 j k x y, c4.1 j k x y, b4.1 j k x y, a4.1 j k x y]
  · rw [zup_ne (by omega), f4.2.1 j k (by omega), e4.2.1 j k (by omega), zup_ne (by omega), d4.2.1 j k (by omega), c4.2.1 j k (by omega), b4.2.1 j k x, a4.2.1 j k (by omega)]
  · rw [f4.2.2 j k x, e4.2.2 j k x, d4.2.2 j k x, c4.2.2 j k x, b4.2.2 j k x, a4.2.2 j k x]
  · obtain ⟨y1, x2, -, z2, h1, h2⟩ := f5 h
    obtain ⟨y2, x1, -, z1, h3, h4⟩ := d5 (e5 y1)
    obtain ⟨y3, s, hs, h5, h6⟩ := b5 (c5 y2)
    refine ⟨a5 y3, s, x1, x2, hs, z1, z2, h5, h3, h1, ?_, ?_, ?_⟩
    · rw [zup_ne (by omega), f4.2.1 0 16 (by omega), e4.2.1 0 16 (by omega), zup_ne (by omega), d4.2.1 0 16 (by omega), c4.2.1 0 16 (by omega), h6]
    · rw [zup_ne (by omega), f4.2.1 0 17 (by omega), e4.2.1 0 17 (by omega), zup_eq rfl rfl, h4]
    · rw [zup_eq rfl rfl, h2]
theorem t82_pl_80 {k : Nat} (hk : k ≤ 8) (h : S 89 7 = nI k) (h0 : S 89 0 = 8) : zcall 82 [.ref 89] zRc S L = some (some (.int (if k = 8 then 1 else 0)), zRc, S, L) := by
  unfold zcall
  by_cases e : k = 8
  · have e5 : (nI k < 8) = False := by subst e; decide
    rw [if_pos e]
    simp (config := {maxSteps := 1000000}) (disch := omega) only [↓reduceIte, Int32.reduceLT, Int32.reduceLE, Int32.reduceToNatClampNeg, Int32.reduceAdd, Int32.reduceSub, Int32.reduceMul, Nat.reduceLeDiff, zEL, zup_ne, zup_eq, zT0, zT1, zT2, if_true, if_false, gT, ze_82, s82_0, s82_1, s82_4, s82_5, s82_8, s82_11, s82_12, s82_15, s82_16, h, h0, e5]
  · have e5 : (nI k < 8) = True := eq_true (by rw [show (8 : Int32) = nI 8 from rfl, znI_lt (by omega) (by omega)]; omega)
    rw [if_neg e]
    simp (config := {maxSteps := 1000000}) (disch := omega) only [↓reduceIte, Int32.reduceLT, Int32.reduceLE, Int32.reduceToNatClampNeg, Int32.reduceAdd, Int32.reduceSub, Int32.reduceMul, Nat.reduceLeDiff, zEL, zup_ne, zup_eq, zT0, zT1, zT2, if_true, if_false, gT, ze_82, s82_0, s82_1, s82_4, s82_5, s82_8, s82_11, s82_12, s82_15, s82_16, h, h0, e5]
theorem t84_pl_80 {k : Nat} {x y z : Int32} (h : S 89 7 = nI k) : zcall 84 [.ref 89, .int x, .int y, .int z] zRc S L = some (none, zRc, zup (zput (zput (zput S 91 8 (nI k) x) 93 8 (nI k) y) 95 8 (nI k) z) 89 7 (nI (k + 1)), L) := by
  have u1 : zput S 91 8 (nI k) x 89 7 = nI k := by rw [zput_ne (by omega), h]
  have u2 : zput (zput S 91 8 (nI k) x) 93 8 (nI k) y 89 7 = nI k := by rw [zput_ne (by omega)]; exact u1
  have u3 : zput (zput (zput S 91 8 (nI k) x) 93 8 (nI k) y) 95 8 (nI k) z 89 7 = nI k := by rw [zput_ne (by omega)]; exact u2
  unfold zcall
  simp (config := {maxSteps := 1000000}) (disch := omega) only [↓reduceIte, Int32.reduceLT, Int32.reduceLE, Int32.reduceToNatClampNeg, Int32.reduceAdd, Int32.reduceSub, Int32.reduceMul, Nat.reduceLeDiff, zEL, zup_ne, zup_eq, zT0, zT1, zT2, if_true, if_false, gT, ze_84, s84_0, s84_1, s84_4, s84_5, s84_8, s84_9, s84_12, s84_13, s84_16, s84_17, s84_20, s84_21, s84_24, s84_25, s84_28, s84_29, s84_32, s84_33, s84_36, s84_37, s84_38, s84_41, s84_42, s84_43, s84_46, h, u1, u2, u3]
theorem t82_bl_80 {k : Nat} (hk : k ≤ 8) (h : S 102 7 = nI k) (h0 : S 102 0 = 8) : zcall 82 [.ref 102] zRc S L = some (some (.int (if k = 8 then 1 else 0)), zRc, S, L) := by
  unfold zcall
  by_cases e : k = 8
  · have e5 : (nI k < 8) = False := by subst e; decide
    rw [if_pos e]
    simp (config := {maxSteps := 1000000}) (disch := omega) only [↓reduceIte, Int32.reduceLT, Int32.reduceLE, Int32.reduceToNatClampNeg, Int32.reduceAdd, Int32.reduceSub, Int32.reduceMul, Nat.reduceLeDiff, zEL, zup_ne, zup_eq, zT0, zT1, zT2, if_true, if_false, gT, ze_82, s82_0, s82_1, s82_4, s82_5, s82_8, s82_11, s82_12, s82_15, s82_16, h, h0, e5]
  · have e5 : (nI k < 8) = True := eq_true (by rw [show (8 : Int32) = nI 8 from rfl, znI_lt (by omega) (by omega)]; omega)
    rw [if_neg e]
    simp (config := {maxSteps := 1000000}) (disch := omega) only [↓reduceIte, Int32.reduceLT, Int32.reduceLE, Int32.reduceToNatClampNeg, Int32.reduceAdd, Int32.reduceSub, Int32.reduceMul, Nat.reduceLeDiff, zEL, zup_ne, zup_eq, zT0, zT1, zT2, if_true, if_false, gT, ze_82, s82_0, s82_1, s82_4, s82_5, s82_8, s82_11, s82_12, s82_15, s82_16, h, h0, e5]
theorem t84_bl_80 {k : Nat} {x y z : Int32} (h : S 102 7 = nI k) : zcall 84 [.ref 102, .int x, .int y, .int z] zRc S L = some (none, zRc, zup (zput (zput (zput S 104 8 (nI k) x) 106 8 (nI k) y) 108 8 (nI k) z) 102 7 (nI (k + 1)), L) := by
  have u1 : zput S 104 8 (nI k) x 102 7 = nI k := by rw [zput_ne (by omega), h]
  have u2 : zput (zput S 104 8 (nI k) x) 106 8 (nI k) y 102 7 = nI k := by rw [zput_ne (by omega)]; exact u1
  have u3 : zput (zput (zput S 104 8 (nI k) x) 106 8 (nI k) y) 108 8 (nI k) z 102 7 = nI k := by rw [zput_ne (by omega)]; exact u2
  unfold zcall
  simp (config := {maxSteps := 1000000}) (disch := omega) only [↓reduceIte, Int32.reduceLT, Int32.reduceLE, Int32.reduceToNatClampNeg, Int32.reduceAdd, Int32.reduceSub, Int32.reduceMul, Nat.reduceLeDiff, zEL, zup_ne, zup_eq, zT0, zT1, zT2, if_true, if_false, gT, ze_84, s84_0, s84_1, s84_4, s84_5, s84_8, s84_9, s84_12, s84_13, s84_16, s84_17, s84_20, s84_21, s84_24, s84_25, s84_28, s84_29, s84_32, s84_33, s84_36, s84_37, s84_38, s84_41, s84_42, s84_43, s84_46, h, u1, u2, u3]
theorem t82_si_80 {k : Nat} (hk : k ≤ 6) (h : S 115 7 = nI k) (h0 : S 115 0 = 6) : zcall 82 [.ref 115] zRc S L = some (some (.int (if k = 6 then 1 else 0)), zRc, S, L) := by
  unfold zcall
  by_cases e : k = 6
  · have e5 : (nI k < 6) = False := by subst e; decide
    rw [if_pos e]
    simp (config := {maxSteps := 1000000}) (disch := omega) only [↓reduceIte, Int32.reduceLT, Int32.reduceLE, Int32.reduceToNatClampNeg, Int32.reduceAdd, Int32.reduceSub, Int32.reduceMul, Nat.reduceLeDiff, zEL, zup_ne, zup_eq, zT0, zT1, zT2, if_true, if_false, gT, ze_82, s82_0, s82_1, s82_4, s82_5, s82_8, s82_11, s82_12, s82_15, s82_16, h, h0, e5]
  · have e5 : (nI k < 6) = True := eq_true (by rw [show (6 : Int32) = nI 6 from rfl, znI_lt (by omega) (by omega)]; omega)
    rw [if_neg e]
    simp (config := {maxSteps := 1000000}) (disch := omega) only [↓reduceIte, Int32.reduceLT, Int32.reduceLE, Int32.reduceToNatClampNeg, Int32.reduceAdd, Int32.reduceSub, Int32.reduceMul, Nat.reduceLeDiff, zEL, zup_ne, zup_eq, zT0, zT1, zT2, if_true, if_false, gT, ze_82, s82_0, s82_1, s82_4, s82_5, s82_8, s82_11, s82_12, s82_15, s82_16, h, h0, e5]
theorem t84_si_80 {k : Nat} {x y z : Int32} (h : S 115 7 = nI k) : zcall 84 [.ref 115, .int x, .int y, .int z] zRc S L = some (none, zRc, zup (zput (zput (zput S 117 6 (nI k) x) 119 6 (nI k) y) 121 6 (nI k) z) 115 7 (nI (k + 1)), L) := by
  have u1 : zput S 117 6 (nI k) x 115 7 = nI k := by rw [zput_ne (by omega), h]
  have u2 : zput (zput S 117 6 (nI k) x) 119 6 (nI k) y 115 7 = nI k := by rw [zput_ne (by omega)]; exact u1
  have u3 : zput (zput (zput S 117 6 (nI k) x) 119 6 (nI k) y) 121 6 (nI k) z 115 7 = nI k := by rw [zput_ne (by omega)]; exact u2
  unfold zcall
  simp (config := {maxSteps := 1000000}) (disch := omega) only [↓reduceIte, Int32.reduceLT, Int32.reduceLE, Int32.reduceToNatClampNeg, Int32.reduceAdd, Int32.reduceSub, Int32.reduceMul, Nat.reduceLeDiff, zEL, zup_ne, zup_eq, zT0, zT1, zT2, if_true, if_false, gT, ze_84, s84_0, s84_1, s84_4, s84_5, s84_8, s84_9, s84_12, s84_13, s84_16, s84_17, s84_20, s84_21, s84_24, s84_25, s84_28, s84_29, s84_32, s84_33, s84_36, s84_37, s84_38, s84_41, s84_42, s84_43, s84_46, h, u1, u2, u3]
theorem t82_pr_80 {k : Nat} (hk : k ≤ 6) (h : S 128 7 = nI k) (h0 : S 128 0 = 6) : zcall 82 [.ref 128] zRc S L = some (some (.int (if k = 6 then 1 else 0)), zRc, S, L) := by
  unfold zcall
  by_cases e : k = 6
  · have e5 : (nI k < 6) = False := by subst e; decide
    rw [if_pos e]
    simp (config := {maxSteps := 1000000}) (disch := omega) only [↓reduceIte, Int32.reduceLT, Int32.reduceLE, Int32.reduceToNatClampNeg, Int32.reduceAdd, Int32.reduceSub, Int32.reduceMul, Nat.reduceLeDiff, zEL, zup_ne, zup_eq, zT0, zT1, zT2, if_true, if_false, gT, ze_82, s82_0, s82_1, s82_4, s82_5, s82_8, s82_11, s82_12, s82_15, s82_16, h, h0, e5]
  · have e5 : (nI k < 6) = True := eq_true (by rw [show (6 : Int32) = nI 6 from rfl, znI_lt (by omega) (by omega)]; omega)
    rw [if_neg e]
    simp (config := {maxSteps := 1000000}) (disch := omega) only [↓reduceIte, Int32.reduceLT, Int32.reduceLE, Int32.reduceToNatClampNeg, Int32.reduceAdd, Int32.reduceSub, Int32.reduceMul, Nat.reduceLeDiff, zEL, zup_ne, zup_eq, zT0, zT1, zT2, if_true, if_false, gT, ze_82, s82_0, s82_1, s82_4, s82_5, s82_8, s82_11, s82_12, s82_15, s82_16, h, h0, e5]
theorem t84_pr_80 {k : Nat} {x y z : Int32} (h : S 128 7 = nI k) : zcall 84 [.ref 128, .int x, .int y, .int z] zRc S L = some (none, zRc, zup (zput (zput (zput S 130 6 (nI k) x) 132 6 (nI k) y) 134 6 (nI k) z) 128 7 (nI (k + 1)), L) := by
  have u1 : zput S 130 6 (nI k) x 128 7 = nI k := by rw [zput_ne (by omega), h]
  have u2 : zput (zput S 130 6 (nI k) x) 132 6 (nI k) y 128 7 = nI k := by rw [zput_ne (by omega)]; exact u1
  have u3 : zput (zput (zput S 130 6 (nI k) x) 132 6 (nI k) y) 134 6 (nI k) z 128 7 = nI k := by rw [zput_ne (by omega)]; exact u2
  unfold zcall
  simp (config := {maxSteps := 1000000}) (disch := omega) only [↓reduceIte, Int32.reduceLT, Int32.reduceLE, Int32.reduceToNatClampNeg, Int32.reduceAdd, Int32.reduceSub, Int32.reduceMul, Nat.reduceLeDiff, zEL, zup_ne, zup_eq, zT0, zT1, zT2, if_true, if_false, gT, ze_84, s84_0, s84_1, s84_4, s84_5, s84_8, s84_9, s84_12, s84_13, s84_16, s84_17, s84_20, s84_21, s84_24, s84_25, s84_28, s84_29, s84_32, s84_33, s84_36, s84_37, s84_38, s84_41, s84_42, s84_43, s84_46, h, u1, u2, u3]
/-- the prints -/
def zPpr_80 (B c3 : Nat) (S Sm : zS) : Prop :=
  c3 ≤ 6 ∧ S 128 7 = nI c3 ∧ Sm B 10 = nI c3 ∧ ∀ k, k < c3 → S 130 k = Sm (B + 17) k ∧ S 132 k = Sm (B + 18) k ∧ S 134 k = Sm (B + 19) k ∧ zin (Sm (B + 17) k) 1 ∧ zin (Sm (B + 18) k) 4 ∧ zin (Sm (B + 19) k) 19
theorem zPpr_fr_80 {c3 : Nat} (h : zPpr_80 B c3 S Sm) (h1 : ∀ j k, (j = 128 ∧ k = 7) ∨ j = 130 ∨ j = 132 ∨ j = 134 → S' j k = S j k) (h2 : ∀ j k, (j = B ∧ k = 10) ∨ j = B + 17 ∨ j = B + 18 ∨ j = B + 19 → Sm' j k = Sm j k) : zPpr_80 B c3 S' Sm' := by
  unfold zPpr_80 at h ⊢
  have e3 : S' 130 = S 130 := funext fun k => h1 _ k (by omega)
  have e5 : S' 132 = S 132 := funext fun k => h1 _ k (by omega)
  have e7 : S' 134 = S 134 := funext fun k => h1 _ k (by omega)
  have m1 : Sm' (B + 17) = Sm (B + 17) := funext fun k => h2 _ k (by omega)
  have m2 : Sm' (B + 18) = Sm (B + 18) := funext fun k => h2 _ k (by omega)
  have m3 : Sm' (B + 19) = Sm (B + 19) := funext fun k => h2 _ k (by omega)
  rw [e3, e5, e7, m1, m2, m3, h1 _ 7 (by omega), h2 B 10 (by omega)]
  exact h
theorem l53_80 {c3 : Nat} (hR : zLT R) (hB : zLB R B) (hB11 : 11 ≤ B) (hT : zTKc n b p q S) (hO : zOKs 80 n b p q S Sm Lm) (hk : zkN b n p q = 1) (h0 : S 128 0 = 6) (hP : zPpr_80 B c3 S Sm) : ∃ S' Sm' Lm', zcall 53 [.ref 80] zRc S L = some (none, zRc, S', L) ∧ zcall 200 [.ref 0] R Sm Lm = some (none, R, Sm', Lm') ∧ zST 80 n b S' Sm' Lm' ∧ (∀ j k, (j ≠ 1 ∨ (k ≠ 2 ∧ k ≠ 3 ∧ k ≠ 4)) → (j ≠ 80 ∨ (k ≠ 6 ∧ k ≠ 7)) → (j ≠ 128 ∨ k ≠ 7) → j ≠ 130 → j ≠ 132 → j ≠ 134 → S' j k = S j k) ∧ (∀ j k, (j ≠ 0 ∨ k < 8 ∨ 18 < k) → (j ≠ B ∨ k ≠ 10) → j ≠ B + 17 → j ≠ B + 18 → j ≠ B + 19 → Sm' j k = Sm j k) ∧ (∀ j k, (j ≠ 0 ∨ k ≠ 15) → Lm' j k = Lm j k) ∧ (S' 80 6 = 0 → zPpr_80 B (c3 + 1) S' Sm') := by
  have r0 := hR
  unfold zLT at r0
  have rB := hB
  unfold zLB at rB
  obtain ⟨hc3, p1, p2, p3⟩ := hP
  have k82 := t82_pr_80 (L := L) hc3 p1 h0
  obtain ⟨S1, Sm1, Lm1, a1, a2, a3, a4, a5⟩ := op59_80 (L := L) (fl := if c3 = 6 then 1 else 0) (many := nI c3) (most := 6) hR hT hO hk (by
    by_cases e : c3 = 6
    · subst e
      exact .inl ⟨if_pos rfl, rfl⟩
    · exact .inr ⟨if_neg e, fun h => e ((znI_inj (b := 6) (by omega) (by omega)).mp h)⟩)
  obtain ⟨sd, ln, x, S2, Sm2, Lm2, b1, b2, b3, b4, b5⟩ := op54_80 (L := L) (sp := 128) hR a3
  have fr := zf54_t (zf54_of a4) b4
  have q1 : S2 128 7 = nI c3 := (fr.1 _ _ (by omega) (by omega)).trans p1
  have q2 : Sm2 B 10 = nI c3 := (fr.2.1 _ _ (by omega)).trans p2
  have k84 := t84_pr_80 (L := L) (x := sd) (y := ln) (z := x) q1
  obtain ⟨S3, hS3⟩ : ∃ S3, S3 = zup (zput (zput (zput S2 130 6 (nI c3) sd) 132 6 (nI c3) ln) 134 6 (nI c3) x) 128 7 (nI (c3 + 1)) := ⟨_, rfl⟩
  rw [← hS3] at k84
  have k54 : zcall 54 [.ref 80, .ref 128] zRc S1 L = some (none, zRc, S3, L) := by
    rw [b1]
    simp (config := {maxSteps := 1000000}) (disch := omega) only [↓reduceIte, Int32.reduceLT, Int32.reduceLE, Int32.reduceToNatClampNeg, Int32.reduceAdd, Int32.reduceSub, Int32.reduceMul, Nat.reduceLeDiff, zEL, zup_ne, zup_eq, zT0, zT1, zT2, if_true, if_false, gR, gT, s54_66, s54_67, s54_68, s54_69, s54_71, s54_74, k84]
  have cl : zcall 53 [.ref 80] zRc S L = some (none, zRc, S3, L) := by
    unfold zcall
    simp (config := {maxSteps := 1000000}) (disch := omega) only [↓reduceIte, Int32.reduceLT, Int32.reduceLE, Int32.reduceToNatClampNeg, Int32.reduceAdd, Int32.reduceSub, Int32.reduceMul, Nat.reduceLeDiff, zEL, zup_ne, zup_eq, zT0, zT1, zT2, if_true, if_false, gR, gT, ze_53, s53_0, s53_1, s53_2, s53_5, s53_8, s53_11, s53_14, s53_15, s53_16, s53_19, s53_22, s53_25, k82, a1, k54]
  have mo : zcall 200 [.ref 0] R Sm Lm = zgo 200 17 [.ref 0, .retAddr 0] [] R Sm2 Lm2 := by
    unfold zcall
    simp (config := {maxSteps := 1000000}) (disch := omega) only [↓reduceIte, Int32.reduceLT, Int32.reduceLE, Int32.reduceToNatClampNeg, Int32.reduceAdd, Int32.reduceSub, Int32.reduceMul, Nat.reduceLeDiff, zEL, zup_ne, zup_eq, zT0, zT1, zT2, if_true, if_false, r0, rB, ze_200, s200_0, s200_1, s200_2, s200_5, s200_8, s200_10, s200_13, s200_14, p2, a2, b2]
  have e3 : ∀ j k, (j ≠ 128 ∨ k ≠ 7) → j ≠ 130 → j ≠ 132 → j ≠ 134 → S3 j k = S2 j k := fun j k a c d e => by rw [hS3, zup_ne (by omega), zput_ne (by omega), zput_ne (by omega), zput_ne (by omega)]
  have fC : ∀ j k, (j ≠ 1 ∨ (k ≠ 2 ∧ k ≠ 3 ∧ k ≠ 4)) → (j ≠ 80 ∨ (k ≠ 6 ∧ k ≠ 7)) → (j ≠ 128 ∨ k ≠ 7) → j ≠ 130 → j ≠ 132 → j ≠ 134 → S3 j k = S j k := fun j k a c d e f g => (e3 j k d e f g).trans (fr.1 j k a c)
  have st : ∀ Sm3, (∀ j k, (j ≠ B ∨ k ≠ 10) → j ≠ B + 17 → j ≠ B + 18 → j ≠ B + 19 → Sm3 j k = Sm2 j k) → zST 80 n b S3 Sm3 Lm2 := fun Sm3 h => zST_fr b3 (fun k => e3 1 k (by omega) (by decide) (by decide) (by decide)) (fun k => e3 3 k (by omega) (by decide) (by decide) (by decide)) (e3 _ _ (by omega) (by decide) (by decide) (by decide)) (e3 _ _ (by omega) (by decide) (by decide) (by decide)) (fun k _ => h 0 k (by omega) (by omega) (by omega) (by omega)) (fun k => h 1 k (by omega) (by omega) (by omega) (by omega)) rfl
  rcases zST_9 b3 with ⟨o1, o2⟩ | ⟨o1, o2⟩
  · have o2 : (Sm2 0 9 = 5) = False := eq_false o2
    obtain ⟨g1, s, l, y, hs, hl, hy, rfl, rfl, rfl, m16, m17, m18⟩ := b5 o1
    have g0 := a5 g1
    have hc36 : c3 ≠ 6 := fun e => by rw [if_pos e] at g0; exact absurd g0 (by decide)
    obtain ⟨Sm3, hSm3⟩ : ∃ Sm3, Sm3 = zup (zup (zup (zup Sm2 (B + 17) c3 (nI s)) (B + 18) c3 (nI l)) (B + 19) c3 (nI y)) B 10 (nI (c3 + 1)) := ⟨_, rfl⟩
    have w17 : ∀ k, Sm3 (B + 17) k = if k = c3 then nI s else Sm (B + 17) k := fun k => by
      rw [hSm3, zup_ne (by omega), zup_ne (by omega), zup_ne (by omega)]
      by_cases e : k = c3
      · rw [zup_eq rfl e, if_pos e]
      · rw [zup_ne (by omega), if_neg e, fr.2.1 _ _ (by omega)]
    have w18 : ∀ k, Sm3 (B + 18) k = if k = c3 then nI l else Sm (B + 18) k := fun k => by
      rw [hSm3, zup_ne (by omega), zup_ne (by omega)]
      by_cases e : k = c3
      · rw [zup_eq rfl e, if_pos e]
      · rw [zup_ne (by omega), zup_ne (by omega), if_neg e, fr.2.1 _ _ (by omega)]
    have w19 : ∀ k, Sm3 (B + 19) k = if k = c3 then nI y else Sm (B + 19) k := fun k => by
      rw [hSm3, zup_ne (by omega)]
      by_cases e : k = c3
      · rw [zup_eq rfl e, if_pos e]
      · rw [zup_ne (by omega), zup_ne (by omega), zup_ne (by omega), if_neg e, fr.2.1 _ _ (by omega)]
    have c49 : ∀ k, S3 130 k = if k = c3 then nI s else S 130 k := fun k => by
      rw [hS3, zup_ne (by omega), zput_ne (by omega), zput_ne (by omega), zput_at (by omega) (by omega), fr.1 _ _ (by omega) (by omega)]
    have c51 : ∀ k, S3 132 k = if k = c3 then nI l else S 132 k := fun k => by
      rw [hS3, zup_ne (by omega), zput_ne (by omega), zput_at (by omega) (by omega), zput_ne (by omega), fr.1 _ _ (by omega) (by omega)]
    have c53 : ∀ k, S3 134 k = if k = c3 then nI y else S 134 k := fun k => by
      rw [hS3, zup_ne (by omega), zput_at (by omega) (by omega), zput_ne (by omega), zput_ne (by omega), fr.1 _ _ (by omega) (by omega)]
    have f3 : ∀ j k, (j ≠ B ∨ k ≠ 10) → j ≠ B + 17 → j ≠ B + 18 → j ≠ B + 19 → Sm3 j k = Sm2 j k := fun j k a c d e => by rw [hSm3, zup_ne (by omega), zup_ne (by omega), zup_ne (by omega), zup_ne (by omega)]
    refine ⟨S3, Sm3, Lm2, cl, mo.trans ?_, st Sm3 f3, fC, fun j k a c d e f => (f3 j k c d e f).trans (fr.2.1 j k a), fr.2.2, fun _ => ⟨by omega, by rw [hS3]; exact zup_eq rfl rfl, by rw [hSm3]; exact zup_eq rfl rfl, fun k hk => ?_⟩⟩
    · rw [hSm3]
      simp (config := {maxSteps := 1000000}) (disch := omega) only [↓reduceIte, Int32.reduceLT, Int32.reduceLE, Int32.reduceToNatClampNeg, Int32.reduceAdd, Int32.reduceSub, Int32.reduceMul, Nat.reduceLeDiff, zEL, zup_ne, zup_eq, zT0, zT1, zT2, if_true, if_false, zneq_f, true_and, and_true, false_and, and_false, zKL, eq_self, Nat.reduceEqDiff, zite0, ite_not, zaddr, zaddl, zputr, zsb1, zsb2, zsb0, zsbm, znm1, r0, rB, s200_17, s200_18, s200_21, s200_22, s200_25, s200_26, s200_27, s200_30, s200_33, s200_34, s200_35, s200_38, s200_41, s200_42, s200_43, s200_46, s200_47, s200_48, s200_51, s200_54, s200_55, s200_56, s200_59, s200_60, s200_61, s200_64, s200_67, s200_68, s200_69, s200_72, s200_73, s200_74, s200_77, s200_78, s200_81, s200_82, s200_83, s200_86, o2, q2, m16, m17, m18]
    · rw [c49, c51, c53, w17, w18, w19]
      by_cases e : k = c3
      · simp only [if_pos e]
        exact ⟨trivial, trivial, trivial, ⟨s, hs, rfl⟩, ⟨l, hl, rfl⟩, ⟨y, hy, rfl⟩⟩
      · simp only [if_neg e]
        exact p3 k (by omega)
  · refine ⟨S3, Sm2, Lm2, cl, mo.trans ?_, st Sm2 (fun _ _ _ _ _ _ => rfl), fC, fun j k a c d e f => fr.2.1 j k a, fr.2.2, fun h => ?_⟩
    · simp (config := {maxSteps := 1000000}) (disch := omega) only [↓reduceIte, Int32.reduceLT, Int32.reduceLE, Int32.reduceToNatClampNeg, Int32.reduceAdd, Int32.reduceSub, Int32.reduceMul, Nat.reduceLeDiff, zEL, zup_ne, zup_eq, zT0, zT1, zT2, if_true, if_false, r0, rB, s200_17, s200_18, s200_21, s200_22, s200_25, s200_26, s200_27, s200_30, s200_33, s200_34, s200_35, s200_38, s200_41, s200_42, s200_43, s200_46, s200_47, s200_48, s200_51, s200_54, s200_55, s200_56, s200_59, s200_60, s200_61, s200_64, s200_67, s200_68, s200_69, s200_72, s200_73, s200_74, s200_77, s200_78, s200_81, s200_82, s200_83, s200_86, o2]
    · rw [e3 _ _ (by omega) (by decide) (by decide) (by decide)] at h
      exact absurd h o1
theorem c60F_162 {r : Nat} {w : Bool} (k1 : zcall 92 [.ref 1, .ref r] zRc S L = some (some (.int (zbi w)), zRc, S, L)) (hne : ¬ S 162 6 = 0) : zcall 60 [.ref 162, .ref r] zRc S L = some (none, zRc, S, L) := by
  have k3 := fun k => c58F_162 (L := L) (k := k) hne
  unfold zcall
  cases w
  all_goals rw [zbi] at k1
  all_goals simp (config := {maxSteps := 1000000}) (disch := omega) only [↓reduceIte, Int32.reduceLT, Int32.reduceLE, Int32.reduceToNatClampNeg, Int32.reduceAdd, Int32.reduceSub, Int32.reduceMul, Nat.reduceLeDiff, zEL, zup_ne, zup_eq, zT0, zT1, zT2, if_true, if_false, gR, gX, ze_60, s60_0, s60_1, s60_4, s60_5, s60_8, s60_11, s60_12, s60_13, s60_16, s60_17, s60_20, s60_23, s60_24, s60_27, s60_30, k1, k3, hne, Bool.false_eq_true]
/-- left or right -/
theorem op54a_162 {sp : Nat} (hR : zLT R) (h : zST 162 n b S Sm Lm) : ∃ sd : Int32, ∃ S' Sm' Lm', zgo 54 6 [.ref 162, .ref sp, .retAddr 0, .retAddr 0, .retAddr 0] [] zRc S L = zgo 54 40 [.ref 162, .ref sp, .int sd, .retAddr 0, .retAddr 0] [] zRc S' L ∧ zgo 191 6 [.ref 0] [] R Sm Lm = zgo 191 54 [.ref 0] [] R Sm' Lm' ∧ zST 162 n b S' Sm' Lm' ∧ zf54 162 S Sm Lm S' Sm' Lm' ∧ (S' 162 6 = 0 → S 162 6 = 0 ∧ ∃ s : Nat, s ≤ 1 ∧ sd = nI s ∧ Sm' 0 16 = nI s) := by
  have r0 := hR
  unfold zLT at r0
  obtain ⟨p, q, hT, hO⟩ := h
  have kr := cw_right (L := L) hT
  have kl := cw_left (L := L) hT
  rcases hO with hO | hF
  · have h6 := hO.1
    have mr := mw_right hR ⟨hT, hO.2.2.1, hO.2.2.2⟩
    have ml := mw_left hR ⟨hT, hO.2.2.1, hO.2.2.2⟩
    have st : ∀ v : Int32, zkN b n p q = 1 → ∃ S' Sm' Lm', zcall 90 [.ref 1] zRc S L = some (none, zRc, S', L) ∧ zcall 179 [.ref 0] R (zup Sm 0 16 v) Lm = some (none, R, Sm', Lm') ∧ zST 162 n b S' Sm' Lm' ∧ zf54 162 S Sm Lm S' Sm' Lm' ∧ S' 162 6 = 0 ∧ Sm' 0 16 = v := fun v hk => by
      have hO1 : zOKs 162 n b p q S (zup Sm 0 16 v) Lm := by
        obtain ⟨a1, a2, a3, a4⟩ := hO
        refine ⟨a1, (zup_ne (by omega)).trans a2, zTN_fr a3 (zup_ne (by omega)) (fun i => zup_ne (by omega)), ?_⟩
        unfold zTM1 at a4 ⊢
        simp (disch := omega) only [zup_ne]
        exact a4
      obtain ⟨S', Sm', Lm', a1, a2, a3, a4, a5⟩ := zsn_162 (L := L) hR hT hO1 (by omega) (by omega)
      refine ⟨S', Sm', Lm', a1, a2, a3, ⟨a4.1, fun j k a => (a4.2.1 j k (by omega)).trans (zup_ne (by omega)), a4.2.2⟩, a5, (a4.2.1 0 16 (by omega)).trans (zup_eq rfl rfl)⟩
    cases hr : zW b n p q zw_right with
    | true =>
      have hk : zkN b n p q = 1 ∧ q - p = 5 := by
        unfold zW at hr
        rw [Bool.and_eq_true, Bool.and_eq_true, decide_eq_true_eq, decide_eq_true_eq] at hr
        exact ⟨hr.1, hr.2.1⟩
      have hl : zW b n p q zw_left = false := by
        unfold zW
        rw [show decide (q - p = zw_left.length) = false from decide_eq_false (by rw [hk.2]; decide), Bool.false_and, Bool.and_false]
      obtain ⟨S', Sm', Lm', a1, a2, a3, a4, a5, a6⟩ := st 1 hk.1
      rw [hr, zbi_t] at kr mr
      rw [hl, zbi_f] at kl ml
      have c1 : ((1 : Int32) = -1) = False := by decide
      have k60 : zcall 60 [.ref 162, .ref 1000054] zRc S L = some (none, zRc, S', L) := by
        unfold zcall
        simp (config := {maxSteps := 1000000}) (disch := omega) only [↓reduceIte, Int32.reduceLT, Int32.reduceLE, Int32.reduceToNatClampNeg, Int32.reduceAdd, Int32.reduceSub, Int32.reduceMul, Nat.reduceLeDiff, zEL, zup_ne, zup_eq, zT0, zT1, zT2, if_true, if_false, gR, gX, ze_60, s60_0, s60_1, s60_4, s60_5, s60_8, s60_11, s60_12, s60_13, s60_16, s60_17, s60_20, s60_23, s60_24, s60_27, s60_30, kr, h6, a1]
      refine ⟨1, S', Sm', Lm', ?_, ?_, a3, a4, fun _ => ⟨h6, 1, by omega, rfl, a6⟩⟩
      · simp (config := {maxSteps := 1000000}) (disch := omega) only [↓reduceIte, Int32.reduceLT, Int32.reduceLE, Int32.reduceToNatClampNeg, Int32.reduceAdd, Int32.reduceSub, Int32.reduceMul, Nat.reduceLeDiff, zEL, zup_ne, zup_eq, zT0, zT1, zT2, if_true, if_false, gR, gX, s54_6, s54_7, s54_10, s54_12, s54_15, s54_18, s54_19, s54_22, s54_23, s54_24, s54_25, s54_26, s54_27, s54_30, s54_32, s54_35, s54_37, kr, k60]
      · simp (config := {maxSteps := 1000000}) (disch := omega) only [↓reduceIte, Int32.reduceLT, Int32.reduceLE, Int32.reduceToNatClampNeg, Int32.reduceAdd, Int32.reduceSub, Int32.reduceMul, Nat.reduceLeDiff, zEL, zup_ne, zup_eq, zT0, zT1, zT2, if_true, if_false, r0, s191_6, s191_7, s191_8, s191_10, s191_13, s191_16, s191_17, s191_20, s191_21, s191_23, s191_26, s191_29, s191_30, s191_33, s191_34, s191_37, s191_38, s191_41, s191_42, s191_45, s191_46, s191_47, s191_50, s191_51, ml, mr, c1, a2]
    | false =>
      rw [hr, zbi_f] at kr mr
      cases hl : zW b n p q zw_left with
      | true =>
        have hk : zkN b n p q = 1 := by
          unfold zW at hl
          rw [Bool.and_eq_true, decide_eq_true_eq] at hl
          exact hl.1
        obtain ⟨S', Sm', Lm', a1, a2, a3, a4, a5, a6⟩ := st 0 hk
        rw [hl, zbi_t] at kl ml
        have c1 : ((0 : Int32) = -1) = False := by decide
        have k60 : zcall 60 [.ref 162, .ref 1000055] zRc S L = some (none, zRc, S', L) := by
          unfold zcall
          simp (config := {maxSteps := 1000000}) (disch := omega) only [↓reduceIte, Int32.reduceLT, Int32.reduceLE, Int32.reduceToNatClampNeg, Int32.reduceAdd, Int32.reduceSub, Int32.reduceMul, Nat.reduceLeDiff, zEL, zup_ne, zup_eq, zT0, zT1, zT2, if_true, if_false, gR, gX, ze_60, s60_0, s60_1, s60_4, s60_5, s60_8, s60_11, s60_12, s60_13, s60_16, s60_17, s60_20, s60_23, s60_24, s60_27, s60_30, kl, h6, a1]
        refine ⟨0, S', Sm', Lm', ?_, ?_, a3, a4, fun _ => ⟨h6, 0, by omega, rfl, a6⟩⟩
        · simp (config := {maxSteps := 1000000}) (disch := omega) only [↓reduceIte, Int32.reduceLT, Int32.reduceLE, Int32.reduceToNatClampNeg, Int32.reduceAdd, Int32.reduceSub, Int32.reduceMul, Nat.reduceLeDiff, zEL, zup_ne, zup_eq, zT0, zT1, zT2, if_true, if_false, gR, gX, s54_6, s54_7, s54_10, s54_12, s54_15, s54_18, s54_19, s54_22, s54_23, s54_24, s54_25, s54_26, s54_27, s54_30, s54_32, s54_35, s54_37, kr, k60]
        · simp (config := {maxSteps := 1000000}) (disch := omega) only [↓reduceIte, Int32.reduceLT, Int32.reduceLE, Int32.reduceToNatClampNeg, Int32.reduceAdd, Int32.reduceSub, Int32.reduceMul, Nat.reduceLeDiff, zEL, zup_ne, zup_eq, zT0, zT1, zT2, if_true, if_false, r0, s191_6, s191_7, s191_8, s191_10, s191_13, s191_16, s191_17, s191_20, s191_21, s191_23, s191_26, s191_29, s191_30, s191_33, s191_34, s191_37, s191_38, s191_41, s191_42, s191_45, s191_46, s191_47, s191_50, s191_51, ml, mr, c1, a2]
      | false =>
        rw [hl, zbi_f] at kl ml
        have hO1 : zOKs 162 n b p q S (zup Sm 0 16 (-1)) Lm := by
          obtain ⟨a1, a2, a3, a4⟩ := hO
          refine ⟨a1, (zup_ne (by omega)).trans a2, zTN_fr a3 (zup_ne (by omega)) (fun i => zup_ne (by omega)), ?_⟩
          unfold zTM1 at a4 ⊢
          simp (disch := omega) only [zup_ne]
          exact a4
        obtain ⟨f1, f2, f3, f4, -⟩ := zFk_162 (f := 1) rfl (by omega) (by omega) hT hO1
        have k3 : zcall 58 [.ref 162, .int 1] zRc S L = _ := c58O_162 (L := L) (k := nI 1) h6
        have k4 : zcall 180 [.ref 0, .int 1] R (zup Sm 0 16 (-1)) Lm = _ := m180O (Lm := Lm) (k := nI 1) hR (zOK_9 hO1)
        have k5 := m179F (Lm := Lm) hR f4
        generalize hS1 : zup (zup S 162 6 (nI 1)) 162 7 (S 1 3) = S1 at f1 f2 f3 k3
        generalize hSm1 : zup (zup (zup (zup Sm 0 16 (-1)) 0 13 (nI 1)) 0 14 (zup Sm 0 16 (-1) 0 8)) 0 9 5 = Sm1 at f1 f2 f4 k4 k5
        have k60 : zcall 60 [.ref 162, .ref 1000055] zRc S L = some (none, zRc, S1, L) := by
          unfold zcall
          simp (config := {maxSteps := 1000000}) (disch := omega) only [↓reduceIte, Int32.reduceLT, Int32.reduceLE, Int32.reduceToNatClampNeg, Int32.reduceAdd, Int32.reduceSub, Int32.reduceMul, Nat.reduceLeDiff, zEL, zup_ne, zup_eq, zT0, zT1, zT2, if_true, if_false, gR, gX, ze_60, s60_0, s60_1, s60_4, s60_5, s60_8, s60_11, s60_12, s60_13, s60_16, s60_17, s60_20, s60_23, s60_24, s60_27, s60_30, kl, k3, f3]
        refine ⟨0, S1, Sm1, Lm, ?_, ?_, f1, ⟨f2.1, fun j k a => (f2.2.1 j k (by omega)).trans (zup_ne (by omega)), f2.2.2⟩, fun h => absurd h f3⟩
        · simp (config := {maxSteps := 1000000}) (disch := omega) only [↓reduceIte, Int32.reduceLT, Int32.reduceLE, Int32.reduceToNatClampNeg, Int32.reduceAdd, Int32.reduceSub, Int32.reduceMul, Nat.reduceLeDiff, zEL, zup_ne, zup_eq, zT0, zT1, zT2, if_true, if_false, gR, gX, s54_6, s54_7, s54_10, s54_12, s54_15, s54_18, s54_19, s54_22, s54_23, s54_24, s54_25, s54_26, s54_27, s54_30, s54_32, s54_35, s54_37, kr, k60]
        · simp (config := {maxSteps := 1000000}) (disch := omega) only [↓reduceIte, Int32.reduceLT, Int32.reduceLE, Int32.reduceToNatClampNeg, Int32.reduceAdd, Int32.reduceSub, Int32.reduceMul, Nat.reduceLeDiff, zEL, zup_ne, zup_eq, zT0, zT1, zT2, if_true, if_false, r0, s191_6, s191_7, s191_8, s191_10, s191_13, s191_16, s191_17, s191_20, s191_21, s191_23, s191_26, s191_29, s191_30, s191_33, s191_34, s191_37, s191_38, s191_41, s191_42, s191_45, s191_46, s191_47, s191_50, s191_51, ml, mr, k4, k5]
  · have hne := zFA_ne hF
    have m9 : Sm 0 9 = 5 := by obtain ⟨f, pl, -, -, -, -, -, h9, -⟩ := hF; exact h9
    have m92 : zup Sm 0 16 (-1) 0 9 = 5 := (zup_ne (by omega)).trans m9
    have k4 := fun k => m180F (Lm := Lm) (k := k) hR m92
    have k5 := m179F (Lm := Lm) hR m92
    have ml := m181F (Lm := Lm) (r := 1000010) hR m9
    have mr := m181F (Lm := Lm) (r := 1000011) hR m9
    have c1 := c60F_162 kr hne
    have c2 := c60F_162 kl hne
    have mo : zgo 191 6 [.ref 0] [] R Sm Lm = zgo 191 54 [.ref 0] [] R (zup Sm 0 16 (-1)) Lm := by
      simp (config := {maxSteps := 1000000}) (disch := omega) only [↓reduceIte, Int32.reduceLT, Int32.reduceLE, Int32.reduceToNatClampNeg, Int32.reduceAdd, Int32.reduceSub, Int32.reduceMul, Nat.reduceLeDiff, zEL, zup_ne, zup_eq, zT0, zT1, zT2, if_true, if_false, r0, s191_6, s191_7, s191_8, s191_10, s191_13, s191_16, s191_17, s191_20, s191_21, s191_23, s191_26, s191_29, s191_30, s191_33, s191_34, s191_37, s191_38, s191_41, s191_42, s191_45, s191_46, s191_47, s191_50, s191_51, ml, mr, k4, k5]
    have hF2 : zST 162 n b S (zup Sm 0 16 (-1)) Lm := by
      obtain ⟨f, pl, a1, a2, a3, a4, a5, a6, a7, a8⟩ := hF
      exact ⟨p, q, hT, .inr ⟨f, pl, a1, a2, a3, a4, a5, m92, (zup_ne (by omega)).trans a7, (zup_ne (by omega)).trans a8⟩⟩
    have fr : zf54 162 S Sm Lm S (zup Sm 0 16 (-1)) Lm := ⟨fun _ _ _ _ => rfl, fun j k a => zup_ne (by omega), fun _ _ _ => rfl⟩
    cases hw : zW b n p q zw_right with
    | true =>
      rw [hw, zbi_t] at kr
      refine ⟨1, S, _, Lm, ?_, mo, hF2, fr, fun h => absurd h hne⟩
      simp (config := {maxSteps := 1000000}) (disch := omega) only [↓reduceIte, Int32.reduceLT, Int32.reduceLE, Int32.reduceToNatClampNeg, Int32.reduceAdd, Int32.reduceSub, Int32.reduceMul, Nat.reduceLeDiff, zEL, zup_ne, zup_eq, zT0, zT1, zT2, if_true, if_false, gR, gX, s54_6, s54_7, s54_10, s54_12, s54_15, s54_18, s54_19, s54_22, s54_23, s54_24, s54_25, s54_26, s54_27, s54_30, s54_32, s54_35, s54_37, kr, c1]
    | false =>
      rw [hw, zbi_f] at kr
      refine ⟨0, S, _, Lm, ?_, mo, hF2, fr, fun h => absurd h hne⟩
      simp (config := {maxSteps := 1000000}) (disch := omega) only [↓reduceIte, Int32.reduceLT, Int32.reduceLE, Int32.reduceToNatClampNeg, Int32.reduceAdd, Int32.reduceSub, Int32.reduceMul, Nat.reduceLeDiff, zEL, zup_ne, zup_eq, zT0, zT1, zT2, if_true, if_false, gR, gX, s54_6, s54_7, s54_10, s54_12, s54_15, s54_18, s54_19, s54_22, s54_23, s54_24, s54_25, s54_26, s54_27, s54_30, s54_32, s54_35, s54_37, kr, c2]
theorem op54_162 {sp : Nat} (hR : zLT R) (h : zST 162 n b S Sm Lm) : ∃ sd ln x : Int32, ∃ S' Sm' Lm', zcall 54 [.ref 162, .ref sp] zRc S L = zgo 54 66 [.ref 162, .ref sp, .int sd, .int ln, .int x] [] zRc S' L ∧ zcall 191 [.ref 0] R Sm Lm = some (none, R, Sm', Lm') ∧ zST 162 n b S' Sm' Lm' ∧ zf54 162 S Sm Lm S' Sm' Lm' ∧ (S' 162 6 = 0 → S 162 6 = 0 ∧ ∃ s l y : Nat, s ≤ 1 ∧ l ≤ 4 ∧ y ≤ 19 ∧ sd = nI s ∧ ln = nI l ∧ x = nI y ∧ Sm' 0 16 = nI s ∧ Sm' 0 17 = nI l ∧ Sm' 0 18 = nI y) := by
  have r0 := hR
  unfold zLT at r0
  obtain ⟨S1, Sm1, Lm1, a1, a2, a3, a4, a5⟩ := op60_162 (L := L) hR (fun p q S L h => cw_of h) (fun p q S Sm Lm h => mw_of hR h) h
  obtain ⟨sd, S2, Sm2, Lm2, b1, b2, b3, b4, b5⟩ := op54a_162 (L := L) (sp := sp) hR a3
  obtain ⟨S3, Sm3, Lm3, c1, c2, c3, c4, c5⟩ := op60_162 (L := L) hR (fun p q S L h => cw_at h) (fun p q S Sm Lm h => mw_at hR h) b3
  obtain ⟨v1, w1, S4, Sm4, Lm4, d1, d2, d3, d4, d5⟩ := op63_162 (L := L) (l := 0) (u := 4) (lo := 0) (hi := 4) (lo' := 0) (hi' := 4) hR c3 (by omega) (by omega) (fun _ => ⟨rfl, rfl, rfl, rfl⟩)
  have k186 : zcall 186 [.ref 0, .ref 1000008, .int 0, .int 4] R Sm2 Lm2 = some (some (.int w1), R, Sm4, Lm4) := by
    unfold zcall
    simp (config := {maxSteps := 1000000}) (disch := omega) only [↓reduceIte, Int32.reduceLT, Int32.reduceLE, Int32.reduceToNatClampNeg, Int32.reduceAdd, Int32.reduceSub, Int32.reduceMul, Nat.reduceLeDiff, zEL, zup_ne, zup_eq, zT0, zT1, zT2, if_true, if_false, r0, ze_186, s186_0, s186_1, s186_2, s186_5, s186_6, s186_7, s186_8, s186_11, c2, d2]
  have g4 : zST 162 n b S4 (zup Sm4 0 17 w1) Lm4 := by
    refine zST_fr d3 (fun _ => rfl) (fun _ => rfl) rfl rfl (fun k hk => zup_ne (by omega)) (fun _ => zup_ne (by omega)) rfl
  obtain ⟨S5, Sm5, Lm5, e1, e2, e3, e4, e5⟩ := op61_162 (L := L) hR g4
  obtain ⟨v2, w2, S6, Sm6, Lm6, f1, f2, f3, f4, f5⟩ := op63_162 (L := L) (l := 0) (u := 19) (lo := 0) (hi := 19) (lo' := 0) (hi' := 19) hR e3 (by omega) (by omega) (fun _ => ⟨rfl, rfl, rfl, rfl⟩)
  have g6 : zST 162 n b S6 (zup Sm6 0 18 w2) Lm6 := by
    refine zST_fr f3 (fun _ => rfl) (fun _ => rfl) rfl rfl (fun k hk => zup_ne (by omega)) (fun _ => zup_ne (by omega)) rfl
  refine ⟨sd, v1, v2, S6, zup Sm6 0 18 w2, Lm6, ?_, ?_, g6, ⟨fun j k x y => ?_, fun j k x => ?_, fun j k x => ?_⟩, fun h => ?_⟩
  · unfold zcall
    simp (config := {maxSteps := 1000000}) (disch := omega) only [↓reduceIte, Int32.reduceLT, Int32.reduceLE, Int32.reduceToNatClampNeg, Int32.reduceAdd, Int32.reduceSub, Int32.reduceMul, Nat.reduceLeDiff, zEL, zup_ne, zup_eq, zT0, zT1, zT2, if_true, if_false, gR, gX, ze_54, s54_0, s54_1, s54_3, a1]
    rw [b1]
    simp (config := {maxSteps := 1000000}) (disch := omega) only [↓reduceIte, Int32.reduceLT, Int32.reduceLE, Int32.reduceToNatClampNeg, Int32.reduceAdd, Int32.reduceSub, Int32.reduceMul, Nat.reduceLeDiff, zEL, zup_ne, zup_eq, zT0, zT1, zT2, if_true, if_false, gR, gX, s54_40, s54_41, s54_43, s54_46, s54_47, s54_48, s54_49, s54_52, s54_53, s54_54, s54_57, s54_58, s54_59, s54_61, s54_64, c1, d1, e1, f1]
  · unfold zcall
    simp (config := {maxSteps := 1000000}) (disch := omega) only [↓reduceIte, Int32.reduceLT, Int32.reduceLE, Int32.reduceToNatClampNeg, Int32.reduceAdd, Int32.reduceSub, Int32.reduceMul, Nat.reduceLeDiff, zEL, zup_ne, zup_eq, zT0, zT1, zT2, if_true, if_false, r0, ze_191, s191_0, s191_1, s191_3, a2]
    rw [b2]
    simp (config := {maxSteps := 1000000}) (disch := omega) only [↓reduceIte, Int32.reduceLT, Int32.reduceLE, Int32.reduceToNatClampNeg, Int32.reduceAdd, Int32.reduceSub, Int32.reduceMul, Nat.reduceLeDiff, zEL, zup_ne, zup_eq, zT0, zT1, zT2, if_true, if_false, r0, s191_54, s191_55, s191_56, s191_58, s191_59, s191_60, s191_63, s191_66, s191_67, s191_69, s191_72, s191_73, s191_74, s191_75, s191_77, s191_80, s191_83, k186, e2, f2]
  · rw [f4.1 j k x y, e4.1 j k x y, d4.1 j k x y, c4.1 j k x y, b4.1 j k x y, a4.1 j k x y]
  · rw [zup_ne (by omega), f4.2.1 j k (by omega), e4.2.1 j k (by omega), zup_ne (by omega), d4.2.1 j k (by omega), c4.2.1 j k (by omega), b4.2.1 j k x, a4.2.1 j k (by omega)]
  · rw [f4.2.2 j k x, e4.2.2 j k x, d4.2.2 j k x, c4.2.2 j k x, b4.2.2 j k x, a4.2.2 j k x]
  · obtain ⟨y1, x2, -, z2, h1, h2⟩ := f5 h
    obtain ⟨y2, x1, -, z1, h3, h4⟩ := d5 (e5 y1)
    obtain ⟨y3, s, hs, h5, h6⟩ := b5 (c5 y2)
    refine ⟨a5 y3, s, x1, x2, hs, z1, z2, h5, h3, h1, ?_, ?_, ?_⟩
    · rw [zup_ne (by omega), f4.2.1 0 16 (by omega), e4.2.1 0 16 (by omega), zup_ne (by omega), d4.2.1 0 16 (by omega), c4.2.1 0 16 (by omega), h6]
    · rw [zup_ne (by omega), f4.2.1 0 17 (by omega), e4.2.1 0 17 (by omega), zup_eq rfl rfl, h4]
    · rw [zup_eq rfl rfl, h2]
theorem t82_pl_162 {k : Nat} (hk : k ≤ 8) (h : S 12 7 = nI k) (h0 : S 12 0 = 8) : zcall 82 [.ref 12] zRc S L = some (some (.int (if k = 8 then 1 else 0)), zRc, S, L) := by
  unfold zcall
  by_cases e : k = 8
  · have e5 : (nI k < 8) = False := by subst e; decide
    rw [if_pos e]
    simp (config := {maxSteps := 1000000}) (disch := omega) only [↓reduceIte, Int32.reduceLT, Int32.reduceLE, Int32.reduceToNatClampNeg, Int32.reduceAdd, Int32.reduceSub, Int32.reduceMul, Nat.reduceLeDiff, zEL, zup_ne, zup_eq, zT0, zT1, zT2, if_true, if_false, gM, ze_82, s82_0, s82_1, s82_4, s82_5, s82_8, s82_11, s82_12, s82_15, s82_16, h, h0, e5]
  · have e5 : (nI k < 8) = True := eq_true (by rw [show (8 : Int32) = nI 8 from rfl, znI_lt (by omega) (by omega)]; omega)
    rw [if_neg e]
    simp (config := {maxSteps := 1000000}) (disch := omega) only [↓reduceIte, Int32.reduceLT, Int32.reduceLE, Int32.reduceToNatClampNeg, Int32.reduceAdd, Int32.reduceSub, Int32.reduceMul, Nat.reduceLeDiff, zEL, zup_ne, zup_eq, zT0, zT1, zT2, if_true, if_false, gM, ze_82, s82_0, s82_1, s82_4, s82_5, s82_8, s82_11, s82_12, s82_15, s82_16, h, h0, e5]
theorem t84_pl_162 {k : Nat} {x y z : Int32} (h : S 12 7 = nI k) : zcall 84 [.ref 12, .int x, .int y, .int z] zRc S L = some (none, zRc, zup (zput (zput (zput S 14 8 (nI k) x) 16 8 (nI k) y) 18 8 (nI k) z) 12 7 (nI (k + 1)), L) := by
  have u1 : zput S 14 8 (nI k) x 12 7 = nI k := by rw [zput_ne (by omega), h]
  have u2 : zput (zput S 14 8 (nI k) x) 16 8 (nI k) y 12 7 = nI k := by rw [zput_ne (by omega)]; exact u1
  have u3 : zput (zput (zput S 14 8 (nI k) x) 16 8 (nI k) y) 18 8 (nI k) z 12 7 = nI k := by rw [zput_ne (by omega)]; exact u2
  unfold zcall
  simp (config := {maxSteps := 1000000}) (disch := omega) only [↓reduceIte, Int32.reduceLT, Int32.reduceLE, Int32.reduceToNatClampNeg, Int32.reduceAdd, Int32.reduceSub, Int32.reduceMul, Nat.reduceLeDiff, zEL, zup_ne, zup_eq, zT0, zT1, zT2, if_true, if_false, gM, ze_84, s84_0, s84_1, s84_4, s84_5, s84_8, s84_9, s84_12, s84_13, s84_16, s84_17, s84_20, s84_21, s84_24, s84_25, s84_28, s84_29, s84_32, s84_33, s84_36, s84_37, s84_38, s84_41, s84_42, s84_43, s84_46, h, u1, u2, u3]
theorem t82_bl_162 {k : Nat} (hk : k ≤ 8) (h : S 25 7 = nI k) (h0 : S 25 0 = 8) : zcall 82 [.ref 25] zRc S L = some (some (.int (if k = 8 then 1 else 0)), zRc, S, L) := by
  unfold zcall
  by_cases e : k = 8
  · have e5 : (nI k < 8) = False := by subst e; decide
    rw [if_pos e]
    simp (config := {maxSteps := 1000000}) (disch := omega) only [↓reduceIte, Int32.reduceLT, Int32.reduceLE, Int32.reduceToNatClampNeg, Int32.reduceAdd, Int32.reduceSub, Int32.reduceMul, Nat.reduceLeDiff, zEL, zup_ne, zup_eq, zT0, zT1, zT2, if_true, if_false, gM, ze_82, s82_0, s82_1, s82_4, s82_5, s82_8, s82_11, s82_12, s82_15, s82_16, h, h0, e5]
  · have e5 : (nI k < 8) = True := eq_true (by rw [show (8 : Int32) = nI 8 from rfl, znI_lt (by omega) (by omega)]; omega)
    rw [if_neg e]
    simp (config := {maxSteps := 1000000}) (disch := omega) only [↓reduceIte, Int32.reduceLT, Int32.reduceLE, Int32.reduceToNatClampNeg, Int32.reduceAdd, Int32.reduceSub, Int32.reduceMul, Nat.reduceLeDiff, zEL, zup_ne, zup_eq, zT0, zT1, zT2, if_true, if_false, gM, ze_82, s82_0, s82_1, s82_4, s82_5, s82_8, s82_11, s82_12, s82_15, s82_16, h, h0, e5]
theorem t84_bl_162 {k : Nat} {x y z : Int32} (h : S 25 7 = nI k) : zcall 84 [.ref 25, .int x, .int y, .int z] zRc S L = some (none, zRc, zup (zput (zput (zput S 27 8 (nI k) x) 29 8 (nI k) y) 31 8 (nI k) z) 25 7 (nI (k + 1)), L) := by
  have u1 : zput S 27 8 (nI k) x 25 7 = nI k := by rw [zput_ne (by omega), h]
  have u2 : zput (zput S 27 8 (nI k) x) 29 8 (nI k) y 25 7 = nI k := by rw [zput_ne (by omega)]; exact u1
  have u3 : zput (zput (zput S 27 8 (nI k) x) 29 8 (nI k) y) 31 8 (nI k) z 25 7 = nI k := by rw [zput_ne (by omega)]; exact u2
  unfold zcall
  simp (config := {maxSteps := 1000000}) (disch := omega) only [↓reduceIte, Int32.reduceLT, Int32.reduceLE, Int32.reduceToNatClampNeg, Int32.reduceAdd, Int32.reduceSub, Int32.reduceMul, Nat.reduceLeDiff, zEL, zup_ne, zup_eq, zT0, zT1, zT2, if_true, if_false, gM, ze_84, s84_0, s84_1, s84_4, s84_5, s84_8, s84_9, s84_12, s84_13, s84_16, s84_17, s84_20, s84_21, s84_24, s84_25, s84_28, s84_29, s84_32, s84_33, s84_36, s84_37, s84_38, s84_41, s84_42, s84_43, s84_46, h, u1, u2, u3]
theorem t82_si_162 {k : Nat} (hk : k ≤ 6) (h : S 38 7 = nI k) (h0 : S 38 0 = 6) : zcall 82 [.ref 38] zRc S L = some (some (.int (if k = 6 then 1 else 0)), zRc, S, L) := by
  unfold zcall
  by_cases e : k = 6
  · have e5 : (nI k < 6) = False := by subst e; decide
    rw [if_pos e]
    simp (config := {maxSteps := 1000000}) (disch := omega) only [↓reduceIte, Int32.reduceLT, Int32.reduceLE, Int32.reduceToNatClampNeg, Int32.reduceAdd, Int32.reduceSub, Int32.reduceMul, Nat.reduceLeDiff, zEL, zup_ne, zup_eq, zT0, zT1, zT2, if_true, if_false, gM, ze_82, s82_0, s82_1, s82_4, s82_5, s82_8, s82_11, s82_12, s82_15, s82_16, h, h0, e5]
  · have e5 : (nI k < 6) = True := eq_true (by rw [show (6 : Int32) = nI 6 from rfl, znI_lt (by omega) (by omega)]; omega)
    rw [if_neg e]
    simp (config := {maxSteps := 1000000}) (disch := omega) only [↓reduceIte, Int32.reduceLT, Int32.reduceLE, Int32.reduceToNatClampNeg, Int32.reduceAdd, Int32.reduceSub, Int32.reduceMul, Nat.reduceLeDiff, zEL, zup_ne, zup_eq, zT0, zT1, zT2, if_true, if_false, gM, ze_82, s82_0, s82_1, s82_4, s82_5, s82_8, s82_11, s82_12, s82_15, s82_16, h, h0, e5]
theorem t84_si_162 {k : Nat} {x y z : Int32} (h : S 38 7 = nI k) : zcall 84 [.ref 38, .int x, .int y, .int z] zRc S L = some (none, zRc, zup (zput (zput (zput S 40 6 (nI k) x) 42 6 (nI k) y) 44 6 (nI k) z) 38 7 (nI (k + 1)), L) := by
  have u1 : zput S 40 6 (nI k) x 38 7 = nI k := by rw [zput_ne (by omega), h]
  have u2 : zput (zput S 40 6 (nI k) x) 42 6 (nI k) y 38 7 = nI k := by rw [zput_ne (by omega)]; exact u1
  have u3 : zput (zput (zput S 40 6 (nI k) x) 42 6 (nI k) y) 44 6 (nI k) z 38 7 = nI k := by rw [zput_ne (by omega)]; exact u2
  unfold zcall
  simp (config := {maxSteps := 1000000}) (disch := omega) only [↓reduceIte, Int32.reduceLT, Int32.reduceLE, Int32.reduceToNatClampNeg, Int32.reduceAdd, Int32.reduceSub, Int32.reduceMul, Nat.reduceLeDiff, zEL, zup_ne, zup_eq, zT0, zT1, zT2, if_true, if_false, gM, ze_84, s84_0, s84_1, s84_4, s84_5, s84_8, s84_9, s84_12, s84_13, s84_16, s84_17, s84_20, s84_21, s84_24, s84_25, s84_28, s84_29, s84_32, s84_33, s84_36, s84_37, s84_38, s84_41, s84_42, s84_43, s84_46, h, u1, u2, u3]
theorem t82_pr_162 {k : Nat} (hk : k ≤ 6) (h : S 51 7 = nI k) (h0 : S 51 0 = 6) : zcall 82 [.ref 51] zRc S L = some (some (.int (if k = 6 then 1 else 0)), zRc, S, L) := by
  unfold zcall
  by_cases e : k = 6
  · have e5 : (nI k < 6) = False := by subst e; decide
    rw [if_pos e]
    simp (config := {maxSteps := 1000000}) (disch := omega) only [↓reduceIte, Int32.reduceLT, Int32.reduceLE, Int32.reduceToNatClampNeg, Int32.reduceAdd, Int32.reduceSub, Int32.reduceMul, Nat.reduceLeDiff, zEL, zup_ne, zup_eq, zT0, zT1, zT2, if_true, if_false, gM, ze_82, s82_0, s82_1, s82_4, s82_5, s82_8, s82_11, s82_12, s82_15, s82_16, h, h0, e5]
  · have e5 : (nI k < 6) = True := eq_true (by rw [show (6 : Int32) = nI 6 from rfl, znI_lt (by omega) (by omega)]; omega)
    rw [if_neg e]
    simp (config := {maxSteps := 1000000}) (disch := omega) only [↓reduceIte, Int32.reduceLT, Int32.reduceLE, Int32.reduceToNatClampNeg, Int32.reduceAdd, Int32.reduceSub, Int32.reduceMul, Nat.reduceLeDiff, zEL, zup_ne, zup_eq, zT0, zT1, zT2, if_true, if_false, gM, ze_82, s82_0, s82_1, s82_4, s82_5, s82_8, s82_11, s82_12, s82_15, s82_16, h, h0, e5]
theorem t84_pr_162 {k : Nat} {x y z : Int32} (h : S 51 7 = nI k) : zcall 84 [.ref 51, .int x, .int y, .int z] zRc S L = some (none, zRc, zup (zput (zput (zput S 53 6 (nI k) x) 55 6 (nI k) y) 57 6 (nI k) z) 51 7 (nI (k + 1)), L) := by
  have u1 : zput S 53 6 (nI k) x 51 7 = nI k := by rw [zput_ne (by omega), h]
  have u2 : zput (zput S 53 6 (nI k) x) 55 6 (nI k) y 51 7 = nI k := by rw [zput_ne (by omega)]; exact u1
  have u3 : zput (zput (zput S 53 6 (nI k) x) 55 6 (nI k) y) 57 6 (nI k) z 51 7 = nI k := by rw [zput_ne (by omega)]; exact u2
  unfold zcall
  simp (config := {maxSteps := 1000000}) (disch := omega) only [↓reduceIte, Int32.reduceLT, Int32.reduceLE, Int32.reduceToNatClampNeg, Int32.reduceAdd, Int32.reduceSub, Int32.reduceMul, Nat.reduceLeDiff, zEL, zup_ne, zup_eq, zT0, zT1, zT2, if_true, if_false, gM, ze_84, s84_0, s84_1, s84_4, s84_5, s84_8, s84_9, s84_12, s84_13, s84_16, s84_17, s84_20, s84_21, s84_24, s84_25, s84_28, s84_29, s84_32, s84_33, s84_36, s84_37, s84_38, s84_41, s84_42, s84_43, s84_46, h, u1, u2, u3]
/-- the prints -/
def zPpr_162 (B c3 : Nat) (S Sm : zS) : Prop :=
  c3 ≤ 6 ∧ S 51 7 = nI c3 ∧ Sm B 10 = nI c3 ∧ ∀ k, k < c3 → S 53 k = Sm (B + 17) k ∧ S 55 k = Sm (B + 18) k ∧ S 57 k = Sm (B + 19) k ∧ zin (Sm (B + 17) k) 1 ∧ zin (Sm (B + 18) k) 4 ∧ zin (Sm (B + 19) k) 19
theorem zPpr_fr_162 {c3 : Nat} (h : zPpr_162 B c3 S Sm) (h1 : ∀ j k, (j = 51 ∧ k = 7) ∨ j = 53 ∨ j = 55 ∨ j = 57 → S' j k = S j k) (h2 : ∀ j k, (j = B ∧ k = 10) ∨ j = B + 17 ∨ j = B + 18 ∨ j = B + 19 → Sm' j k = Sm j k) : zPpr_162 B c3 S' Sm' := by
  unfold zPpr_162 at h ⊢
  have e3 : S' 53 = S 53 := funext fun k => h1 _ k (by omega)
  have e5 : S' 55 = S 55 := funext fun k => h1 _ k (by omega)
  have e7 : S' 57 = S 57 := funext fun k => h1 _ k (by omega)
  have m1 : Sm' (B + 17) = Sm (B + 17) := funext fun k => h2 _ k (by omega)
  have m2 : Sm' (B + 18) = Sm (B + 18) := funext fun k => h2 _ k (by omega)
  have m3 : Sm' (B + 19) = Sm (B + 19) := funext fun k => h2 _ k (by omega)
  rw [e3, e5, e7, m1, m2, m3, h1 _ 7 (by omega), h2 B 10 (by omega)]
  exact h
theorem l53_162 {c3 : Nat} (hR : zLT R) (hB : zLB R B) (hB11 : 11 ≤ B) (hT : zTKc n b p q S) (hO : zOKs 162 n b p q S Sm Lm) (hk : zkN b n p q = 1) (h0 : S 51 0 = 6) (hP : zPpr_162 B c3 S Sm) : ∃ S' Sm' Lm', zcall 53 [.ref 162] zRc S L = some (none, zRc, S', L) ∧ zcall 200 [.ref 0] R Sm Lm = some (none, R, Sm', Lm') ∧ zST 162 n b S' Sm' Lm' ∧ (∀ j k, (j ≠ 1 ∨ (k ≠ 2 ∧ k ≠ 3 ∧ k ≠ 4)) → (j ≠ 162 ∨ (k ≠ 6 ∧ k ≠ 7)) → (j ≠ 51 ∨ k ≠ 7) → j ≠ 53 → j ≠ 55 → j ≠ 57 → S' j k = S j k) ∧ (∀ j k, (j ≠ 0 ∨ k < 8 ∨ 18 < k) → (j ≠ B ∨ k ≠ 10) → j ≠ B + 17 → j ≠ B + 18 → j ≠ B + 19 → Sm' j k = Sm j k) ∧ (∀ j k, (j ≠ 0 ∨ k ≠ 15) → Lm' j k = Lm j k) ∧ (S' 162 6 = 0 → zPpr_162 B (c3 + 1) S' Sm') := by
  have r0 := hR
  unfold zLT at r0
  have rB := hB
  unfold zLB at rB
  obtain ⟨hc3, p1, p2, p3⟩ := hP
  have k82 := t82_pr_162 (L := L) hc3 p1 h0
  obtain ⟨S1, Sm1, Lm1, a1, a2, a3, a4, a5⟩ := op59_162 (L := L) (fl := if c3 = 6 then 1 else 0) (many := nI c3) (most := 6) hR hT hO hk (by
    by_cases e : c3 = 6
    · subst e
      exact .inl ⟨if_pos rfl, rfl⟩
    · exact .inr ⟨if_neg e, fun h => e ((znI_inj (b := 6) (by omega) (by omega)).mp h)⟩)
  obtain ⟨sd, ln, x, S2, Sm2, Lm2, b1, b2, b3, b4, b5⟩ := op54_162 (L := L) (sp := 51) hR a3
  have fr := zf54_t (zf54_of a4) b4
  have q1 : S2 51 7 = nI c3 := (fr.1 _ _ (by omega) (by omega)).trans p1
  have q2 : Sm2 B 10 = nI c3 := (fr.2.1 _ _ (by omega)).trans p2
  have k84 := t84_pr_162 (L := L) (x := sd) (y := ln) (z := x) q1
  obtain ⟨S3, hS3⟩ : ∃ S3, S3 = zup (zput (zput (zput S2 53 6 (nI c3) sd) 55 6 (nI c3) ln) 57 6 (nI c3) x) 51 7 (nI (c3 + 1)) := ⟨_, rfl⟩
  rw [← hS3] at k84
  have k54 : zcall 54 [.ref 162, .ref 51] zRc S1 L = some (none, zRc, S3, L) := by
    rw [b1]
    simp (config := {maxSteps := 1000000}) (disch := omega) only [↓reduceIte, Int32.reduceLT, Int32.reduceLE, Int32.reduceToNatClampNeg, Int32.reduceAdd, Int32.reduceSub, Int32.reduceMul, Nat.reduceLeDiff, zEL, zup_ne, zup_eq, zT0, zT1, zT2, if_true, if_false, gR, gM, s54_66, s54_67, s54_68, s54_69, s54_71, s54_74, k84]
  have cl : zcall 53 [.ref 162] zRc S L = some (none, zRc, S3, L) := by
    unfold zcall
    simp (config := {maxSteps := 1000000}) (disch := omega) only [↓reduceIte, Int32.reduceLT, Int32.reduceLE, Int32.reduceToNatClampNeg, Int32.reduceAdd, Int32.reduceSub, Int32.reduceMul, Nat.reduceLeDiff, zEL, zup_ne, zup_eq, zT0, zT1, zT2, if_true, if_false, gR, gM, ze_53, s53_0, s53_1, s53_2, s53_5, s53_8, s53_11, s53_14, s53_15, s53_16, s53_19, s53_22, s53_25, k82, a1, k54]
  have mo : zcall 200 [.ref 0] R Sm Lm = zgo 200 17 [.ref 0, .retAddr 0] [] R Sm2 Lm2 := by
    unfold zcall
    simp (config := {maxSteps := 1000000}) (disch := omega) only [↓reduceIte, Int32.reduceLT, Int32.reduceLE, Int32.reduceToNatClampNeg, Int32.reduceAdd, Int32.reduceSub, Int32.reduceMul, Nat.reduceLeDiff, zEL, zup_ne, zup_eq, zT0, zT1, zT2, if_true, if_false, r0, rB, ze_200, s200_0, s200_1, s200_2, s200_5, s200_8, s200_10, s200_13, s200_14, p2, a2, b2]
  have e3 : ∀ j k, (j ≠ 51 ∨ k ≠ 7) → j ≠ 53 → j ≠ 55 → j ≠ 57 → S3 j k = S2 j k := fun j k a c d e => by rw [hS3, zup_ne (by omega), zput_ne (by omega), zput_ne (by omega), zput_ne (by omega)]
  have fC : ∀ j k, (j ≠ 1 ∨ (k ≠ 2 ∧ k ≠ 3 ∧ k ≠ 4)) → (j ≠ 162 ∨ (k ≠ 6 ∧ k ≠ 7)) → (j ≠ 51 ∨ k ≠ 7) → j ≠ 53 → j ≠ 55 → j ≠ 57 → S3 j k = S j k := fun j k a c d e f g => (e3 j k d e f g).trans (fr.1 j k a c)
  have st : ∀ Sm3, (∀ j k, (j ≠ B ∨ k ≠ 10) → j ≠ B + 17 → j ≠ B + 18 → j ≠ B + 19 → Sm3 j k = Sm2 j k) → zST 162 n b S3 Sm3 Lm2 := fun Sm3 h => zST_fr b3 (fun k => e3 1 k (by omega) (by decide) (by decide) (by decide)) (fun k => e3 3 k (by omega) (by decide) (by decide) (by decide)) (e3 _ _ (by omega) (by decide) (by decide) (by decide)) (e3 _ _ (by omega) (by decide) (by decide) (by decide)) (fun k _ => h 0 k (by omega) (by omega) (by omega) (by omega)) (fun k => h 1 k (by omega) (by omega) (by omega) (by omega)) rfl
  rcases zST_9 b3 with ⟨o1, o2⟩ | ⟨o1, o2⟩
  · have o2 : (Sm2 0 9 = 5) = False := eq_false o2
    obtain ⟨g1, s, l, y, hs, hl, hy, rfl, rfl, rfl, m16, m17, m18⟩ := b5 o1
    have g0 := a5 g1
    have hc36 : c3 ≠ 6 := fun e => by rw [if_pos e] at g0; exact absurd g0 (by decide)
    obtain ⟨Sm3, hSm3⟩ : ∃ Sm3, Sm3 = zup (zup (zup (zup Sm2 (B + 17) c3 (nI s)) (B + 18) c3 (nI l)) (B + 19) c3 (nI y)) B 10 (nI (c3 + 1)) := ⟨_, rfl⟩
    have w17 : ∀ k, Sm3 (B + 17) k = if k = c3 then nI s else Sm (B + 17) k := fun k => by
      rw [hSm3, zup_ne (by omega), zup_ne (by omega), zup_ne (by omega)]
      by_cases e : k = c3
      · rw [zup_eq rfl e, if_pos e]
      · rw [zup_ne (by omega), if_neg e, fr.2.1 _ _ (by omega)]
    have w18 : ∀ k, Sm3 (B + 18) k = if k = c3 then nI l else Sm (B + 18) k := fun k => by
      rw [hSm3, zup_ne (by omega), zup_ne (by omega)]
      by_cases e : k = c3
      · rw [zup_eq rfl e, if_pos e]
      · rw [zup_ne (by omega), zup_ne (by omega), if_neg e, fr.2.1 _ _ (by omega)]
    have w19 : ∀ k, Sm3 (B + 19) k = if k = c3 then nI y else Sm (B + 19) k := fun k => by
      rw [hSm3, zup_ne (by omega)]
      by_cases e : k = c3
      · rw [zup_eq rfl e, if_pos e]
      · rw [zup_ne (by omega), zup_ne (by omega), zup_ne (by omega), if_neg e, fr.2.1 _ _ (by omega)]
    have c49 : ∀ k, S3 53 k = if k = c3 then nI s else S 53 k := fun k => by
      rw [hS3, zup_ne (by omega), zput_ne (by omega), zput_ne (by omega), zput_at (by omega) (by omega), fr.1 _ _ (by omega) (by omega)]
    have c51 : ∀ k, S3 55 k = if k = c3 then nI l else S 55 k := fun k => by
      rw [hS3, zup_ne (by omega), zput_ne (by omega), zput_at (by omega) (by omega), zput_ne (by omega), fr.1 _ _ (by omega) (by omega)]
    have c53 : ∀ k, S3 57 k = if k = c3 then nI y else S 57 k := fun k => by
      rw [hS3, zup_ne (by omega), zput_at (by omega) (by omega), zput_ne (by omega), zput_ne (by omega), fr.1 _ _ (by omega) (by omega)]
    have f3 : ∀ j k, (j ≠ B ∨ k ≠ 10) → j ≠ B + 17 → j ≠ B + 18 → j ≠ B + 19 → Sm3 j k = Sm2 j k := fun j k a c d e => by rw [hSm3, zup_ne (by omega), zup_ne (by omega), zup_ne (by omega), zup_ne (by omega)]
    refine ⟨S3, Sm3, Lm2, cl, mo.trans ?_, st Sm3 f3, fC, fun j k a c d e f => (f3 j k c d e f).trans (fr.2.1 j k a), fr.2.2, fun _ => ⟨by omega, by rw [hS3]; exact zup_eq rfl rfl, by rw [hSm3]; exact zup_eq rfl rfl, fun k hk => ?_⟩⟩
    · rw [hSm3]
      simp (config := {maxSteps := 1000000}) (disch := omega) only [↓reduceIte, Int32.reduceLT, Int32.reduceLE, Int32.reduceToNatClampNeg, Int32.reduceAdd, Int32.reduceSub, Int32.reduceMul, Nat.reduceLeDiff, zEL, zup_ne, zup_eq, zT0, zT1, zT2, if_true, if_false, zneq_f, true_and, and_true, false_and, and_false, zKL, eq_self, Nat.reduceEqDiff, zite0, ite_not, zaddr, zaddl, zputr, zsb1, zsb2, zsb0, zsbm, znm1, r0, rB, s200_17, s200_18, s200_21, s200_22, s200_25, s200_26, s200_27, s200_30, s200_33, s200_34, s200_35, s200_38, s200_41, s200_42, s200_43, s200_46, s200_47, s200_48, s200_51, s200_54, s200_55, s200_56, s200_59, s200_60, s200_61, s200_64, s200_67, s200_68, s200_69, s200_72, s200_73, s200_74, s200_77, s200_78, s200_81, s200_82, s200_83, s200_86, o2, q2, m16, m17, m18]
    · rw [c49, c51, c53, w17, w18, w19]
      by_cases e : k = c3
      · simp only [if_pos e]
        exact ⟨trivial, trivial, trivial, ⟨s, hs, rfl⟩, ⟨l, hl, rfl⟩, ⟨y, hy, rfl⟩⟩
      · simp only [if_neg e]
        exact p3 k (by omega)
  · refine ⟨S3, Sm2, Lm2, cl, mo.trans ?_, st Sm2 (fun _ _ _ _ _ _ => rfl), fC, fun j k a c d e f => fr.2.1 j k a, fr.2.2, fun h => ?_⟩
    · simp (config := {maxSteps := 1000000}) (disch := omega) only [↓reduceIte, Int32.reduceLT, Int32.reduceLE, Int32.reduceToNatClampNeg, Int32.reduceAdd, Int32.reduceSub, Int32.reduceMul, Nat.reduceLeDiff, zEL, zup_ne, zup_eq, zT0, zT1, zT2, if_true, if_false, r0, rB, s200_17, s200_18, s200_21, s200_22, s200_25, s200_26, s200_27, s200_30, s200_33, s200_34, s200_35, s200_38, s200_41, s200_42, s200_43, s200_46, s200_47, s200_48, s200_51, s200_54, s200_55, s200_56, s200_59, s200_60, s200_61, s200_64, s200_67, s200_68, s200_69, s200_72, s200_73, s200_74, s200_77, s200_78, s200_81, s200_82, s200_83, s200_86, o2]
    · rw [e3 _ _ (by omega) (by decide) (by decide) (by decide)] at h
      exact absurd h o1
end ZPB
