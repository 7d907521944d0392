/-! GAMES: the thaw, a TENTH, to the end -/
section ZGB
variable {c : Nat → Nat} {S Sm S0 Sm0 : zS} {L Lm : zL} {rd : Value}
theorem zmx0 {s v : Nat} (hs : s < 1000) (hv : v < 1000) : (if 0 < nI s - nI v then nI s - nI v else 0) = nI (s - v) := by
  by_cases h : v ≤ s
  · rw [znI_sub h]
    by_cases h1 : s - v = 0
    · rw [h1]
      rfl
    · rw [if_pos (by rw [znI_0, znI_lt (by omega) (by omega)]; omega)]
  · rw [if_neg]
    · rw [show s - v = 0 by omega]
      rfl
    · intro h1
      rw [Int32.lt_iff_toInt_lt, Int32.toInt_sub, zint_nI (by omega), zint_nI (by omega), show (0 : Int32).toInt = 0 from rfl, Int.bmod_eq_of_le (by omega) (by omega)] at h1
      omega
theorem gi_passed_168 {v : Int32} (h : zGI 168 c S0 Sm0 S Sm) (hv : zin v 99) : zGI 168 c S0 Sm0 (zup S 168 7 v) (zup Sm 2 2 v) := by
  obtain ⟨hM, ⟨g0, g1, g2, ⟨g3, g3'⟩, ⟨g4, g4'⟩, ⟨g5, g5'⟩, ⟨i, hh, i1, i2, i3, i4, i5, i6⟩⟩, h3, h4⟩ := h
  have b0 : c 0 ≤ 8 := hM.1.2.1
  have b1 : c 1 ≤ 8 := hM.1.2.2.1
  refine ⟨zMD_fr hM (fun j k hj => by rw [zup_ne]; omega) (fun j k hj => by rw [zup_ne]; omega), ⟨fun q hq => ?_, fun q hq => ?_, fun q hq => ?_, ?_, ?_, ?_, ⟨i, hh, i1, i2, ?_, ?_, ?_, ?_⟩⟩, fun j k hj => ?_, fun j k h2 h5 h6 => ?_⟩
  · simp (disch := omega) only [zup_ne]
    exact g0 q hq
  · simp (disch := omega) only [zup_ne]
    exact g1 q hq
  · simp (disch := omega) only [zup_ne]
    exact g2 q hq
  · exact ⟨by rw [zup_eq rfl rfl, zup_eq rfl rfl], by rw [zup_eq rfl rfl]; exact hv⟩
  · simp (disch := omega) only [zup_ne]
    exact ⟨g4, g4'⟩
  · simp (disch := omega) only [zup_ne]
    exact ⟨g5, g5'⟩
  · simp (disch := omega) only [zup_ne]
    exact i3
  · simp (disch := omega) only [zup_ne]
    exact i4
  · simp (disch := omega) only [zup_ne]
    exact i5
  · intro j hj hj'
    simp (disch := omega) only [zup_ne]
    exact i6 j hj hj'
  · rw [zup_ne (by omega)]
    exact h3 j k hj
  · rw [zup_ne (by omega)]
    exact h4 j k h2 h5 h6
/-- the last loop: every block -/
theorem t30_168 {t : Nat} (h : zGJ 168 c S0 Sm0 S Sm) (hp : S 168 7 = nI t) (ht : t ≤ 99) : ∃ S' Sm' : zS, ∃ tw : Bool, zcall 29 [.ref 168, .int (nI t)] zRc S L = some (some (.int (if tw = true then 1 else 0)), zRc, S, L) ∧ (if tw = true then zcall 30 [.ref 168] zRc S L = some (none, zRc, S', L) else S' = S) ∧ zgo 229 142 [.ref 0, .int (nI (c 4))] [] (zRm1 rd) Sm Lm = zgo 229 190 [.ref 0, .int (nI (c 1))] [] (zRm1 rd) Sm' Lm ∧ zGJ 168 c S0 Sm0 S' Sm' ∧ S' 168 7 = nI t := by
  obtain ⟨th, w, hth, hw, eth, hw', k29⟩ := t29_168 (L := L) h.1 h.2.1 (t := t) (by omega)
  have key : ∀ d b, b + d = c 1 → ∀ S Sm, zGJ 168 c S0 Sm0 S Sm → S 168 7 = nI t → Sm 11 3 = nI th → (∀ h, Sm 2 0 = nI h → h < 24 → Sm 12 h = nI (w + 1)) → ∃ S' Sm' : zS, (if ztw th t w = true then zgo 30 2 [.ref 168, .int (nI b)] [] zRc S L = some (none, zRc, S', L) else S' = S) ∧ zgo 229 144 [.ref 0, .int (nI b)] [] (zRm1 rd) Sm Lm = zgo 229 190 [.ref 0, .int (nI (c 1))] [] (zRm1 rd) Sm' Lm ∧ zGJ 168 c S0 Sm0 S' Sm' ∧ S' 168 7 = nI t := by
    intro d
    induction d with
    | zero =>
      intro b hd S Sm h hp eth hw'
      have hb : b = c 1 := by omega
      have b1 : c 1 ≤ 8 := h.1.1.2.2.1
      have a1 : S 25 7 = nI (c 1) := h.1.2.1.2.1
      have m1 : Sm 11 7 = nI (c 1) := h.1.2.2.1.2.1
      subst hb
      refine ⟨S, Sm, ?_, ?_, h, hp⟩
      · split
        · rw [s30_2]
          simp (config := {maxSteps := 1000000}) (disch := omega) only [↓reduceIte, Int32.reduceLT, Int32.reduceLE, Int32.reduceToNatClampNeg, Int32.reduceAdd, Int32.reduceSub, Int32.reduceMul, Nat.reduceLeDiff, zEL, zup_ne, zup_eq, zT0, zT1, zT2, if_true, if_false, zneq_f, true_and, and_true, false_and, and_false, zKL, eq_self, Nat.reduceEqDiff, zite0, ite_not, zaddr, zaddl, zputr, zsb1, zsb2, zsb0, zsbm, znm1, gM, g168, s30_3, s30_4, s30_7, s30_10, s30_13, s30_16, s30_17, s30_20, s30_21, s30_22, s30_23, s30_26, s30_27, s30_30, s30_31, s30_32, s30_35, s30_36, s30_39, s30_42, s30_45, s30_48, a1]
        · rfl
      · rw [s229_144]
        simp (config := {maxSteps := 1000000}) (disch := omega) only [↓reduceIte, Int32.reduceLT, Int32.reduceLE, Int32.reduceToNatClampNeg, Int32.reduceAdd, Int32.reduceSub, Int32.reduceMul, Nat.reduceLeDiff, zEL, zup_ne, zup_eq, zT0, zT1, zT2, if_true, if_false, zneq_f, true_and, and_true, false_and, and_false, zKL, eq_self, Nat.reduceEqDiff, zite0, ite_not, zaddr, zaddl, zputr, zsb1, zsb2, zsb0, zsbm, znm1, layM1, s229_145, s229_146, s229_149, s229_152, s229_155, s229_156, s229_159, s229_161, s229_162, s229_163, s229_164, s229_165, s229_166, s229_169, s229_171, s229_172, s229_173, s229_174, s229_175, s229_178, s229_179, s229_180, s229_183, s229_184, s229_187, m1]
    | succ d ih =>
      intro b hd S Sm h hp eth hw'
      have hb : b < c 1 := by omega
      have b1 : c 1 ≤ 8 := h.1.1.2.2.1
      have a1 : S 25 7 = nI (c 1) := h.1.2.1.2.1
      have m1 : Sm 11 7 = nI (c 1) := h.1.2.2.1.2.1
      obtain ⟨v, hv, k1, k2⟩ := t31_168 (L := L) (Lm := Lm) (rd := rd) h.1 h.2.1 hb
      obtain ⟨e1, s, hs, es⟩ := h.2.1.2.1 b hb
      have e1 : S 178 b = nI s := e1.trans es
      have es : Sm 2 (41 + b) = nI s := es
      have ep : Sm 2 2 = nI t := h.2.1.2.2.2.1.1.symm.trans hp
      have k3 := t228_168 (Lm := Lm) (rd := rd) (b := b) (t := t) (s := s) h.1 h.2.1 hb hs (by omega) hv k2 hth hw eth hw'
      by_cases hz : ztw th t w = true
      · rw [if_pos hz] at k3
        have h' : zGJ 168 c S0 Sm0 (zup S 178 b (nI (s - (v + 1)))) (zup Sm 2 (41 + b) (nI (s - (v + 1)))) := gj_strong_168 h hb ⟨s - (v + 1), by omega, rfl⟩
        obtain ⟨S', Sm', r1, r2, r3, r4⟩ := ih (b + 1) (by omega) _ _ h' (by rw [zup_ne (by omega)]; exact hp) (by rw [zup_ne (by omega)]; exact eth) (fun h h1 h2 => by rw [zup_ne (by omega)] at h1 ⊢; exact hw' h h1 h2)
        refine ⟨S', Sm', ?_, ?_, r3, r4⟩
        · rw [if_pos hz] at r1 ⊢
          rw [← r1, s30_2]
          have hm := zmx0 (s := s) (v := v + 1) (by omega) (by omega)
          simp (config := {maxSteps := 1000000}) (disch := omega) only [↓reduceIte, Int32.reduceLT, Int32.reduceLE, Int32.reduceToNatClampNeg, Int32.reduceAdd, Int32.reduceSub, Int32.reduceMul, Nat.reduceLeDiff, zEL, zup_ne, zup_eq, zT0, zT1, zT2, if_true, if_false, zneq_f, true_and, and_true, false_and, and_false, zKL, eq_self, Nat.reduceEqDiff, zite0, ite_not, zaddr, zaddl, zputr, zsb1, zsb2, zsb0, zsbm, znm1, gM, g168, s30_3, s30_4, s30_7, s30_10, s30_13, s30_16, s30_17, s30_20, s30_21, s30_22, s30_23, s30_26, s30_27, s30_30, s30_31, s30_32, s30_35, s30_36, s30_39, s30_42, s30_45, s30_48, a1, e1, k1, hm]
        · rw [← r2, s229_144]
          simp (config := {maxSteps := 1000000}) (disch := omega) only [↓reduceIte, Int32.reduceLT, Int32.reduceLE, Int32.reduceToNatClampNeg, Int32.reduceAdd, Int32.reduceSub, Int32.reduceMul, Nat.reduceLeDiff, zEL, zup_ne, zup_eq, zT0, zT1, zT2, if_true, if_false, zneq_f, true_and, and_true, false_and, and_false, zKL, eq_self, Nat.reduceEqDiff, zite0, ite_not, zaddr, zaddl, zputr, zsb1, zsb2, zsb0, zsbm, znm1, layM1, s229_145, s229_146, s229_149, s229_152, s229_155, s229_156, s229_159, s229_161, s229_162, s229_163, s229_164, s229_165, s229_166, s229_169, s229_171, s229_172, s229_173, s229_174, s229_175, s229_178, s229_179, s229_180, s229_183, s229_184, s229_187, m1, es, ep, k3]
      · rw [if_neg hz] at k3
        obtain ⟨S', Sm', r1, r2, r3, r4⟩ := ih (b + 1) (by omega) _ _ h hp eth hw'
        refine ⟨S', Sm', ?_, ?_, r3, r4⟩
        · rw [if_neg hz] at r1 ⊢
          exact r1
        · rw [← r2, s229_144]
          have hu : zup Sm 2 (41 + b) (nI s) = Sm := zup_self es.symm
          simp (config := {maxSteps := 1000000}) (disch := omega) only [↓reduceIte, Int32.reduceLT, Int32.reduceLE, Int32.reduceToNatClampNeg, Int32.reduceAdd, Int32.reduceSub, Int32.reduceMul, Nat.reduceLeDiff, zEL, zup_ne, zup_eq, zT0, zT1, zT2, if_true, if_false, zneq_f, true_and, and_true, false_and, and_false, zKL, eq_self, Nat.reduceEqDiff, zite0, ite_not, zaddr, zaddl, zputr, zsb1, zsb2, zsb0, zsbm, znm1, layM1, s229_145, s229_146, s229_149, s229_152, s229_155, s229_156, s229_159, s229_161, s229_162, s229_163, s229_164, s229_165, s229_166, s229_169, s229_171, s229_172, s229_173, s229_174, s229_175, s229_178, s229_179, s229_180, s229_183, s229_184, s229_187, m1, es, ep, k3, hu]
  obtain ⟨S', Sm', r1, r2, r3, r4⟩ := key (c 1) 0 (by omega) S Sm h hp eth hw'
  refine ⟨S', Sm', ztw th t w, k29, ?_, ?_, r3, r4⟩
  · split
    · rename_i hz
      rw [if_pos hz] at r1
      unfold zcall
      simp (config := {maxSteps := 1000000}) (disch := omega) only [↓reduceIte, Int32.reduceLT, Int32.reduceLE, Int32.reduceToNatClampNeg, Int32.reduceAdd, Int32.reduceSub, Int32.reduceMul, Nat.reduceLeDiff, zEL, zup_ne, zup_eq, zT0, zT1, zT2, if_true, if_false, zneq_f, true_and, and_true, false_and, and_false, zKL, eq_self, Nat.reduceEqDiff, zite0, ite_not, zaddr, zaddl, zputr, zsb1, zsb2, zsb0, zsbm, znm1, ze_30, s30_0, s30_1]
      exact r1
    · rename_i hz
      rw [if_neg hz] at r1
      exact r1
  · simp (config := {maxSteps := 1000000}) (disch := omega) only [↓reduceIte, Int32.reduceLT, Int32.reduceLE, Int32.reduceToNatClampNeg, Int32.reduceAdd, Int32.reduceSub, Int32.reduceMul, Nat.reduceLeDiff, zEL, zup_ne, zup_eq, zT0, zT1, zT2, if_true, if_false, zneq_f, true_and, and_true, false_and, and_false, zKL, eq_self, Nat.reduceEqDiff, zite0, ite_not, zaddr, zaddl, zputr, zsb1, zsb2, zsb0, zsbm, znm1, s229_142, s229_143]
    exact r2
/-- what is told for a TENTH, by LINES -/
theorem t18a_168 (h : zGJ 168 c S0 Sm0 S Sm) (hD : zDK 168 c S0 Sm0) : ∃ S' Sm' : zS, ∃ j : Value, zgo 18 14 [.ref 168, .ref 64, .int (nI 0), .retAddr 0] [] zRc S L = zgo 18 176 [.ref 168, .ref 64, .int (nI (c 4)), j] [] zRc S' L ∧ zgo 229 112 [.ref 0, .int (nI 0)] [] (zRm1 rd) Sm Lm = zgo 229 142 [.ref 0, .int (nI (c 4))] [] (zRm1 rd) Sm' Lm ∧ zGJ 168 c S0 Sm0 S' Sm' := by
  have key : ∀ d k, k + d = c 4 → ∀ S Sm, zGJ 168 c S0 Sm0 S Sm → ∀ j : Value, ∃ S' Sm' : zS, ∃ j' : Value, zgo 18 14 [.ref 168, .ref 64, .int (nI k), j] [] zRc S L = zgo 18 176 [.ref 168, .ref 64, .int (nI (c 4)), j'] [] zRc S' L ∧ zgo 229 112 [.ref 0, .int (nI k)] [] (zRm1 rd) Sm Lm = zgo 229 142 [.ref 0, .int (nI (c 4))] [] (zRm1 rd) Sm' Lm ∧ zGJ 168 c S0 Sm0 S' Sm' := by
    intro d
    induction d with
    | zero =>
      intro k hd S Sm h j
      have hk : k = c 4 := by omega
      have b4 : c 4 ≤ 20 := h.1.1.2.2.2.2.2.1
      have a1 : S 64 4 = nI (c 4) := h.1.2.1.2.2.2.2.1
      have m1 : Sm 11 11 = nI (c 4) := h.1.2.2.1.2.2.2.2.1
      subst hk
      refine ⟨S, Sm, j, ?_, ?_, h⟩
      · rw [s18_14]
        simp (config := {maxSteps := 1000000}) (disch := omega) only [↓reduceIte, Int32.reduceLT, Int32.reduceLE, Int32.reduceToNatClampNeg, Int32.reduceAdd, Int32.reduceSub, Int32.reduceMul, Nat.reduceLeDiff, zEL, zup_ne, zup_eq, zT0, zT1, zT2, if_true, if_false, zneq_f, true_and, and_true, false_and, and_false, zKL, eq_self, Nat.reduceEqDiff, zite0, ite_not, zaddr, zaddl, zputr, zsb1, zsb2, zsb0, zsbm, znm1, gM, g168, s18_15, s18_16, s18_19, s18_22, s18_23, s18_26, s18_27, s18_30, s18_31, s18_32, s18_35, s18_36, s18_39, s18_40, s18_43, s18_46, s18_47, s18_50, s18_51, s18_54, s18_57, s18_60, s18_61, s18_64, s18_65, s18_68, s18_104, s18_105, s18_106, s18_107, s18_110, s18_111, s18_114, s18_115, s18_118, s18_121, s18_122, s18_123, s18_124, s18_127, s18_128, s18_131, s18_132, s18_135, s18_138, s18_139, s18_140, s18_141, s18_144, s18_145, s18_148, s18_151, s18_154, s18_155, s18_156, s18_159, s18_162, s18_163, s18_164, s18_167, s18_170, s18_173, a1]
      · rw [s229_112]
        simp (config := {maxSteps := 1000000}) (disch := omega) only [↓reduceIte, Int32.reduceLT, Int32.reduceLE, Int32.reduceToNatClampNeg, Int32.reduceAdd, Int32.reduceSub, Int32.reduceMul, Nat.reduceLeDiff, zEL, zup_ne, zup_eq, zT0, zT1, zT2, if_true, if_false, zneq_f, true_and, and_true, false_and, and_false, zKL, eq_self, Nat.reduceEqDiff, zite0, ite_not, zaddr, zaddl, zputr, zsb1, zsb2, zsb0, zsbm, znm1, layM1, s229_113, s229_114, s229_117, s229_120, s229_123, s229_124, s229_125, s229_128, s229_131, s229_132, s229_133, s229_136, s229_139, m1]
    | succ d ih =>
      intro k hd S Sm h j
      have hk : k < c 4 := by omega
      have b0 : c 0 ≤ 8 := h.1.1.2.1
      have b4 : c 4 ≤ 20 := h.1.1.2.2.2.2.2.1
      have a1 : S 64 4 = nI (c 4) := h.1.2.1.2.2.2.2.1
      have m1 : Sm 11 11 = nI (c 4) := h.1.2.2.1.2.2.2.2.1
      obtain ⟨-, -, -, -, -, -, -, -, -, hA, -⟩ := h.1
      obtain ⟨e1, -, ⟨p, hp, e2, e3⟩, e4, hkd⟩ := hA k hk
      obtain ⟨-, -, -, f4, -, -, ⟨o, ho, eo⟩⟩ := h.2.1.1 p hp
      have f4 : S 176 p = nI o := f4.trans eo
      have eo : Sm 2 (33 + p) = nI o := eo
      have g7 : S 168 7 = Sm 2 2 := h.2.1.2.2.2.1.1
      clear hA
      have one : ∃ S1 Sm1 : zS, (∃ j', zgo 18 14 [.ref 168, .ref 64, .int (nI k), j] [] zRc S L = zgo 18 14 [.ref 168, .ref 64, .int (nI (k + 1)), j'] [] zRc S1 L) ∧ zgo 229 112 [.ref 0, .int (nI k)] [] (zRm1 rd) Sm Lm = zgo 229 112 [.ref 0, .int (nI (k + 1))] [] (zRm1 rd) Sm1 Lm ∧ zGJ 168 c S0 Sm0 S1 Sm1 := by
        by_cases hnow : Sm 31 k = Sm 2 2
        · rcases (show o = 1 ∨ o = 0 by omega) with rfl | rfl
          · refine ⟨S, Sm, ⟨.int (nI p), ?_⟩, ?_, h⟩
            · rw [s18_14]
              simp (config := {maxSteps := 1000000}) (disch := omega) only [↓reduceIte, Int32.reduceLT, Int32.reduceLE, Int32.reduceToNatClampNeg, Int32.reduceAdd, Int32.reduceSub, Int32.reduceMul, Nat.reduceLeDiff, zEL, zup_ne, zup_eq, zT0, zT1, zT2, if_true, if_false, zneq_f, true_and, and_true, false_and, and_false, zKL, eq_self, Nat.reduceEqDiff, zite0, ite_not, zaddr, zaddl, zputr, zsb1, zsb2, zsb0, zsbm, znm1, gM, g168, s18_15, s18_16, s18_19, s18_22, s18_23, s18_26, s18_27, s18_30, s18_31, s18_32, s18_35, s18_36, s18_39, s18_40, s18_43, s18_46, s18_47, s18_50, s18_51, s18_54, s18_57, s18_60, s18_61, s18_64, s18_65, s18_68, s18_104, s18_105, s18_106, s18_107, s18_110, s18_111, s18_114, s18_115, s18_118, s18_121, s18_122, s18_123, s18_124, s18_127, s18_128, s18_131, s18_132, s18_135, s18_138, s18_139, s18_140, s18_141, s18_144, s18_145, s18_148, s18_151, s18_154, s18_155, s18_156, s18_159, s18_162, s18_163, s18_164, s18_167, s18_170, s18_173, a1, e1, e2, g7, hnow, f4]
            · have k1 : zcall 224 [.ref 0, .int (nI k)] (zRm1 rd) Sm Lm = some (none, zRm1 rd, Sm, Lm) := by
                unfold zcall
                simp (config := {maxSteps := 1000000}) (disch := omega) only [↓reduceIte, Int32.reduceLT, Int32.reduceLE, Int32.reduceToNatClampNeg, Int32.reduceAdd, Int32.reduceSub, Int32.reduceMul, Nat.reduceLeDiff, zEL, zup_ne, zup_eq, zT0, zT1, zT2, if_true, if_false, zneq_f, true_and, and_true, false_and, and_false, zKL, eq_self, Nat.reduceEqDiff, zite0, ite_not, zaddr, zaddl, zputr, zsb1, zsb2, zsb0, zsbm, znm1, layM1, ze_224, s224_0, s224_1, s224_4, s224_7, s224_8, s224_9, s224_10, s224_11, s224_12, s224_15, s224_18, s224_19, s224_20, s224_23, s224_26, s224_27, s224_28, s224_64, s224_65, s224_66, s224_67, s224_70, s224_73, s224_74, s224_75, s224_76, s224_79, s224_82, s224_83, s224_84, s224_85, s224_88, s224_89, s224_92, s224_93, s224_96, s224_99, s224_100, s224_101, s224_102, s224_105, s224_108, s224_109, s224_110, s224_113, s224_116, s224_117, s224_120, s224_123, s224_124, s224_127, s224_130, s224_131, s224_134, s224_135, s224_136, s224_137, s224_140, s224_141, s224_144, s224_146, s224_147, s224_148, s224_149, s224_150, s224_153, s224_156, s224_159, s224_160, s224_163, s224_165, s224_166, s224_167, s224_168, s224_169, s224_170, s224_171, s224_172, s224_175, s224_176, s224_177, s224_180, s224_183, e3, t214, eo]
              rw [s229_112]
              simp (config := {maxSteps := 1000000}) (disch := omega) only [↓reduceIte, Int32.reduceLT, Int32.reduceLE, Int32.reduceToNatClampNeg, Int32.reduceAdd, Int32.reduceSub, Int32.reduceMul, Nat.reduceLeDiff, zEL, zup_ne, zup_eq, zT0, zT1, zT2, if_true, if_false, zneq_f, true_and, and_true, false_and, and_false, zKL, eq_self, Nat.reduceEqDiff, zite0, ite_not, zaddr, zaddl, zputr, zsb1, zsb2, zsb0, zsbm, znm1, layM1, s229_113, s229_114, s229_117, s229_120, s229_123, s229_124, s229_125, s229_128, s229_131, s229_132, s229_133, s229_136, s229_139, m1, t225, hnow, k1]
          · rcases hkd with ⟨⟨kd, hkd, ek⟩, w, hw, e5, e6⟩ | ek | ek | ek
            · rcases (show kd = 0 ∨ kd = 1 ∨ kd = 2 by omega) with rfl | rfl | rfl
              · have ek : Sm 33 k = 0 := ek
                obtain ⟨S1, Sm1, r1, r2, r3⟩ := t24_168 (L := L) (Lm := Lm) (rd := rd) (hi := 0) h hD hp hw (.inl rfl)
                refine ⟨S1, Sm1, ⟨.int (nI p), ?_⟩, ?_, r3⟩
                · rw [s18_14]
                  simp (config := {maxSteps := 1000000}) (disch := omega) only [↓reduceIte, Int32.reduceLT, Int32.reduceLE, Int32.reduceToNatClampNeg, Int32.reduceAdd, Int32.reduceSub, Int32.reduceMul, Nat.reduceLeDiff, zEL, zup_ne, zup_eq, zT0, zT1, zT2, if_true, if_false, zneq_f, true_and, and_true, false_and, and_false, zKL, eq_self, Nat.reduceEqDiff, zite0, ite_not, zaddr, zaddl, zputr, zsb1, zsb2, zsb0, zsbm, znm1, gM, g168, s18_15, s18_16, s18_19, s18_22, s18_23, s18_26, s18_27, s18_30, s18_31, s18_32, s18_35, s18_36, s18_39, s18_40, s18_43, s18_46, s18_47, s18_50, s18_51, s18_54, s18_57, s18_60, s18_61, s18_64, s18_65, s18_68, s18_104, s18_105, s18_106, s18_107, s18_110, s18_111, s18_114, s18_115, s18_118, s18_121, s18_122, s18_123, s18_124, s18_127, s18_128, s18_131, s18_132, s18_135, s18_138, s18_139, s18_140, s18_141, s18_144, s18_145, s18_148, s18_151, s18_154, s18_155, s18_156, s18_159, s18_162, s18_163, s18_164, s18_167, s18_170, s18_173, a1, e1, e2, e4, e5, g7, hnow, f4, ek, r1]
                · have k1 : zcall 224 [.ref 0, .int (nI k)] (zRm1 rd) Sm Lm = some (none, zRm1 rd, Sm1, Lm) := by
                    unfold zcall
                    simp (config := {maxSteps := 1000000}) (disch := omega) only [↓reduceIte, Int32.reduceLT, Int32.reduceLE, Int32.reduceToNatClampNeg, Int32.reduceAdd, Int32.reduceSub, Int32.reduceMul, Nat.reduceLeDiff, zEL, zup_ne, zup_eq, zT0, zT1, zT2, if_true, if_false, zneq_f, true_and, and_true, false_and, and_false, zKL, eq_self, Nat.reduceEqDiff, zite0, ite_not, zaddr, zaddl, zputr, zsb1, zsb2, zsb0, zsbm, znm1, layM1, ze_224, s224_0, s224_1, s224_4, s224_7, s224_8, s224_9, s224_10, s224_11, s224_12, s224_15, s224_18, s224_19, s224_20, s224_23, s224_26, s224_27, s224_28, s224_64, s224_65, s224_66, s224_67, s224_70, s224_73, s224_74, s224_75, s224_76, s224_79, s224_82, s224_83, s224_84, s224_85, s224_88, s224_89, s224_92, s224_93, s224_96, s224_99, s224_100, s224_101, s224_102, s224_105, s224_108, s224_109, s224_110, s224_113, s224_116, s224_117, s224_120, s224_123, s224_124, s224_127, s224_130, s224_131, s224_134, s224_135, s224_136, s224_137, s224_140, s224_141, s224_144, s224_146, s224_147, s224_148, s224_149, s224_150, s224_153, s224_156, s224_159, s224_160, s224_163, s224_165, s224_166, s224_167, s224_168, s224_169, s224_170, s224_171, s224_172, s224_175, s224_176, s224_177, s224_180, s224_183, e3, e6, t214, eo, ek, r2]
                  rw [s229_112]
                  simp (config := {maxSteps := 1000000}) (disch := omega) only [↓reduceIte, Int32.reduceLT, Int32.reduceLE, Int32.reduceToNatClampNeg, Int32.reduceAdd, Int32.reduceSub, Int32.reduceMul, Nat.reduceLeDiff, zEL, zup_ne, zup_eq, zT0, zT1, zT2, if_true, if_false, zneq_f, true_and, and_true, false_and, and_false, zKL, eq_self, Nat.reduceEqDiff, zite0, ite_not, zaddr, zaddl, zputr, zsb1, zsb2, zsb0, zsbm, znm1, layM1, s229_113, s229_114, s229_117, s229_120, s229_123, s229_124, s229_125, s229_128, s229_131, s229_132, s229_133, s229_136, s229_139, m1, t225, hnow, k1]
              · have ek : Sm 33 k = 1 := ek
                obtain ⟨S1, Sm1, r1, r2, r3⟩ := t24_168 (L := L) (Lm := Lm) (rd := rd) (hi := 1) h hD hp hw (.inr rfl)
                refine ⟨S1, Sm1, ⟨.int (nI p), ?_⟩, ?_, r3⟩
                · rw [s18_14]
                  simp (config := {maxSteps := 1000000}) (disch := omega) only [↓reduceIte, Int32.reduceLT, Int32.reduceLE, Int32.reduceToNatClampNeg, Int32.reduceAdd, Int32.reduceSub, Int32.reduceMul, Nat.reduceLeDiff, zEL, zup_ne, zup_eq, zT0, zT1, zT2, if_true, if_false, zneq_f, true_and, and_true, false_and, and_false, zKL, eq_self, Nat.reduceEqDiff, zite0, ite_not, zaddr, zaddl, zputr, zsb1, zsb2, zsb0, zsbm, znm1, gM, g168, s18_15, s18_16, s18_19, s18_22, s18_23, s18_26, s18_27, s18_30, s18_31, s18_32, s18_35, s18_36, s18_39, s18_40, s18_43, s18_46, s18_47, s18_50, s18_51, s18_54, s18_57, s18_60, s18_61, s18_64, s18_65, s18_68, s18_104, s18_105, s18_106, s18_107, s18_110, s18_111, s18_114, s18_115, s18_118, s18_121, s18_122, s18_123, s18_124, s18_127, s18_128, s18_131, s18_132, s18_135, s18_138, s18_139, s18_140, s18_141, s18_144, s18_145, s18_148, s18_151, s18_154, s18_155, s18_156, s18_159, s18_162, s18_163, s18_164, s18_167, s18_170, s18_173, a1, e1, e2, e4, e5, g7, hnow, f4, ek, r1]
                · have k1 : zcall 224 [.ref 0, .int (nI k)] (zRm1 rd) Sm Lm = some (none, zRm1 rd, Sm1, Lm) := by
                    unfold zcall
                    simp (config := {maxSteps := 1000000}) (disch := omega) only [↓reduceIte, Int32.reduceLT, Int32.reduceLE, Int32.reduceToNatClampNeg, Int32.reduceAdd, Int32.reduceSub, Int32.reduceMul, Nat.reduceLeDiff, zEL, zup_ne, zup_eq, zT0, zT1, zT2, if_true, if_false, zneq_f, true_and, and_true, false_and, and_false, zKL, eq_self, Nat.reduceEqDiff, zite0, ite_not, zaddr, zaddl, zputr, zsb1, zsb2, zsb0, zsbm, znm1, layM1, ze_224, s224_0, s224_1, s224_4, s224_7, s224_8, s224_9, s224_10, s224_11, s224_12, s224_15, s224_18, s224_19, s224_20, s224_23, s224_26, s224_27, s224_28, s224_64, s224_65, s224_66, s224_67, s224_70, s224_73, s224_74, s224_75, s224_76, s224_79, s224_82, s224_83, s224_84, s224_85, s224_88, s224_89, s224_92, s224_93, s224_96, s224_99, s224_100, s224_101, s224_102, s224_105, s224_108, s224_109, s224_110, s224_113, s224_116, s224_117, s224_120, s224_123, s224_124, s224_127, s224_130, s224_131, s224_134, s224_135, s224_136, s224_137, s224_140, s224_141, s224_144, s224_146, s224_147, s224_148, s224_149, s224_150, s224_153, s224_156, s224_159, s224_160, s224_163, s224_165, s224_166, s224_167, s224_168, s224_169, s224_170, s224_171, s224_172, s224_175, s224_176, s224_177, s224_180, s224_183, e3, e6, t214, eo, ek, r2]
                  rw [s229_112]
                  simp (config := {maxSteps := 1000000}) (disch := omega) only [↓reduceIte, Int32.reduceLT, Int32.reduceLE, Int32.reduceToNatClampNeg, Int32.reduceAdd, Int32.reduceSub, Int32.reduceMul, Nat.reduceLeDiff, zEL, zup_ne, zup_eq, zT0, zT1, zT2, if_true, if_false, zneq_f, true_and, and_true, false_and, and_false, zKL, eq_self, Nat.reduceEqDiff, zite0, ite_not, zaddr, zaddl, zputr, zsb1, zsb2, zsb0, zsbm, znm1, layM1, s229_113, s229_114, s229_117, s229_120, s229_123, s229_124, s229_125, s229_128, s229_131, s229_132, s229_133, s229_136, s229_139, m1, t225, hnow, k1]
              · have ek : Sm 33 k = 2 := ek
                obtain ⟨S1, Sm1, r1, r2, r3⟩ := t22_168 (L := L) (Lm := Lm) (rd := rd) h hp hw
                refine ⟨S1, Sm1, ⟨.int (nI p), ?_⟩, ?_, r3⟩
                · rw [s18_14]
                  simp (config := {maxSteps := 1000000}) (disch := omega) only [↓reduceIte, Int32.reduceLT, Int32.reduceLE, Int32.reduceToNatClampNeg, Int32.reduceAdd, Int32.reduceSub, Int32.reduceMul, Nat.reduceLeDiff, zEL, zup_ne, zup_eq, zT0, zT1, zT2, if_true, if_false, zneq_f, true_and, and_true, false_and, and_false, zKL, eq_self, Nat.reduceEqDiff, zite0, ite_not, zaddr, zaddl, zputr, zsb1, zsb2, zsb0, zsbm, znm1, gM, g168, s18_15, s18_16, s18_19, s18_22, s18_23, s18_26, s18_27, s18_30, s18_31, s18_32, s18_35, s18_36, s18_39, s18_40, s18_43, s18_46, s18_47, s18_50, s18_51, s18_54, s18_57, s18_60, s18_61, s18_64, s18_65, s18_68, s18_104, s18_105, s18_106, s18_107, s18_110, s18_111, s18_114, s18_115, s18_118, s18_121, s18_122, s18_123, s18_124, s18_127, s18_128, s18_131, s18_132, s18_135, s18_138, s18_139, s18_140, s18_141, s18_144, s18_145, s18_148, s18_151, s18_154, s18_155, s18_156, s18_159, s18_162, s18_163, s18_164, s18_167, s18_170, s18_173, a1, e1, e2, e4, e5, g7, hnow, f4, ek, r1]
                · have k1 : zcall 224 [.ref 0, .int (nI k)] (zRm1 rd) Sm Lm = some (none, zRm1 rd, Sm1, Lm) := by
                    unfold zcall
                    simp (config := {maxSteps := 1000000}) (disch := omega) only [↓reduceIte, Int32.reduceLT, Int32.reduceLE, Int32.reduceToNatClampNeg, Int32.reduceAdd, Int32.reduceSub, Int32.reduceMul, Nat.reduceLeDiff, zEL, zup_ne, zup_eq, zT0, zT1, zT2, if_true, if_false, zneq_f, true_and, and_true, false_and, and_false, zKL, eq_self, Nat.reduceEqDiff, zite0, ite_not, zaddr, zaddl, zputr, zsb1, zsb2, zsb0, zsbm, znm1, layM1, ze_224, s224_0, s224_1, s224_4, s224_7, s224_8, s224_9, s224_10, s224_11, s224_12, s224_15, s224_18, s224_19, s224_20, s224_23, s224_26, s224_27, s224_28, s224_64, s224_65, s224_66, s224_67, s224_70, s224_73, s224_74, s224_75, s224_76, s224_79, s224_82, s224_83, s224_84, s224_85, s224_88, s224_89, s224_92, s224_93, s224_96, s224_99, s224_100, s224_101, s224_102, s224_105, s224_108, s224_109, s224_110, s224_113, s224_116, s224_117, s224_120, s224_123, s224_124, s224_127, s224_130, s224_131, s224_134, s224_135, s224_136, s224_137, s224_140, s224_141, s224_144, s224_146, s224_147, s224_148, s224_149, s224_150, s224_153, s224_156, s224_159, s224_160, s224_163, s224_165, s224_166, s224_167, s224_168, s224_169, s224_170, s224_171, s224_172, s224_175, s224_176, s224_177, s224_180, s224_183, e3, e6, t214, eo, ek, r2]
                  rw [s229_112]
                  simp (config := {maxSteps := 1000000}) (disch := omega) only [↓reduceIte, Int32.reduceLT, Int32.reduceLE, Int32.reduceToNatClampNeg, Int32.reduceAdd, Int32.reduceSub, Int32.reduceMul, Nat.reduceLeDiff, zEL, zup_ne, zup_eq, zT0, zT1, zT2, if_true, if_false, zneq_f, true_and, and_true, false_and, and_false, zKL, eq_self, Nat.reduceEqDiff, zite0, ite_not, zaddr, zaddl, zputr, zsb1, zsb2, zsb0, zsbm, znm1, layM1, s229_113, s229_114, s229_117, s229_120, s229_123, s229_124, s229_125, s229_128, s229_131, s229_132, s229_133, s229_136, s229_139, m1, t225, hnow, k1]
            · obtain ⟨S1, Sm1, r1, r3, r2⟩ := t21_168 (k := k) (L := L) (Lm := Lm) (rd := rd) h hp
              have k1 := r2 ⟨hk, e3, ek, eo⟩
              refine ⟨S1, Sm1, ⟨.int (nI p), ?_⟩, ?_, r3⟩
              · rw [s18_14]
                simp (config := {maxSteps := 1000000}) (disch := omega) only [↓reduceIte, Int32.reduceLT, Int32.reduceLE, Int32.reduceToNatClampNeg, Int32.reduceAdd, Int32.reduceSub, Int32.reduceMul, Nat.reduceLeDiff, zEL, zup_ne, zup_eq, zT0, zT1, zT2, if_true, if_false, zneq_f, true_and, and_true, false_and, and_false, zKL, eq_self, Nat.reduceEqDiff, zite0, ite_not, zaddr, zaddl, zputr, zsb1, zsb2, zsb0, zsbm, znm1, gM, g168, s18_15, s18_16, s18_19, s18_22, s18_23, s18_26, s18_27, s18_30, s18_31, s18_32, s18_35, s18_36, s18_39, s18_40, s18_43, s18_46, s18_47, s18_50, s18_51, s18_54, s18_57, s18_60, s18_61, s18_64, s18_65, s18_68, s18_104, s18_105, s18_106, s18_107, s18_110, s18_111, s18_114, s18_115, s18_118, s18_121, s18_122, s18_123, s18_124, s18_127, s18_128, s18_131, s18_132, s18_135, s18_138, s18_139, s18_140, s18_141, s18_144, s18_145, s18_148, s18_151, s18_154, s18_155, s18_156, s18_159, s18_162, s18_163, s18_164, s18_167, s18_170, s18_173, a1, e1, e2, e4, g7, hnow, f4, ek, r1]
              · rw [s229_112]
                simp (config := {maxSteps := 1000000}) (disch := omega) only [↓reduceIte, Int32.reduceLT, Int32.reduceLE, Int32.reduceToNatClampNeg, Int32.reduceAdd, Int32.reduceSub, Int32.reduceMul, Nat.reduceLeDiff, zEL, zup_ne, zup_eq, zT0, zT1, zT2, if_true, if_false, zneq_f, true_and, and_true, false_and, and_false, zKL, eq_self, Nat.reduceEqDiff, zite0, ite_not, zaddr, zaddl, zputr, zsb1, zsb2, zsb0, zsbm, znm1, layM1, s229_113, s229_114, s229_117, s229_120, s229_123, s229_124, s229_125, s229_128, s229_131, s229_132, s229_133, s229_136, s229_139, m1, t225, hnow, k1]
            · obtain ⟨S1, Sm1, r1, r2, r3⟩ := t23_168 (L := L) (Lm := Lm) (rd := rd) h hp
              refine ⟨S1, Sm1, ⟨.int (nI p), ?_⟩, ?_, r3⟩
              · rw [s18_14]
                simp (config := {maxSteps := 1000000}) (disch := omega) only [↓reduceIte, Int32.reduceLT, Int32.reduceLE, Int32.reduceToNatClampNeg, Int32.reduceAdd, Int32.reduceSub, Int32.reduceMul, Nat.reduceLeDiff, zEL, zup_ne, zup_eq, zT0, zT1, zT2, if_true, if_false, zneq_f, true_and, and_true, false_and, and_false, zKL, eq_self, Nat.reduceEqDiff, zite0, ite_not, zaddr, zaddl, zputr, zsb1, zsb2, zsb0, zsbm, znm1, gM, g168, s18_15, s18_16, s18_19, s18_22, s18_23, s18_26, s18_27, s18_30, s18_31, s18_32, s18_35, s18_36, s18_39, s18_40, s18_43, s18_46, s18_47, s18_50, s18_51, s18_54, s18_57, s18_60, s18_61, s18_64, s18_65, s18_68, s18_104, s18_105, s18_106, s18_107, s18_110, s18_111, s18_114, s18_115, s18_118, s18_121, s18_122, s18_123, s18_124, s18_127, s18_128, s18_131, s18_132, s18_135, s18_138, s18_139, s18_140, s18_141, s18_144, s18_145, s18_148, s18_151, s18_154, s18_155, s18_156, s18_159, s18_162, s18_163, s18_164, s18_167, s18_170, s18_173, a1, e1, e2, e4, g7, hnow, f4, ek, r1]
              · have k1 : zcall 224 [.ref 0, .int (nI k)] (zRm1 rd) Sm Lm = some (none, zRm1 rd, Sm1, Lm) := by
                  unfold zcall
                  simp (config := {maxSteps := 1000000}) (disch := omega) only [↓reduceIte, Int32.reduceLT, Int32.reduceLE, Int32.reduceToNatClampNeg, Int32.reduceAdd, Int32.reduceSub, Int32.reduceMul, Nat.reduceLeDiff, zEL, zup_ne, zup_eq, zT0, zT1, zT2, if_true, if_false, zneq_f, true_and, and_true, false_and, and_false, zKL, eq_self, Nat.reduceEqDiff, zite0, ite_not, zaddr, zaddl, zputr, zsb1, zsb2, zsb0, zsbm, znm1, layM1, ze_224, s224_0, s224_1, s224_4, s224_7, s224_8, s224_9, s224_10, s224_11, s224_12, s224_15, s224_18, s224_19, s224_20, s224_23, s224_26, s224_27, s224_28, s224_64, s224_65, s224_66, s224_67, s224_70, s224_73, s224_74, s224_75, s224_76, s224_79, s224_82, s224_83, s224_84, s224_85, s224_88, s224_89, s224_92, s224_93, s224_96, s224_99, s224_100, s224_101, s224_102, s224_105, s224_108, s224_109, s224_110, s224_113, s224_116, s224_117, s224_120, s224_123, s224_124, s224_127, s224_130, s224_131, s224_134, s224_135, s224_136, s224_137, s224_140, s224_141, s224_144, s224_146, s224_147, s224_148, s224_149, s224_150, s224_153, s224_156, s224_159, s224_160, s224_163, s224_165, s224_166, s224_167, s224_168, s224_169, s224_170, s224_171, s224_172, s224_175, s224_176, s224_177, s224_180, s224_183, e3, t214, eo, ek, r2]
                rw [s229_112]
                simp (config := {maxSteps := 1000000}) (disch := omega) only [↓reduceIte, Int32.reduceLT, Int32.reduceLE, Int32.reduceToNatClampNeg, Int32.reduceAdd, Int32.reduceSub, Int32.reduceMul, Nat.reduceLeDiff, zEL, zup_ne, zup_eq, zT0, zT1, zT2, if_true, if_false, zneq_f, true_and, and_true, false_and, and_false, zKL, eq_self, Nat.reduceEqDiff, zite0, ite_not, zaddr, zaddl, zputr, zsb1, zsb2, zsb0, zsbm, znm1, layM1, s229_113, s229_114, s229_117, s229_120, s229_123, s229_124, s229_125, s229_128, s229_131, s229_132, s229_133, s229_136, s229_139, m1, t225, hnow, k1]
            · refine ⟨S, Sm, ⟨.int (nI p), ?_⟩, ?_, h⟩
              · rw [s18_14]
                simp (config := {maxSteps := 1000000}) (disch := omega) only [↓reduceIte, Int32.reduceLT, Int32.reduceLE, Int32.reduceToNatClampNeg, Int32.reduceAdd, Int32.reduceSub, Int32.reduceMul, Nat.reduceLeDiff, zEL, zup_ne, zup_eq, zT0, zT1, zT2, if_true, if_false, zneq_f, true_and, and_true, false_and, and_false, zKL, eq_self, Nat.reduceEqDiff, zite0, ite_not, zaddr, zaddl, zputr, zsb1, zsb2, zsb0, zsbm, znm1, gM, g168, s18_15, s18_16, s18_19, s18_22, s18_23, s18_26, s18_27, s18_30, s18_31, s18_32, s18_35, s18_36, s18_39, s18_40, s18_43, s18_46, s18_47, s18_50, s18_51, s18_54, s18_57, s18_60, s18_61, s18_64, s18_65, s18_68, s18_104, s18_105, s18_106, s18_107, s18_110, s18_111, s18_114, s18_115, s18_118, s18_121, s18_122, s18_123, s18_124, s18_127, s18_128, s18_131, s18_132, s18_135, s18_138, s18_139, s18_140, s18_141, s18_144, s18_145, s18_148, s18_151, s18_154, s18_155, s18_156, s18_159, s18_162, s18_163, s18_164, s18_167, s18_170, s18_173, a1, e1, e2, e4, g7, hnow, f4, ek]
              · have k1 : zcall 224 [.ref 0, .int (nI k)] (zRm1 rd) Sm Lm = some (none, zRm1 rd, Sm, Lm) := by
                  unfold zcall
                  simp (config := {maxSteps := 1000000}) (disch := omega) only [↓reduceIte, Int32.reduceLT, Int32.reduceLE, Int32.reduceToNatClampNeg, Int32.reduceAdd, Int32.reduceSub, Int32.reduceMul, Nat.reduceLeDiff, zEL, zup_ne, zup_eq, zT0, zT1, zT2, if_true, if_false, zneq_f, true_and, and_true, false_and, and_false, zKL, eq_self, Nat.reduceEqDiff, zite0, ite_not, zaddr, zaddl, zputr, zsb1, zsb2, zsb0, zsbm, znm1, layM1, ze_224, s224_0, s224_1, s224_4, s224_7, s224_8, s224_9, s224_10, s224_11, s224_12, s224_15, s224_18, s224_19, s224_20, s224_23, s224_26, s224_27, s224_28, s224_64, s224_65, s224_66, s224_67, s224_70, s224_73, s224_74, s224_75, s224_76, s224_79, s224_82, s224_83, s224_84, s224_85, s224_88, s224_89, s224_92, s224_93, s224_96, s224_99, s224_100, s224_101, s224_102, s224_105, s224_108, s224_109, s224_110, s224_113, s224_116, s224_117, s224_120, s224_123, s224_124, s224_127, s224_130, s224_131, s224_134, s224_135, s224_136, s224_137, s224_140, s224_141, s224_144, s224_146, s224_147, s224_148, s224_149, s224_150, s224_153, s224_156, s224_159, s224_160, s224_163, s224_165, s224_166, s224_167, s224_168, s224_169, s224_170, s224_171, s224_172, s224_175, s224_176, s224_177, s224_180, s224_183, e3, t214, eo, ek]
                rw [s229_112]
                simp (config := {maxSteps := 1000000}) (disch := omega) only [↓reduceIte, Int32.reduceLT, Int32.reduceLE, Int32.reduceToNatClampNeg, Int32.reduceAdd, Int32.reduceSub, Int32.reduceMul, Nat.reduceLeDiff, zEL, zup_ne, zup_eq, zT0, zT1, zT2, if_true, if_false, zneq_f, true_and, and_true, false_and, and_false, zKL, eq_self, Nat.reduceEqDiff, zite0, ite_not, zaddr, zaddl, zputr, zsb1, zsb2, zsb0, zsbm, znm1, layM1, s229_113, s229_114, s229_117, s229_120, s229_123, s229_124, s229_125, s229_128, s229_131, s229_132, s229_133, s229_136, s229_139, m1, t225, hnow, k1]
        · refine ⟨S, Sm, ⟨.int (nI p), ?_⟩, ?_, h⟩
          · rw [s18_14]
            simp (config := {maxSteps := 1000000}) (disch := omega) only [↓reduceIte, Int32.reduceLT, Int32.reduceLE, Int32.reduceToNatClampNeg, Int32.reduceAdd, Int32.reduceSub, Int32.reduceMul, Nat.reduceLeDiff, zEL, zup_ne, zup_eq, zT0, zT1, zT2, if_true, if_false, zneq_f, true_and, and_true, false_and, and_false, zKL, eq_self, Nat.reduceEqDiff, zite0, ite_not, zaddr, zaddl, zputr, zsb1, zsb2, zsb0, zsbm, znm1, gM, g168, s18_15, s18_16, s18_19, s18_22, s18_23, s18_26, s18_27, s18_30, s18_31, s18_32, s18_35, s18_36, s18_39, s18_40, s18_43, s18_46, s18_47, s18_50, s18_51, s18_54, s18_57, s18_60, s18_61, s18_64, s18_65, s18_68, s18_104, s18_105, s18_106, s18_107, s18_110, s18_111, s18_114, s18_115, s18_118, s18_121, s18_122, s18_123, s18_124, s18_127, s18_128, s18_131, s18_132, s18_135, s18_138, s18_139, s18_140, s18_141, s18_144, s18_145, s18_148, s18_151, s18_154, s18_155, s18_156, s18_159, s18_162, s18_163, s18_164, s18_167, s18_170, s18_173, a1, e1, e2, g7, hnow]
          · rw [s229_112]
            simp (config := {maxSteps := 1000000}) (disch := omega) only [↓reduceIte, Int32.reduceLT, Int32.reduceLE, Int32.reduceToNatClampNeg, Int32.reduceAdd, Int32.reduceSub, Int32.reduceMul, Nat.reduceLeDiff, zEL, zup_ne, zup_eq, zT0, zT1, zT2, if_true, if_false, zneq_f, true_and, and_true, false_and, and_false, zKL, eq_self, Nat.reduceEqDiff, zite0, ite_not, zaddr, zaddl, zputr, zsb1, zsb2, zsb0, zsbm, znm1, layM1, s229_113, s229_114, s229_117, s229_120, s229_123, s229_124, s229_125, s229_128, s229_131, s229_132, s229_133, s229_136, s229_139, m1, t225, hnow]
      obtain ⟨S1, Sm1, ⟨j1, o1⟩, o2, o3⟩ := one
      obtain ⟨S', Sm', j', r1, r2, r3⟩ := ih (k + 1) (by omega) S1 Sm1 o3 j1
      exact ⟨S', Sm', j', o1.trans r1, o2.trans r2, r3⟩
  exact key (c 4) 0 (by omega) S Sm h (.retAddr 0)
theorem t18_168 {t : Nat} (hM : zMD c S Sm) (hG : zGD 168 c S (Sm 2)) (ht : S 168 7 = nI t) (ht9 : t ≤ 98) : ∃ S' Sm' : zS, zcall 18 [.ref 168] zRc S L = some (none, zRc, S', L) ∧ zcall 229 [.ref 0] (zRm1 rd) Sm Lm = some (none, zRm1 rd, Sm', Lm) ∧ zGI 168 c S Sm S' Sm' ∧ S' 168 7 = nI (t + 1) := by
  obtain ⟨S1, r1, r2, r3⟩ := t19_168 (L := L) hM hG
  have b0 : c 0 ≤ 8 := hM.1.2.1
  have b4 : c 4 ≤ 20 := hM.1.2.2.2.2.2.1
  have m4 : Sm 11 11 = nI (c 4) := hM.2.2.1.2.2.2.2.1
  have m0 : Sm 11 8 = nI (c 0) := hM.2.2.1.1
  have hM' := hM
  obtain ⟨-, -, -, -, -, -, -, -, -, hA, -⟩ := hM
  obtain ⟨Sm1, q1, q2, q3⟩ := t229a (c := c) (Sm := Sm) (Lm := Lm) (rd := rd) m4 b4 (fun k hk => by obtain ⟨-, -, ⟨p, hp, -, e3⟩, -⟩ := hA k hk; exact ⟨p, by omega, e3⟩) m0 b0
  have hGJ : zGJ 168 c S1 Sm1 S1 Sm1 := by
    refine ⟨zMD_fr hM' (fun j k hj => r2 j k (by omega)) (fun j k hj => q2 j k (by omega) (by omega)), ?_, fun _ _ _ => rfl, fun _ _ _ => rfl⟩
    have e2 : Sm1 2 = Sm 2 := funext fun k => q2 2 k (by decide) (by decide)
    have e1 : ∀ j, j < 181 → S1 j = S j := fun j hj => funext fun k => r2 j k (by omega)
    unfold zGD at hG ⊢
    rw [e2]
    simp (disch := omega) only [e1]
    exact hG
  have hD : zDK 168 c S1 Sm1 := fun q hq => by
    obtain ⟨a1, a2, a3⟩ := r3 q hq
    obtain ⟨a4, a5⟩ := q3 q hq
    have hb : ∀ b : Bool, zbi b = nI b.toNat := fun b => by cases b <;> rfl
    have hb1 : ∀ b : Bool, b.toNat ≤ 1 := fun b => by cases b <;> decide
    refine ⟨_, _, _, hb1 _, hb1 _, hb1 _, a1.trans (hb _), a2.trans (hb _), a3.trans (hb _), a4.trans (hb _), a5.trans ?_⟩
    rw [hb]
    cases zany (zth Sm 0 q) (c 4) <;> cases zany (zth Sm 1 q) (c 4) <;> rfl
  obtain ⟨S2, Sm2, j, s1, s2, s3⟩ := t18a_168 (L := L) (Lm := Lm) (rd := rd) hGJ hD
  have g7 : S2 168 7 = nI t := (s3.2.2.1 168 7 (by omega)).trans ((r2 168 7 (by omega)).trans ht)
  obtain ⟨S3, Sm3, tw, u1, u2, u3, u4, u5⟩ := t30_168 (L := L) (Lm := Lm) (rd := rd) s3 g7 (by omega)
  have e2 : Sm3 2 2 = nI t := u4.2.1.2.2.2.1.1.symm.trans u5
  refine ⟨zup S3 168 7 (nI (t + 1)), zup Sm3 2 2 (nI (t + 1)), ?_, ?_, ?_, zup_eq rfl rfl⟩
  · have k1 : zcall 18 [.ref 168] zRc S L = zgo 18 176 [.ref 168, .ref 64, .int (nI (c 4)), j] [] zRc S2 L := by
      rw [← s1]
      unfold zcall
      simp (config := {maxSteps := 1000000}) (disch := omega) only [↓reduceIte, Int32.reduceLT, Int32.reduceLE, Int32.reduceToNatClampNeg, Int32.reduceAdd, Int32.reduceSub, Int32.reduceMul, Nat.reduceLeDiff, zEL, zup_ne, zup_eq, zT0, zT1, zT2, if_true, if_false, zneq_f, true_and, and_true, false_and, and_false, zKL, eq_self, Nat.reduceEqDiff, zite0, ite_not, zaddr, zaddl, zputr, zsb1, zsb2, zsb0, zsbm, znm1, gM, g168, ze_18, s18_0, s18_1, s18_4, s18_5, s18_8, s18_11, s18_12, s18_13, r1]
      all_goals rfl
    rw [k1]
    cases tw with
    | true =>
      rw [if_pos rfl] at u2
      simp (config := {maxSteps := 1000000}) (disch := omega) only [↓reduceIte, Int32.reduceLT, Int32.reduceLE, Int32.reduceToNatClampNeg, Int32.reduceAdd, Int32.reduceSub, Int32.reduceMul, Nat.reduceLeDiff, zEL, zup_ne, zup_eq, zT0, zT1, zT2, if_true, if_false, zneq_f, true_and, and_true, false_and, and_false, zKL, eq_self, Nat.reduceEqDiff, zite0, ite_not, zaddr, zaddl, zputr, zsb1, zsb2, zsb0, zsbm, znm1, gM, g168, s18_176, s18_177, s18_178, s18_181, s18_184, s18_187, s18_188, s18_191, s18_192, s18_193, s18_196, s18_197, s18_198, s18_201, g7, u1, u2, u5]
    | false =>
      rw [if_neg (by decide)] at u2
      subst u2
      simp (config := {maxSteps := 1000000}) (disch := omega) only [↓reduceIte, Int32.reduceLT, Int32.reduceLE, Int32.reduceToNatClampNeg, Int32.reduceAdd, Int32.reduceSub, Int32.reduceMul, Nat.reduceLeDiff, zEL, zup_ne, zup_eq, zT0, zT1, zT2, if_true, if_false, zneq_f, true_and, and_true, false_and, and_false, zKL, eq_self, Nat.reduceEqDiff, zite0, ite_not, zaddr, zaddl, zputr, zsb1, zsb2, zsb0, zsbm, znm1, gM, g168, s18_176, s18_177, s18_178, s18_181, s18_184, s18_187, s18_188, s18_191, s18_192, s18_193, s18_196, s18_197, s18_198, s18_201, g7, u1, Bool.false_eq_true]
  · have k1 : zcall 229 [.ref 0] (zRm1 rd) Sm Lm = zgo 229 190 [.ref 0, .int (nI (c 1))] [] (zRm1 rd) Sm3 Lm := by
      rw [← u3, ← s2, ← q1]
      rfl
    rw [k1]
    simp (config := {maxSteps := 1000000}) (disch := omega) only [↓reduceIte, Int32.reduceLT, Int32.reduceLE, Int32.reduceToNatClampNeg, Int32.reduceAdd, Int32.reduceSub, Int32.reduceMul, Nat.reduceLeDiff, zEL, zup_ne, zup_eq, zT0, zT1, zT2, if_true, if_false, zneq_f, true_and, and_true, false_and, and_false, zKL, eq_self, Nat.reduceEqDiff, zite0, ite_not, zaddr, zaddl, zputr, zsb1, zsb2, zsb0, zsbm, znm1, layM1, s229_190, s229_191, s229_194, s229_195, s229_196, s229_197, s229_198, s229_199, s229_200, e2]
  · have z1 : zGI 168 c S Sm S3 Sm3 := ⟨u4.1, u4.2.1, fun j k hj => (u4.2.2.1 j k (by omega)).trans (r2 j k (by omega)), fun j k h2 h5 h6 => (u4.2.2.2 j k h2).trans (q2 j k h5 h6)⟩
    exact gi_passed_168 z1 ⟨t + 1, by omega, rfl⟩
theorem t17_168 (hM : zMD c S Sm) (hG : zGD 168 c S (Sm 2)) : ∃ n : Nat, n ≤ 99 ∧ ∃ S' Sm' : zS, zcall 17 [.ref 168] zRc S L = some (some (.int (nI n)), zRc, S', L) ∧ zcall 231 [.ref 0] (zRm1 rd) Sm Lm = some (some (.int (nI n)), zRm1 rd, Sm', Lm) ∧ zGI 168 c S Sm S' Sm' := by
  have key : ∀ d t many, t + d = 99 → many ≤ t → ∀ X Xm, zGI 168 c S Sm X Xm → X 168 7 = nI t → ∃ n : Nat, n ≤ 99 ∧ ∃ S' Sm' : zS, zgo 17 2 [.ref 168, .int (nI many)] [] zRc X L = some (some (.int (nI n)), zRc, S', L) ∧ zgo 231 2 [.ref 0, .int (nI many)] [] (zRm1 rd) Xm Lm = some (some (.int (nI n)), zRm1 rd, Sm', Lm) ∧ zGI 168 c S Sm S' Sm' := by
    intro d
    induction d with
    | zero =>
      intro t many hd hm X Xm h ht
      obtain ⟨v, hv, k1, k2, k3⟩ := t14_168 (L := L) (Lm := Lm) (rd := rd) h.1 h.2.1
      have e2 : Xm 2 2 = nI t := h.2.1.2.2.2.1.1.symm.trans ht
      have hv1 : v = 1 := by
        rcases hv with hv | hv
        · have := k3 hv t (by omega) e2
          omega
        · exact hv
      subst hv1
      refine ⟨many, by omega, X, Xm, ?_, ?_, h⟩
      · rw [s17_2]
        simp (config := {maxSteps := 1000000}) (disch := omega) only [↓reduceIte, Int32.reduceLT, Int32.reduceLE, Int32.reduceToNatClampNeg, Int32.reduceAdd, Int32.reduceSub, Int32.reduceMul, Nat.reduceLeDiff, zEL, zup_ne, zup_eq, zT0, zT1, zT2, if_true, if_false, zneq_f, true_and, and_true, false_and, and_false, zKL, eq_self, Nat.reduceEqDiff, zite0, ite_not, zaddr, zaddl, zputr, zsb1, zsb2, zsb0, zsbm, znm1, g168, s17_3, s17_5, s17_8, s17_9, s17_12, s17_15, s17_16, s17_19, s17_22, s17_25, s17_26, k1]
        repeat' split
        all_goals rfl
      · rw [s231_2]
        simp (config := {maxSteps := 1000000}) (disch := omega) only [↓reduceIte, Int32.reduceLT, Int32.reduceLE, Int32.reduceToNatClampNeg, Int32.reduceAdd, Int32.reduceSub, Int32.reduceMul, Nat.reduceLeDiff, zEL, zup_ne, zup_eq, zT0, zT1, zT2, if_true, if_false, zneq_f, true_and, and_true, false_and, and_false, zKL, eq_self, Nat.reduceEqDiff, zite0, ite_not, zaddr, zaddl, zputr, zsb1, zsb2, zsb0, zsbm, znm1, layM1, s231_3, s231_6, s231_9, s231_10, s231_13, s231_16, s231_19, s231_20, k2]
    | succ d ih =>
      intro t many hd hm X Xm h ht
      obtain ⟨v, hv, k1, k2, k3⟩ := t14_168 (L := L) (Lm := Lm) (rd := rd) h.1 h.2.1
      have hm99 : ((99 : Int32) ≤ nI many) = False := eq_false (by rw [show (99 : Int32) = nI 99 from rfl, znI_le (by omega) (by omega)]; omega)
      rcases hv with rfl | rfl
      · obtain ⟨X1, Xm1, r1, r2, r3, r4⟩ := t18_168 (L := L) (Lm := Lm) (rd := rd) h.1 h.2.1 ht (by omega)
        have h1 : zGI 168 c S Sm X1 Xm1 := ⟨r3.1, r3.2.1, fun j k hj => (r3.2.2.1 j k hj).trans (h.2.2.1 j k hj), fun j k h2 h5 h6 => (r3.2.2.2 j k h2 h5 h6).trans (h.2.2.2 j k h2 h5 h6)⟩
        obtain ⟨n, hn, S', Sm', q1, q2, q3⟩ := ih (t + 1) (many + 1) (by omega) (by omega) X1 Xm1 h1 r4
        refine ⟨n, hn, S', Sm', ?_, ?_, q3⟩
        · rw [← q1, s17_2]
          simp (config := {maxSteps := 1000000}) (disch := omega) only [↓reduceIte, Int32.reduceLT, Int32.reduceLE, Int32.reduceToNatClampNeg, Int32.reduceAdd, Int32.reduceSub, Int32.reduceMul, Nat.reduceLeDiff, zEL, zup_ne, zup_eq, zT0, zT1, zT2, if_true, if_false, zneq_f, true_and, and_true, false_and, and_false, zKL, eq_self, Nat.reduceEqDiff, zite0, ite_not, zaddr, zaddl, zputr, zsb1, zsb2, zsb0, zsbm, znm1, g168, s17_3, s17_5, s17_8, s17_9, s17_12, s17_15, s17_16, s17_19, s17_22, s17_25, s17_26, k1, hm99, r1]
        · rw [← q2, s231_2]
          simp (config := {maxSteps := 1000000}) (disch := omega) only [↓reduceIte, Int32.reduceLT, Int32.reduceLE, Int32.reduceToNatClampNeg, Int32.reduceAdd, Int32.reduceSub, Int32.reduceMul, Nat.reduceLeDiff, zEL, zup_ne, zup_eq, zT0, zT1, zT2, if_true, if_false, zneq_f, true_and, and_true, false_and, and_false, zKL, eq_self, Nat.reduceEqDiff, zite0, ite_not, zaddr, zaddl, zputr, zsb1, zsb2, zsb0, zsbm, znm1, layM1, s231_3, s231_6, s231_9, s231_10, s231_13, s231_16, s231_19, s231_20, k2, r2]
      · refine ⟨many, by omega, X, Xm, ?_, ?_, h⟩
        · rw [s17_2]
          simp (config := {maxSteps := 1000000}) (disch := omega) only [↓reduceIte, Int32.reduceLT, Int32.reduceLE, Int32.reduceToNatClampNeg, Int32.reduceAdd, Int32.reduceSub, Int32.reduceMul, Nat.reduceLeDiff, zEL, zup_ne, zup_eq, zT0, zT1, zT2, if_true, if_false, zneq_f, true_and, and_true, false_and, and_false, zKL, eq_self, Nat.reduceEqDiff, zite0, ite_not, zaddr, zaddl, zputr, zsb1, zsb2, zsb0, zsbm, znm1, g168, s17_3, s17_5, s17_8, s17_9, s17_12, s17_15, s17_16, s17_19, s17_22, s17_25, s17_26, k1, hm99]
        · rw [s231_2]
          simp (config := {maxSteps := 1000000}) (disch := omega) only [↓reduceIte, Int32.reduceLT, Int32.reduceLE, Int32.reduceToNatClampNeg, Int32.reduceAdd, Int32.reduceSub, Int32.reduceMul, Nat.reduceLeDiff, zEL, zup_ne, zup_eq, zT0, zT1, zT2, if_true, if_false, zneq_f, true_and, and_true, false_and, and_false, zKL, eq_self, Nat.reduceEqDiff, zite0, ite_not, zaddr, zaddl, zputr, zsb1, zsb2, zsb0, zsbm, znm1, layM1, s231_3, s231_6, s231_9, s231_10, s231_13, s231_16, s231_19, s231_20, k2]
  obtain ⟨g7, t, ht, et⟩ := hG.2.2.2.1
  obtain ⟨n, hn, S', Sm', q1, q2, q3⟩ := key (99 - t) t 0 (by omega) (by omega) S Sm ⟨hM, hG, fun _ _ _ => rfl, fun _ _ _ _ _ => rfl⟩ (g7.trans et)
  refine ⟨n, hn, S', Sm', ?_, ?_, q3⟩
  · unfold zcall
    simp (config := {maxSteps := 1000000}) (disch := omega) only [↓reduceIte, Int32.reduceLT, Int32.reduceLE, Int32.reduceToNatClampNeg, Int32.reduceAdd, Int32.reduceSub, Int32.reduceMul, Nat.reduceLeDiff, zEL, zup_ne, zup_eq, zT0, zT1, zT2, if_true, if_false, zneq_f, true_and, and_true, false_and, and_false, zKL, eq_self, Nat.reduceEqDiff, zite0, ite_not, zaddr, zaddl, zputr, zsb1, zsb2, zsb0, zsbm, znm1, ze_17, s17_0, s17_1]
    exact q1
  · unfold zcall
    simp (config := {maxSteps := 1000000}) (disch := omega) only [↓reduceIte, Int32.reduceLT, Int32.reduceLE, Int32.reduceToNatClampNeg, Int32.reduceAdd, Int32.reduceSub, Int32.reduceMul, Nat.reduceLeDiff, zEL, zup_ne, zup_eq, zT0, zT1, zT2, if_true, if_false, zneq_f, true_and, and_true, false_and, and_false, zKL, eq_self, Nat.reduceEqDiff, zite0, ite_not, zaddr, zaddl, zputr, zsb1, zsb2, zsb0, zsbm, znm1, ze_231, s231_0, s231_1]
    exact q2
theorem gi_passed_187 {v : Int32} (h : zGI 187 c S0 Sm0 S Sm) (hv : zin v 99) : zGI 187 c S0 Sm0 (zup S 187 7 v) (zup Sm 2 2 v) := by
  obtain ⟨hM, ⟨g0, g1, g2, ⟨g3, g3'⟩, ⟨g4, g4'⟩, ⟨g5, g5'⟩, ⟨i, hh, i1, i2, i3, i4, i5, i6⟩⟩, h3, h4⟩ := h
  have b0 : c 0 ≤ 8 := hM.1.2.1
  have b1 : c 1 ≤ 8 := hM.1.2.2.1
  refine ⟨zMD_fr hM (fun j k hj => by rw [zup_ne]; omega) (fun j k hj => by rw [zup_ne]; omega), ⟨fun q hq => ?_, fun q hq => ?_, fun q hq => ?_, ?_, ?_, ?_, ⟨i, hh, i1, i2, ?_, ?_, ?_, ?_⟩⟩, fun j k hj => ?_, fun j k h2 h5 h6 => ?_⟩
  · simp (disch := omega) only [zup_ne]
    exact g0 q hq
  · simp (disch := omega) only [zup_ne]
    exact g1 q hq
  · simp (disch := omega) only [zup_ne]
    exact g2 q hq
  · exact ⟨by rw [zup_eq rfl rfl, zup_eq rfl rfl], by rw [zup_eq rfl rfl]; exact hv⟩
  · simp (disch := omega) only [zup_ne]
    exact ⟨g4, g4'⟩
  · simp (disch := omega) only [zup_ne]
    exact ⟨g5, g5'⟩
  · simp (disch := omega) only [zup_ne]
    exact i3
  · simp (disch := omega) only [zup_ne]
    exact i4
  · simp (disch := omega) only [zup_ne]
    exact i5
  · intro j hj hj'
    simp (disch := omega) only [zup_ne]
    exact i6 j hj hj'
  · rw [zup_ne (by omega)]
    exact h3 j k hj
  · rw [zup_ne (by omega)]
    exact h4 j k h2 h5 h6
/-- the last loop: every block -/
theorem t30_187 {t : Nat} (h : zGJ 187 c S0 Sm0 S Sm) (hp : S 187 7 = nI t) (ht : t ≤ 99) : ∃ S' Sm' : zS, ∃ tw : Bool, zcall 29 [.ref 187, .int (nI t)] zRc S L = some (some (.int (if tw = true then 1 else 0)), zRc, S, L) ∧ (if tw = true then zcall 30 [.ref 187] zRc S L = some (none, zRc, S', L) else S' = S) ∧ zgo 229 142 [.ref 0, .int (nI (c 4))] [] (zRm1 rd) Sm Lm = zgo 229 190 [.ref 0, .int (nI (c 1))] [] (zRm1 rd) Sm' Lm ∧ zGJ 187 c S0 Sm0 S' Sm' ∧ S' 187 7 = nI t := by
  obtain ⟨th, w, hth, hw, eth, hw', k29⟩ := t29_187 (L := L) h.1 h.2.1 (t := t) (by omega)
  have key : ∀ d b, b + d = c 1 → ∀ S Sm, zGJ 187 c S0 Sm0 S Sm → S 187 7 = nI t → Sm 11 3 = nI th → (∀ h, Sm 2 0 = nI h → h < 24 → Sm 12 h = nI (w + 1)) → ∃ S' Sm' : zS, (if ztw th t w = true then zgo 30 2 [.ref 187, .int (nI b)] [] zRc S L = some (none, zRc, S', L) else S' = S) ∧ zgo 229 144 [.ref 0, .int (nI b)] [] (zRm1 rd) Sm Lm = zgo 229 190 [.ref 0, .int (nI (c 1))] [] (zRm1 rd) Sm' Lm ∧ zGJ 187 c S0 Sm0 S' Sm' ∧ S' 187 7 = nI t := by
    intro d
    induction d with
    | zero =>
      intro b hd S Sm h hp eth hw'
      have hb : b = c 1 := by omega
      have b1 : c 1 ≤ 8 := h.1.1.2.2.1
      have a1 : S 25 7 = nI (c 1) := h.1.2.1.2.1
      have m1 : Sm 11 7 = nI (c 1) := h.1.2.2.1.2.1
      subst hb
      refine ⟨S, Sm, ?_, ?_, h, hp⟩
      · split
        · rw [s30_2]
          simp (config := {maxSteps := 1000000}) (disch := omega) only [↓reduceIte, Int32.reduceLT, Int32.reduceLE, Int32.reduceToNatClampNeg, Int32.reduceAdd, Int32.reduceSub, Int32.reduceMul, Nat.reduceLeDiff, zEL, zup_ne, zup_eq, zT0, zT1, zT2, if_true, if_false, zneq_f, true_and, and_true, false_and, and_false, zKL, eq_self, Nat.reduceEqDiff, zite0, ite_not, zaddr, zaddl, zputr, zsb1, zsb2, zsb0, zsbm, znm1, gM, g187, s30_3, s30_4, s30_7, s30_10, s30_13, s30_16, s30_17, s30_20, s30_21, s30_22, s30_23, s30_26, s30_27, s30_30, s30_31, s30_32, s30_35, s30_36, s30_39, s30_42, s30_45, s30_48, a1]
        · rfl
      · rw [s229_144]
        simp (config := {maxSteps := 1000000}) (disch := omega) only [↓reduceIte, Int32.reduceLT, Int32.reduceLE, Int32.reduceToNatClampNeg, Int32.reduceAdd, Int32.reduceSub, Int32.reduceMul, Nat.reduceLeDiff, zEL, zup_ne, zup_eq, zT0, zT1, zT2, if_true, if_false, zneq_f, true_and, and_true, false_and, and_false, zKL, eq_self, Nat.reduceEqDiff, zite0, ite_not, zaddr, zaddl, zputr, zsb1, zsb2, zsb0, zsbm, znm1, layM1, s229_145, s229_146, s229_149, s229_152, s229_155, s229_156, s229_159, s229_161, s229_162, s229_163, s229_164, s229_165, s229_166, s229_169, s229_171, s229_172, s229_173, s229_174, s229_175, s229_178, s229_179, s229_180, s229_183, s229_184, s229_187, m1]
    | succ d ih =>
      intro b hd S Sm h hp eth hw'
      have hb : b < c 1 := by omega
      have b1 : c 1 ≤ 8 := h.1.1.2.2.1
      have a1 : S 25 7 = nI (c 1) := h.1.2.1.2.1
      have m1 : Sm 11 7 = nI (c 1) := h.1.2.2.1.2.1
      obtain ⟨v, hv, k1, k2⟩ := t31_187 (L := L) (Lm := Lm) (rd := rd) h.1 h.2.1 hb
      obtain ⟨e1, s, hs, es⟩ := h.2.1.2.1 b hb
      have e1 : S 197 b = nI s := e1.trans es
      have es : Sm 2 (41 + b) = nI s := es
      have ep : Sm 2 2 = nI t := h.2.1.2.2.2.1.1.symm.trans hp
      have k3 := t228_187 (Lm := Lm) (rd := rd) (b := b) (t := t) (s := s) h.1 h.2.1 hb hs (by omega) hv k2 hth hw eth hw'
      by_cases hz : ztw th t w = true
      · rw [if_pos hz] at k3
        have h' : zGJ 187 c S0 Sm0 (zup S 197 b (nI (s - (v + 1)))) (zup Sm 2 (41 + b) (nI (s - (v + 1)))) := gj_strong_187 h hb ⟨s - (v + 1), by omega, rfl⟩
        obtain ⟨S', Sm', r1, r2, r3, r4⟩ := ih (b + 1) (by omega) _ _ h' (by rw [zup_ne (by omega)]; exact hp) (by rw [zup_ne (by omega)]; exact eth) (fun h h1 h2 => by rw [zup_ne (by omega)] at h1 ⊢; exact hw' h h1 h2)
        refine ⟨S', Sm', ?_, ?_, r3, r4⟩
        · rw [if_pos hz] at r1 ⊢
          rw [← r1, s30_2]
          have hm := zmx0 (s := s) (v := v + 1) (by omega) (by omega)
          simp (config := {maxSteps := 1000000}) (disch := omega) only [↓reduceIte, Int32.reduceLT, Int32.reduceLE, Int32.reduceToNatClampNeg, Int32.reduceAdd, Int32.reduceSub, Int32.reduceMul, Nat.reduceLeDiff, zEL, zup_ne, zup_eq, zT0, zT1, zT2, if_true, if_false, zneq_f, true_and, and_true, false_and, and_false, zKL, eq_self, Nat.reduceEqDiff, zite0, ite_not, zaddr, zaddl, zputr, zsb1, zsb2, zsb0, zsbm, znm1, gM, g187, s30_3, s30_4, s30_7, s30_10, s30_13, s30_16, s30_17, s30_20, s30_21, s30_22, s30_23, s30_26, s30_27, s30_30, s30_31, s30_32, s30_35, s30_36, s30_39, s30_42, s30_45, s30_48, a1, e1, k1, hm]
        · rw [← r2, s229_144]
          simp (config := {maxSteps := 1000000}) (disch := omega) only [↓reduceIte, Int32.reduceLT, Int32.reduceLE, Int32.reduceToNatClampNeg, Int32.reduceAdd, Int32.reduceSub, Int32.reduceMul, Nat.reduceLeDiff, zEL, zup_ne, zup_eq, zT0, zT1, zT2, if_true, if_false, zneq_f, true_and, and_true, false_and, and_false, zKL, eq_self, Nat.reduceEqDiff, zite0, ite_not, zaddr, zaddl, zputr, zsb1, zsb2, zsb0, zsbm, znm1, layM1, s229_145, s229_146, s229_149, s229_152, s229_155, s229_156, s229_159, s229_161, s229_162, s229_163, s229_164, s229_165, s229_166, s229_169, s229_171, s229_172, s229_173, s229_174, s229_175, s229_178, s229_179, s229_180, s229_183, s229_184, s229_187, m1, es, ep, k3]
      · rw [if_neg hz] at k3
        obtain ⟨S', Sm', r1, r2, r3, r4⟩ := ih (b + 1) (by omega) _ _ h hp eth hw'
        refine ⟨S', Sm', ?_, ?_, r3, r4⟩
        · rw [if_neg hz] at r1 ⊢
          exact r1
        · rw [← r2, s229_144]
          have hu : zup Sm 2 (41 + b) (nI s) = Sm := zup_self es.symm
          simp (config := {maxSteps := 1000000}) (disch := omega) only [↓reduceIte, Int32.reduceLT, Int32.reduceLE, Int32.reduceToNatClampNeg, Int32.reduceAdd, Int32.reduceSub, Int32.reduceMul, Nat.reduceLeDiff, zEL, zup_ne, zup_eq, zT0, zT1, zT2, if_true, if_false, zneq_f, true_and, and_true, false_and, and_false, zKL, eq_self, Nat.reduceEqDiff, zite0, ite_not, zaddr, zaddl, zputr, zsb1, zsb2, zsb0, zsbm, znm1, layM1, s229_145, s229_146, s229_149, s229_152, s229_155, s229_156, s229_159, s229_161, s229_162, s229_163, s229_164, s229_165, s229_166, s229_169, s229_171, s229_172, s229_173, s229_174, s229_175, s229_178, s229_179, s229_180, s229_183, s229_184, s229_187, m1, es, ep, k3, hu]
  obtain ⟨S', Sm', r1, r2, r3, r4⟩ := key (c 1) 0 (by omega) S Sm h hp eth hw'
  refine ⟨S', Sm', ztw th t w, k29, ?_, ?_, r3, r4⟩
  · split
    · rename_i hz
      rw [if_pos hz] at r1
      unfold zcall
      simp (config := {maxSteps := 1000000}) (disch := omega) only [↓reduceIte, Int32.reduceLT, Int32.reduceLE, Int32.reduceToNatClampNeg, Int32.reduceAdd, Int32.reduceSub, Int32.reduceMul, Nat.reduceLeDiff, zEL, zup_ne, zup_eq, zT0, zT1, zT2, if_true, if_false, zneq_f, true_and, and_true, false_and, and_false, zKL, eq_self, Nat.reduceEqDiff, zite0, ite_not, zaddr, zaddl, zputr, zsb1, zsb2, zsb0, zsbm, znm1, ze_30, s30_0, s30_1]
      exact r1
    · rename_i hz
      rw [if_neg hz] at r1
      exact r1
  · simp (config := {maxSteps := 1000000}) (disch := omega) only [↓reduceIte, Int32.reduceLT, Int32.reduceLE, Int32.reduceToNatClampNeg, Int32.reduceAdd, Int32.reduceSub, Int32.reduceMul, Nat.reduceLeDiff, zEL, zup_ne, zup_eq, zT0, zT1, zT2, if_true, if_false, zneq_f, true_and, and_true, false_and, and_false, zKL, eq_self, Nat.reduceEqDiff, zite0, ite_not, zaddr, zaddl, zputr, zsb1, zsb2, zsb0, zsbm, znm1, s229_142, s229_143]
    exact r2
/-- what is told for a TENTH, by LINES -/
theorem t18a_187 (h : zGJ 187 c S0 Sm0 S Sm) (hD : zDK 187 c S0 Sm0) : ∃ S' Sm' : zS, ∃ j : Value, zgo 18 14 [.ref 187, .ref 64, .int (nI 0), .retAddr 0] [] zRc S L = zgo 18 176 [.ref 187, .ref 64, .int (nI (c 4)), j] [] zRc S' L ∧ zgo 229 112 [.ref 0, .int (nI 0)] [] (zRm1 rd) Sm Lm = zgo 229 142 [.ref 0, .int (nI (c 4))] [] (zRm1 rd) Sm' Lm ∧ zGJ 187 c S0 Sm0 S' Sm' := by
  have key : ∀ d k, k + d = c 4 → ∀ S Sm, zGJ 187 c S0 Sm0 S Sm → ∀ j : Value, ∃ S' Sm' : zS, ∃ j' : Value, zgo 18 14 [.ref 187, .ref 64, .int (nI k), j] [] zRc S L = zgo 18 176 [.ref 187, .ref 64, .int (nI (c 4)), j'] [] zRc S' L ∧ zgo 229 112 [.ref 0, .int (nI k)] [] (zRm1 rd) Sm Lm = zgo 229 142 [.ref 0, .int (nI (c 4))] [] (zRm1 rd) Sm' Lm ∧ zGJ 187 c S0 Sm0 S' Sm' := by
    intro d
    induction d with
    | zero =>
      intro k hd S Sm h j
      have hk : k = c 4 := by omega
      have b4 : c 4 ≤ 20 := h.1.1.2.2.2.2.2.1
      have a1 : S 64 4 = nI (c 4) := h.1.2.1.2.2.2.2.1
      have m1 : Sm 11 11 = nI (c 4) := h.1.2.2.1.2.2.2.2.1
      subst hk
      refine ⟨S, Sm, j, ?_, ?_, h⟩
      · rw [s18_14]
        simp (config := {maxSteps := 1000000}) (disch := omega) only [↓reduceIte, Int32.reduceLT, Int32.reduceLE, Int32.reduceToNatClampNeg, Int32.reduceAdd, Int32.reduceSub, Int32.reduceMul, Nat.reduceLeDiff, zEL, zup_ne, zup_eq, zT0, zT1, zT2, if_true, if_false, zneq_f, true_and, and_true, false_and, and_false, zKL, eq_self, Nat.reduceEqDiff, zite0, ite_not, zaddr, zaddl, zputr, zsb1, zsb2, zsb0, zsbm, znm1, gM, g187, s18_15, s18_16, s18_19, s18_22, s18_23, s18_26, s18_27, s18_30, s18_31, s18_32, s18_35, s18_36, s18_39, s18_40, s18_43, s18_46, s18_47, s18_50, s18_51, s18_54, s18_57, s18_60, s18_61, s18_64, s18_65, s18_68, s18_104, s18_105, s18_106, s18_107, s18_110, s18_111, s18_114, s18_115, s18_118, s18_121, s18_122, s18_123, s18_124, s18_127, s18_128, s18_131, s18_132, s18_135, s18_138, s18_139, s18_140, s18_141, s18_144, s18_145, s18_148, s18_151, s18_154, s18_155, s18_156, s18_159, s18_162, s18_163, s18_164, s18_167, s18_170, s18_173, a1]
      · rw [s229_112]
        simp (config := {maxSteps := 1000000}) (disch := omega) only [↓reduceIte, Int32.reduceLT, Int32.reduceLE, Int32.reduceToNatClampNeg, Int32.reduceAdd, Int32.reduceSub, Int32.reduceMul, Nat.reduceLeDiff, zEL, zup_ne, zup_eq, zT0, zT1, zT2, if_true, if_false, zneq_f, true_and, and_true, false_and, and_false, zKL, eq_self, Nat.reduceEqDiff, zite0, ite_not, zaddr, zaddl, zputr, zsb1, zsb2, zsb0, zsbm, znm1, layM1, s229_113, s229_114, s229_117, s229_120, s229_123, s229_124, s229_125, s229_128, s229_131, s229_132, s229_133, s229_136, s229_139, m1]
    | succ d ih =>
      intro k hd S Sm h j
      have hk : k < c 4 := by omega
      have b0 : c 0 ≤ 8 := h.1.1.2.1
      have b4 : c 4 ≤ 20 := h.1.1.2.2.2.2.2.1
      have a1 : S 64 4 = nI (c 4) := h.1.2.1.2.2.2.2.1
      have m1 : Sm 11 11 = nI (c 4) := h.1.2.2.1.2.2.2.2.1
      obtain ⟨-, -, -, -, -, -, -, -, -, hA, -⟩ := h.1
      obtain ⟨e1, -, ⟨p, hp, e2, e3⟩, e4, hkd⟩ := hA k hk
      obtain ⟨-, -, -, f4, -, -, ⟨o, ho, eo⟩⟩ := h.2.1.1 p hp
      have f4 : S 195 p = nI o := f4.trans eo
      have eo : Sm 2 (33 + p) = nI o := eo
      have g7 : S 187 7 = Sm 2 2 := h.2.1.2.2.2.1.1
      clear hA
      have one : ∃ S1 Sm1 : zS, (∃ j', zgo 18 14 [.ref 187, .ref 64, .int (nI k), j] [] zRc S L = zgo 18 14 [.ref 187, .ref 64, .int (nI (k + 1)), j'] [] zRc S1 L) ∧ zgo 229 112 [.ref 0, .int (nI k)] [] (zRm1 rd) Sm Lm = zgo 229 112 [.ref 0, .int (nI (k + 1))] [] (zRm1 rd) Sm1 Lm ∧ zGJ 187 c S0 Sm0 S1 Sm1 := by
        by_cases hnow : Sm 31 k = Sm 2 2
        · rcases (show o = 1 ∨ o = 0 by omega) with rfl | rfl
          · refine ⟨S, Sm, ⟨.int (nI p), ?_⟩, ?_, h⟩
            · rw [s18_14]
              simp (config := {maxSteps := 1000000}) (disch := omega) only [↓reduceIte, Int32.reduceLT, Int32.reduceLE, Int32.reduceToNatClampNeg, Int32.reduceAdd, Int32.reduceSub, Int32.reduceMul, Nat.reduceLeDiff, zEL, zup_ne, zup_eq, zT0, zT1, zT2, if_true, if_false, zneq_f, true_and, and_true, false_and, and_false, zKL, eq_self, Nat.reduceEqDiff, zite0, ite_not, zaddr, zaddl, zputr, zsb1, zsb2, zsb0, zsbm, znm1, gM, g187, s18_15, s18_16, s18_19, s18_22, s18_23, s18_26, s18_27, s18_30, s18_31, s18_32, s18_35, s18_36, s18_39, s18_40, s18_43, s18_46, s18_47, s18_50, s18_51, s18_54, s18_57, s18_60, s18_61, s18_64, s18_65, s18_68, s18_104, s18_105, s18_106, s18_107, s18_110, s18_111, s18_114, s18_115, s18_118, s18_121, s18_122, s18_123, s18_124, s18_127, s18_128, s18_131, s18_132, s18_135, s18_138, s18_139, s18_140, s18_141, s18_144, s18_145, s18_148, s18_151, s18_154, s18_155, s18_156, s18_159, s18_162, s18_163, s18_164, s18_167, s18_170, s18_173, a1, e1, e2, g7, hnow, f4]
            · have k1 : zcall 224 [.ref 0, .int (nI k)] (zRm1 rd) Sm Lm = some (none, zRm1 rd, Sm, Lm) := by
                unfold zcall
                simp (config := {maxSteps := 1000000}) (disch := omega) only [↓reduceIte, Int32.reduceLT, Int32.reduceLE, Int32.reduceToNatClampNeg, Int32.reduceAdd, Int32.reduceSub, Int32.reduceMul, Nat.reduceLeDiff, zEL, zup_ne, zup_eq, zT0, zT1, zT2, if_true, if_false, zneq_f, true_and, and_true, false_and, and_false, zKL, eq_self, Nat.reduceEqDiff, zite0, ite_not, zaddr, zaddl, zputr, zsb1, zsb2, zsb0, zsbm, znm1, layM1, ze_224, s224_0, s224_1, s224_4, s224_7, s224_8, s224_9, s224_10, s224_11, s224_12, s224_15, s224_18, s224_19, s224_20, s224_23, s224_26, s224_27, s224_28, s224_64, s224_65, s224_66, s224_67, s224_70, s224_73, s224_74, s224_75, s224_76, s224_79, s224_82, s224_83, s224_84, s224_85, s224_88, s224_89, s224_92, s224_93, s224_96, s224_99, s224_100, s224_101, s224_102, s224_105, s224_108, s224_109, s224_110, s224_113, s224_116, s224_117, s224_120, s224_123, s224_124, s224_127, s224_130, s224_131, s224_134, s224_135, s224_136, s224_137, s224_140, s224_141, s224_144, s224_146, s224_147, s224_148, s224_149, s224_150, s224_153, s224_156, s224_159, s224_160, s224_163, s224_165, s224_166, s224_167, s224_168, s224_169, s224_170, s224_171, s224_172, s224_175, s224_176, s224_177, s224_180, s224_183, e3, t214, eo]
              rw [s229_112]
              simp (config := {maxSteps := 1000000}) (disch := omega) only [↓reduceIte, Int32.reduceLT, Int32.reduceLE, Int32.reduceToNatClampNeg, Int32.reduceAdd, Int32.reduceSub, Int32.reduceMul, Nat.reduceLeDiff, zEL, zup_ne, zup_eq, zT0, zT1, zT2, if_true, if_false, zneq_f, true_and, and_true, false_and, and_false, zKL, eq_self, Nat.reduceEqDiff, zite0, ite_not, zaddr, zaddl, zputr, zsb1, zsb2, zsb0, zsbm, znm1, layM1, s229_113, s229_114, s229_117, s229_120, s229_123, s229_124, s229_125, s229_128, s229_131, s229_132, s229_133, s229_136, s229_139, m1, t225, hnow, k1]
          · rcases hkd with ⟨⟨kd, hkd, ek⟩, w, hw, e5, e6⟩ | ek | ek | ek
            · rcases (show kd = 0 ∨ kd = 1 ∨ kd = 2 by omega) with rfl | rfl | rfl
              · have ek : Sm 33 k = 0 := ek
                obtain ⟨S1, Sm1, r1, r2, r3⟩ := t24_187 (L := L) (Lm := Lm) (rd := rd) (hi := 0) h hD hp hw (.inl rfl)
                refine ⟨S1, Sm1, ⟨.int (nI p), ?_⟩, ?_, r3⟩
                · rw [s18_14]
                  simp (config := {maxSteps := 1000000}) (disch := omega) only [↓reduceIte, Int32.reduceLT, Int32.reduceLE, Int32.reduceToNatClampNeg, Int32.reduceAdd, Int32.reduceSub, Int32.reduceMul, Nat.reduceLeDiff, zEL, zup_ne, zup_eq, zT0, zT1, zT2, if_true, if_false, zneq_f, true_and, and_true, false_and, and_false, zKL, eq_self, Nat.reduceEqDiff, zite0, ite_not, zaddr, zaddl, zputr, zsb1, zsb2, zsb0, zsbm, znm1, gM, g187, s18_15, s18_16, s18_19, s18_22, s18_23, s18_26, s18_27, s18_30, s18_31, s18_32, s18_35, s18_36, s18_39, s18_40, s18_43, s18_46, s18_47, s18_50, s18_51, s18_54, s18_57, s18_60, s18_61, s18_64, s18_65, s18_68, s18_104, s18_105, s18_106, s18_107, s18_110, s18_111, s18_114, s18_115, s18_118, s18_121, s18_122, s18_123, s18_124, s18_127, s18_128, s18_131, s18_132, s18_135, s18_138, s18_139, s18_140, s18_141, s18_144, s18_145, s18_148, s18_151, s18_154, s18_155, s18_156, s18_159, s18_162, s18_163, s18_164, s18_167, s18_170, s18_173, a1, e1, e2, e4, e5, g7, hnow, f4, ek, r1]
                · have k1 : zcall 224 [.ref 0, .int (nI k)] (zRm1 rd) Sm Lm = some (none, zRm1 rd, Sm1, Lm) := by
                    unfold zcall
                    simp (config := {maxSteps := 1000000}) (disch := omega) only [↓reduceIte, Int32.reduceLT, Int32.reduceLE, Int32.reduceToNatClampNeg, Int32.reduceAdd, Int32.reduceSub, Int32.reduceMul, Nat.reduceLeDiff, zEL, zup_ne, zup_eq, zT0, zT1, zT2, if_true, if_false, zneq_f, true_and, and_true, false_and, and_false, zKL, eq_self, Nat.reduceEqDiff, zite0, ite_not, zaddr, zaddl, zputr, zsb1, zsb2, zsb0, zsbm, znm1, layM1, ze_224, s224_0, s224_1, s224_4, s224_7, s224_8, s224_9, s224_10, s224_11, s224_12, s224_15, s224_18, s224_19, s224_20, s224_23, s224_26, s224_27, s224_28, s224_64, s224_65, s224_66, s224_67, s224_70, s224_73, s224_74, s224_75, s224_76, s224_79, s224_82, s224_83, s224_84, s224_85, s224_88, s224_89, s224_92, s224_93, s224_96, s224_99, s224_100, s224_101, s224_102, s224_105, s224_108, s224_109, s224_110, s224_113, s224_116, s224_117, s224_120, s224_123, s224_124, s224_127, s224_130, s224_131, s224_134, s224_135, s224_136, s224_137, s224_140, s224_141, s224_144, s224_146, s224_147, s224_148, s224_149, s224_150, s224_153, s224_156, s224_159, s224_160, s224_163, s224_165, s224_166, s224_167, s224_168, s224_169, s224_170, s224_171, s224_172, s224_175, s224_176, s224_177, s224_180, s224_183, e3, e6, t214, eo, ek, r2]
                  rw [s229_112]
                  simp (config := {maxSteps := 1000000}) (disch := omega) only [↓reduceIte, Int32.reduceLT, Int32.reduceLE, Int32.reduceToNatClampNeg, Int32.reduceAdd, Int32.reduceSub, Int32.reduceMul, Nat.reduceLeDiff, zEL, zup_ne, zup_eq, zT0, zT1, zT2, if_true, if_false, zneq_f, true_and, and_true, false_and, and_false, zKL, eq_self, Nat.reduceEqDiff, zite0, ite_not, zaddr, zaddl, zputr, zsb1, zsb2, zsb0, zsbm, znm1, layM1, s229_113, s229_114, s229_117, s229_120, s229_123, s229_124, s229_125, s229_128, s229_131, s229_132, s229_133, s229_136, s229_139, m1, t225, hnow, k1]
              · have ek : Sm 33 k = 1 := ek
                obtain ⟨S1, Sm1, r1, r2, r3⟩ := t24_187 (L := L) (Lm := Lm) (rd := rd) (hi := 1) h hD hp hw (.inr rfl)
                refine ⟨S1, Sm1, ⟨.int (nI p), ?_⟩, ?_, r3⟩
                · rw [s18_14]
                  simp (config := {maxSteps := 1000000}) (disch := omega) only [↓reduceIte, Int32.reduceLT, Int32.reduceLE, Int32.reduceToNatClampNeg, Int32.reduceAdd, Int32.reduceSub, Int32.reduceMul, Nat.reduceLeDiff, zEL, zup_ne, zup_eq, zT0, zT1, zT2, if_true, if_false, zneq_f, true_and, and_true, false_and, and_false, zKL, eq_self, Nat.reduceEqDiff, zite0, ite_not, zaddr, zaddl, zputr, zsb1, zsb2, zsb0, zsbm, znm1, gM, g187, s18_15, s18_16, s18_19, s18_22, s18_23, s18_26, s18_27, s18_30, s18_31, s18_32, s18_35, s18_36, s18_39, s18_40, s18_43, s18_46, s18_47, s18_50, s18_51, s18_54, s18_57, s18_60, s18_61, s18_64, s18_65, s18_68, s18_104, s18_105, s18_106, s18_107, s18_110, s18_111, s18_114, s18_115, s18_118, s18_121, s18_122, s18_123, s18_124, s18_127, s18_128, s18_131, s18_132, s18_135, s18_138, s18_139, s18_140, s18_141, s18_144, s18_145, s18_148, s18_151, s18_154, s18_155, s18_156, s18_159, s18_162, s18_163, s18_164, s18_167, s18_170, s18_173, a1, e1, e2, e4, e5, g7, hnow, f4, ek, r1]
                · have k1 : zcall 224 [.ref 0, .int (nI k)] (zRm1 rd) Sm Lm = some (none, zRm1 rd, Sm1, Lm) := by
                    unfold zcall
                    simp (config := {maxSteps := 1000000}) (disch := omega) only [↓reduceIte, Int32.reduceLT, Int32.reduceLE, Int32.reduceToNatClampNeg, Int32.reduceAdd, Int32.reduceSub, Int32.reduceMul, Nat.reduceLeDiff, zEL, zup_ne, zup_eq, zT0, zT1, zT2, if_true, if_false, zneq_f, true_and, and_true, false_and, and_false, zKL, eq_self, Nat.reduceEqDiff, zite0, ite_not, zaddr, zaddl, zputr, zsb1, zsb2, zsb0, zsbm, znm1, layM1, ze_224, s224_0, s224_1, s224_4, s224_7, s224_8, s224_9, s224_10, s224_11, s224_12, s224_15, s224_18, s224_19, s224_20, s224_23, s224_26, s224_27, s224_28, s224_64, s224_65, s224_66, s224_67, s224_70, s224_73, s224_74, s224_75, s224_76, s224_79, s224_82, s224_83, s224_84, s224_85, s224_88, s224_89, s224_92, s224_93, s224_96, s224_99, s224_100, s224_101, s224_102, s224_105, s224_108, s224_109, s224_110, s224_113, s224_116, s224_117, s224_120, s224_123, s224_124, s224_127, s224_130, s224_131, s224_134, s224_135, s224_136, s224_137, s224_140, s224_141, s224_144, s224_146, s224_147, s224_148, s224_149, s224_150, s224_153, s224_156, s224_159, s224_160, s224_163, s224_165, s224_166, s224_167, s224_168, s224_169, s224_170, s224_171, s224_172, s224_175, s224_176, s224_177, s224_180, s224_183, e3, e6, t214, eo, ek, r2]
                  rw [s229_112]
                  simp (config := {maxSteps := 1000000}) (disch := omega) only [↓reduceIte, Int32.reduceLT, Int32.reduceLE, Int32.reduceToNatClampNeg, Int32.reduceAdd, Int32.reduceSub, Int32.reduceMul, Nat.reduceLeDiff, zEL, zup_ne, zup_eq, zT0, zT1, zT2, if_true, if_false, zneq_f, true_and, and_true, false_and, and_false, zKL, eq_self, Nat.reduceEqDiff, zite0, ite_not, zaddr, zaddl, zputr, zsb1, zsb2, zsb0, zsbm, znm1, layM1, s229_113, s229_114, s229_117, s229_120, s229_123, s229_124, s229_125, s229_128, s229_131, s229_132, s229_133, s229_136, s229_139, m1, t225, hnow, k1]
              · have ek : Sm 33 k = 2 := ek
                obtain ⟨S1, Sm1, r1, r2, r3⟩ := t22_187 (L := L) (Lm := Lm) (rd := rd) h hp hw
                refine ⟨S1, Sm1, ⟨.int (nI p), ?_⟩, ?_, r3⟩
                · rw [s18_14]
                  simp (config := {maxSteps := 1000000}) (disch := omega) only [↓reduceIte, Int32.reduceLT, Int32.reduceLE, Int32.reduceToNatClampNeg, Int32.reduceAdd, Int32.reduceSub, Int32.reduceMul, Nat.reduceLeDiff, zEL, zup_ne, zup_eq, zT0, zT1, zT2, if_true, if_false, zneq_f, true_and, and_true, false_and, and_false, zKL, eq_self, Nat.reduceEqDiff, zite0, ite_not, zaddr, zaddl, zputr, zsb1, zsb2, zsb0, zsbm, znm1, gM, g187, s18_15, s18_16, s18_19, s18_22, s18_23, s18_26, s18_27, s18_30, s18_31, s18_32, s18_35, s18_36, s18_39, s18_40, s18_43, s18_46, s18_47, s18_50, s18_51, s18_54, s18_57, s18_60, s18_61, s18_64, s18_65, s18_68, s18_104, s18_105, s18_106, s18_107, s18_110, s18_111, s18_114, s18_115, s18_118, s18_121, s18_122, s18_123, s18_124, s18_127, s18_128, s18_131, s18_132, s18_135, s18_138, s18_139, s18_140, s18_141, s18_144, s18_145, s18_148, s18_151, s18_154, s18_155, s18_156, s18_159, s18_162, s18_163, s18_164, s18_167, s18_170, s18_173, a1, e1, e2, e4, e5, g7, hnow, f4, ek, r1]
                · have k1 : zcall 224 [.ref 0, .int (nI k)] (zRm1 rd) Sm Lm = some (none, zRm1 rd, Sm1, Lm) := by
                    unfold zcall
                    simp (config := {maxSteps := 1000000}) (disch := omega) only [↓reduceIte, Int32.reduceLT, Int32.reduceLE, Int32.reduceToNatClampNeg, Int32.reduceAdd, Int32.reduceSub, Int32.reduceMul, Nat.reduceLeDiff, zEL, zup_ne, zup_eq, zT0, zT1, zT2, if_true, if_false, zneq_f, true_and, and_true, false_and, and_false, zKL, eq_self, Nat.reduceEqDiff, zite0, ite_not, zaddr, zaddl, zputr, zsb1, zsb2, zsb0, zsbm, znm1, layM1, ze_224, s224_0, s224_1, s224_4, s224_7, s224_8, s224_9, s224_10, s224_11, s224_12, s224_15, s224_18, s224_19, s224_20, s224_23, s224_26, s224_27, s224_28, s224_64, s224_65, s224_66, s224_67, s224_70, s224_73, s224_74, s224_75, s224_76, s224_79, s224_82, s224_83, s224_84, s224_85, s224_88, s224_89, s224_92, s224_93, s224_96, s224_99, s224_100, s224_101, s224_102, s224_105, s224_108, s224_109, s224_110, s224_113, s224_116, s224_117, s224_120, s224_123, s224_124, s224_127, s224_130, s224_131, s224_134, s224_135, s224_136, s224_137, s224_140, s224_141, s224_144, s224_146, s224_147, s224_148, s224_149, s224_150, s224_153, s224_156, s224_159, s224_160, s224_163, s224_165, s224_166, s224_167, s224_168, s224_169, s224_170, s224_171, s224_172, s224_175, s224_176, s224_177, s224_180, s224_183, e3, e6, t214, eo, ek, r2]
                  rw [s229_112]
                  simp (config := {maxSteps := 1000000}) (disch := omega) only [↓reduceIte, Int32.reduceLT, Int32.reduceLE, Int32.reduceToNatClampNeg, Int32.reduceAdd, Int32.reduceSub, Int32.reduceMul, Nat.reduceLeDiff, zEL, zup_ne, zup_eq, zT0, zT1, zT2, if_true, if_false, zneq_f, true_and, and_true, false_and, and_false, zKL, eq_self, Nat.reduceEqDiff, zite0, ite_not, zaddr, zaddl, zputr, zsb1, zsb2, zsb0, zsbm, znm1, layM1, s229_113, s229_114, s229_117, s229_120, s229_123, s229_124, s229_125, s229_128, s229_131, s229_132, s229_133, s229_136, s229_139, m1, t225, hnow, k1]
            · obtain ⟨S1, Sm1, r1, r3, r2⟩ := t21_187 (k := k) (L := L) (Lm := Lm) (rd := rd) h hp
              have k1 := r2 ⟨hk, e3, ek, eo⟩
              refine ⟨S1, Sm1, ⟨.int (nI p), ?_⟩, ?_, r3⟩
              · rw [s18_14]
                simp (config := {maxSteps := 1000000}) (disch := omega) only [↓reduceIte, Int32.reduceLT, Int32.reduceLE, Int32.reduceToNatClampNeg, Int32.reduceAdd, Int32.reduceSub, Int32.reduceMul, Nat.reduceLeDiff, zEL, zup_ne, zup_eq, zT0, zT1, zT2, if_true, if_false, zneq_f, true_and, and_true, false_and, and_false, zKL, eq_self, Nat.reduceEqDiff, zite0, ite_not, zaddr, zaddl, zputr, zsb1, zsb2, zsb0, zsbm, znm1, gM, g187, s18_15, s18_16, s18_19, s18_22, s18_23, s18_26, s18_27, s18_30, s18_31, s18_32, s18_35, s18_36, s18_39, s18_40, s18_43, s18_46, s18_47, s18_50, s18_51, s18_54, s18_57, s18_60, s18_61, s18_64, s18_65, s18_68, s18_104, s18_105, s18_106, s18_107, s18_110, s18_111, s18_114, s18_115, s18_118, s18_121, s18_122, s18_123, s18_124, s18_127, s18_128, s18_131, s18_132, s18_135, s18_138, s18_139, s18_140, s18_141, s18_144, s18_145, s18_148, s18_151, s18_154, s18_155, s18_156, s18_159, s18_162, s18_163, s18_164, s18_167, s18_170, s18_173, a1, e1, e2, e4, g7, hnow, f4, ek, r1]
              · rw [s229_112]
                simp (config := {maxSteps := 1000000}) (disch := omega) only [↓reduceIte, Int32.reduceLT, Int32.reduceLE, Int32.reduceToNatClampNeg, Int32.reduceAdd, Int32.reduceSub, Int32.reduceMul, Nat.reduceLeDiff, zEL, zup_ne, zup_eq, zT0, zT1, zT2, if_true, if_false, zneq_f, true_and, and_true, false_and, and_false, zKL, eq_self, Nat.reduceEqDiff, zite0, ite_not, zaddr, zaddl, zputr, zsb1, zsb2, zsb0, zsbm, znm1, layM1, s229_113, s229_114, s229_117, s229_120, s229_123, s229_124, s229_125, s229_128, s229_131, s229_132, s229_133, s229_136, s229_139, m1, t225, hnow, k1]
            · obtain ⟨S1, Sm1, r1, r2, r3⟩ := t23_187 (L := L) (Lm := Lm) (rd := rd) h hp
              refine ⟨S1, Sm1, ⟨.int (nI p), ?_⟩, ?_, r3⟩
              · rw [s18_14]
                simp (config := {maxSteps := 1000000}) (disch := omega) only [↓reduceIte, Int32.reduceLT, Int32.reduceLE, Int32.reduceToNatClampNeg, Int32.reduceAdd, Int32.reduceSub, Int32.reduceMul, Nat.reduceLeDiff, zEL, zup_ne, zup_eq, zT0, zT1, zT2, if_true, if_false, zneq_f, true_and, and_true, false_and, and_false, zKL, eq_self, Nat.reduceEqDiff, zite0, ite_not, zaddr, zaddl, zputr, zsb1, zsb2, zsb0, zsbm, znm1, gM, g187, s18_15, s18_16, s18_19, s18_22, s18_23, s18_26, s18_27, s18_30, s18_31, s18_32, s18_35, s18_36, s18_39, s18_40, s18_43, s18_46, s18_47, s18_50, s18_51, s18_54, s18_57, s18_60, s18_61, s18_64, s18_65, s18_68, s18_104, s18_105, s18_106, s18_107, s18_110, s18_111, s18_114, s18_115, s18_118, s18_121, s18_122, s18_123, s18_124, s18_127, s18_128, s18_131, s18_132, s18_135, s18_138, s18_139, s18_140, s18_141, s18_144, s18_145, s18_148, s18_151, s18_154, s18_155, s18_156, s18_159, s18_162, s18_163, s18_164, s18_167, s18_170, s18_173, a1, e1, e2, e4, g7, hnow, f4, ek, r1]
              · have k1 : zcall 224 [.ref 0, .int (nI k)] (zRm1 rd) Sm Lm = some (none, zRm1 rd, Sm1, Lm) := by
                  unfold zcall
                  simp (config := {maxSteps := 1000000}) (disch := omega) only [↓reduceIte, Int32.reduceLT, Int32.reduceLE, Int32.reduceToNatClampNeg, Int32.reduceAdd, Int32.reduceSub, Int32.reduceMul, Nat.reduceLeDiff, zEL, zup_ne, zup_eq, zT0, zT1, zT2, if_true, if_false, zneq_f, true_and, and_true, false_and, and_false, zKL, eq_self, Nat.reduceEqDiff, zite0, ite_not, zaddr, zaddl, zputr, zsb1, zsb2, zsb0, zsbm, znm1, layM1, ze_224, s224_0, s224_1, s224_4, s224_7, s224_8, s224_9, s224_10, s224_11, s224_12, s224_15, s224_18, s224_19, s224_20, s224_23, s224_26, s224_27, s224_28, s224_64, s224_65, s224_66, s224_67, s224_70, s224_73, s224_74, s224_75, s224_76, s224_79, s224_82, s224_83, s224_84, s224_85, s224_88, s224_89, s224_92, s224_93, s224_96, s224_99, s224_100, s224_101, s224_102, s224_105, s224_108, s224_109, s224_110, s224_113, s224_116, s224_117, s224_120, s224_123, s224_124, s224_127, s224_130, s224_131, s224_134, s224_135, s224_136, s224_137, s224_140, s224_141, s224_144, s224_146, s224_147, s224_148, s224_149, s224_150, s224_153, s224_156, s224_159, s224_160, s224_163, s224_165, s224_166, s224_167, s224_168, s224_169, s224_170, s224_171, s224_172, s224_175, s224_176, s224_177, s224_180, s224_183, e3, t214, eo, ek, r2]
                rw [s229_112]
                simp (config := {maxSteps := 1000000}) (disch := omega) only [↓reduceIte, Int32.reduceLT, Int32.reduceLE, Int32.reduceToNatClampNeg, Int32.reduceAdd, Int32.reduceSub, Int32.reduceMul, Nat.reduceLeDiff, zEL, zup_ne, zup_eq, zT0, zT1, zT2, if_true, if_false, zneq_f, true_and, and_true, false_and, and_false, zKL, eq_self, Nat.reduceEqDiff, zite0, ite_not, zaddr, zaddl, zputr, zsb1, zsb2, zsb0, zsbm, znm1, layM1, s229_113, s229_114, s229_117, s229_120, s229_123, s229_124, s229_125, s229_128, s229_131, s229_132, s229_133, s229_136, s229_139, m1, t225, hnow, k1]
            · refine ⟨S, Sm, ⟨.int (nI p), ?_⟩, ?_, h⟩
              · rw [s18_14]
                simp (config := {maxSteps := 1000000}) (disch := omega) only [↓reduceIte, Int32.reduceLT, Int32.reduceLE, Int32.reduceToNatClampNeg, Int32.reduceAdd, Int32.reduceSub, Int32.reduceMul, Nat.reduceLeDiff, zEL, zup_ne, zup_eq, zT0, zT1, zT2, if_true, if_false, zneq_f, true_and, and_true, false_and, and_false, zKL, eq_self, Nat.reduceEqDiff, zite0, ite_not, zaddr, zaddl, zputr, zsb1, zsb2, zsb0, zsbm, znm1, gM, g187, s18_15, s18_16, s18_19, s18_22, s18_23, s18_26, s18_27, s18_30, s18_31, s18_32, s18_35, s18_36, s18_39, s18_40, s18_43, s18_46, s18_47, s18_50, s18_51, s18_54, s18_57, s18_60, s18_61, s18_64, s18_65, s18_68, s18_104, s18_105, s18_106, s18_107, s18_110, s18_111, s18_114, s18_115, s18_118, s18_121, s18_122, s18_123, s18_124, s18_127, s18_128, s18_131, s18_132, s18_135, s18_138, s18_139, s18_140, s18_141, s18_144, s18_145, s18_148, s18_151, s18_154, s18_155, s18_156, s18_159, s18_162, s18_163, s18_164, s18_167, s18_170, s18_173, a1, e1, e2, e4, g7, hnow, f4, ek]
              · have k1 : zcall 224 [.ref 0, .int (nI k)] (zRm1 rd) Sm Lm = some (none, zRm1 rd, Sm, Lm) := by
                  unfold zcall
                  simp (config := {maxSteps := 1000000}) (disch := omega) only [↓reduceIte, Int32.reduceLT, Int32.reduceLE, Int32.reduceToNatClampNeg, Int32.reduceAdd, Int32.reduceSub, Int32.reduceMul, Nat.reduceLeDiff, zEL, zup_ne, zup_eq, zT0, zT1, zT2, if_true, if_false, zneq_f, true_and, and_true, false_and, and_false, zKL, eq_self, Nat.reduceEqDiff, zite0, ite_not, zaddr, zaddl, zputr, zsb1, zsb2, zsb0, zsbm, znm1, layM1, ze_224, s224_0, s224_1, s224_4, s224_7, s224_8, s224_9, s224_10, s224_11, s224_12, s224_15, s224_18, s224_19, s224_20, s224_23, s224_26, s224_27, s224_28, s224_64, s224_65, s224_66, s224_67, s224_70, s224_73, s224_74, s224_75, s224_76, s224_79, s224_82, s224_83, s224_84, s224_85, s224_88, s224_89, s224_92, s224_93, s224_96, s224_99, s224_100, s224_101, s224_102, s224_105, s224_108, s224_109, s224_110, s224_113, s224_116, s224_117, s224_120, s224_123, s224_124, s224_127, s224_130, s224_131, s224_134, s224_135, s224_136, s224_137, s224_140, s224_141, s224_144, s224_146, s224_147, s224_148, s224_149, s224_150, s224_153, s224_156, s224_159, s224_160, s224_163, s224_165, s224_166, s224_167, s224_168, s224_169, s224_170, s224_171, s224_172, s224_175, s224_176, s224_177, s224_180, s224_183, e3, t214, eo, ek]
                rw [s229_112]
                simp (config := {maxSteps := 1000000}) (disch := omega) only [↓reduceIte, Int32.reduceLT, Int32.reduceLE, Int32.reduceToNatClampNeg, Int32.reduceAdd, Int32.reduceSub, Int32.reduceMul, Nat.reduceLeDiff, zEL, zup_ne, zup_eq, zT0, zT1, zT2, if_true, if_false, zneq_f, true_and, and_true, false_and, and_false, zKL, eq_self, Nat.reduceEqDiff, zite0, ite_not, zaddr, zaddl, zputr, zsb1, zsb2, zsb0, zsbm, znm1, layM1, s229_113, s229_114, s229_117, s229_120, s229_123, s229_124, s229_125, s229_128, s229_131, s229_132, s229_133, s229_136, s229_139, m1, t225, hnow, k1]
        · refine ⟨S, Sm, ⟨.int (nI p), ?_⟩, ?_, h⟩
          · rw [s18_14]
            simp (config := {maxSteps := 1000000}) (disch := omega) only [↓reduceIte, Int32.reduceLT, Int32.reduceLE, Int32.reduceToNatClampNeg, Int32.reduceAdd, Int32.reduceSub, Int32.reduceMul, Nat.reduceLeDiff, zEL, zup_ne, zup_eq, zT0, zT1, zT2, if_true, if_false, zneq_f, true_and, and_true, false_and, and_false, zKL, eq_self, Nat.reduceEqDiff, zite0, ite_not, zaddr, zaddl, zputr, zsb1, zsb2, zsb0, zsbm, znm1, gM, g187, s18_15, s18_16, s18_19, s18_22, s18_23, s18_26, s18_27, s18_30, s18_31, s18_32, s18_35, s18_36, s18_39, s18_40, s18_43, s18_46, s18_47, s18_50, s18_51, s18_54, s18_57, s18_60, s18_61, s18_64, s18_65, s18_68, s18_104, s18_105, s18_106, s18_107, s18_110, s18_111, s18_114, s18_115, s18_118, s18_121, s18_122, s18_123, s18_124, s18_127, s18_128, s18_131, s18_132, s18_135, s18_138, s18_139, s18_140, s18_141, s18_144, s18_145, s18_148, s18_151, s18_154, s18_155, s18_156, s18_159, s18_162, s18_163, s18_164, s18_167, s18_170, s18_173, a1, e1, e2, g7, hnow]
          · rw [s229_112]
            simp (config := {maxSteps := 1000000}) (disch := omega) only [↓reduceIte, Int32.reduceLT, Int32.reduceLE, Int32.reduceToNatClampNeg, Int32.reduceAdd, Int32.reduceSub, Int32.reduceMul, Nat.reduceLeDiff, zEL, zup_ne, zup_eq, zT0, zT1, zT2, if_true, if_false, zneq_f, true_and, and_true, false_and, and_false, zKL, eq_self, Nat.reduceEqDiff, zite0, ite_not, zaddr, zaddl, zputr, zsb1, zsb2, zsb0, zsbm, znm1, layM1, s229_113, s229_114, s229_117, s229_120, s229_123, s229_124, s229_125, s229_128, s229_131, s229_132, s229_133, s229_136, s229_139, m1, t225, hnow]
      obtain ⟨S1, Sm1, ⟨j1, o1⟩, o2, o3⟩ := one
      obtain ⟨S', Sm', j', r1, r2, r3⟩ := ih (k + 1) (by omega) S1 Sm1 o3 j1
      exact ⟨S', Sm', j', o1.trans r1, o2.trans r2, r3⟩
  exact key (c 4) 0 (by omega) S Sm h (.retAddr 0)
theorem t18_187 {t : Nat} (hM : zMD c S Sm) (hG : zGD 187 c S (Sm 2)) (ht : S 187 7 = nI t) (ht9 : t ≤ 98) : ∃ S' Sm' : zS, zcall 18 [.ref 187] zRc S L = some (none, zRc, S', L) ∧ zcall 229 [.ref 0] (zRm1 rd) Sm Lm = some (none, zRm1 rd, Sm', Lm) ∧ zGI 187 c S Sm S' Sm' ∧ S' 187 7 = nI (t + 1) := by
  obtain ⟨S1, r1, r2, r3⟩ := t19_187 (L := L) hM hG
  have b0 : c 0 ≤ 8 := hM.1.2.1
  have b4 : c 4 ≤ 20 := hM.1.2.2.2.2.2.1
  have m4 : Sm 11 11 = nI (c 4) := hM.2.2.1.2.2.2.2.1
  have m0 : Sm 11 8 = nI (c 0) := hM.2.2.1.1
  have hM' := hM
  obtain ⟨-, -, -, -, -, -, -, -, -, hA, -⟩ := hM
  obtain ⟨Sm1, q1, q2, q3⟩ := t229a (c := c) (Sm := Sm) (Lm := Lm) (rd := rd) m4 b4 (fun k hk => by obtain ⟨-, -, ⟨p, hp, -, e3⟩, -⟩ := hA k hk; exact ⟨p, by omega, e3⟩) m0 b0
  have hGJ : zGJ 187 c S1 Sm1 S1 Sm1 := by
    refine ⟨zMD_fr hM' (fun j k hj => r2 j k (by omega)) (fun j k hj => q2 j k (by omega) (by omega)), ?_, fun _ _ _ => rfl, fun _ _ _ => rfl⟩
    have e2 : Sm1 2 = Sm 2 := funext fun k => q2 2 k (by decide) (by decide)
    have e1 : ∀ j, j < 200 → S1 j = S j := fun j hj => funext fun k => r2 j k (by omega)
    unfold zGD at hG ⊢
    rw [e2]
    simp (disch := omega) only [e1]
    exact hG
  have hD : zDK 187 c S1 Sm1 := fun q hq => by
    obtain ⟨a1, a2, a3⟩ := r3 q hq
    obtain ⟨a4, a5⟩ := q3 q hq
    have hb : ∀ b : Bool, zbi b = nI b.toNat := fun b => by cases b <;> rfl
    have hb1 : ∀ b : Bool, b.toNat ≤ 1 := fun b => by cases b <;> decide
    refine ⟨_, _, _, hb1 _, hb1 _, hb1 _, a1.trans (hb _), a2.trans (hb _), a3.trans (hb _), a4.trans (hb _), a5.trans ?_⟩
    rw [hb]
    cases zany (zth Sm 0 q) (c 4) <;> cases zany (zth Sm 1 q) (c 4) <;> rfl
  obtain ⟨S2, Sm2, j, s1, s2, s3⟩ := t18a_187 (L := L) (Lm := Lm) (rd := rd) hGJ hD
  have g7 : S2 187 7 = nI t := (s3.2.2.1 187 7 (by omega)).trans ((r2 187 7 (by omega)).trans ht)
  obtain ⟨S3, Sm3, tw, u1, u2, u3, u4, u5⟩ := t30_187 (L := L) (Lm := Lm) (rd := rd) s3 g7 (by omega)
  have e2 : Sm3 2 2 = nI t := u4.2.1.2.2.2.1.1.symm.trans u5
  refine ⟨zup S3 187 7 (nI (t + 1)), zup Sm3 2 2 (nI (t + 1)), ?_, ?_, ?_, zup_eq rfl rfl⟩
  · have k1 : zcall 18 [.ref 187] zRc S L = zgo 18 176 [.ref 187, .ref 64, .int (nI (c 4)), j] [] zRc S2 L := by
      rw [← s1]
      unfold zcall
      simp (config := {maxSteps := 1000000}) (disch := omega) only [↓reduceIte, Int32.reduceLT, Int32.reduceLE, Int32.reduceToNatClampNeg, Int32.reduceAdd, Int32.reduceSub, Int32.reduceMul, Nat.reduceLeDiff, zEL, zup_ne, zup_eq, zT0, zT1, zT2, if_true, if_false, zneq_f, true_and, and_true, false_and, and_false, zKL, eq_self, Nat.reduceEqDiff, zite0, ite_not, zaddr, zaddl, zputr, zsb1, zsb2, zsb0, zsbm, znm1, gM, g187, ze_18, s18_0, s18_1, s18_4, s18_5, s18_8, s18_11, s18_12, s18_13, r1]
      all_goals rfl
    rw [k1]
    cases tw with
    | true =>
      rw [if_pos rfl] at u2
      simp (config := {maxSteps := 1000000}) (disch := omega) only [↓reduceIte, Int32.reduceLT, Int32.reduceLE, Int32.reduceToNatClampNeg, Int32.reduceAdd, Int32.reduceSub, Int32.reduceMul, Nat.reduceLeDiff, zEL, zup_ne, zup_eq, zT0, zT1, zT2, if_true, if_false, zneq_f, true_and, and_true, false_and, and_false, zKL, eq_self, Nat.reduceEqDiff, zite0, ite_not, zaddr, zaddl, zputr, zsb1, zsb2, zsb0, zsbm, znm1, gM, g187, s18_176, s18_177, s18_178, s18_181, s18_184, s18_187, s18_188, s18_191, s18_192, s18_193, s18_196, s18_197, s18_198, s18_201, g7, u1, u2, u5]
    | false =>
      rw [if_neg (by decide)] at u2
      subst u2
      simp (config := {maxSteps := 1000000}) (disch := omega) only [↓reduceIte, Int32.reduceLT, Int32.reduceLE, Int32.reduceToNatClampNeg, Int32.reduceAdd, Int32.reduceSub, Int32.reduceMul, Nat.reduceLeDiff, zEL, zup_ne, zup_eq, zT0, zT1, zT2, if_true, if_false, zneq_f, true_and, and_true, false_and, and_false, zKL, eq_self, Nat.reduceEqDiff, zite0, ite_not, zaddr, zaddl, zputr, zsb1, zsb2, zsb0, zsbm, znm1, gM, g187, s18_176, s18_177, s18_178, s18_181, s18_184, s18_187, s18_188, s18_191, s18_192, s18_193, s18_196, s18_197, s18_198, s18_201, g7, u1, Bool.false_eq_true]
  · have k1 : zcall 229 [.ref 0] (zRm1 rd) Sm Lm = zgo 229 190 [.ref 0, .int (nI (c 1))] [] (zRm1 rd) Sm3 Lm := by
      rw [← u3, ← s2, ← q1]
      rfl
    rw [k1]
    simp (config := {maxSteps := 1000000}) (disch := omega) only [↓reduceIte, Int32.reduceLT, Int32.reduceLE, Int32.reduceToNatClampNeg, Int32.reduceAdd, Int32.reduceSub, Int32.reduceMul, Nat.reduceLeDiff, zEL, zup_ne, zup_eq, zT0, zT1, zT2, if_true, if_false, zneq_f, true_and, and_true, false_and, and_false, zKL, eq_self, Nat.reduceEqDiff, zite0, ite_not, zaddr, zaddl, zputr, zsb1, zsb2, zsb0, zsbm, znm1, layM1, s229_190, s229_191, s229_194, s229_195, s229_196, s229_197, s229_198, s229_199, s229_200, e2]
  · have z1 : zGI 187 c S Sm S3 Sm3 := ⟨u4.1, u4.2.1, fun j k hj => (u4.2.2.1 j k (by omega)).trans (r2 j k (by omega)), fun j k h2 h5 h6 => (u4.2.2.2 j k h2).trans (q2 j k h5 h6)⟩
    exact gi_passed_187 z1 ⟨t + 1, by omega, rfl⟩
theorem t17_187 (hM : zMD c S Sm) (hG : zGD 187 c S (Sm 2)) : ∃ n : Nat, n ≤ 99 ∧ ∃ S' Sm' : zS, zcall 17 [.ref 187] zRc S L = some (some (.int (nI n)), zRc, S', L) ∧ zcall 231 [.ref 0] (zRm1 rd) Sm Lm = some (some (.int (nI n)), zRm1 rd, Sm', Lm) ∧ zGI 187 c S Sm S' Sm' := by
  have key : ∀ d t many, t + d = 99 → many ≤ t → ∀ X Xm, zGI 187 c S Sm X Xm → X 187 7 = nI t → ∃ n : Nat, n ≤ 99 ∧ ∃ S' Sm' : zS, zgo 17 2 [.ref 187, .int (nI many)] [] zRc X L = some (some (.int (nI n)), zRc, S', L) ∧ zgo 231 2 [.ref 0, .int (nI many)] [] (zRm1 rd) Xm Lm = some (some (.int (nI n)), zRm1 rd, Sm', Lm) ∧ zGI 187 c S Sm S' Sm' := by
    intro d
    induction d with
    | zero =>
      intro t many hd hm X Xm h ht
      obtain ⟨v, hv, k1, k2, k3⟩ := t14_187 (L := L) (Lm := Lm) (rd := rd) h.1 h.2.1
      have e2 : Xm 2 2 = nI t := h.2.1.2.2.2.1.1.symm.trans ht
      have hv1 : v = 1 := by
        rcases hv with hv | hv
        · have := k3 hv t (by omega) e2
          omega
        · exact hv
      subst hv1
      refine ⟨many, by omega, X, Xm, ?_, ?_, h⟩
      · rw [s17_2]
        simp (config := {maxSteps := 1000000}) (disch := omega) only [↓reduceIte, Int32.reduceLT, Int32.reduceLE, Int32.reduceToNatClampNeg, Int32.reduceAdd, Int32.reduceSub, Int32.reduceMul, Nat.reduceLeDiff, zEL, zup_ne, zup_eq, zT0, zT1, zT2, if_true, if_false, zneq_f, true_and, and_true, false_and, and_false, zKL, eq_self, Nat.reduceEqDiff, zite0, ite_not, zaddr, zaddl, zputr, zsb1, zsb2, zsb0, zsbm, znm1, g187, s17_3, s17_5, s17_8, s17_9, s17_12, s17_15, s17_16, s17_19, s17_22, s17_25, s17_26, k1]
        repeat' split
        all_goals rfl
      · rw [s231_2]
        simp (config := {maxSteps := 1000000}) (disch := omega) only [↓reduceIte, Int32.reduceLT, Int32.reduceLE, Int32.reduceToNatClampNeg, Int32.reduceAdd, Int32.reduceSub, Int32.reduceMul, Nat.reduceLeDiff, zEL, zup_ne, zup_eq, zT0, zT1, zT2, if_true, if_false, zneq_f, true_and, and_true, false_and, and_false, zKL, eq_self, Nat.reduceEqDiff, zite0, ite_not, zaddr, zaddl, zputr, zsb1, zsb2, zsb0, zsbm, znm1, layM1, s231_3, s231_6, s231_9, s231_10, s231_13, s231_16, s231_19, s231_20, k2]
    | succ d ih =>
      intro t many hd hm X Xm h ht
      obtain ⟨v, hv, k1, k2, k3⟩ := t14_187 (L := L) (Lm := Lm) (rd := rd) h.1 h.2.1
      have hm99 : ((99 : Int32) ≤ nI many) = False := eq_false (by rw [show (99 : Int32) = nI 99 from rfl, znI_le (by omega) (by omega)]; omega)
      rcases hv with rfl | rfl
      · obtain ⟨X1, Xm1, r1, r2, r3, r4⟩ := t18_187 (L := L) (Lm := Lm) (rd := rd) h.1 h.2.1 ht (by omega)
        have h1 : zGI 187 c S Sm X1 Xm1 := ⟨r3.1, r3.2.1, fun j k hj => (r3.2.2.1 j k hj).trans (h.2.2.1 j k hj), fun j k h2 h5 h6 => (r3.2.2.2 j k h2 h5 h6).trans (h.2.2.2 j k h2 h5 h6)⟩
        obtain ⟨n, hn, S', Sm', q1, q2, q3⟩ := ih (t + 1) (many + 1) (by omega) (by omega) X1 Xm1 h1 r4
        refine ⟨n, hn, S', Sm', ?_, ?_, q3⟩
        · rw [← q1, s17_2]
          simp (config := {maxSteps := 1000000}) (disch := omega) only [↓reduceIte, Int32.reduceLT, Int32.reduceLE, Int32.reduceToNatClampNeg, Int32.reduceAdd, Int32.reduceSub, Int32.reduceMul, Nat.reduceLeDiff, zEL, zup_ne, zup_eq, zT0, zT1, zT2, if_true, if_false, zneq_f, true_and, and_true, false_and, and_false, zKL, eq_self, Nat.reduceEqDiff, zite0, ite_not, zaddr, zaddl, zputr, zsb1, zsb2, zsb0, zsbm, znm1, g187, s17_3, s17_5, s17_8, s17_9, s17_12, s17_15, s17_16, s17_19, s17_22, s17_25, s17_26, k1, hm99, r1]
        · rw [← q2, s231_2]
          simp (config := {maxSteps := 1000000}) (disch := omega) only [↓reduceIte, Int32.reduceLT, Int32.reduceLE, Int32.reduceToNatClampNeg, Int32.reduceAdd, Int32.reduceSub, Int32.reduceMul, Nat.reduceLeDiff, zEL, zup_ne, zup_eq, zT0, zT1, zT2, if_true, if_false, zneq_f, true_and, and_true, false_and, and_false, zKL, eq_self, Nat.reduceEqDiff, zite0, ite_not, zaddr, zaddl, zputr, zsb1, zsb2, zsb0, zsbm, znm1, layM1, s231_3, s231_6, s231_9, s231_10, s231_13, s231_16, s231_19, s231_20, k2, r2]
      · refine ⟨many, by omega, X, Xm, ?_, ?_, h⟩
        · rw [s17_2]
          simp (config := {maxSteps := 1000000}) (disch := omega) only [↓reduceIte, Int32.reduceLT, Int32.reduceLE, Int32.reduceToNatClampNeg, Int32.reduceAdd, Int32.reduceSub, Int32.reduceMul, Nat.reduceLeDiff, zEL, zup_ne, zup_eq, zT0, zT1, zT2, if_true, if_false, zneq_f, true_and, and_true, false_and, and_false, zKL, eq_self, Nat.reduceEqDiff, zite0, ite_not, zaddr, zaddl, zputr, zsb1, zsb2, zsb0, zsbm, znm1, g187, s17_3, s17_5, s17_8, s17_9, s17_12, s17_15, s17_16, s17_19, s17_22, s17_25, s17_26, k1, hm99]
        · rw [s231_2]
          simp (config := {maxSteps := 1000000}) (disch := omega) only [↓reduceIte, Int32.reduceLT, Int32.reduceLE, Int32.reduceToNatClampNeg, Int32.reduceAdd, Int32.reduceSub, Int32.reduceMul, Nat.reduceLeDiff, zEL, zup_ne, zup_eq, zT0, zT1, zT2, if_true, if_false, zneq_f, true_and, and_true, false_and, and_false, zKL, eq_self, Nat.reduceEqDiff, zite0, ite_not, zaddr, zaddl, zputr, zsb1, zsb2, zsb0, zsbm, znm1, layM1, s231_3, s231_6, s231_9, s231_10, s231_13, s231_16, s231_19, s231_20, k2]
  obtain ⟨g7, t, ht, et⟩ := hG.2.2.2.1
  obtain ⟨n, hn, S', Sm', q1, q2, q3⟩ := key (99 - t) t 0 (by omega) (by omega) S Sm ⟨hM, hG, fun _ _ _ => rfl, fun _ _ _ _ _ => rfl⟩ (g7.trans et)
  refine ⟨n, hn, S', Sm', ?_, ?_, q3⟩
  · unfold zcall
    simp (config := {maxSteps := 1000000}) (disch := omega) only [↓reduceIte, Int32.reduceLT, Int32.reduceLE, Int32.reduceToNatClampNeg, Int32.reduceAdd, Int32.reduceSub, Int32.reduceMul, Nat.reduceLeDiff, zEL, zup_ne, zup_eq, zT0, zT1, zT2, if_true, if_false, zneq_f, true_and, and_true, false_and, and_false, zKL, eq_self, Nat.reduceEqDiff, zite0, ite_not, zaddr, zaddl, zputr, zsb1, zsb2, zsb0, zsbm, znm1, ze_17, s17_0, s17_1]
    exact q1
  · unfold zcall
    simp (config := {maxSteps := 1000000}) (disch := omega) only [↓reduceIte, Int32.reduceLT, Int32.reduceLE, Int32.reduceToNatClampNeg, Int32.reduceAdd, Int32.reduceSub, Int32.reduceMul, Nat.reduceLeDiff, zEL, zup_ne, zup_eq, zT0, zT1, zT2, if_true, if_false, zneq_f, true_and, and_true, false_and, and_false, zKL, eq_self, Nat.reduceEqDiff, zite0, ite_not, zaddr, zaddl, zputr, zsb1, zsb2, zsb0, zsbm, znm1, ze_231, s231_0, s231_1]
    exact q2
end ZGB
