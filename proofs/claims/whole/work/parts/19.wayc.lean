/-! prints: the reference; ways, who as calls -/
section ZWC
variable {c : Nat → Nat} {S Sm : zS} {L Lm : zL} {rd : Value}
/-- what of the reference's state the prints' work leaves -/
def zam (S X : zS) : Prop := ∀ j k, j ≠ 8 → j ≠ 9 → X j k = S j k
theorem zam_8 {X : zS} {j : Nat} {v : Int32} (h : zam S X) : zam S (zup X 8 j v) := fun a b h1 h2 => by rw [zup_ne (by omega)]; exact h a b h1 h2
theorem zam_9 {X : zS} {j : Nat} {v : Int32} (h : zam S X) : zam S (zup X 9 j v) := fun a b h1 h2 => by rw [zup_ne (by omega)]; exact h a b h1 h2
theorem z256t {s : Nat} (h : s < 256) : ((256 : Int32) ≤ nI s) = False := eq_false (by rw [show (256 : Int32) = nI 256 from rfl, znI_le (by omega) (by omega)]; omega)
theorem z256e : ((256 : Int32) ≤ nI 256) = True := eq_true (by decide)
/-- one set, one print -/
theorem t279a {n k d pr own s : Nat} {pv ov : Int32} {mb : Nat → Bool} {f : Nat → Nat} (hn : n ≤ 8) (hs : s < 256) (m0 : Sm 11 8 = nI n) (hmb : ∀ X, zam Sm X → ∀ p, p < n → zcall 278 [.ref 0, .int (nI k), .int (nI p), .int (nI d)] (zRm1 rd) X Lm = some (some (.int (if mb p = true then 1 else 0)), zRm1 rd, X, Lm)) (hk : (nI k = pv) = (k = pr)) (hp : ∀ p, p < n → (nI p = ov) = (p = own)) (X : zS) (hX : zam Sm X) (h8 : ∀ j, j < 256 → X 8 j = nI (f j)) : ∀ q p, p + q = n → zgo 279 66 [.ref 0, .int (nI d), .int pv, .int ov, .int (nI k), .int (nI s), .int (nI (zsp (fun p => mb p && (!decide (k = pr) || decide (p = own))) f s p)), .int (nI p)] [] (zRm1 rd) X Lm = zgo 279 142 [.ref 0, .int (nI d), .int pv, .int ov, .int (nI k), .int (nI s), .int (nI (zsp (fun p => mb p && (!decide (k = pr) || decide (p = own))) f s n)), .int (nI n)] [] (zRm1 rd) X Lm := by
  have m0' : X 11 8 = nI n := (hX _ _ (by decide) (by decide)).trans m0
  obtain ⟨g, hg⟩ : ∃ g : Nat → Bool, g = fun p => mb p && (!decide (k = pr) || decide (p = own)) := ⟨_, rfl⟩
  have hgp : ∀ p, g p = (mb p && (!decide (k = pr) || decide (p = own))) := fun p => by rw [hg]
  rw [← hg]
  intro q
  induction q with
  | zero =>
    intro p hq
    have e : p = n := by omega
    subst e
    rw [s279_66]
    simp (config := {maxSteps := 1000000}) (disch := omega) only [↓reduceIte, Int32.reduceLT, Int32.reduceLE, Int32.reduceToNatClampNeg, Int32.reduceAdd, Int32.reduceSub, Int32.reduceMul, Nat.reduceLeDiff, zEL, zup_ne, zup_eq, zT0, zT1, zT2, if_true, if_false, layM1, s279_68, s279_69, s279_72, s279_75, s279_78, s279_80, s279_82, s279_84, s279_85, s279_86, s279_87, s279_88, s279_91, s279_92, s279_94, s279_96, s279_97, s279_100, s279_103, s279_105, s279_106, s279_109, s279_111, s279_112, s279_115, s279_116, s279_119, s279_121, s279_122, s279_124, s279_125, s279_126, s279_127, s279_128, s279_129, s279_132, s279_133, s279_134, s279_136, s279_139, m0']
  | succ q ih =>
    intro p hq
    have zb := zbitK s hs p (by omega)
    have km := hmb X hX p (by omega)
    have i1 := ih (p + 1) (by omega)
    have hp1 := hp p (by omega)
    rw [zsp_s] at i1
    have za : ∀ x y : Nat, nI x + nI y = nI (x + y) := fun x y => zadd_nI
    rw [← i1, s279_66]
    rcases (show s / 2 ^ p % 2 = 0 ∨ s / 2 ^ p % 2 = 1 by omega) with hc | hc
    · rw [if_neg (fun h => by have := h.1; omega), Nat.add_zero]
      rw [hc] at zb
      simp (config := {maxSteps := 1000000}) (disch := omega) only [↓reduceIte, Int32.reduceLT, Int32.reduceLE, Int32.reduceToNatClampNeg, Int32.reduceAdd, Int32.reduceSub, Int32.reduceMul, Nat.reduceLeDiff, zEL, zup_ne, zup_eq, zT0, zT1, zT2, if_true, if_false, zneq_f, true_and, and_true, false_and, and_false, zKL, eq_self, Nat.reduceEqDiff, zite0, ite_not, zaddr, zaddl, zputr, zsb1, zsb2, zsb0, zsbm, znm1, layM1, s279_68, s279_69, s279_72, s279_75, s279_78, s279_80, s279_82, s279_84, s279_85, s279_86, s279_87, s279_88, s279_91, s279_92, s279_94, s279_96, s279_97, s279_100, s279_103, s279_105, s279_106, s279_109, s279_111, s279_112, s279_115, s279_116, s279_119, s279_121, s279_122, s279_124, s279_125, s279_126, s279_127, s279_128, s279_129, s279_132, s279_133, s279_134, s279_136, s279_139, m0', zb, Int32.add_zero]
    · rw [hc] at zb
      cases hm : mb p
      · rw [if_neg (fun h => by rw [hgp, hm, Bool.false_and] at h; exact absurd h.2 (by decide)), Nat.add_zero]
        rw [hm] at km
        simp (config := {maxSteps := 1000000}) (disch := omega) only [↓reduceIte, Int32.reduceLT, Int32.reduceLE, Int32.reduceToNatClampNeg, Int32.reduceAdd, Int32.reduceSub, Int32.reduceMul, Nat.reduceLeDiff, zEL, zup_ne, zup_eq, zT0, zT1, zT2, if_true, if_false, zneq_f, true_and, and_true, false_and, and_false, zKL, eq_self, Nat.reduceEqDiff, zite0, ite_not, zaddr, zaddl, zputr, zsb1, zsb2, zsb0, zsbm, znm1, layM1, s279_68, s279_69, s279_72, s279_75, s279_78, s279_80, s279_82, s279_84, s279_85, s279_86, s279_87, s279_88, s279_91, s279_92, s279_94, s279_96, s279_97, s279_100, s279_103, s279_105, s279_106, s279_109, s279_111, s279_112, s279_115, s279_116, s279_119, s279_121, s279_122, s279_124, s279_125, s279_126, s279_127, s279_128, s279_129, s279_132, s279_133, s279_134, s279_136, s279_139, m0', zb, km, Int32.add_zero, Bool.false_eq_true]
      · rw [hm] at km
        obtain ⟨h1, h2⟩ := zw1 s hs p (by omega) hc
        have zn := zwnd s hs p (by omega) hc
        have hsp : s - 2 ^ p < 256 := Nat.lt_of_le_of_lt (Nat.sub_le _ _) hs
        have h8p := h8 (s - 2 ^ p) hsp
        have yes : g p = true → zgo 279 115 [.ref 0, .int (nI d), .int pv, .int ov, .int (nI k), .int (nI s), .int (nI (zsp g f s p)), .int (nI p)] [.int (nI (zsp g f s p))] (zRm1 rd) X Lm = zgo 279 66 [.ref 0, .int (nI d), .int pv, .int ov, .int (nI k), .int (nI s), .int (nI (zsp g f s p + if s / 2 ^ p % 2 = 1 ∧ g p = true then f (s - 2 ^ p) else 0)), .int (nI (p + 1))] [] (zRm1 rd) X Lm := fun hgt => by
          rw [if_pos ⟨hc, hgt⟩]
          simp (config := {maxSteps := 1000000}) (disch := omega) only [↓reduceIte, Int32.reduceLT, Int32.reduceLE, Int32.reduceToNatClampNeg, Int32.reduceAdd, Int32.reduceSub, Int32.reduceMul, Nat.reduceLeDiff, zEL, zup_ne, zup_eq, zT0, zT1, zT2, if_true, if_false, zneq_f, true_and, and_true, false_and, and_false, zKL, eq_self, Nat.reduceEqDiff, zite0, ite_not, zaddr, zaddl, zputr, zsb1, zsb2, zsb0, zsbm, znm1, layM1, s279_115, s279_116, s279_119, s279_121, s279_122, s279_124, s279_125, s279_126, s279_127, s279_128, s279_129, s279_132, s279_133, s279_134, s279_136, s279_139, zn, h8p, za]
        by_cases h3 : k = pr
        · have hk1 : (nI k = pv) = True := hk.trans (eq_true h3)
          by_cases h4 : p = own
          · have hp1 : (nI p = ov) = True := hp1.trans (eq_true h4)
            rw [← yes (by rw [hgp, hm, decide_eq_true h4, Bool.or_true]; rfl)]
            simp (config := {maxSteps := 1000000}) (disch := omega) only [↓reduceIte, Int32.reduceLT, Int32.reduceLE, Int32.reduceToNatClampNeg, Int32.reduceAdd, Int32.reduceSub, Int32.reduceMul, Nat.reduceLeDiff, zEL, zup_ne, zup_eq, zT0, zT1, zT2, if_true, if_false, zneq_f, true_and, and_true, false_and, and_false, zKL, eq_self, Nat.reduceEqDiff, zite0, ite_not, zaddr, zaddl, zputr, zsb1, zsb2, zsb0, zsbm, znm1, layM1, s279_68, s279_69, s279_72, s279_75, s279_78, s279_80, s279_82, s279_84, s279_85, s279_86, s279_87, s279_88, s279_91, s279_92, s279_94, s279_96, s279_97, s279_100, s279_103, s279_105, s279_106, s279_109, s279_111, s279_112, m0', zb, km, hk1, hp1]
          · have hp1 : (nI p = ov) = False := hp1.trans (eq_false h4)
            rw [if_neg (fun h => by rw [hgp, decide_eq_true h3, decide_eq_false h4] at h; exact absurd h.2 (by rw [Bool.not_true, Bool.false_or, Bool.and_false]; decide)), Nat.add_zero]
            simp (config := {maxSteps := 1000000}) (disch := omega) only [↓reduceIte, Int32.reduceLT, Int32.reduceLE, Int32.reduceToNatClampNeg, Int32.reduceAdd, Int32.reduceSub, Int32.reduceMul, Nat.reduceLeDiff, zEL, zup_ne, zup_eq, zT0, zT1, zT2, if_true, if_false, zneq_f, true_and, and_true, false_and, and_false, zKL, eq_self, Nat.reduceEqDiff, zite0, ite_not, zaddr, zaddl, zputr, zsb1, zsb2, zsb0, zsbm, znm1, layM1, s279_68, s279_69, s279_72, s279_75, s279_78, s279_80, s279_82, s279_84, s279_85, s279_86, s279_87, s279_88, s279_91, s279_92, s279_94, s279_96, s279_97, s279_100, s279_103, s279_105, s279_106, s279_109, s279_111, s279_112, s279_115, s279_116, s279_119, s279_121, s279_122, s279_124, s279_125, s279_126, s279_127, s279_128, s279_129, s279_132, s279_133, s279_134, s279_136, s279_139, m0', zb, km, hk1, hp1, Int32.add_zero]
        · have hk1 : (nI k = pv) = False := hk.trans (eq_false h3)
          rw [← yes (by rw [hgp, hm, decide_eq_false h3]; rfl)]
          simp (config := {maxSteps := 1000000}) (disch := omega) only [↓reduceIte, Int32.reduceLT, Int32.reduceLE, Int32.reduceToNatClampNeg, Int32.reduceAdd, Int32.reduceSub, Int32.reduceMul, Nat.reduceLeDiff, zEL, zup_ne, zup_eq, zT0, zT1, zT2, if_true, if_false, zneq_f, true_and, and_true, false_and, and_false, zKL, eq_self, Nat.reduceEqDiff, zite0, ite_not, zaddr, zaddl, zputr, zsb1, zsb2, zsb0, zsbm, znm1, layM1, s279_68, s279_69, s279_72, s279_75, s279_78, s279_80, s279_82, s279_84, s279_85, s279_86, s279_87, s279_88, s279_91, s279_92, s279_94, s279_96, s279_97, s279_100, s279_103, s279_105, s279_106, s279_109, s279_111, s279_112, m0', zb, km, hk1]
/-- one print -/
theorem t279b {n k d pr own : Nat} {pv ov : Int32} {mb : Nat → Bool} {f : Nat → Nat} (hn : n ≤ 8) (m0 : Sm 11 8 = nI n) (hmb : ∀ X, zam Sm X → ∀ p, p < n → zcall 278 [.ref 0, .int (nI k), .int (nI p), .int (nI d)] (zRm1 rd) X Lm = some (some (.int (if mb p = true then 1 else 0)), zRm1 rd, X, Lm)) (hk : (nI k = pv) = (k = pr)) (hp : ∀ p, p < n → (nI p = ov) = (p = own)) : ∀ X, zam Sm X → (∀ j, j < 256 → X 8 j = nI (f j)) → ∀ v6 v7 : Value, ∃ X' v6' v7', zam Sm X' ∧ (∀ j, j < 256 → X' 8 j = nI (zsp (fun p => mb p && (!decide (k = pr) || decide (p = own))) f j n)) ∧ zgo 279 52 [.ref 0, .int (nI d), .int pv, .int ov, .int (nI k), .int 0, v6, v7] [] (zRm1 rd) X Lm = zgo 279 188 [.ref 0, .int (nI d), .int pv, .int ov, .int (nI k), .int (nI 256), v6', v7'] [] (zRm1 rd) X' Lm := by
  obtain ⟨g, hg⟩ : ∃ g : Nat → Bool, g = fun p => mb p && (!decide (k = pr) || decide (p = own)) := ⟨_, rfl⟩
  have hA := fun s hs X hX h8 => t279a (Lm := Lm) (rd := rd) (n := n) (k := k) (d := d) (pr := pr) (own := own) (s := s) (pv := pv) (ov := ov) (mb := mb) (f := f) hn hs m0 hmb hk hp X hX h8 n 0 (Nat.zero_add _)
  rw [← hg] at hA ⊢
  -- copied back
  have key3 : ∀ q s, s + q = 256 → ∀ X, zam Sm X → (∀ j, j < 256 → X 9 j = nI (zsp g f j n)) → (∀ j, j < s → X 8 j = nI (zsp g f j n)) → ∀ v6 v7 : Value, ∃ X', zam Sm X' ∧ (∀ j, j < 256 → X' 8 j = nI (zsp g f j n)) ∧ zgo 279 160 [.ref 0, .int (nI d), .int pv, .int ov, .int (nI k), .int (nI s), v6, v7] [] (zRm1 rd) X Lm = zgo 279 188 [.ref 0, .int (nI d), .int pv, .int ov, .int (nI k), .int (nI 256), v6, v7] [] (zRm1 rd) X' Lm := by
    intro q
    induction q with
    | zero =>
      intro s hs X hX h9 h8 v6 v7
      have e : s = 256 := by omega
      subst e
      refine ⟨X, hX, h8, ?_⟩
      have e := z256e
      rw [s279_160]
      simp (config := {maxSteps := 1000000}) (disch := omega) only [↓reduceIte, Int32.reduceLT, Int32.reduceLE, Int32.reduceToNatClampNeg, Int32.reduceAdd, Int32.reduceSub, Int32.reduceMul, Nat.reduceLeDiff, zEL, zup_ne, zup_eq, zT0, zT1, zT2, if_true, if_false, layM1, s279_162, s279_165, s279_168, s279_169, s279_172, s279_174, s279_175, s279_178, s279_180, s279_181, s279_182, s279_185, e]
    | succ q ih =>
      intro s hs X hX h9 h8 v6 v7
      have e := z256t (show s < 256 by omega)
      have h9s := h9 s (by omega)
      obtain ⟨X', x1, x2, x3⟩ := ih (s + 1) (by omega) (zup X 8 s (nI (zsp g f s n))) (zam_8 hX) (fun j hj => by rw [zup_ne (by omega)]; exact h9 j hj) (fun j hj => by
        by_cases e : j = s
        · rw [zup_eq rfl e, e]
        · rw [zup_ne (by omega)]; exact h8 j (by omega)) v6 v7
      refine ⟨X', x1, x2, ?_⟩
      rw [← x3, s279_160]
      simp (config := {maxSteps := 1000000}) (disch := omega) only [↓reduceIte, Int32.reduceLT, Int32.reduceLE, Int32.reduceToNatClampNeg, Int32.reduceAdd, Int32.reduceSub, Int32.reduceMul, Nat.reduceLeDiff, zEL, zup_ne, zup_eq, zT0, zT1, zT2, if_true, if_false, layM1, s279_162, s279_165, s279_168, s279_169, s279_172, s279_174, s279_175, s279_178, s279_180, s279_181, s279_182, s279_185, e, h9s]
  -- the sets
  have key1 : ∀ q s, s + q = 256 → ∀ X, zam Sm X → (∀ j, j < 256 → X 8 j = nI (f j)) → (∀ j, j < s → X 9 j = nI (zsp g f j n)) → ∀ v6 v7 : Value, ∃ X' v6' v7', zam Sm X' ∧ (∀ j, j < 256 → X' 9 j = nI (zsp g f j n)) ∧ zgo 279 52 [.ref 0, .int (nI d), .int pv, .int ov, .int (nI k), .int (nI s), v6, v7] [] (zRm1 rd) X Lm = zgo 279 160 [.ref 0, .int (nI d), .int pv, .int ov, .int (nI k), .int 0, v6', v7'] [] (zRm1 rd) X' Lm := by
    intro q
    induction q with
    | zero =>
      intro s hs X hX h8 h9 v6 v7
      have e : s = 256 := by omega
      subst e
      refine ⟨X, v6, v7, hX, h9, ?_⟩
      have e := z256e
      rw [s279_52]
      simp (config := {maxSteps := 1000000}) (disch := omega) only [↓reduceIte, Int32.reduceLT, Int32.reduceLE, Int32.reduceToNatClampNeg, Int32.reduceAdd, Int32.reduceSub, Int32.reduceMul, Nat.reduceLeDiff, zEL, zup_ne, zup_eq, zT0, zT1, zT2, if_true, if_false, layM1, s279_54, s279_57, s279_157, s279_158, e]
    | succ q ih =>
      intro s hs X hX h8 h9 v6 v7
      have e := z256t (show s < 256 by omega)
      have hA1 := hA s (by omega) X hX h8
      obtain ⟨X', w6, w7, x1, x2, x3⟩ := ih (s + 1) (by omega) (zup X 9 s (nI (zsp g f s n))) (zam_9 hX) (fun j hj => by rw [zup_ne (by omega)]; exact h8 j hj) (fun j hj => by
        by_cases e : j = s
        · rw [zup_eq rfl e, e]
        · rw [zup_ne (by omega)]; exact h9 j (by omega)) (.int (nI (zsp g f s n))) (.int (nI n))
      refine ⟨X', w6, w7, x1, x2, ?_⟩
      have hA1 : zgo 279 66 [.ref 0, .int (nI d), .int pv, .int ov, .int (nI k), .int (nI s), .int 0, .int 0] [] (zRm1 rd) X Lm = _ := hA1
      rw [← x3, s279_52]
      simp (config := {maxSteps := 1000000}) (disch := omega) only [↓reduceIte, Int32.reduceLT, Int32.reduceLE, Int32.reduceToNatClampNeg, Int32.reduceAdd, Int32.reduceSub, Int32.reduceMul, Nat.reduceLeDiff, zEL, zup_ne, zup_eq, zT0, zT1, zT2, if_true, if_false, layM1, s279_54, s279_57, s279_60, s279_61, s279_63, s279_64, e, hA1, s279_142, s279_143, s279_146, s279_148, s279_150, s279_151, s279_154]
  intro X hX h8 v6 v7
  obtain ⟨X1, w6, w7, x1, x2, x3⟩ := key1 256 0 (by omega) X hX h8 (fun j hj => absurd hj (Nat.not_lt_zero j)) v6 v7
  obtain ⟨X2, y1, y2, y3⟩ := key3 256 0 (by omega) X1 x1 x2 (fun j hj => absurd hj (Nat.not_lt_zero j)) w6 w7
  have x3 : zgo 279 52 [.ref 0, .int (nI d), .int pv, .int ov, .int (nI k), .int 0, v6, v7] [] (zRm1 rd) X Lm = _ := x3
  have y3 : zgo 279 160 [.ref 0, .int (nI d), .int pv, .int ov, .int (nI k), .int 0, w6, w7] [] (zRm1 rd) X1 Lm = _ := y3
  exact ⟨X2, w6, w7, y1, y2, x3.trans y3⟩
theorem t279 {n pn d pr own : Nat} {pv ov : Int32} {mb : Nat → Nat → Bool} (hn : n ≤ 8) (hpn : pn ≤ 6) (m0 : Sm 11 8 = nI n) (m3 : Sm 11 10 = nI pn) (hmb : ∀ k, k < pn → ∀ X, zam Sm X → ∀ p, p < n → zcall 278 [.ref 0, .int (nI k), .int (nI p), .int (nI d)] (zRm1 rd) X Lm = some (some (.int (if mb k p = true then 1 else 0)), zRm1 rd, X, Lm)) (hk : ∀ k, k < pn → (nI k = pv) = (k = pr)) (hp : ∀ p, p < n → (nI p = ov) = (p = own)) (Y : zS) (hY : zam Sm Y) : ∃ X', zam Sm X' ∧ zcall 279 [.ref 0, .int (nI d), .int pv, .int ov] (zRm1 rd) Y Lm = some (some (.int (nI (zwsum (zsm mb n pr own pn) 256))), zRm1 rd, X', Lm) := by
  have keyA : ∀ q s, s + q = 256 → ∀ X, zam Sm X → (∀ j, j < s → X 8 j = nI (zsm mb n pr own 0 j)) → ∃ X', zam Sm X' ∧ (∀ j, j < 256 → X' 8 j = nI (zsm mb n pr own 0 j)) ∧ zgo 279 3 [.ref 0, .int (nI d), .int pv, .int ov, .int (nI s), .retAddr 0, .retAddr 0, .retAddr 0] [] (zRm1 rd) X Lm = zgo 279 34 [.ref 0, .int (nI d), .int pv, .int ov, .int (nI 256), .retAddr 0, .retAddr 0, .retAddr 0] [] (zRm1 rd) X' Lm := by
    intro q
    induction q with
    | zero =>
      intro s hs X hX h8
      have e : s = 256 := by omega
      subst e
      refine ⟨X, hX, h8, ?_⟩
      have e := z256e
      rw [s279_3]
      simp (config := {maxSteps := 1000000}) (disch := omega) only [↓reduceIte, Int32.reduceLT, Int32.reduceLE, Int32.reduceToNatClampNeg, Int32.reduceAdd, Int32.reduceSub, Int32.reduceMul, Nat.reduceLeDiff, zEL, zup_ne, zup_eq, zT0, zT1, zT2, if_true, if_false, layM1, s279_5, s279_8, s279_11, s279_12, s279_15, s279_17, s279_19, s279_22, s279_23, s279_26, s279_27, s279_28, s279_31, e]
    | succ q ih =>
      intro s hs X hX h8
      have e := z256t (show s < 256 by omega)
      obtain ⟨X', x1, x2, x3⟩ := ih (s + 1) (by omega) (zup X 8 s (nI (zsm mb n pr own 0 s))) (zam_8 hX) (fun j hj => by
        by_cases e : j = s
        · rw [zup_eq rfl e, e]
        · rw [zup_ne (by omega)]; exact h8 j (by omega))
      refine ⟨X', x1, x2, ?_⟩
      rw [← x3, s279_3]
      by_cases h0 : s = 0
      · have e0 : (nI s = 0) = True := eq_true (by rw [h0]; rfl)
        have e1 : nI (zsm mb n pr own 0 s) = 1 := by rw [h0]; rfl
        simp (config := {maxSteps := 1000000}) (disch := omega) only [↓reduceIte, Int32.reduceLT, Int32.reduceLE, Int32.reduceToNatClampNeg, Int32.reduceAdd, Int32.reduceSub, Int32.reduceMul, Nat.reduceLeDiff, zEL, zup_ne, zup_eq, zT0, zT1, zT2, if_true, if_false, layM1, s279_5, s279_8, s279_11, s279_12, s279_15, s279_17, s279_19, s279_22, s279_23, s279_26, s279_27, s279_28, s279_31, e, e0, e1]
      · have e0 : (nI s = 0) = False := eq_false (fun h => h0 ((znI_inj (b := 0) (by omega) (by omega)).mp h))
        have e1 : nI (zsm mb n pr own 0 s) = 0 := by
          show nI (if s = 0 then 1 else 0) = 0
          rw [if_neg h0]
          rfl
        simp (config := {maxSteps := 1000000}) (disch := omega) only [↓reduceIte, Int32.reduceLT, Int32.reduceLE, Int32.reduceToNatClampNeg, Int32.reduceAdd, Int32.reduceSub, Int32.reduceMul, Nat.reduceLeDiff, zEL, zup_ne, zup_eq, zT0, zT1, zT2, if_true, if_false, layM1, s279_5, s279_8, s279_11, s279_12, s279_15, s279_17, s279_19, s279_22, s279_23, s279_26, s279_27, s279_28, s279_31, e, e0, e1]
  have keyB : ∀ q k, k + q = pn → ∀ X, zam Sm X → (∀ j, j < 256 → X 8 j = nI (zsm mb n pr own k j)) → ∀ v5 v6 v7 : Value, ∃ X' v5' v6' v7', zam Sm X' ∧ (∀ j, j < 256 → X' 8 j = nI (zsm mb n pr own pn j)) ∧ zgo 279 37 [.ref 0, .int (nI d), .int pv, .int ov, .int (nI k), v5, v6, v7] [] (zRm1 rd) X Lm = zgo 279 194 [.ref 0, .int (nI d), .int pv, .int ov, .int (nI pn), v5', v6', v7'] [] (zRm1 rd) X' Lm := by
    intro q
    induction q with
    | zero =>
      intro k hq X hX h8 v5 v6 v7
      have e : k = pn := by omega
      subst e
      refine ⟨X, v5, v6, v7, hX, h8, ?_⟩
      have m3' : X 11 10 = nI k := (hX _ _ (by decide) (by decide)).trans m3
      rw [s279_37]
      simp (config := {maxSteps := 1000000}) (disch := omega) only [↓reduceIte, Int32.reduceLT, Int32.reduceLE, Int32.reduceToNatClampNeg, Int32.reduceAdd, Int32.reduceSub, Int32.reduceMul, Nat.reduceLeDiff, zEL, zup_ne, zup_eq, zT0, zT1, zT2, if_true, if_false, layM1, s279_39, s279_40, s279_43, s279_46, m3']
    | succ q ih =>
      intro k hq X hX h8 v5 v6 v7
      have m3' : X 11 10 = nI pn := (hX _ _ (by decide) (by decide)).trans m3
      obtain ⟨X1, w6, w7, x1, x2, x3⟩ := t279b (Lm := Lm) (rd := rd) (d := d) hn m0 (hmb k (by omega)) (hk k (by omega)) hp X hX h8 v6 v7
      obtain ⟨X2, u5, u6, u7, y1, y2, y3⟩ := ih (k + 1) (by omega) X1 x1 x2 (.int (nI 256)) w6 w7
      refine ⟨X2, u5, u6, u7, y1, y2, ?_⟩
      rw [← y3, s279_37]
      simp (config := {maxSteps := 1000000}) (disch := omega) only [↓reduceIte, Int32.reduceLT, Int32.reduceLE, Int32.reduceToNatClampNeg, Int32.reduceAdd, Int32.reduceSub, Int32.reduceMul, Nat.reduceLeDiff, zEL, zup_ne, zup_eq, zT0, zT1, zT2, if_true, if_false, layM1, s279_39, s279_40, s279_43, s279_46, s279_49, s279_50, m3', x3, s279_188, s279_191]
  have keyC : ∀ q s, s + q = 256 → ∀ X, (∀ j, j < 256 → X 8 j = nI (zsm mb n pr own pn j)) → ∀ v6 v7 : Value, zgo 279 200 [.ref 0, .int (nI d), .int pv, .int ov, .int (nI (zwsum (zsm mb n pr own pn) s)), .int (nI s), v6, v7] [] (zRm1 rd) X Lm = some (some (.int (nI (zwsum (zsm mb n pr own pn) 256))), zRm1 rd, X, Lm) := by
    intro q
    induction q with
    | zero =>
      intro s hs X h8 v6 v7
      have e : s = 256 := by omega
      subst e
      have e := z256e
      rw [s279_200]
      simp (config := {maxSteps := 1000000}) (disch := omega) only [↓reduceIte, Int32.reduceLT, Int32.reduceLE, Int32.reduceToNatClampNeg, Int32.reduceAdd, Int32.reduceSub, Int32.reduceMul, Nat.reduceLeDiff, zEL, zup_ne, zup_eq, zT0, zT1, zT2, if_true, if_false, layM1, s279_202, s279_205, s279_208, s279_210, s279_211, s279_214, s279_216, s279_217, s279_218, s279_220, s279_223, s279_226, s279_228, e]
    | succ q ih =>
      intro s hs X h8 v6 v7
      have e := z256t (show s < 256 by omega)
      have h8s := h8 s (by omega)
      have za : nI (zwsum (zsm mb n pr own pn) s) + nI (zsm mb n pr own pn s) = nI (zwsum (zsm mb n pr own pn) (s + 1)) := zadd_nI
      rw [← ih (s + 1) (by omega) X h8 v6 v7, s279_200]
      simp (config := {maxSteps := 1000000}) (disch := omega) only [↓reduceIte, Int32.reduceLT, Int32.reduceLE, Int32.reduceToNatClampNeg, Int32.reduceAdd, Int32.reduceSub, Int32.reduceMul, Nat.reduceLeDiff, zEL, zup_ne, zup_eq, zT0, zT1, zT2, if_true, if_false, layM1, s279_202, s279_205, s279_208, s279_210, s279_211, s279_214, s279_216, s279_217, s279_218, s279_220, s279_223, s279_226, s279_228, e, h8s, za]
  obtain ⟨X1, x1, x2, x3⟩ := keyA 256 0 (by omega) Y hY (fun j hj => absurd hj (Nat.not_lt_zero j))
  obtain ⟨X2, u5, u6, u7, y1, y2, y3⟩ := keyB pn 0 (by omega) X1 x1 x2 (.retAddr 0) (.retAddr 0) (.retAddr 0)
  have z := keyC 256 0 (by omega) X2 y2 u6 u7
  have x3 : zgo 279 3 [.ref 0, .int (nI d), .int pv, .int ov, .int 0, .retAddr 0, .retAddr 0, .retAddr 0] [] (zRm1 rd) Y Lm = _ := x3
  have y3 : zgo 279 37 [.ref 0, .int (nI d), .int pv, .int ov, .int 0, .retAddr 0, .retAddr 0, .retAddr 0] [] (zRm1 rd) X1 Lm = _ := y3
  have z : zgo 279 200 [.ref 0, .int (nI d), .int pv, .int ov, .int 0, .int 0, u6, u7] [] (zRm1 rd) X2 Lm = _ := z
  refine ⟨X2, y1, ?_⟩
  have a0 : zcall 279 [.ref 0, .int (nI d), .int pv, .int ov] (zRm1 rd) Y Lm = zgo 279 3 [.ref 0, .int (nI d), .int pv, .int ov, .int 0, .retAddr 0, .retAddr 0, .retAddr 0] [] (zRm1 rd) Y Lm := by
    unfold zcall
    simp (config := {maxSteps := 1000000}) (disch := omega) only [↓reduceIte, Int32.reduceLT, Int32.reduceLE, Int32.reduceToNatClampNeg, Int32.reduceAdd, Int32.reduceSub, Int32.reduceMul, Nat.reduceLeDiff, zEL, zup_ne, zup_eq, zT0, zT1, zT2, if_true, if_false, ze_279, s279_0, s279_1]
  have a1 : zgo 279 34 [.ref 0, .int (nI d), .int pv, .int ov, .int (nI 256), .retAddr 0, .retAddr 0, .retAddr 0] [] (zRm1 rd) X1 Lm = zgo 279 37 [.ref 0, .int (nI d), .int pv, .int ov, .int 0, .retAddr 0, .retAddr 0, .retAddr 0] [] (zRm1 rd) X1 Lm := by
    simp (config := {maxSteps := 1000000}) (disch := omega) only [↓reduceIte, Int32.reduceLT, Int32.reduceLE, Int32.reduceToNatClampNeg, Int32.reduceAdd, Int32.reduceSub, Int32.reduceMul, Nat.reduceLeDiff, zEL, zup_ne, zup_eq, zT0, zT1, zT2, if_true, if_false, s279_34, s279_35]
  have a2 : zgo 279 194 [.ref 0, .int (nI d), .int pv, .int ov, .int (nI pn), u5, u6, u7] [] (zRm1 rd) X2 Lm = zgo 279 200 [.ref 0, .int (nI d), .int pv, .int ov, .int 0, .int 0, u6, u7] [] (zRm1 rd) X2 Lm := by
    simp (config := {maxSteps := 1000000}) (disch := omega) only [↓reduceIte, Int32.reduceLT, Int32.reduceLE, Int32.reduceToNatClampNeg, Int32.reduceAdd, Int32.reduceSub, Int32.reduceMul, Nat.reduceLeDiff, zEL, zup_ne, zup_eq, zT0, zT1, zT2, if_true, if_false, s279_194, s279_195, s279_197, s279_198]
  rw [a0, x3, a1, y3, a2, z]
theorem zb01 {a b : Bool} (h : (if a = true then (1 : Int32) else 0) = if b = true then 1 else 0) : a = b := by
  cases a <;> cases b
  · rfl
  · exact absurd h (by decide)
  · exact absurd h (by decide)
  · rfl
/-- which print may be whose, of both -/
theorem tmbs {d : Nat} (hM : zMD c S Sm) (hG : zGD 168 c S (Sm 2)) (hd : d ≤ 19) : ∃ mb : Nat → Nat → Bool, (∀ k, k < c 3 → ∀ X, zag S X → ∀ p, p < c 0 → zcall 101 [.ref 288, .int (nI k), .int (nI p), .int (nI d)] zRc X L = some (some (.int (if mb k p = true then 1 else 0)), zRc, X, L)) ∧ ∀ k, k < c 3 → ∀ X, zam Sm X → ∀ p, p < c 0 → zcall 278 [.ref 0, .int (nI k), .int (nI p), .int (nI d)] (zRm1 rd) X Lm = some (some (.int (if mb k p = true then 1 else 0)), zRm1 rd, X, Lm) := by
  have b0 : c 0 ≤ 8 := hM.1.2.1
  have b1 : c 1 ≤ 8 := hM.1.2.2.1
  have h0 : ∀ k p, ∃ b : Bool, k < c 3 → p < c 0 → zcall 101 [.ref 288, .int (nI k), .int (nI p), .int (nI d)] zRc S L = some (some (.int (if b = true then 1 else 0)), zRc, S, L) ∧ zcall 278 [.ref 0, .int (nI k), .int (nI p), .int (nI d)] (zRm1 rd) Sm Lm = some (some (.int (if b = true then 1 else 0)), zRm1 rd, Sm, Lm) := fun k p => by
    by_cases hk : k < c 3
    · by_cases hp : p < c 0
      · obtain ⟨b, hb⟩ := tmb (L := L) (Lm := Lm) (rd := rd) hM hG hk hp hd
        exact ⟨b, fun _ _ => hb⟩
      · exact ⟨false, fun _ h => absurd h hp⟩
    · exact ⟨false, fun h => absurd h hk⟩
  obtain ⟨mb, hmb⟩ : ∃ mb : Nat → Nat → Bool, ∀ k p, k < c 3 → p < c 0 → zcall 101 [.ref 288, .int (nI k), .int (nI p), .int (nI d)] zRc S L = some (some (.int (if mb k p = true then 1 else 0)), zRc, S, L) ∧ zcall 278 [.ref 0, .int (nI k), .int (nI p), .int (nI d)] (zRm1 rd) Sm Lm = some (some (.int (if mb k p = true then 1 else 0)), zRm1 rd, Sm, Lm) := ⟨fun k p => (h0 k p).choose, fun k p => (h0 k p).choose_spec⟩
  refine ⟨mb, fun k hk X hX p hp => ?_, fun k hk X hX p hp => ?_⟩
  · obtain ⟨k1, k2⟩ := hmb k p hk hp
    obtain ⟨b, j1, j2⟩ := tmb (S := X) (L := L) (Lm := Lm) (rd := rd) (zMD_fr hM (fun j k hj => hX j k (by omega)) (fun _ _ _ => rfl)) (zGD_fr hG b0 b1 (fun j k hj => hX j k (by omega)) (fun _ _ => rfl)) hk hp hd
    rw [k2] at j2
    simp only [Option.some.injEq, Prod.mk.injEq, Value.int.injEq, and_true] at j2
    rw [j1, zb01 j2]
  · obtain ⟨k1, k2⟩ := hmb k p hk hp
    obtain ⟨b, j1, j2⟩ := tmb (Sm := X) (L := L) (Lm := Lm) (rd := rd) (zMD_fr hM (fun _ _ _ => rfl) (fun j k hj => hX j k (by omega) (by omega))) (zGD_fr hG b0 b1 (fun _ _ _ => rfl) (fun k _ => hX 2 k (by omega) (by omega))) hk hp hd
    rw [k1] at j1
    simp only [Option.some.injEq, Prod.mk.injEq, Value.int.injEq, and_true] at j1
    rw [j2, zb01 j1]
theorem zTM_pr {X Y : zS} (h : zTM c S Sm) (hX : zag S X) (hY : zam Sm Y) : zTM c (zup X 0 14 0) (zup (zup Y 0 1 0) 0 2 (-1)) :=
  zTM_fr (w := 0) h (fun j k hj => by unfold zrelC at hj; rw [zup_ne (by omega)]; exact hX j k (by omega)) (fun j k hj => by unfold zrelM at hj; rw [zup_ne (by omega), zup_ne (by omega)]; exact hY j k (by omega) (by omega)) (zup_eq rfl rfl) (by rw [zup_ne (by omega), zup_eq rfl rfl]) (zup_eq rfl rfl) (by decide)
theorem m_139 {v : Int32} (h : zTM c S Sm) : ∃ w : Int32, ∃ S' Sm' : zS, zcall 139 [.ref 0, .int v] zRc S L = some (some (.int w), zRc, S', L) ∧ zcall 280 [.ref 0, .int v] (zRm1 rd) Sm Lm = some (some (.int w), zRm1 rd, Sm', Lm) ∧ zTM c S' Sm' := by
  obtain ⟨X, hX⟩ : ∃ X, X = zup Sm 0 0 0 := ⟨_, rfl⟩
  have h' := zTM_t (v := 0) h
  rw [← hX] at h'
  have b1 := h.2.1
  have hM := h'.2.2.1
  rcases zrng v 19 (by omega) 19 20 rfl rfl with ⟨d, hd, rfl, a1, a2, a3, a4, a5, a6⟩ | ⟨a1, a2, a3, a4, a5, a6⟩ | ⟨a1, a2, a3, a4, a5, a6⟩
  · obtain ⟨mb, k1, k2⟩ := tmbs (L := L) (Lm := Lm) (rd := rd) hM h'.2.2.2.1 hd
    obtain ⟨Y, y1, y2⟩ := t96 hM.1.2.1 hM.1.2.2.2.2.1 hM.2.1.1 hM.2.1.2.2.2.1 k1
    obtain ⟨Z, z1, z2⟩ := t279 (pr := 1000) (own := 1000) (pv := -1) (ov := -1) hM.1.2.1 hM.1.2.2.2.2.1 hM.2.2.1.1 hM.2.2.1.2.2.2.1 k2 (fun k hk => by have := hM.1.2.2.2.2.1; rw [znm1 (by omega)]; exact (eq_false (by omega)).symm) (fun p hp => by have := hM.1.2.1; rw [znm1 (by omega)]; exact (eq_false (by omega)).symm) X (fun _ _ _ _ => rfl)
    rw [zways hM.1.2.1 (show c 3 ≤ 1000 by have := hM.1.2.2.2.2.1; omega)] at z2
    refine ⟨nI (zwsum (zsk mb (c 0) 1000 (c 3)) 256), _, _, ?_, ?_, zTM_pr h' y1 z1⟩ <;> unfold zcall
    · simp (config := {maxSteps := 1000000}) (disch := omega) only [↓reduceIte, Int32.reduceLT, Int32.reduceLE, Int32.reduceToNatClampNeg, Int32.reduceAdd, Int32.reduceSub, Int32.reduceMul, Nat.reduceLeDiff, zEL, zup_ne, zup_eq, zT0, zT1, zT2, if_true, if_false, gX, tEC, S139, b1, a1, a3, a4, y2]
    · simp (config := {maxSteps := 1000000}) (disch := omega) only [↓reduceIte, Int32.reduceLT, Int32.reduceLE, Int32.reduceToNatClampNeg, Int32.reduceAdd, Int32.reduceSub, Int32.reduceMul, Nat.reduceLeDiff, zEL, zup_ne, zup_eq, zT0, zT1, zT2, if_true, if_false, zneq_f, true_and, and_true, false_and, and_false, zKL, eq_self, Nat.reduceEqDiff, zite0, ite_not, zaddr, zaddl, zputr, zsb1, zsb2, zsb0, zsbm, znm1, layM1, tEM1, S280, ← hX, t173, a2, a3, z2]
  · refine ⟨-1, _, _, ?_, ?_, zTM_d 2 (by decide) h'⟩ <;> unfold zcall
    · simp (config := {maxSteps := 1000000}) (disch := omega) only [↓reduceIte, Int32.reduceLT, Int32.reduceLE, Int32.reduceToNatClampNeg, Int32.reduceAdd, Int32.reduceSub, Int32.reduceMul, Nat.reduceLeDiff, zEL, zup_ne, zup_eq, zT0, zT1, zT2, if_true, if_false, zneq_f, true_and, and_true, false_and, and_false, zKL, eq_self, Nat.reduceEqDiff, zite0, ite_not, zaddr, zaddl, zputr, zsb1, zsb2, zsb0, zsbm, znm1, gX, tEC, S139, b1, a1]
    · simp (config := {maxSteps := 1000000}) (disch := omega) only [↓reduceIte, Int32.reduceLT, Int32.reduceLE, Int32.reduceToNatClampNeg, Int32.reduceAdd, Int32.reduceSub, Int32.reduceMul, Nat.reduceLeDiff, zEL, zup_ne, zup_eq, zT0, zT1, zT2, if_true, if_false, zneq_f, true_and, and_true, false_and, and_false, zKL, eq_self, Nat.reduceEqDiff, zite0, ite_not, zaddr, zaddl, zputr, zsb1, zsb2, zsb0, zsbm, znm1, layM1, tEM1, S280, ← hX, t173, a2]
  · refine ⟨-1, _, _, ?_, ?_, zTM_d 2 (by decide) h'⟩ <;> unfold zcall
    · simp (config := {maxSteps := 1000000}) (disch := omega) only [↓reduceIte, Int32.reduceLT, Int32.reduceLE, Int32.reduceToNatClampNeg, Int32.reduceAdd, Int32.reduceSub, Int32.reduceMul, Nat.reduceLeDiff, zEL, zup_ne, zup_eq, zT0, zT1, zT2, if_true, if_false, zneq_f, true_and, and_true, false_and, and_false, zKL, eq_self, Nat.reduceEqDiff, zite0, ite_not, zaddr, zaddl, zputr, zsb1, zsb2, zsb0, zsbm, znm1, gX, tEC, S139, b1, a1, a3, a4]
    · simp (config := {maxSteps := 1000000}) (disch := omega) only [↓reduceIte, Int32.reduceLT, Int32.reduceLE, Int32.reduceToNatClampNeg, Int32.reduceAdd, Int32.reduceSub, Int32.reduceMul, Nat.reduceLeDiff, zEL, zup_ne, zup_eq, zT0, zT1, zT2, if_true, if_false, zneq_f, true_and, and_true, false_and, and_false, zKL, eq_self, Nat.reduceEqDiff, zite0, ite_not, zaddr, zaddl, zputr, zsb1, zsb2, zsb0, zsbm, znm1, layM1, tEM1, S280, ← hX, t173, a2, a3]
theorem t281 {d n pn pr : Nat} {mb : Nat → Nat → Bool} (hn : n ≤ 8) (hpn : pn ≤ 6) (hpr : pr < pn) (m0 : Sm 11 8 = nI n) (m3 : Sm 11 10 = nI pn) (hmb : ∀ k, k < pn → ∀ X, zam Sm X → ∀ p, p < n → zcall 278 [.ref 0, .int (nI k), .int (nI p), .int (nI d)] (zRm1 rd) X Lm = some (some (.int (if mb k p = true then 1 else 0)), zRm1 rd, X, Lm)) : ∀ q p, p + q = n → ∀ X, zam Sm X → ∃ X', zam Sm X' ∧ zgo 281 54 [.ref 0, .int (nI pr), .int (nI d), .int (zow (fun p => decide (0 < zwsum (zsm mb n pr p pn) 256)) p), .int (nI p)] [] (zRm1 rd) X Lm = zcall 171 [.ref 0, .int (zow (fun p => decide (0 < zwsum (zsm mb n pr p pn) 256)) n)] (zRm1 rd) X' Lm := by
  obtain ⟨ok, hok⟩ : ∃ ok : Nat → Bool, ok = fun p => decide (0 < zwsum (zsm mb n pr p pn) 256) := ⟨_, rfl⟩
  have hokp : ∀ p, ok p = decide (0 < zwsum (zsm mb n pr p pn) 256) := fun p => by rw [hok]
  rw [← hok]
  intro q
  induction q with
  | zero =>
    intro p hp X hX
    have e : p = n := by omega
    subst e
    have m0' : X 11 8 = nI p := (hX _ _ (by decide) (by decide)).trans m0
    refine ⟨X, hX, ?_⟩
    rw [s281_54, t171_1]
    simp (config := {maxSteps := 1000000}) (disch := omega) only [↓reduceIte, Int32.reduceLT, Int32.reduceLE, Int32.reduceToNatClampNeg, Int32.reduceAdd, Int32.reduceSub, Int32.reduceMul, Nat.reduceLeDiff, zEL, zup_ne, zup_eq, zT0, zT1, zT2, if_true, if_false, layM1, tEM1, s281_56, s281_57, s281_60, s281_63, s281_66, s281_67, s281_68, s281_69, s281_70, s281_72, s281_75, s281_78, s281_79, s281_81, s281_82, s281_85, s281_86, s281_87, s281_88, s281_91, s281_94, s281_95, s281_96, s281_99, m0']
  | succ q ih =>
    intro p hp X hX
    have m0' : X 11 8 = nI n := (hX _ _ (by decide) (by decide)).trans m0
    obtain ⟨X1, x1, x2⟩ := t279 (d := d) (pr := pr) (own := p) (pv := nI pr) (ov := nI p) hn hpn m0 m3 hmb (fun k hk => propext (znI_inj (by omega) (by omega))) (fun k hk => propext (znI_inj (by omega) (by omega))) X hX
    obtain ⟨X2, y1, y2⟩ := ih (p + 1) (by omega) X1 x1
    have hB : zwsum (zsm mb n pr p pn) 256 ≤ 256 * 8 ^ pn := zwsum_le (fun s => zsm_le hn pn s) 256
    have h86 : 8 ^ pn ≤ 8 ^ 6 := Nat.pow_le_pow_right (by decide) hpn
    have z1 := zpos (x := zwsum (zsm mb n pr p pn) 256) (by omega)
    rw [show zow ok (p + 1) = if ok p = true then zow ok p ||| ((1 : Int32) <<< (nI p &&& 31)) else zow ok p from rfl] at y2
    refine ⟨X2, y1, ?_⟩
    rw [← y2, s281_54]
    by_cases h0 : zwsum (zsm mb n pr p pn) 256 = 0
    · have z1 : (nI (zwsum (zsm mb n pr p pn) 256) ≤ 0) = True := z1.trans (eq_true h0)
      rw [if_neg (fun h => by rw [hokp] at h; have := of_decide_eq_true h; omega)]
      have zo : ∀ w : Int32, w ||| 0 = w := fun w => Int32.or_zero
      simp (config := {maxSteps := 1000000}) (disch := omega) only [↓reduceIte, Int32.reduceLT, Int32.reduceLE, Int32.reduceToNatClampNeg, Int32.reduceAdd, Int32.reduceSub, Int32.reduceMul, Nat.reduceLeDiff, zEL, zup_ne, zup_eq, zT0, zT1, zT2, if_true, if_false, layM1, s281_56, s281_57, s281_60, s281_63, s281_66, s281_67, s281_68, s281_69, s281_70, s281_72, s281_75, s281_78, s281_79, s281_81, s281_82, s281_85, s281_86, s281_87, s281_88, s281_91, m0', x2, z1, zo]
    · have z1 : (nI (zwsum (zsm mb n pr p pn) 256) ≤ 0) = False := z1.trans (eq_false h0)
      rw [if_pos (by rw [hokp]; exact decide_eq_true (by omega))]
      simp (config := {maxSteps := 1000000}) (disch := omega) only [↓reduceIte, Int32.reduceLT, Int32.reduceLE, Int32.reduceToNatClampNeg, Int32.reduceAdd, Int32.reduceSub, Int32.reduceMul, Nat.reduceLeDiff, zEL, zup_ne, zup_eq, zT0, zT1, zT2, if_true, if_false, layM1, s281_56, s281_57, s281_60, s281_63, s281_66, s281_67, s281_68, s281_69, s281_70, s281_72, s281_75, s281_78, s281_79, s281_81, s281_82, s281_85, s281_86, s281_87, s281_88, s281_91, m0', x2, z1]
theorem m_140 {p v : Int32} (h : zTM c S Sm) : ∃ w : Int32, ∃ S' Sm' : zS, zcall 140 [.ref 0, .int p, .int v] zRc S L = some (some (.int w), zRc, S', L) ∧ zcall 281 [.ref 0, .int p, .int v] (zRm1 rd) Sm Lm = some (some (.int w), zRm1 rd, Sm', Lm) ∧ zTM c S' Sm' := by
  obtain ⟨X, hX⟩ : ∃ X, X = zup Sm 0 0 0 := ⟨_, rfl⟩
  have h' := zTM_t (v := 0) h
  rw [← hX] at h'
  have b1 := h.2.1
  have hM := h'.2.2.1
  have h8 : c 0 ≤ 8 := hM.1.2.1
  have h6 : c 3 ≤ 6 := hM.1.2.2.2.2.1
  have a0 : S 51 7 = nI (c 3) := hM.2.1.2.2.2.1
  have m0 : X 11 10 = nI (c 3) := hM.2.2.1.2.2.2.1
  rcases zidx p (n := c 3) (by omega) with ⟨pr, hpr, rfl⟩ | hp
  · have k0 := t83a_51 (L := L) a0 (by omega) hpr
    rcases zrng v 19 (by omega) 19 20 rfl rfl with ⟨d, hd, rfl, a1, a2, a3, a4, a5, a6⟩ | ⟨a1, a2, a3, a4, a5, a6⟩ | ⟨a1, a2, a3, a4, a5, a6⟩
    · obtain ⟨mb, k1, k2⟩ := tmbs (L := L) (Lm := Lm) (rd := rd) hM h'.2.2.2.1 hd
      obtain ⟨Y, y1, y2⟩ := t97 (ok := fun p => decide (0 < zwsum (zsm mb (c 0) pr p (c 3)) 256)) h8 h6 hpr hM.2.1.1 a0 k1 (fun p hp => by
        show decide (0 < zwsum (zsm mb (c 0) pr p (c 3)) 256) = true ↔ _
        rw [decide_eq_true_eq]
        exact zwhom h8 hp hpr)
      obtain ⟨Z, z1, z2⟩ := t281 h8 h6 hpr hM.2.2.1.1 m0 k2 (c 0) 0 (by omega) X (fun _ _ _ _ => rfl)
      have z2 : zgo 281 54 [.ref 0, .int (nI pr), .int (nI d), .int 0, .int 0] [] (zRm1 rd) X Lm = _ := z2
      refine ⟨zow (fun p => decide (0 < zwsum (zsm mb (c 0) pr p (c 3)) 256)) (c 0), _, _, ?_, ?_, zTM_pr h' y1 z1⟩
      · unfold zcall
        simp (config := {maxSteps := 1000000}) (disch := omega) only [↓reduceIte, Int32.reduceLT, Int32.reduceLE, Int32.reduceToNatClampNeg, Int32.reduceAdd, Int32.reduceSub, Int32.reduceMul, Nat.reduceLeDiff, zEL, zup_ne, zup_eq, zT0, zT1, zT2, if_true, if_false, gX, gM, tEC, S140, k0, a1, a3, a4, y2]
      · unfold zcall
        simp (config := {maxSteps := 1000000}) (disch := omega) only [↓reduceIte, Int32.reduceLT, Int32.reduceLE, Int32.reduceToNatClampNeg, Int32.reduceAdd, Int32.reduceSub, Int32.reduceMul, Nat.reduceLeDiff, zEL, zup_ne, zup_eq, zT0, zT1, zT2, if_true, if_false, zneq_f, true_and, and_true, false_and, and_false, zKL, eq_self, Nat.reduceEqDiff, zite0, ite_not, zaddr, zaddl, zputr, zsb1, zsb2, zsb0, zsbm, znm1, layM1, tEM1, ze_281, s281_0, s281_1, s281_2, s281_5, s281_6, s281_9, s281_9N, s281_12, s281_13, s281_16, s281_17, s281_18, s281_21, s281_24, s281_27, s281_28, s281_29, s281_32, s281_33, s281_34, s281_35, s281_37, s281_40, s281_43, s281_44, s281_45, s281_48, s281_49, s281_50, s281_51, s281_52, ← hX, m0, t173, a2, a3]
        rw [z2, t171_1]
    · refine ⟨-1, _, _, ?_, ?_, zTM_d 2 (by decide) h'⟩ <;> unfold zcall
      · simp (config := {maxSteps := 1000000}) (disch := omega) only [↓reduceIte, Int32.reduceLT, Int32.reduceLE, Int32.reduceToNatClampNeg, Int32.reduceAdd, Int32.reduceSub, Int32.reduceMul, Nat.reduceLeDiff, zEL, zup_ne, zup_eq, zT0, zT1, zT2, if_true, if_false, zneq_f, true_and, and_true, false_and, and_false, zKL, eq_self, Nat.reduceEqDiff, zite0, ite_not, zaddr, zaddl, zputr, zsb1, zsb2, zsb0, zsbm, znm1, gX, gM, tEC, S140, k0, a1]
      · simp (config := {maxSteps := 1000000}) (disch := omega) only [↓reduceIte, Int32.reduceLT, Int32.reduceLE, Int32.reduceToNatClampNeg, Int32.reduceAdd, Int32.reduceSub, Int32.reduceMul, Nat.reduceLeDiff, zEL, zup_ne, zup_eq, zT0, zT1, zT2, if_true, if_false, zneq_f, true_and, and_true, false_and, and_false, zKL, eq_self, Nat.reduceEqDiff, zite0, ite_not, zaddr, zaddl, zputr, zsb1, zsb2, zsb0, zsbm, znm1, layM1, tEM1, ze_281, s281_0, s281_1, s281_2, s281_5, s281_6, s281_9, s281_9N, s281_12, s281_13, s281_16, s281_17, s281_18, s281_21, s281_24, s281_27, s281_28, s281_29, s281_32, s281_33, s281_34, s281_35, s281_37, s281_40, s281_43, s281_44, s281_45, s281_48, s281_49, s281_50, s281_51, s281_52, ← hX, m0, t173, a2]
    · refine ⟨-1, _, _, ?_, ?_, zTM_d 2 (by decide) h'⟩ <;> unfold zcall
      · simp (config := {maxSteps := 1000000}) (disch := omega) only [↓reduceIte, Int32.reduceLT, Int32.reduceLE, Int32.reduceToNatClampNeg, Int32.reduceAdd, Int32.reduceSub, Int32.reduceMul, Nat.reduceLeDiff, zEL, zup_ne, zup_eq, zT0, zT1, zT2, if_true, if_false, zneq_f, true_and, and_true, false_and, and_false, zKL, eq_self, Nat.reduceEqDiff, zite0, ite_not, zaddr, zaddl, zputr, zsb1, zsb2, zsb0, zsbm, znm1, gX, gM, tEC, S140, k0, a1, a3, a4]
      · simp (config := {maxSteps := 1000000}) (disch := omega) only [↓reduceIte, Int32.reduceLT, Int32.reduceLE, Int32.reduceToNatClampNeg, Int32.reduceAdd, Int32.reduceSub, Int32.reduceMul, Nat.reduceLeDiff, zEL, zup_ne, zup_eq, zT0, zT1, zT2, if_true, if_false, zneq_f, true_and, and_true, false_and, and_false, zKL, eq_self, Nat.reduceEqDiff, zite0, ite_not, zaddr, zaddl, zputr, zsb1, zsb2, zsb0, zsbm, znm1, layM1, tEM1, ze_281, s281_0, s281_1, s281_2, s281_5, s281_6, s281_9, s281_9N, s281_12, s281_13, s281_16, s281_17, s281_18, s281_21, s281_24, s281_27, s281_28, s281_29, s281_32, s281_33, s281_34, s281_35, s281_37, s281_40, s281_43, s281_44, s281_45, s281_48, s281_49, s281_50, s281_51, s281_52, ← hX, m0, t173, a2, a3]
  · have k1 := t83b_51 (L := L) a0 hp
    refine ⟨-1, _, _, ?_, ?_, zTM_d 1 (by decide) h'⟩ <;> unfold zcall
    · simp (config := {maxSteps := 1000000}) (disch := omega) only [↓reduceIte, Int32.reduceLT, Int32.reduceLE, Int32.reduceToNatClampNeg, Int32.reduceAdd, Int32.reduceSub, Int32.reduceMul, Nat.reduceLeDiff, zEL, zup_ne, zup_eq, zT0, zT1, zT2, if_true, if_false, zneq_f, true_and, and_true, false_and, and_false, zKL, eq_self, Nat.reduceEqDiff, zite0, ite_not, zaddr, zaddl, zputr, zsb1, zsb2, zsb0, zsbm, znm1, gX, gM, tEC, S140, k1]
    · rcases hp with ⟨h1, -⟩ | ⟨h1, h3⟩
      · simp (config := {maxSteps := 1000000}) (disch := omega) only [↓reduceIte, Int32.reduceLT, Int32.reduceLE, Int32.reduceToNatClampNeg, Int32.reduceAdd, Int32.reduceSub, Int32.reduceMul, Nat.reduceLeDiff, zEL, zup_ne, zup_eq, zT0, zT1, zT2, if_true, if_false, zneq_f, true_and, and_true, false_and, and_false, zKL, eq_self, Nat.reduceEqDiff, zite0, ite_not, zaddr, zaddl, zputr, zsb1, zsb2, zsb0, zsbm, znm1, layM1, tEM1, ze_281, s281_0, s281_1, s281_2, s281_5, s281_6, s281_9, s281_9N, s281_12, s281_13, s281_16, s281_17, s281_18, s281_21, s281_24, s281_27, s281_28, s281_29, s281_32, s281_33, s281_34, s281_35, s281_37, s281_40, s281_43, s281_44, s281_45, s281_48, s281_49, s281_50, s281_51, s281_52, ← hX, m0, h1]
      · have h4 : (p < nI (c 3)) = False := eq_false (Int32.not_lt.mpr (of_eq_true h3))
        simp (config := {maxSteps := 1000000}) (disch := omega) only [↓reduceIte, Int32.reduceLT, Int32.reduceLE, Int32.reduceToNatClampNeg, Int32.reduceAdd, Int32.reduceSub, Int32.reduceMul, Nat.reduceLeDiff, zEL, zup_ne, zup_eq, zT0, zT1, zT2, if_true, if_false, zneq_f, true_and, and_true, false_and, and_false, zKL, eq_self, Nat.reduceEqDiff, zite0, ite_not, zaddr, zaddl, zputr, zsb1, zsb2, zsb0, zsbm, znm1, layM1, tEM1, ze_281, s281_0, s281_1, s281_2, s281_5, s281_6, s281_9, s281_9N, s281_12, s281_13, s281_16, s281_17, s281_18, s281_21, s281_24, s281_27, s281_28, s281_29, s281_32, s281_33, s281_34, s281_35, s281_37, s281_40, s281_43, s281_44, s281_45, s281_48, s281_49, s281_50, s281_51, s281_52, ← hX, m0, h1, h4]
end ZWC
