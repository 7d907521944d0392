/-! THE TEXT: WHOLES, the first WORD of a LINE, NAMES -/
section ZP6
variable {S Sm S' Sm' : zS} {L Lm Lm' : zL} {R : List zE} {n B p q : Nat} {b : Nat → Nat}
theorem zst_ne {c : Nat} (h : ∀ k, k ≤ 5 → zst k = c → zkN b n p q ≠ k) (hc : c < 10) (k0 : zkN b n p q ≤ 5 := zkN_r) : ¬ nI (zst (zkN b n p q)) = nI c := fun h9 => by
  have h8 : zst (zkN b n p q) < 10 := by
    unfold zst
    repeat' split
    all_goals omega
  rw [znI_inj (by omega) (by omega)] at h9
  exact h _ k0 h9 rfl
theorem zst_eq {c k : Nat} (hk : zkN b n p q = k) (hc : zst k = c) : nI (zst (zkN b n p q)) = nI c := by rw [hk, hc]
theorem lg_cmp0 {x y : Int64} : (lg_cmp x y = 0) = (x = y) := by
  unfold lg_cmp
  by_cases h : x > y
  · rw [if_pos h, eq_iff_iff]
    refine ⟨fun h' => absurd h' (by decide), fun h' => ?_⟩
    subst h'
    exact absurd h Int64.lt_irrefl
  · rw [if_neg h]
    by_cases e : x = y
    · rw [if_pos e, eq_iff_iff]
      exact ⟨fun _ => e, fun _ => rfl⟩
    · rw [if_neg e, eq_iff_iff]
      exact ⟨fun h' => absurd h' (by decide), fun h' => absurd h' e⟩
/-- the first of k that is so -/
def zfd (ok : Nat → Bool) : Nat → Option Nat
  | 0 => none
  | k + 1 => match zfd ok k with
    | some i => some i
    | none => if ok k = true then some k else none
theorem zfd_s {ok : Nat → Bool} {k : Nat} : zfd ok (k + 1) = (match zfd ok k with | some i => some i | none => if ok k = true then some k else none) := rfl
theorem zfd_at {ok : Nat → Bool} {i m : Nat} (h : zfd ok i = none) (hi : ok i = true) (hm : i < m) : zfd ok m = some i := by
  induction m with
  | zero => omega
  | succ m ih =>
    rw [zfd_s]
    by_cases e : i = m
    · subst e
      rw [h]
      simp only [hi, if_true]
    · rw [ih (by omega)]
theorem zfd_n {ok : Nat → Bool} {i : Nat} (h : zfd ok i = none) (hi : ok i = false) : zfd ok (i + 1) = none := by
  rw [zfd_s, h]
  simp only [hi, Bool.false_eq_true, if_false]
theorem zfd_lt {ok : Nat → Bool} {i m : Nat} (h : zfd ok m = some i) : i < m ∧ ok i = true := by
  induction m with
  | zero => cases h
  | succ m ih =>
    rw [zfd_s] at h
    cases e : zfd ok m with
    | some j =>
      rw [e] at h
      cases h
      have := ih e
      exact ⟨by omega, this.2⟩
    | none =>
      rw [e] at h
      have h : (if ok m = true then some m else none) = some i := h
      split at h
      · cases h
        rename_i e2
        exact ⟨by omega, e2⟩
      · cases h
theorem zfd_c {ok ok' : Nat → Bool} {k : Nat} (h : ∀ i, i < k → ok i = ok' i) : zfd ok k = zfd ok' k := by
  induction k with
  | zero => rfl
  | succ k ih => rw [zfd_s, zfd_s, ih (fun i hi => h i (by omega)), h k (by omega)]
theorem m166 {k : Nat} {x : Int64} (hB : zLB R B) (hk : k ≤ 26) (h : Sm B 13 = nI k) : zcall 166 [.ref B, .long x] R Sm Lm = some (some (.int (zon (zfd (fun i => decide (Lm (B + 27) i = x)) k))), R, Sm, Lm) := by
  have r0 := hB
  unfold zLB at r0
  have key : ∀ d i, i + d = k → zfd (fun i => decide (Lm (B + 27) i = x)) i = none → zgo 166 2 [.ref B, .long x, .retAddr 0, .int (nI i)] [] R Sm Lm = some (some (.int (zon (zfd (fun i => decide (Lm (B + 27) i = x)) k))), R, Sm, Lm) := by
    intro d
    induction d with
    | zero =>
      intro i hd hz
      have hi : i = k := by omega
      subst hi
      rw [hz, s166_2]
      simp (config := {maxSteps := 1000000}) (disch := omega) only [↓reduceIte, Int32.reduceLT, Int32.reduceLE, Int32.reduceToNatClampNeg, Int32.reduceAdd, Int32.reduceSub, Int32.reduceMul, Nat.reduceLeDiff, zEL, zup_ne, zup_eq, zT0, zT1, zT2, if_true, if_false, zneq_f, true_and, and_true, false_and, and_false, zKL, eq_self, Nat.reduceEqDiff, zite0, ite_not, zaddr, zaddl, zputr, zsb1, zsb2, zsb0, zsbm, znm1, r0, s166_3, s166_4, s166_7, s166_10, s166_11, s166_14, s166_15, s166_16, s166_17, s166_18, s166_21, s166_22, s166_23, s166_26, s166_29, s166_30, h, zon_n]
    | succ d ih =>
      intro i hd hz
      by_cases e : Lm (B + 27) i = x
      · rw [zfd_at hz (decide_eq_true e) (show i < k by omega), s166_2]
        simp (config := {maxSteps := 1000000}) (disch := omega) only [↓reduceIte, Int32.reduceLT, Int32.reduceLE, Int32.reduceToNatClampNeg, Int32.reduceAdd, Int32.reduceSub, Int32.reduceMul, Nat.reduceLeDiff, zEL, zup_ne, zup_eq, zT0, zT1, zT2, if_true, if_false, zneq_f, true_and, and_true, false_and, and_false, zKL, eq_self, Nat.reduceEqDiff, zite0, ite_not, zaddr, zaddl, zputr, zsb1, zsb2, zsb0, zsbm, znm1, r0, s166_3, s166_4, s166_7, s166_10, s166_11, s166_14, s166_15, s166_16, s166_17, s166_18, s166_21, s166_22, s166_23, s166_26, s166_29, s166_30, h, zon_s, e, lg_cmp0]
      · rw [← ih (i + 1) (by omega) (zfd_n hz (decide_eq_false e)), s166_2]
        simp (config := {maxSteps := 1000000}) (disch := omega) only [↓reduceIte, Int32.reduceLT, Int32.reduceLE, Int32.reduceToNatClampNeg, Int32.reduceAdd, Int32.reduceSub, Int32.reduceMul, Nat.reduceLeDiff, zEL, zup_ne, zup_eq, zT0, zT1, zT2, if_true, if_false, zneq_f, true_and, and_true, false_and, and_false, zKL, eq_self, Nat.reduceEqDiff, zite0, ite_not, zaddr, zaddl, zputr, zsb1, zsb2, zsb0, zsbm, znm1, r0, s166_3, s166_4, s166_7, s166_10, s166_11, s166_14, s166_15, s166_16, s166_17, s166_18, s166_21, s166_22, s166_23, s166_26, s166_29, s166_30, h, e, lg_cmp0]
  have := key k 0 (by omega) rfl
  unfold zcall
  simp (config := {maxSteps := 1000000}) (disch := omega) only [↓reduceIte, Int32.reduceLT, Int32.reduceLE, Int32.reduceToNatClampNeg, Int32.reduceAdd, Int32.reduceSub, Int32.reduceMul, Nat.reduceLeDiff, zEL, zup_ne, zup_eq, zT0, zT1, zT2, if_true, if_false, zneq_f, true_and, and_true, false_and, and_false, zKL, eq_self, Nat.reduceEqDiff, zite0, ite_not, zaddr, zaddl, zputr, zsb1, zsb2, zsb0, zsbm, znm1, ze_166, s166_0, s166_1]
  exact this
/-- is the TOKEN a NAME -/
def zNm (b : Nat → Nat) (n p q : Nat) : Bool := decide (zkN b n p q = 1) && !((zW b n p q zw_law || zW b n p q zw_snow || zW b n p q zw_referee || zW b n p q zw_block || zW b n p q zw_player || zW b n p q zw_site || zW b n p q zw_print || zW b n p q zw_at || zW b n p q zw_guess) || (zW b n p q zw_left || zW b n p q zw_right) || (zW b n p q zw_flat || zW b n p q zw_high || zW b n p q zw_rolls || zW b n p q zw_makes || zW b n p q zw_goes || zW b n p q zw_ducks))
theorem zbi0 {w : Bool} : (zbi w = 0) = (w = false) := by cases w <;> decide
theorem m187 (hR : zLT R) (h : zTK n b p q S Sm Lm) : zcall 187 [.ref 0] R Sm Lm = some (some (.int (zbi (zNm b n p q))), R, Sm, Lm) := by
  have r0 := hR
  unfold zLT at r0
  have m9 := h.2.2.2.1
  have hr := @zkN_r n p q b
  unfold zNm
  by_cases hk : zkN b n p q = 1
  · rw [hk] at m9
    have m9 : Sm 0 9 = 2 := m9
    rw [decide_eq_true hk, Bool.true_and]
    have f := And.intro (mw_law hR h) (And.intro (mw_snow hR h) (And.intro (mw_referee hR h) (And.intro (mw_block hR h) (And.intro (mw_player hR h) (And.intro (mw_site hR h) (And.intro (mw_print hR h) (And.intro (mw_at hR h) (mw_guess hR h))))))))
    have f2 := And.intro (mw_left hR h) (And.intro (mw_right hR h) (And.intro (mw_flat hR h) (And.intro (mw_high hR h) (And.intro (mw_rolls hR h) (And.intro (mw_makes hR h) (And.intro (mw_goes hR h) (mw_ducks hR h)))))))
    generalize zW b n p q zw_law = w_law at f f2 ⊢
    generalize zW b n p q zw_snow = w_snow at f f2 ⊢
    generalize zW b n p q zw_referee = w_referee at f f2 ⊢
    generalize zW b n p q zw_block = w_block at f f2 ⊢
    generalize zW b n p q zw_player = w_player at f f2 ⊢
    generalize zW b n p q zw_site = w_site at f f2 ⊢
    generalize zW b n p q zw_print = w_print at f f2 ⊢
    generalize zW b n p q zw_at = w_at at f f2 ⊢
    generalize zW b n p q zw_guess = w_guess at f f2 ⊢
    generalize zW b n p q zw_left = w_left at f f2 ⊢
    generalize zW b n p q zw_right = w_right at f f2 ⊢
    generalize zW b n p q zw_flat = w_flat at f f2 ⊢
    generalize zW b n p q zw_high = w_high at f f2 ⊢
    generalize zW b n p q zw_rolls = w_rolls at f f2 ⊢
    generalize zW b n p q zw_makes = w_makes at f f2 ⊢
    generalize zW b n p q zw_goes = w_goes at f f2 ⊢
    generalize zW b n p q zw_ducks = w_ducks at f f2 ⊢
    by_cases e_law : w_law = true
    · simp only [e_law] at f f2 ⊢
      unfold zcall
      simp (config := {maxSteps := 1000000}) (disch := omega) only [↓reduceIte, Int32.reduceLT, Int32.reduceLE, Int32.reduceToNatClampNeg, Int32.reduceAdd, Int32.reduceSub, Int32.reduceMul, Nat.reduceLeDiff, zEL, zup_ne, zup_eq, zT0, zT1, zT2, if_true, if_false, r0, ze_187, s187_0, s187_1, s187_4, s187_5, s187_8, s187_9, s187_11, s187_14, s187_17, s187_18, s187_20, s187_23, s187_26, s187_27, s187_29, s187_32, s187_35, s187_36, s187_38, s187_41, s187_44, s187_45, s187_47, s187_50, s187_53, s187_54, s187_56, s187_59, s187_62, s187_63, s187_65, s187_68, s187_71, s187_72, s187_74, s187_77, s187_80, s187_81, s187_82, s187_83, s187_85, s187_88, s187_91, s187_92, s187_94, s187_97, s187_100, s187_101, s187_103, s187_106, s187_109, s187_110, s187_112, s187_115, s187_118, s187_119, s187_121, s187_124, s187_127, s187_128, s187_130, s187_133, s187_136, s187_137, s187_139, s187_142, s187_145, s187_146, s187_148, s187_151, s187_154, s187_155, s187_157, s187_160, s187_163, s187_164, s187_167, s187_168, m9, f, f2, zbi_t, zbi_f, Bool.true_or, Bool.or_true, Bool.false_or, Bool.or_false, Bool.not_true, Bool.not_false]
    have e_law := Bool.eq_false_iff.mpr e_law
    simp only [e_law] at f f2 ⊢
    by_cases e_snow : w_snow = true
    · simp only [e_snow] at f f2 ⊢
      unfold zcall
      simp (config := {maxSteps := 1000000}) (disch := omega) only [↓reduceIte, Int32.reduceLT, Int32.reduceLE, Int32.reduceToNatClampNeg, Int32.reduceAdd, Int32.reduceSub, Int32.reduceMul, Nat.reduceLeDiff, zEL, zup_ne, zup_eq, zT0, zT1, zT2, if_true, if_false, r0, ze_187, s187_0, s187_1, s187_4, s187_5, s187_8, s187_9, s187_11, s187_14, s187_17, s187_18, s187_20, s187_23, s187_26, s187_27, s187_29, s187_32, s187_35, s187_36, s187_38, s187_41, s187_44, s187_45, s187_47, s187_50, s187_53, s187_54, s187_56, s187_59, s187_62, s187_63, s187_65, s187_68, s187_71, s187_72, s187_74, s187_77, s187_80, s187_81, s187_82, s187_83, s187_85, s187_88, s187_91, s187_92, s187_94, s187_97, s187_100, s187_101, s187_103, s187_106, s187_109, s187_110, s187_112, s187_115, s187_118, s187_119, s187_121, s187_124, s187_127, s187_128, s187_130, s187_133, s187_136, s187_137, s187_139, s187_142, s187_145, s187_146, s187_148, s187_151, s187_154, s187_155, s187_157, s187_160, s187_163, s187_164, s187_167, s187_168, m9, f, f2, zbi_t, zbi_f, Bool.true_or, Bool.or_true, Bool.false_or, Bool.or_false, Bool.not_true, Bool.not_false]
    have e_snow := Bool.eq_false_iff.mpr e_snow
    simp only [e_snow] at f f2 ⊢
    by_cases e_referee : w_referee = true
    · simp only [e_referee] at f f2 ⊢
      unfold zcall
      simp (config := {maxSteps := 1000000}) (disch := omega) only [↓reduceIte, Int32.reduceLT, Int32.reduceLE, Int32.reduceToNatClampNeg, Int32.reduceAdd, Int32.reduceSub, Int32.reduceMul, Nat.reduceLeDiff, zEL, zup_ne, zup_eq, zT0, zT1, zT2, if_true, if_false, r0, ze_187, s187_0, s187_1, s187_4, s187_5, s187_8, s187_9, s187_11, s187_14, s187_17, s187_18, s187_20, s187_23, s187_26, s187_27, s187_29, s187_32, s187_35, s187_36, s187_38, s187_41, s187_44, s187_45, s187_47, s187_50, s187_53, s187_54, s187_56, s187_59, s187_62, s187_63, s187_65, s187_68, s187_71, s187_72, s187_74, s187_77, s187_80, s187_81, s187_82, s187_83, s187_85, s187_88, s187_91, s187_92, s187_94, s187_97, s187_100, s187_101, s187_103, s187_106, s187_109, s187_110, s187_112, s187_115, s187_118, s187_119, s187_121, s187_124, s187_127, s187_128, s187_130, s187_133, s187_136, s187_137, s187_139, s187_142, s187_145, s187_146, s187_148, s187_151, s187_154, s187_155, s187_157, s187_160, s187_163, s187_164, s187_167, s187_168, m9, f, f2, zbi_t, zbi_f, Bool.true_or, Bool.or_true, Bool.false_or, Bool.or_false, Bool.not_true, Bool.not_false]
    have e_referee := Bool.eq_false_iff.mpr e_referee
    simp only [e_referee] at f f2 ⊢
    by_cases e_block : w_block = true
    · simp only [e_block] at f f2 ⊢
      unfold zcall
      simp (config := {maxSteps := 1000000}) (disch := omega) only [↓reduceIte, Int32.reduceLT, Int32.reduceLE, Int32.reduceToNatClampNeg, Int32.reduceAdd, Int32.reduceSub, Int32.reduceMul, Nat.reduceLeDiff, zEL, zup_ne, zup_eq, zT0, zT1, zT2, if_true, if_false, r0, ze_187, s187_0, s187_1, s187_4, s187_5, s187_8, s187_9, s187_11, s187_14, s187_17, s187_18, s187_20, s187_23, s187_26, s187_27, s187_29, s187_32, s187_35, s187_36, s187_38, s187_41, s187_44, s187_45, s187_47, s187_50, s187_53, s187_54, s187_56, s187_59, s187_62, s187_63, s187_65, s187_68, s187_71, s187_72, s187_74, s187_77, s187_80, s187_81, s187_82, s187_83, s187_85, s187_88, s187_91, s187_92, s187_94, s187_97, s187_100, s187_101, s187_103, s187_106, s187_109, s187_110, s187_112, s187_115, s187_118, s187_119, s187_121, s187_124, s187_127, s187_128, s187_130, s187_133, s187_136, s187_137, s187_139, s187_142, s187_145, s187_146, s187_148, s187_151, s187_154, s187_155, s187_157, s187_160, s187_163, s187_164, s187_167, s187_168, m9, f, f2, zbi_t, zbi_f, Bool.true_or, Bool.or_true, Bool.false_or, Bool.or_false, Bool.not_true, Bool.not_false]
    have e_block := Bool.eq_false_iff.mpr e_block
    simp only [e_block] at f f2 ⊢
    by_cases e_player : w_player = true
    · simp only [e_player] at f f2 ⊢
      unfold zcall
      simp (config := {maxSteps := 1000000}) (disch := omega) only [↓reduceIte, Int32.reduceLT, Int32.reduceLE, Int32.reduceToNatClampNeg, Int32.reduceAdd, Int32.reduceSub, Int32.reduceMul, Nat.reduceLeDiff, zEL, zup_ne, zup_eq, zT0, zT1, zT2, if_true, if_false, r0, ze_187, s187_0, s187_1, s187_4, s187_5, s187_8, s187_9, s187_11, s187_14, s187_17, s187_18, s187_20, s187_23, s187_26, s187_27, s187_29, s187_32, s187_35, s187_36, s187_38, s187_41, s187_44, s187_45, s187_47, s187_50, s187_53, s187_54, s187_56, s187_59, s187_62, s187_63, s187_65, s187_68, s187_71, s187_72, s187_74, s187_77, s187_80, s187_81, s187_82, s187_83, s187_85, s187_88, s187_91, s187_92, s187_94, s187_97, s187_100, s187_101, s187_103, s187_106, s187_109, s187_110, s187_112, s187_115, s187_118, s187_119, s187_121, s187_124, s187_127, s187_128, s187_130, s187_133, s187_136, s187_137, s187_139, s187_142, s187_145, s187_146, s187_148, s187_151, s187_154, s187_155, s187_157, s187_160, s187_163, s187_164, s187_167, s187_168, m9, f, f2, zbi_t, zbi_f, Bool.true_or, Bool.or_true, Bool.false_or, Bool.or_false, Bool.not_true, Bool.not_false]
    have e_player := Bool.eq_false_iff.mpr e_player
    simp only [e_player] at f f2 ⊢
    by_cases e_site : w_site = true
    · simp only [e_site] at f f2 ⊢
      unfold zcall
      simp (config := {maxSteps := 1000000}) (disch := omega) only [↓reduceIte, Int32.reduceLT, Int32.reduceLE, Int32.reduceToNatClampNeg, Int32.reduceAdd, Int32.reduceSub, Int32.reduceMul, Nat.reduceLeDiff, zEL, zup_ne, zup_eq, zT0, zT1, zT2, if_true, if_false, r0, ze_187, s187_0, s187_1, s187_4, s187_5, s187_8, s187_9, s187_11, s187_14, s187_17, s187_18, s187_20, s187_23, s187_26, s187_27, s187_29, s187_32, s187_35, s187_36, s187_38, s187_41, s187_44, s187_45, s187_47, s187_50, s187_53, s187_54, s187_56, s187_59, s187_62, s187_63, s187_65, s187_68, s187_71, s187_72, s187_74, s187_77, s187_80, s187_81, s187_82, s187_83, s187_85, s187_88, s187_91, s187_92, s187_94, s187_97, s187_100, s187_101, s187_103, s187_106, s187_109, s187_110, s187_112, s187_115, s187_118, s187_119, s187_121, s187_124, s187_127, s187_128, s187_130, s187_133, s187_136, s187_137, s187_139, s187_142, s187_145, s187_146, s187_148, s187_151, s187_154, s187_155, s187_157, s187_160, s187_163, s187_164, s187_167, s187_168, m9, f, f2, zbi_t, zbi_f, Bool.true_or, Bool.or_true, Bool.false_or, Bool.or_false, Bool.not_true, Bool.not_false]
    have e_site := Bool.eq_false_iff.mpr e_site
    simp only [e_site] at f f2 ⊢
    by_cases e_print : w_print = true
    · simp only [e_print] at f f2 ⊢
      unfold zcall
      simp (config := {maxSteps := 1000000}) (disch := omega) only [↓reduceIte, Int32.reduceLT, Int32.reduceLE, Int32.reduceToNatClampNeg, Int32.reduceAdd, Int32.reduceSub, Int32.reduceMul, Nat.reduceLeDiff, zEL, zup_ne, zup_eq, zT0, zT1, zT2, if_true, if_false, r0, ze_187, s187_0, s187_1, s187_4, s187_5, s187_8, s187_9, s187_11, s187_14, s187_17, s187_18, s187_20, s187_23, s187_26, s187_27, s187_29, s187_32, s187_35, s187_36, s187_38, s187_41, s187_44, s187_45, s187_47, s187_50, s187_53, s187_54, s187_56, s187_59, s187_62, s187_63, s187_65, s187_68, s187_71, s187_72, s187_74, s187_77, s187_80, s187_81, s187_82, s187_83, s187_85, s187_88, s187_91, s187_92, s187_94, s187_97, s187_100, s187_101, s187_103, s187_106, s187_109, s187_110, s187_112, s187_115, s187_118, s187_119, s187_121, s187_124, s187_127, s187_128, s187_130, s187_133, s187_136, s187_137, s187_139, s187_142, s187_145, s187_146, s187_148, s187_151, s187_154, s187_155, s187_157, s187_160, s187_163, s187_164, s187_167, s187_168, m9, f, f2, zbi_t, zbi_f, Bool.true_or, Bool.or_true, Bool.false_or, Bool.or_false, Bool.not_true, Bool.not_false]
    have e_print := Bool.eq_false_iff.mpr e_print
    simp only [e_print] at f f2 ⊢
    by_cases e_at : w_at = true
    · simp only [e_at] at f f2 ⊢
      unfold zcall
      simp (config := {maxSteps := 1000000}) (disch := omega) only [↓reduceIte, Int32.reduceLT, Int32.reduceLE, Int32.reduceToNatClampNeg, Int32.reduceAdd, Int32.reduceSub, Int32.reduceMul, Nat.reduceLeDiff, zEL, zup_ne, zup_eq, zT0, zT1, zT2, if_true, if_false, r0, ze_187, s187_0, s187_1, s187_4, s187_5, s187_8, s187_9, s187_11, s187_14, s187_17, s187_18, s187_20, s187_23, s187_26, s187_27, s187_29, s187_32, s187_35, s187_36, s187_38, s187_41, s187_44, s187_45, s187_47, s187_50, s187_53, s187_54, s187_56, s187_59, s187_62, s187_63, s187_65, s187_68, s187_71, s187_72, s187_74, s187_77, s187_80, s187_81, s187_82, s187_83, s187_85, s187_88, s187_91, s187_92, s187_94, s187_97, s187_100, s187_101, s187_103, s187_106, s187_109, s187_110, s187_112, s187_115, s187_118, s187_119, s187_121, s187_124, s187_127, s187_128, s187_130, s187_133, s187_136, s187_137, s187_139, s187_142, s187_145, s187_146, s187_148, s187_151, s187_154, s187_155, s187_157, s187_160, s187_163, s187_164, s187_167, s187_168, m9, f, f2, zbi_t, zbi_f, Bool.true_or, Bool.or_true, Bool.false_or, Bool.or_false, Bool.not_true, Bool.not_false]
    have e_at := Bool.eq_false_iff.mpr e_at
    simp only [e_at] at f f2 ⊢
    by_cases e_guess : w_guess = true
    · simp only [e_guess] at f f2 ⊢
      unfold zcall
      simp (config := {maxSteps := 1000000}) (disch := omega) only [↓reduceIte, Int32.reduceLT, Int32.reduceLE, Int32.reduceToNatClampNeg, Int32.reduceAdd, Int32.reduceSub, Int32.reduceMul, Nat.reduceLeDiff, zEL, zup_ne, zup_eq, zT0, zT1, zT2, if_true, if_false, r0, ze_187, s187_0, s187_1, s187_4, s187_5, s187_8, s187_9, s187_11, s187_14, s187_17, s187_18, s187_20, s187_23, s187_26, s187_27, s187_29, s187_32, s187_35, s187_36, s187_38, s187_41, s187_44, s187_45, s187_47, s187_50, s187_53, s187_54, s187_56, s187_59, s187_62, s187_63, s187_65, s187_68, s187_71, s187_72, s187_74, s187_77, s187_80, s187_81, s187_82, s187_83, s187_85, s187_88, s187_91, s187_92, s187_94, s187_97, s187_100, s187_101, s187_103, s187_106, s187_109, s187_110, s187_112, s187_115, s187_118, s187_119, s187_121, s187_124, s187_127, s187_128, s187_130, s187_133, s187_136, s187_137, s187_139, s187_142, s187_145, s187_146, s187_148, s187_151, s187_154, s187_155, s187_157, s187_160, s187_163, s187_164, s187_167, s187_168, m9, f, f2, zbi_t, zbi_f, Bool.true_or, Bool.or_true, Bool.false_or, Bool.or_false, Bool.not_true, Bool.not_false]
    have e_guess := Bool.eq_false_iff.mpr e_guess
    simp only [e_guess] at f f2 ⊢
    by_cases e_left : w_left = true
    · simp only [e_left] at f f2 ⊢
      unfold zcall
      simp (config := {maxSteps := 1000000}) (disch := omega) only [↓reduceIte, Int32.reduceLT, Int32.reduceLE, Int32.reduceToNatClampNeg, Int32.reduceAdd, Int32.reduceSub, Int32.reduceMul, Nat.reduceLeDiff, zEL, zup_ne, zup_eq, zT0, zT1, zT2, if_true, if_false, r0, ze_187, s187_0, s187_1, s187_4, s187_5, s187_8, s187_9, s187_11, s187_14, s187_17, s187_18, s187_20, s187_23, s187_26, s187_27, s187_29, s187_32, s187_35, s187_36, s187_38, s187_41, s187_44, s187_45, s187_47, s187_50, s187_53, s187_54, s187_56, s187_59, s187_62, s187_63, s187_65, s187_68, s187_71, s187_72, s187_74, s187_77, s187_80, s187_81, s187_82, s187_83, s187_85, s187_88, s187_91, s187_92, s187_94, s187_97, s187_100, s187_101, s187_103, s187_106, s187_109, s187_110, s187_112, s187_115, s187_118, s187_119, s187_121, s187_124, s187_127, s187_128, s187_130, s187_133, s187_136, s187_137, s187_139, s187_142, s187_145, s187_146, s187_148, s187_151, s187_154, s187_155, s187_157, s187_160, s187_163, s187_164, s187_167, s187_168, m9, f, f2, zbi_t, zbi_f, Bool.true_or, Bool.or_true, Bool.false_or, Bool.or_false, Bool.not_true, Bool.not_false]
    have e_left := Bool.eq_false_iff.mpr e_left
    simp only [e_left] at f f2 ⊢
    by_cases e_right : w_right = true
    · simp only [e_right] at f f2 ⊢
      unfold zcall
      simp (config := {maxSteps := 1000000}) (disch := omega) only [↓reduceIte, Int32.reduceLT, Int32.reduceLE, Int32.reduceToNatClampNeg, Int32.reduceAdd, Int32.reduceSub, Int32.reduceMul, Nat.reduceLeDiff, zEL, zup_ne, zup_eq, zT0, zT1, zT2, if_true, if_false, r0, ze_187, s187_0, s187_1, s187_4, s187_5, s187_8, s187_9, s187_11, s187_14, s187_17, s187_18, s187_20, s187_23, s187_26, s187_27, s187_29, s187_32, s187_35, s187_36, s187_38, s187_41, s187_44, s187_45, s187_47, s187_50, s187_53, s187_54, s187_56, s187_59, s187_62, s187_63, s187_65, s187_68, s187_71, s187_72, s187_74, s187_77, s187_80, s187_81, s187_82, s187_83, s187_85, s187_88, s187_91, s187_92, s187_94, s187_97, s187_100, s187_101, s187_103, s187_106, s187_109, s187_110, s187_112, s187_115, s187_118, s187_119, s187_121, s187_124, s187_127, s187_128, s187_130, s187_133, s187_136, s187_137, s187_139, s187_142, s187_145, s187_146, s187_148, s187_151, s187_154, s187_155, s187_157, s187_160, s187_163, s187_164, s187_167, s187_168, m9, f, f2, zbi_t, zbi_f, Bool.true_or, Bool.or_true, Bool.false_or, Bool.or_false, Bool.not_true, Bool.not_false]
    have e_right := Bool.eq_false_iff.mpr e_right
    simp only [e_right] at f f2 ⊢
    by_cases e_flat : w_flat = true
    · simp only [e_flat] at f f2 ⊢
      unfold zcall
      simp (config := {maxSteps := 1000000}) (disch := omega) only [↓reduceIte, Int32.reduceLT, Int32.reduceLE, Int32.reduceToNatClampNeg, Int32.reduceAdd, Int32.reduceSub, Int32.reduceMul, Nat.reduceLeDiff, zEL, zup_ne, zup_eq, zT0, zT1, zT2, if_true, if_false, r0, ze_187, s187_0, s187_1, s187_4, s187_5, s187_8, s187_9, s187_11, s187_14, s187_17, s187_18, s187_20, s187_23, s187_26, s187_27, s187_29, s187_32, s187_35, s187_36, s187_38, s187_41, s187_44, s187_45, s187_47, s187_50, s187_53, s187_54, s187_56, s187_59, s187_62, s187_63, s187_65, s187_68, s187_71, s187_72, s187_74, s187_77, s187_80, s187_81, s187_82, s187_83, s187_85, s187_88, s187_91, s187_92, s187_94, s187_97, s187_100, s187_101, s187_103, s187_106, s187_109, s187_110, s187_112, s187_115, s187_118, s187_119, s187_121, s187_124, s187_127, s187_128, s187_130, s187_133, s187_136, s187_137, s187_139, s187_142, s187_145, s187_146, s187_148, s187_151, s187_154, s187_155, s187_157, s187_160, s187_163, s187_164, s187_167, s187_168, m9, f, f2, zbi_t, zbi_f, Bool.true_or, Bool.or_true, Bool.false_or, Bool.or_false, Bool.not_true, Bool.not_false]
    have e_flat := Bool.eq_false_iff.mpr e_flat
    simp only [e_flat] at f f2 ⊢
    by_cases e_high : w_high = true
    · simp only [e_high] at f f2 ⊢
      unfold zcall
      simp (config := {maxSteps := 1000000}) (disch := omega) only [↓reduceIte, Int32.reduceLT, Int32.reduceLE, Int32.reduceToNatClampNeg, Int32.reduceAdd, Int32.reduceSub, Int32.reduceMul, Nat.reduceLeDiff, zEL, zup_ne, zup_eq, zT0, zT1, zT2, if_true, if_false, r0, ze_187, s187_0, s187_1, s187_4, s187_5, s187_8, s187_9, s187_11, s187_14, s187_17, s187_18, s187_20, s187_23, s187_26, s187_27, s187_29, s187_32, s187_35, s187_36, s187_38, s187_41, s187_44, s187_45, s187_47, s187_50, s187_53, s187_54, s187_56, s187_59, s187_62, s187_63, s187_65, s187_68, s187_71, s187_72, s187_74, s187_77, s187_80, s187_81, s187_82, s187_83, s187_85, s187_88, s187_91, s187_92, s187_94, s187_97, s187_100, s187_101, s187_103, s187_106, s187_109, s187_110, s187_112, s187_115, s187_118, s187_119, s187_121, s187_124, s187_127, s187_128, s187_130, s187_133, s187_136, s187_137, s187_139, s187_142, s187_145, s187_146, s187_148, s187_151, s187_154, s187_155, s187_157, s187_160, s187_163, s187_164, s187_167, s187_168, m9, f, f2, zbi_t, zbi_f, Bool.true_or, Bool.or_true, Bool.false_or, Bool.or_false, Bool.not_true, Bool.not_false]
    have e_high := Bool.eq_false_iff.mpr e_high
    simp only [e_high] at f f2 ⊢
    by_cases e_rolls : w_rolls = true
    · simp only [e_rolls] at f f2 ⊢
      unfold zcall
      simp (config := {maxSteps := 1000000}) (disch := omega) only [↓reduceIte, Int32.reduceLT, Int32.reduceLE, Int32.reduceToNatClampNeg, Int32.reduceAdd, Int32.reduceSub, Int32.reduceMul, Nat.reduceLeDiff, zEL, zup_ne, zup_eq, zT0, zT1, zT2, if_true, if_false, r0, ze_187, s187_0, s187_1, s187_4, s187_5, s187_8, s187_9, s187_11, s187_14, s187_17, s187_18, s187_20, s187_23, s187_26, s187_27, s187_29, s187_32, s187_35, s187_36, s187_38, s187_41, s187_44, s187_45, s187_47, s187_50, s187_53, s187_54, s187_56, s187_59, s187_62, s187_63, s187_65, s187_68, s187_71, s187_72, s187_74, s187_77, s187_80, s187_81, s187_82, s187_83, s187_85, s187_88, s187_91, s187_92, s187_94, s187_97, s187_100, s187_101, s187_103, s187_106, s187_109, s187_110, s187_112, s187_115, s187_118, s187_119, s187_121, s187_124, s187_127, s187_128, s187_130, s187_133, s187_136, s187_137, s187_139, s187_142, s187_145, s187_146, s187_148, s187_151, s187_154, s187_155, s187_157, s187_160, s187_163, s187_164, s187_167, s187_168, m9, f, f2, zbi_t, zbi_f, Bool.true_or, Bool.or_true, Bool.false_or, Bool.or_false, Bool.not_true, Bool.not_false]
    have e_rolls := Bool.eq_false_iff.mpr e_rolls
    simp only [e_rolls] at f f2 ⊢
    by_cases e_makes : w_makes = true
    · simp only [e_makes] at f f2 ⊢
      unfold zcall
      simp (config := {maxSteps := 1000000}) (disch := omega) only [↓reduceIte, Int32.reduceLT, Int32.reduceLE, Int32.reduceToNatClampNeg, Int32.reduceAdd, Int32.reduceSub, Int32.reduceMul, Nat.reduceLeDiff, zEL, zup_ne, zup_eq, zT0, zT1, zT2, if_true, if_false, r0, ze_187, s187_0, s187_1, s187_4, s187_5, s187_8, s187_9, s187_11, s187_14, s187_17, s187_18, s187_20, s187_23, s187_26, s187_27, s187_29, s187_32, s187_35, s187_36, s187_38, s187_41, s187_44, s187_45, s187_47, s187_50, s187_53, s187_54, s187_56, s187_59, s187_62, s187_63, s187_65, s187_68, s187_71, s187_72, s187_74, s187_77, s187_80, s187_81, s187_82, s187_83, s187_85, s187_88, s187_91, s187_92, s187_94, s187_97, s187_100, s187_101, s187_103, s187_106, s187_109, s187_110, s187_112, s187_115, s187_118, s187_119, s187_121, s187_124, s187_127, s187_128, s187_130, s187_133, s187_136, s187_137, s187_139, s187_142, s187_145, s187_146, s187_148, s187_151, s187_154, s187_155, s187_157, s187_160, s187_163, s187_164, s187_167, s187_168, m9, f, f2, zbi_t, zbi_f, Bool.true_or, Bool.or_true, Bool.false_or, Bool.or_false, Bool.not_true, Bool.not_false]
    have e_makes := Bool.eq_false_iff.mpr e_makes
    simp only [e_makes] at f f2 ⊢
    by_cases e_goes : w_goes = true
    · simp only [e_goes] at f f2 ⊢
      unfold zcall
      simp (config := {maxSteps := 1000000}) (disch := omega) only [↓reduceIte, Int32.reduceLT, Int32.reduceLE, Int32.reduceToNatClampNeg, Int32.reduceAdd, Int32.reduceSub, Int32.reduceMul, Nat.reduceLeDiff, zEL, zup_ne, zup_eq, zT0, zT1, zT2, if_true, if_false, r0, ze_187, s187_0, s187_1, s187_4, s187_5, s187_8, s187_9, s187_11, s187_14, s187_17, s187_18, s187_20, s187_23, s187_26, s187_27, s187_29, s187_32, s187_35, s187_36, s187_38, s187_41, s187_44, s187_45, s187_47, s187_50, s187_53, s187_54, s187_56, s187_59, s187_62, s187_63, s187_65, s187_68, s187_71, s187_72, s187_74, s187_77, s187_80, s187_81, s187_82, s187_83, s187_85, s187_88, s187_91, s187_92, s187_94, s187_97, s187_100, s187_101, s187_103, s187_106, s187_109, s187_110, s187_112, s187_115, s187_118, s187_119, s187_121, s187_124, s187_127, s187_128, s187_130, s187_133, s187_136, s187_137, s187_139, s187_142, s187_145, s187_146, s187_148, s187_151, s187_154, s187_155, s187_157, s187_160, s187_163, s187_164, s187_167, s187_168, m9, f, f2, zbi_t, zbi_f, Bool.true_or, Bool.or_true, Bool.false_or, Bool.or_false, Bool.not_true, Bool.not_false]
    have e_goes := Bool.eq_false_iff.mpr e_goes
    simp only [e_goes] at f f2 ⊢
    by_cases e_ducks : w_ducks = true
    · simp only [e_ducks] at f f2 ⊢
      unfold zcall
      simp (config := {maxSteps := 1000000}) (disch := omega) only [↓reduceIte, Int32.reduceLT, Int32.reduceLE, Int32.reduceToNatClampNeg, Int32.reduceAdd, Int32.reduceSub, Int32.reduceMul, Nat.reduceLeDiff, zEL, zup_ne, zup_eq, zT0, zT1, zT2, if_true, if_false, r0, ze_187, s187_0, s187_1, s187_4, s187_5, s187_8, s187_9, s187_11, s187_14, s187_17, s187_18, s187_20, s187_23, s187_26, s187_27, s187_29, s187_32, s187_35, s187_36, s187_38, s187_41, s187_44, s187_45, s187_47, s187_50, s187_53, s187_54, s187_56, s187_59, s187_62, s187_63, s187_65, s187_68, s187_71, s187_72, s187_74, s187_77, s187_80, s187_81, s187_82, s187_83, s187_85, s187_88, s187_91, s187_92, s187_94, s187_97, s187_100, s187_101, s187_103, s187_106, s187_109, s187_110, s187_112, s187_115, s187_118, s187_119, s187_121, s187_124, s187_127, s187_128, s187_130, s187_133, s187_136, s187_137, s187_139, s187_142, s187_145, s187_146, s187_148, s187_151, s187_154, s187_155, s187_157, s187_160, s187_163, s187_164, s187_167, s187_168, m9, f, f2, zbi_t, zbi_f, Bool.true_or, Bool.or_true, Bool.false_or, Bool.or_false, Bool.not_true, Bool.not_false]
    have e_ducks := Bool.eq_false_iff.mpr e_ducks
    simp only [e_ducks] at f f2 ⊢
    unfold zcall
    simp (config := {maxSteps := 1000000}) (disch := omega) only [↓reduceIte, Int32.reduceLT, Int32.reduceLE, Int32.reduceToNatClampNeg, Int32.reduceAdd, Int32.reduceSub, Int32.reduceMul, Nat.reduceLeDiff, zEL, zup_ne, zup_eq, zT0, zT1, zT2, if_true, if_false, r0, ze_187, s187_0, s187_1, s187_4, s187_5, s187_8, s187_9, s187_11, s187_14, s187_17, s187_18, s187_20, s187_23, s187_26, s187_27, s187_29, s187_32, s187_35, s187_36, s187_38, s187_41, s187_44, s187_45, s187_47, s187_50, s187_53, s187_54, s187_56, s187_59, s187_62, s187_63, s187_65, s187_68, s187_71, s187_72, s187_74, s187_77, s187_80, s187_81, s187_82, s187_83, s187_85, s187_88, s187_91, s187_92, s187_94, s187_97, s187_100, s187_101, s187_103, s187_106, s187_109, s187_110, s187_112, s187_115, s187_118, s187_119, s187_121, s187_124, s187_127, s187_128, s187_130, s187_133, s187_136, s187_137, s187_139, s187_142, s187_145, s187_146, s187_148, s187_151, s187_154, s187_155, s187_157, s187_160, s187_163, s187_164, s187_167, s187_168, m9, f, f2, zbi_t, zbi_f, Bool.true_or, Bool.or_true, Bool.false_or, Bool.or_false, Bool.not_true, Bool.not_false]
  · rw [decide_eq_false hk, Bool.false_and]
    have m92 : (nI (zst (zkN b n p q)) = 2) = False := eq_false (zst_ne (c := 2) (fun k h1 h2 h3 => by
      unfold zst at h2
      repeat' split at h2
      all_goals omega) (by omega))
    unfold zcall
    simp (config := {maxSteps := 1000000}) (disch := omega) only [↓reduceIte, Int32.reduceLT, Int32.reduceLE, Int32.reduceToNatClampNeg, Int32.reduceAdd, Int32.reduceSub, Int32.reduceMul, Nat.reduceLeDiff, zEL, zup_ne, zup_eq, zT0, zT1, zT2, if_true, if_false, r0, ze_187, s187_0, s187_1, s187_4, s187_5, s187_8, s187_9, s187_11, s187_14, s187_17, s187_18, s187_20, s187_23, s187_26, s187_27, s187_29, s187_32, s187_35, s187_36, s187_38, s187_41, s187_44, s187_45, s187_47, s187_50, s187_53, s187_54, s187_56, s187_59, s187_62, s187_63, s187_65, s187_68, s187_71, s187_72, s187_74, s187_77, s187_80, s187_81, s187_82, s187_83, s187_85, s187_88, s187_91, s187_92, s187_94, s187_97, s187_100, s187_101, s187_103, s187_106, s187_109, s187_110, s187_112, s187_115, s187_118, s187_119, s187_121, s187_124, s187_127, s187_128, s187_130, s187_133, s187_136, s187_137, s187_139, s187_142, s187_145, s187_146, s187_148, s187_151, s187_154, s187_155, s187_157, s187_160, s187_163, s187_164, s187_167, s187_168, m9, m92]
    all_goals rfl
theorem m187F (hR : zLT R) (h : Sm 0 9 = 5) : zcall 187 [.ref 0] R Sm Lm = some (some (.int 0), R, Sm, Lm) := by
  have r0 := hR
  unfold zLT at r0
  unfold zcall
  simp (config := {maxSteps := 1000000}) (disch := omega) only [↓reduceIte, Int32.reduceLT, Int32.reduceLE, Int32.reduceToNatClampNeg, Int32.reduceAdd, Int32.reduceSub, Int32.reduceMul, Nat.reduceLeDiff, zEL, zup_ne, zup_eq, zT0, zT1, zT2, if_true, if_false, r0, ze_187, s187_0, s187_1, s187_4, s187_5, s187_8, s187_9, s187_11, s187_14, s187_17, s187_18, s187_20, s187_23, s187_26, s187_27, s187_29, s187_32, s187_35, s187_36, s187_38, s187_41, s187_44, s187_45, s187_47, s187_50, s187_53, s187_54, s187_56, s187_59, s187_62, s187_63, s187_65, s187_68, s187_71, s187_72, s187_74, s187_77, s187_80, s187_81, s187_82, s187_83, s187_85, s187_88, s187_91, s187_92, s187_94, s187_97, s187_100, s187_101, s187_103, s187_106, s187_109, s187_110, s187_112, s187_115, s187_118, s187_119, s187_121, s187_124, s187_127, s187_128, s187_130, s187_133, s187_136, s187_137, s187_139, s187_142, s187_145, s187_146, s187_148, s187_151, s187_154, s187_155, s187_157, s187_160, s187_163, s187_164, s187_167, s187_168, h]
theorem op63_80 {l u : Nat} {lo hi lo' hi' : Int32} (hR : zLT R) (h : zST 80 n b S Sm Lm) (hl : l ≤ 1000) (hu : u ≤ 1000) (hb : S 80 6 = 0 → lo = nI l ∧ hi = nI u ∧ lo' = nI l ∧ hi' = nI u) : ∃ v v' : Int32, ∃ S' Sm' Lm', zcall 63 [.ref 80, .int lo, .int hi] zRc S L = some (some (.int v), zRc, S', L) ∧ zcall 185 [.ref 0, .int lo', .int hi'] R Sm Lm = some (some (.int v'), R, Sm', Lm') ∧ zST 80 n b S' Sm' Lm' ∧ zfr 80 S Sm Lm S' Sm' Lm' ∧ (S' 80 6 = 0 → S 80 6 = 0 ∧ ∃ x, l ≤ x ∧ x ≤ u ∧ v = nI x ∧ v' = nI x) := by
  have r0 := hR
  unfold zLT at r0
  obtain ⟨p, q, hT, hO⟩ := h
  have t2 := hT.2.2.2.2.1
  have hr := @zkN_r n p q b
  rcases hO with hO | hF
  · have h6 := hO.1
    obtain ⟨rfl, rfl, rfl, rfl⟩ := hb h6
    obtain ⟨m8, m9, m10, m11, m12, m15, mn⟩ := hO.2.2.2
    by_cases hk : zkN b n p q = 2
    · obtain ⟨v, k1, k2⟩ := t93 (L := L) hT
      have k2 := k2 hk
      obtain ⟨d1, d2, d3, d4, d5⟩ := zTK_d hT hk
      have hx : znu b p (q - p) < 10 ^ (q - p) := znu_le (fun j hj => d4 (p + j) (by omega) (by omega))
      have h10 : (10 : Nat) ^ (q - p) ≤ 10 ^ 3 := Nat.pow_le_pow_right (by omega) d3
      have mn := mn hk
      subst k2
      generalize znu b p (q - p) = x at k1 hx mn
      have hx : x < 1000 := by omega
      clear h10
      by_cases hin : l ≤ x ∧ x ≤ u
      · obtain ⟨S', Sm', Lm', a1, a2, a3, a4, a5⟩ := zsn_80 (L := L) hR hT hO (by omega) (by omega)
        have c1 := hin.1
        have c2 := hin.2
        rw [hk] at t2 m9
        have t2 : S 1 2 = 2 := t2
        have m9 : Sm 0 9 = 3 := m9
        refine ⟨nI x, nI x, S', Sm', Lm', ?_, ?_, a3, a4, fun _ => ⟨h6, x, c1, c2, rfl, rfl⟩⟩ <;> unfold zcall
        · simp (config := {maxSteps := 1000000}) (disch := omega) only [↓reduceIte, Int32.reduceLT, Int32.reduceLE, Int32.reduceToNatClampNeg, Int32.reduceAdd, Int32.reduceSub, Int32.reduceMul, Nat.reduceLeDiff, zEL, zup_ne, zup_eq, zT0, zT1, zT2, if_true, if_false, zneq_f, true_and, and_true, false_and, and_false, zKL, eq_self, Nat.reduceEqDiff, zite0, ite_not, zaddr, zaddl, zputr, zsb1, zsb2, zsb0, zsbm, znm1, gR, gX, ze_63, s63_0, s63_1, s63_4, s63_7, s63_8, s63_11, s63_12, s63_13, s63_16, s63_17, s63_20, s63_23, s63_24, s63_25, s63_26, s63_29, s63_30, s63_31, s63_34, s63_35, s63_36, s63_39, s63_40, s63_43, s63_46, s63_47, s63_48, s63_49, s63_52, s63_55, s63_56, t2, k1, h6, a1]
        · simp (config := {maxSteps := 1000000}) (disch := omega) only [↓reduceIte, Int32.reduceLT, Int32.reduceLE, Int32.reduceToNatClampNeg, Int32.reduceAdd, Int32.reduceSub, Int32.reduceMul, Nat.reduceLeDiff, zEL, zup_ne, zup_eq, zT0, zT1, zT2, if_true, if_false, zneq_f, true_and, and_true, false_and, and_false, zKL, eq_self, Nat.reduceEqDiff, zite0, ite_not, zaddr, zaddl, zputr, zsb1, zsb2, zsb0, zsbm, znm1, r0, ze_185, s185_0, s185_1, s185_4, s185_5, s185_8, s185_9, s185_10, s185_13, s185_16, s185_17, s185_20, s185_21, s185_22, s185_25, s185_28, s185_29, s185_30, s185_33, s185_34, s185_37, s185_38, s185_39, s185_42, s185_43, m9, mn, t173, a2]
      · obtain ⟨f1, f2, f3, f4, -⟩ := zFk_80 (f := 4) rfl (by omega) (by omega) hT hO
        have k3 : zcall 58 [.ref 80, .int 4] zRc S L = _ := c58O_80 (L := L) (k := nI 4) h6
        have k4 : zcall 180 [.ref 0, .int 4] R Sm Lm = _ := m180O (Lm := Lm) (k := nI 4) hR (zOK_9 hO)
        have k5 := m179F (Lm := Lm) hR f4
        rw [hk] at t2 m9
        have t2 : S 1 2 = 2 := t2
        have m9 : Sm 0 9 = 3 := m9
        refine ⟨-1, nI x, _, _, Lm, ?_, ?_, f1, f2, fun h => absurd h f3⟩ <;> unfold zcall
        · rcases (show x < l ∨ (l ≤ x ∧ u < x) by omega) with c1 | ⟨c1, c2⟩
          · simp (config := {maxSteps := 1000000}) (disch := omega) only [↓reduceIte, Int32.reduceLT, Int32.reduceLE, Int32.reduceToNatClampNeg, Int32.reduceAdd, Int32.reduceSub, Int32.reduceMul, Nat.reduceLeDiff, zEL, zup_ne, zup_eq, zT0, zT1, zT2, if_true, if_false, zneq_f, true_and, and_true, false_and, and_false, zKL, eq_self, Nat.reduceEqDiff, zite0, ite_not, zaddr, zaddl, zputr, zsb1, zsb2, zsb0, zsbm, znm1, gR, gX, ze_63, s63_0, s63_1, s63_4, s63_7, s63_8, s63_11, s63_12, s63_13, s63_16, s63_17, s63_20, s63_23, s63_24, s63_25, s63_26, s63_29, s63_30, s63_31, s63_34, s63_35, s63_36, s63_39, s63_40, s63_43, s63_46, s63_47, s63_48, s63_49, s63_52, s63_55, s63_56, t2, k1, k3]
          · simp (config := {maxSteps := 1000000}) (disch := omega) only [↓reduceIte, Int32.reduceLT, Int32.reduceLE, Int32.reduceToNatClampNeg, Int32.reduceAdd, Int32.reduceSub, Int32.reduceMul, Nat.reduceLeDiff, zEL, zup_ne, zup_eq, zT0, zT1, zT2, if_true, if_false, zneq_f, true_and, and_true, false_and, and_false, zKL, eq_self, Nat.reduceEqDiff, zite0, ite_not, zaddr, zaddl, zputr, zsb1, zsb2, zsb0, zsbm, znm1, gR, gX, ze_63, s63_0, s63_1, s63_4, s63_7, s63_8, s63_11, s63_12, s63_13, s63_16, s63_17, s63_20, s63_23, s63_24, s63_25, s63_26, s63_29, s63_30, s63_31, s63_34, s63_35, s63_36, s63_39, s63_40, s63_43, s63_46, s63_47, s63_48, s63_49, s63_52, s63_55, s63_56, t2, k1, k3]
        · rcases (show x < l ∨ (l ≤ x ∧ u < x) by omega) with c1 | ⟨c1, c2⟩
          · simp (config := {maxSteps := 1000000}) (disch := omega) only [↓reduceIte, Int32.reduceLT, Int32.reduceLE, Int32.reduceToNatClampNeg, Int32.reduceAdd, Int32.reduceSub, Int32.reduceMul, Nat.reduceLeDiff, zEL, zup_ne, zup_eq, zT0, zT1, zT2, if_true, if_false, zneq_f, true_and, and_true, false_and, and_false, zKL, eq_self, Nat.reduceEqDiff, zite0, ite_not, zaddr, zaddl, zputr, zsb1, zsb2, zsb0, zsbm, znm1, r0, ze_185, s185_0, s185_1, s185_4, s185_5, s185_8, s185_9, s185_10, s185_13, s185_16, s185_17, s185_20, s185_21, s185_22, s185_25, s185_28, s185_29, s185_30, s185_33, s185_34, s185_37, s185_38, s185_39, s185_42, s185_43, m9, mn, t173, k4, k5]
          · simp (config := {maxSteps := 1000000}) (disch := omega) only [↓reduceIte, Int32.reduceLT, Int32.reduceLE, Int32.reduceToNatClampNeg, Int32.reduceAdd, Int32.reduceSub, Int32.reduceMul, Nat.reduceLeDiff, zEL, zup_ne, zup_eq, zT0, zT1, zT2, if_true, if_false, zneq_f, true_and, and_true, false_and, and_false, zKL, eq_self, Nat.reduceEqDiff, zite0, ite_not, zaddr, zaddl, zputr, zsb1, zsb2, zsb0, zsbm, znm1, r0, ze_185, s185_0, s185_1, s185_4, s185_5, s185_8, s185_9, s185_10, s185_13, s185_16, s185_17, s185_20, s185_21, s185_22, s185_25, s185_28, s185_29, s185_30, s185_33, s185_34, s185_37, s185_38, s185_39, s185_42, s185_43, m9, mn, t173, k4, k5]
    · obtain ⟨f1, f2, f3, f4, f5⟩ := zFk_80 (f := 1) rfl (by omega) (by omega) hT hO
      have k3 : zcall 58 [.ref 80, .int 1] zRc S L = _ := c58O_80 (L := L) (k := nI 1) h6
      have k4 : zcall 180 [.ref 0, .int 1] R Sm Lm = _ := m180O (Lm := Lm) (k := nI 1) hR (zOK_9 hO)
      have k5 := m179F (Lm := Lm) hR f4
      have k6 := fun k => c58F_80 (L := L) (k := k) f3
      obtain ⟨v, k1, -⟩ := t93 (L := L) f5
      have t3 : (S 1 2 = 2) = False := eq_false (by rw [t2]; intro h9; exact hk ((znI_inj (b := 2) (by omega) (by omega)).mp h9))
      have m92 : (nI (zst (zkN b n p q)) = 3) = False := eq_false (zst_ne (c := 3) (fun k h1 h2 h3 => by
        unfold zst at h2
        repeat' split at h2
        all_goals omega) (by omega))
      refine ⟨-1, Sm 0 12, _, _, Lm, ?_, ?_, f1, f2, fun h => absurd h f3⟩ <;> unfold zcall
      · simp (config := {maxSteps := 1000000}) (disch := omega) only [↓reduceIte, Int32.reduceLT, Int32.reduceLE, Int32.reduceToNatClampNeg, Int32.reduceAdd, Int32.reduceSub, Int32.reduceMul, Nat.reduceLeDiff, zEL, zup_ne, zup_eq, zT0, zT1, zT2, if_true, if_false, zneq_f, true_and, and_true, false_and, and_false, zKL, eq_self, Nat.reduceEqDiff, zite0, ite_not, zaddr, zaddl, zputr, zsb1, zsb2, zsb0, zsbm, znm1, gR, gX, ze_63, s63_0, s63_1, s63_4, s63_7, s63_8, s63_11, s63_12, s63_13, s63_16, s63_17, s63_20, s63_23, s63_24, s63_25, s63_26, s63_29, s63_30, s63_31, s63_34, s63_35, s63_36, s63_39, s63_40, s63_43, s63_46, s63_47, s63_48, s63_49, s63_52, s63_55, s63_56, t3, k3, k1, k6]
        all_goals (repeat' split)
        all_goals rfl
      · simp (config := {maxSteps := 1000000}) (disch := omega) only [↓reduceIte, Int32.reduceLT, Int32.reduceLE, Int32.reduceToNatClampNeg, Int32.reduceAdd, Int32.reduceSub, Int32.reduceMul, Nat.reduceLeDiff, zEL, zup_ne, zup_eq, zT0, zT1, zT2, if_true, if_false, r0, ze_185, s185_0, s185_1, s185_4, s185_5, s185_8, s185_9, s185_10, s185_13, s185_16, s185_17, s185_20, s185_21, s185_22, s185_25, s185_28, s185_29, s185_30, s185_33, s185_34, s185_37, s185_38, s185_39, s185_42, s185_43, m9, m92, k4, k5]
  · have hne := zFA_ne hF
    have k3 := fun k => c58F_80 (L := L) (k := k) hne
    have m9 : Sm 0 9 = 5 := by obtain ⟨f, pl, -, -, -, -, -, h9, -⟩ := hF; exact h9
    have k4 := fun k => m180F (Lm := Lm) (k := k) hR m9
    have k5 := m179F (Lm := Lm) hR m9
    obtain ⟨v, k1, -⟩ := t93 (L := L) hT
    refine ⟨-1, Sm 0 12, S, Sm, Lm, ?_, ?_, ⟨p, q, hT, .inr hF⟩, zfr_r, fun h => absurd h hne⟩ <;> unfold zcall
    · simp (config := {maxSteps := 1000000}) (disch := omega) only [↓reduceIte, Int32.reduceLT, Int32.reduceLE, Int32.reduceToNatClampNeg, Int32.reduceAdd, Int32.reduceSub, Int32.reduceMul, Nat.reduceLeDiff, zEL, zup_ne, zup_eq, zT0, zT1, zT2, if_true, if_false, gR, gX, ze_63, s63_0, s63_1, s63_4, s63_7, s63_8, s63_11, s63_12, s63_13, s63_16, s63_17, s63_20, s63_23, s63_24, s63_25, s63_26, s63_29, s63_30, s63_31, s63_34, s63_35, s63_36, s63_39, s63_40, s63_43, s63_46, s63_47, s63_48, s63_49, s63_52, s63_55, s63_56, k1, k3, hne]
      all_goals (repeat' split)
      all_goals rfl
    · simp (config := {maxSteps := 1000000}) (disch := omega) only [↓reduceIte, Int32.reduceLT, Int32.reduceLE, Int32.reduceToNatClampNeg, Int32.reduceAdd, Int32.reduceSub, Int32.reduceMul, Nat.reduceLeDiff, zEL, zup_ne, zup_eq, zT0, zT1, zT2, if_true, if_false, r0, ze_185, s185_0, s185_1, s185_4, s185_5, s185_8, s185_9, s185_10, s185_13, s185_16, s185_17, s185_20, s185_21, s185_22, s185_25, s185_28, s185_29, s185_30, s185_33, s185_34, s185_37, s185_38, s185_39, s185_42, s185_43, m9, k4, k5]
theorem op62_80 {l u r r' : Nat} {lo hi lo' hi' : Int32} {W : List Nat} (hR : zLT R) (hc : ∀ p q S L, zTKc n b p q S → zcall 92 [.ref 1, .ref r] zRc S L = some (some (.int (zbi (zW b n p q W))), zRc, S, L)) (hm : ∀ p q S Sm Lm, zTK n b p q S Sm Lm → zcall 181 [.ref 0, .ref r'] R Sm Lm = some (some (.int (zbi (zW b n p q W))), R, Sm, Lm)) (h : zST 80 n b S Sm Lm) (hl : l ≤ 1000) (hu : u ≤ 1000) (hb : S 80 6 = 0 → lo = nI l ∧ hi = nI u ∧ lo' = nI l ∧ hi' = nI u) : ∃ v v' : Int32, ∃ S' Sm' Lm', zcall 62 [.ref 80, .ref r, .int lo, .int hi] zRc S L = some (some (.int v), zRc, S', L) ∧ zcall 186 [.ref 0, .ref r', .int lo', .int hi'] R Sm Lm = some (some (.int v'), R, Sm', Lm') ∧ zST 80 n b S' Sm' Lm' ∧ zfr 80 S Sm Lm S' Sm' Lm' ∧ (S' 80 6 = 0 → S 80 6 = 0 ∧ ∃ x, l ≤ x ∧ x ≤ u ∧ v = nI x ∧ v' = nI x) := by
  have r0 := hR
  unfold zLT at r0
  obtain ⟨S1, Sm1, Lm1, a1, a2, a3, a4, a5⟩ := op60_80 (L := L) hR hc hm h
  obtain ⟨v, v', S2, Sm2, Lm2, c1, c2, c3, c4, c5⟩ := op63_80 (L := L) hR a3 hl hu (fun h => hb (a5 h))
  refine ⟨v, v', S2, Sm2, Lm2, ?_, ?_, c3, zfr_t a4 c4, fun h => ⟨a5 (c5 h).1, (c5 h).2⟩⟩ <;> unfold zcall
  · simp (config := {maxSteps := 1000000}) (disch := omega) only [↓reduceIte, Int32.reduceLT, Int32.reduceLE, Int32.reduceToNatClampNeg, Int32.reduceAdd, Int32.reduceSub, Int32.reduceMul, Nat.reduceLeDiff, zEL, zup_ne, zup_eq, zT0, zT1, zT2, if_true, if_false, gR, ze_62, s62_0, s62_1, s62_2, s62_5, s62_6, s62_7, s62_8, s62_11, a1, c1]
  · simp (config := {maxSteps := 1000000}) (disch := omega) only [↓reduceIte, Int32.reduceLT, Int32.reduceLE, Int32.reduceToNatClampNeg, Int32.reduceAdd, Int32.reduceSub, Int32.reduceMul, Nat.reduceLeDiff, zEL, zup_ne, zup_eq, zT0, zT1, zT2, if_true, if_false, r0, ze_186, s186_0, s186_1, s186_2, s186_5, s186_6, s186_7, s186_8, s186_11, a2, c2]
/-- the first WORD of a LINE for which there is room, or isn't -/
theorem op59_80 {fl many most : Int32} (hR : zLT R) (hT : zTKc n b p q S) (hO : zOKs 80 n b p q S Sm Lm) (hk : zkN b n p q = 1) (hf : (fl = 1 ∧ many = most) ∨ (fl = 0 ∧ ¬ many = most)) : ∃ S' Sm' Lm', zcall 59 [.ref 80, .int fl] zRc S L = some (none, zRc, S', L) ∧ zcall 188 [.ref 0, .int many, .int most] R Sm Lm = some (none, R, Sm', Lm') ∧ zST 80 n b S' Sm' Lm' ∧ zfr 80 S Sm Lm S' Sm' Lm' ∧ (S' 80 6 = 0 → fl = 0) := by
  have r0 := hR
  unfold zLT at r0
  have h6 := hO.1
  rcases hf with ⟨rfl, hf⟩ | ⟨rfl, hf⟩
  · obtain ⟨f1, f2, f3, f4, -⟩ := zFk_80 (f := 5) rfl (by omega) (by omega) hT hO
    have k3 : zcall 58 [.ref 80, .int 5] zRc S L = _ := c58O_80 (L := L) (k := nI 5) h6
    have k4 : zcall 180 [.ref 0, .int 5] R Sm Lm = _ := m180O (Lm := Lm) (k := nI 5) hR (zOK_9 hO)
    have k5 := m179F (Lm := Lm) hR f4
    refine ⟨_, _, Lm, ?_, ?_, f1, f2, fun h => absurd h f3⟩ <;> unfold zcall
    · simp (config := {maxSteps := 1000000}) (disch := omega) only [↓reduceIte, Int32.reduceLT, Int32.reduceLE, Int32.reduceToNatClampNeg, Int32.reduceAdd, Int32.reduceSub, Int32.reduceMul, Nat.reduceLeDiff, zEL, zup_ne, zup_eq, zT0, zT1, zT2, if_true, if_false, zneq_f, true_and, and_true, false_and, and_false, zKL, eq_self, Nat.reduceEqDiff, zite0, ite_not, zaddr, zaddl, zputr, zsb1, zsb2, zsb0, zsbm, znm1, gR, gX, ze_59, s59_0, s59_1, s59_4, s59_5, s59_6, s59_9, s59_10, s59_13, s59_16, s59_17, s59_20, s59_23, k3]
    · simp (config := {maxSteps := 1000000}) (disch := omega) only [↓reduceIte, Int32.reduceLT, Int32.reduceLE, Int32.reduceToNatClampNeg, Int32.reduceAdd, Int32.reduceSub, Int32.reduceMul, Nat.reduceLeDiff, zEL, zup_ne, zup_eq, zT0, zT1, zT2, if_true, if_false, r0, ze_188, s188_0, s188_1, s188_2, s188_5, s188_6, s188_7, s188_10, s188_11, s188_14, hf, k4, k5]
  · obtain ⟨S', Sm', Lm', a1, a2, a3, a4, a5⟩ := zsn_80 (L := L) hR hT hO (by omega) (by omega)
    refine ⟨S', Sm', Lm', ?_, ?_, a3, a4, fun _ => rfl⟩ <;> unfold zcall
    · simp (config := {maxSteps := 1000000}) (disch := omega) only [↓reduceIte, Int32.reduceLT, Int32.reduceLE, Int32.reduceToNatClampNeg, Int32.reduceAdd, Int32.reduceSub, Int32.reduceMul, Nat.reduceLeDiff, zEL, zup_ne, zup_eq, zT0, zT1, zT2, if_true, if_false, gR, gX, ze_59, s59_0, s59_1, s59_4, s59_5, s59_6, s59_9, s59_10, s59_13, s59_16, s59_17, s59_20, s59_23, h6, a1]
    · simp (config := {maxSteps := 1000000}) (disch := omega) only [↓reduceIte, Int32.reduceLT, Int32.reduceLE, Int32.reduceToNatClampNeg, Int32.reduceAdd, Int32.reduceSub, Int32.reduceMul, Nat.reduceLeDiff, zEL, zup_ne, zup_eq, zT0, zT1, zT2, if_true, if_false, r0, ze_188, s188_0, s188_1, s188_2, s188_5, s188_6, s188_7, s188_10, s188_11, s188_14, hf, a2]
theorem op59g_80 (hR : zLT R) (h : zST 80 n b S Sm Lm) (hk : S 80 6 = 0 → S 1 2 = 1) : ∃ S' Sm' Lm', zcall 59 [.ref 80, .int 0] zRc S L = some (none, zRc, S', L) ∧ zcall 179 [.ref 0] R Sm Lm = some (none, R, Sm', Lm') ∧ zST 80 n b S' Sm' Lm' ∧ zfr 80 S Sm Lm S' Sm' Lm' ∧ (S' 80 6 = 0 → S 80 6 = 0) := by
  obtain ⟨p, q, hT, hO⟩ := h
  rcases hO with hO | hF
  · have h6 := hO.1
    have hk := hk h6
    rw [hT.2.2.2.2.1] at hk
    have hr := @zkN_r n p q b
    have hk := (znI_inj (b := 1) (by omega) (by omega)).mp hk
    obtain ⟨S', Sm', Lm', a1, a2, a3, a4, a5⟩ := zsn_80 (L := L) hR hT hO (by omega) (by omega)
    refine ⟨S', Sm', Lm', ?_, a2, a3, a4, fun _ => h6⟩
    unfold zcall
    simp (config := {maxSteps := 1000000}) (disch := omega) only [↓reduceIte, Int32.reduceLT, Int32.reduceLE, Int32.reduceToNatClampNeg, Int32.reduceAdd, Int32.reduceSub, Int32.reduceMul, Nat.reduceLeDiff, zEL, zup_ne, zup_eq, zT0, zT1, zT2, if_true, if_false, gR, gX, ze_59, s59_0, s59_1, s59_4, s59_5, s59_6, s59_9, s59_10, s59_13, s59_16, s59_17, s59_20, s59_23, h6, a1]
  · have hne := zFA_ne hF
    have m9 : Sm 0 9 = 5 := by obtain ⟨f, pl, -, -, -, -, -, h9, -⟩ := hF; exact h9
    refine ⟨S, Sm, Lm, ?_, m179F hR m9, ⟨p, q, hT, .inr hF⟩, zfr_r, fun h => h⟩
    unfold zcall
    simp (config := {maxSteps := 1000000}) (disch := omega) only [↓reduceIte, Int32.reduceLT, Int32.reduceLE, Int32.reduceToNatClampNeg, Int32.reduceAdd, Int32.reduceSub, Int32.reduceMul, Nat.reduceLeDiff, zEL, zup_ne, zup_eq, zT0, zT1, zT2, if_true, if_false, gR, gX, ze_59, s59_0, s59_1, s59_4, s59_5, s59_6, s59_9, s59_10, s59_13, s59_16, s59_17, s59_20, s59_23, hne]
theorem c66_80 {k : Nat} {x : Int64} (hk : k ≤ 26) (h : S 80 5 = nI k) : zcall 66 [.ref 80, .long x] zRc S L = some (some (.int (zon (zfd (fun i => decide (L 157 i = x)) k))), zRc, S, L) := by
  have key : ∀ d i, i + d = k → zfd (fun i => decide (L 157 i = x)) i = none → zgo 66 2 [.ref 80, .long x, .retAddr 0, .int (nI i)] [] zRc S L = some (some (.int (zon (zfd (fun i => decide (L 157 i = x)) k))), zRc, S, L) := by
    intro d
    induction d with
    | zero =>
      intro i hd hz
      have hi : i = k := by omega
      subst hi
      rw [hz, s66_2]
      simp (config := {maxSteps := 1000000}) (disch := omega) only [↓reduceIte, Int32.reduceLT, Int32.reduceLE, Int32.reduceToNatClampNeg, Int32.reduceAdd, Int32.reduceSub, Int32.reduceMul, Nat.reduceLeDiff, zEL, zup_ne, zup_eq, zT0, zT1, zT2, if_true, if_false, zneq_f, true_and, and_true, false_and, and_false, zKL, eq_self, Nat.reduceEqDiff, zite0, ite_not, zaddr, zaddl, zputr, zsb1, zsb2, zsb0, zsbm, znm1, gR, lcl_157, lca_157, s66_3, s66_4, s66_7, s66_10, s66_11, s66_12, s66_15, s66_16, s66_19, s66_20, s66_23, s66_24, s66_25, s66_26, s66_27, s66_30, s66_31, s66_32, s66_35, s66_38, s66_39, h, zon_n]
    | succ d ih =>
      intro i hd hz
      by_cases e : L 157 i = x
      · rw [zfd_at hz (decide_eq_true e) (show i < k by omega), s66_2]
        simp (config := {maxSteps := 1000000}) (disch := omega) only [↓reduceIte, Int32.reduceLT, Int32.reduceLE, Int32.reduceToNatClampNeg, Int32.reduceAdd, Int32.reduceSub, Int32.reduceMul, Nat.reduceLeDiff, zEL, zup_ne, zup_eq, zT0, zT1, zT2, if_true, if_false, zneq_f, true_and, and_true, false_and, and_false, zKL, eq_self, Nat.reduceEqDiff, zite0, ite_not, zaddr, zaddl, zputr, zsb1, zsb2, zsb0, zsbm, znm1, gR, lcl_157, lca_157, s66_3, s66_4, s66_7, s66_10, s66_11, s66_12, s66_15, s66_16, s66_19, s66_20, s66_23, s66_24, s66_25, s66_26, s66_27, s66_30, s66_31, s66_32, s66_35, s66_38, s66_39, h, zon_s, e, lg_cmp0]
      · rw [← ih (i + 1) (by omega) (zfd_n hz (decide_eq_false e)), s66_2]
        simp (config := {maxSteps := 1000000}) (disch := omega) only [↓reduceIte, Int32.reduceLT, Int32.reduceLE, Int32.reduceToNatClampNeg, Int32.reduceAdd, Int32.reduceSub, Int32.reduceMul, Nat.reduceLeDiff, zEL, zup_ne, zup_eq, zT0, zT1, zT2, if_true, if_false, zneq_f, true_and, and_true, false_and, and_false, zKL, eq_self, Nat.reduceEqDiff, zite0, ite_not, zaddr, zaddl, zputr, zsb1, zsb2, zsb0, zsbm, znm1, gR, lcl_157, lca_157, s66_3, s66_4, s66_7, s66_10, s66_11, s66_12, s66_15, s66_16, s66_19, s66_20, s66_23, s66_24, s66_25, s66_26, s66_27, s66_30, s66_31, s66_32, s66_35, s66_38, s66_39, h, e, lg_cmp0]
  have := key k 0 (by omega) rfl
  unfold zcall
  simp (config := {maxSteps := 1000000}) (disch := omega) only [↓reduceIte, Int32.reduceLT, Int32.reduceLE, Int32.reduceToNatClampNeg, Int32.reduceAdd, Int32.reduceSub, Int32.reduceMul, Nat.reduceLeDiff, zEL, zup_ne, zup_eq, zT0, zT1, zT2, if_true, if_false, zneq_f, true_and, and_true, false_and, and_false, zKL, eq_self, Nat.reduceEqDiff, zite0, ite_not, zaddr, zaddl, zputr, zsb1, zsb2, zsb0, zsbm, znm1, ze_66, s66_0, s66_1]
  exact this
theorem op63_162 {l u : Nat} {lo hi lo' hi' : Int32} (hR : zLT R) (h : zST 162 n b S Sm Lm) (hl : l ≤ 1000) (hu : u ≤ 1000) (hb : S 162 6 = 0 → lo = nI l ∧ hi = nI u ∧ lo' = nI l ∧ hi' = nI u) : ∃ v v' : Int32, ∃ S' Sm' Lm', zcall 63 [.ref 162, .int lo, .int hi] zRc S L = some (some (.int v), zRc, S', L) ∧ zcall 185 [.ref 0, .int lo', .int hi'] R Sm Lm = some (some (.int v'), R, Sm', Lm') ∧ zST 162 n b S' Sm' Lm' ∧ zfr 162 S Sm Lm S' Sm' Lm' ∧ (S' 162 6 = 0 → S 162 6 = 0 ∧ ∃ x, l ≤ x ∧ x ≤ u ∧ v = nI x ∧ v' = nI x) := by
  have r0 := hR
  unfold zLT at r0
  obtain ⟨p, q, hT, hO⟩ := h
  have t2 := hT.2.2.2.2.1
  have hr := @zkN_r n p q b
  rcases hO with hO | hF
  · have h6 := hO.1
    obtain ⟨rfl, rfl, rfl, rfl⟩ := hb h6
    obtain ⟨m8, m9, m10, m11, m12, m15, mn⟩ := hO.2.2.2
    by_cases hk : zkN b n p q = 2
    · obtain ⟨v, k1, k2⟩ := t93 (L := L) hT
      have k2 := k2 hk
      obtain ⟨d1, d2, d3, d4, d5⟩ := zTK_d hT hk
      have hx : znu b p (q - p) < 10 ^ (q - p) := znu_le (fun j hj => d4 (p + j) (by omega) (by omega))
      have h10 : (10 : Nat) ^ (q - p) ≤ 10 ^ 3 := Nat.pow_le_pow_right (by omega) d3
      have mn := mn hk
      subst k2
      generalize znu b p (q - p) = x at k1 hx mn
      have hx : x < 1000 := by omega
      clear h10
      by_cases hin : l ≤ x ∧ x ≤ u
      · obtain ⟨S', Sm', Lm', a1, a2, a3, a4, a5⟩ := zsn_162 (L := L) hR hT hO (by omega) (by omega)
        have c1 := hin.1
        have c2 := hin.2
        rw [hk] at t2 m9
        have t2 : S 1 2 = 2 := t2
        have m9 : Sm 0 9 = 3 := m9
        refine ⟨nI x, nI x, S', Sm', Lm', ?_, ?_, a3, a4, fun _ => ⟨h6, x, c1, c2, rfl, rfl⟩⟩ <;> unfold zcall
        · simp (config := {maxSteps := 1000000}) (disch := omega) only [↓reduceIte, Int32.reduceLT, Int32.reduceLE, Int32.reduceToNatClampNeg, Int32.reduceAdd, Int32.reduceSub, Int32.reduceMul, Nat.reduceLeDiff, zEL, zup_ne, zup_eq, zT0, zT1, zT2, if_true, if_false, zneq_f, true_and, and_true, false_and, and_false, zKL, eq_self, Nat.reduceEqDiff, zite0, ite_not, zaddr, zaddl, zputr, zsb1, zsb2, zsb0, zsbm, znm1, gR, gX, ze_63, s63_0, s63_1, s63_4, s63_7, s63_8, s63_11, s63_12, s63_13, s63_16, s63_17, s63_20, s63_23, s63_24, s63_25, s63_26, s63_29, s63_30, s63_31, s63_34, s63_35, s63_36, s63_39, s63_40, s63_43, s63_46, s63_47, s63_48, s63_49, s63_52, s63_55, s63_56, t2, k1, h6, a1]
        · simp (config := {maxSteps := 1000000}) (disch := omega) only [↓reduceIte, Int32.reduceLT, Int32.reduceLE, Int32.reduceToNatClampNeg, Int32.reduceAdd, Int32.reduceSub, Int32.reduceMul, Nat.reduceLeDiff, zEL, zup_ne, zup_eq, zT0, zT1, zT2, if_true, if_false, zneq_f, true_and, and_true, false_and, and_false, zKL, eq_self, Nat.reduceEqDiff, zite0, ite_not, zaddr, zaddl, zputr, zsb1, zsb2, zsb0, zsbm, znm1, r0, ze_185, s185_0, s185_1, s185_4, s185_5, s185_8, s185_9, s185_10, s185_13, s185_16, s185_17, s185_20, s185_21, s185_22, s185_25, s185_28, s185_29, s185_30, s185_33, s185_34, s185_37, s185_38, s185_39, s185_42, s185_43, m9, mn, t173, a2]
      · obtain ⟨f1, f2, f3, f4, -⟩ := zFk_162 (f := 4) rfl (by omega) (by omega) hT hO
        have k3 : zcall 58 [.ref 162, .int 4] zRc S L = _ := c58O_162 (L := L) (k := nI 4) h6
        have k4 : zcall 180 [.ref 0, .int 4] R Sm Lm = _ := m180O (Lm := Lm) (k := nI 4) hR (zOK_9 hO)
        have k5 := m179F (Lm := Lm) hR f4
        rw [hk] at t2 m9
        have t2 : S 1 2 = 2 := t2
        have m9 : Sm 0 9 = 3 := m9
        refine ⟨-1, nI x, _, _, Lm, ?_, ?_, f1, f2, fun h => absurd h f3⟩ <;> unfold zcall
        · rcases (show x < l ∨ (l ≤ x ∧ u < x) by omega) with c1 | ⟨c1, c2⟩
          · simp (config := {maxSteps := 1000000}) (disch := omega) only [↓reduceIte, Int32.reduceLT, Int32.reduceLE, Int32.reduceToNatClampNeg, Int32.reduceAdd, Int32.reduceSub, Int32.reduceMul, Nat.reduceLeDiff, zEL, zup_ne, zup_eq, zT0, zT1, zT2, if_true, if_false, zneq_f, true_and, and_true, false_and, and_false, zKL, eq_self, Nat.reduceEqDiff, zite0, ite_not, zaddr, zaddl, zputr, zsb1, zsb2, zsb0, zsbm, znm1, gR, gX, ze_63, s63_0, s63_1, s63_4, s63_7, s63_8, s63_11, s63_12, s63_13, s63_16, s63_17, s63_20, s63_23, s63_24, s63_25, s63_26, s63_29, s63_30, s63_31, s63_34, s63_35, s63_36, s63_39, s63_40, s63_43, s63_46, s63_47, s63_48, s63_49, s63_52, s63_55, s63_56, t2, k1, k3]
          · simp (config := {maxSteps := 1000000}) (disch := omega) only [↓reduceIte, Int32.reduceLT, Int32.reduceLE, Int32.reduceToNatClampNeg, Int32.reduceAdd, Int32.reduceSub, Int32.reduceMul, Nat.reduceLeDiff, zEL, zup_ne, zup_eq, zT0, zT1, zT2, if_true, if_false, zneq_f, true_and, and_true, false_and, and_false, zKL, eq_self, Nat.reduceEqDiff, zite0, ite_not, zaddr, zaddl, zputr, zsb1, zsb2, zsb0, zsbm, znm1, gR, gX, ze_63, s63_0, s63_1, s63_4, s63_7, s63_8, s63_11, s63_12, s63_13, s63_16, s63_17, s63_20, s63_23, s63_24, s63_25, s63_26, s63_29, s63_30, s63_31, s63_34, s63_35, s63_36, s63_39, s63_40, s63_43, s63_46, s63_47, s63_48, s63_49, s63_52, s63_55, s63_56, t2, k1, k3]
        · rcases (show x < l ∨ (l ≤ x ∧ u < x) by omega) with c1 | ⟨c1, c2⟩
          · simp (config := {maxSteps := 1000000}) (disch := omega) only [↓reduceIte, Int32.reduceLT, Int32.reduceLE, Int32.reduceToNatClampNeg, Int32.reduceAdd, Int32.reduceSub, Int32.reduceMul, Nat.reduceLeDiff, zEL, zup_ne, zup_eq, zT0, zT1, zT2, if_true, if_false, zneq_f, true_and, and_true, false_and, and_false, zKL, eq_self, Nat.reduceEqDiff, zite0, ite_not, zaddr, zaddl, zputr, zsb1, zsb2, zsb0, zsbm, znm1, r0, ze_185, s185_0, s185_1, s185_4, s185_5, s185_8, s185_9, s185_10, s185_13, s185_16, s185_17, s185_20, s185_21, s185_22, s185_25, s185_28, s185_29, s185_30, s185_33, s185_34, s185_37, s185_38, s185_39, s185_42, s185_43, m9, mn, t173, k4, k5]
          · simp (config := {maxSteps := 1000000}) (disch := omega) only [↓reduceIte, Int32.reduceLT, Int32.reduceLE, Int32.reduceToNatClampNeg, Int32.reduceAdd, Int32.reduceSub, Int32.reduceMul, Nat.reduceLeDiff, zEL, zup_ne, zup_eq, zT0, zT1, zT2, if_true, if_false, zneq_f, true_and, and_true, false_and, and_false, zKL, eq_self, Nat.reduceEqDiff, zite0, ite_not, zaddr, zaddl, zputr, zsb1, zsb2, zsb0, zsbm, znm1, r0, ze_185, s185_0, s185_1, s185_4, s185_5, s185_8, s185_9, s185_10, s185_13, s185_16, s185_17, s185_20, s185_21, s185_22, s185_25, s185_28, s185_29, s185_30, s185_33, s185_34, s185_37, s185_38, s185_39, s185_42, s185_43, m9, mn, t173, k4, k5]
    · obtain ⟨f1, f2, f3, f4, f5⟩ := zFk_162 (f := 1) rfl (by omega) (by omega) hT hO
      have k3 : zcall 58 [.ref 162, .int 1] zRc S L = _ := c58O_162 (L := L) (k := nI 1) h6
      have k4 : zcall 180 [.ref 0, .int 1] R Sm Lm = _ := m180O (Lm := Lm) (k := nI 1) hR (zOK_9 hO)
      have k5 := m179F (Lm := Lm) hR f4
      have k6 := fun k => c58F_162 (L := L) (k := k) f3
      obtain ⟨v, k1, -⟩ := t93 (L := L) f5
      have t3 : (S 1 2 = 2) = False := eq_false (by rw [t2]; intro h9; exact hk ((znI_inj (b := 2) (by omega) (by omega)).mp h9))
      have m92 : (nI (zst (zkN b n p q)) = 3) = False := eq_false (zst_ne (c := 3) (fun k h1 h2 h3 => by
        unfold zst at h2
        repeat' split at h2
        all_goals omega) (by omega))
      refine ⟨-1, Sm 0 12, _, _, Lm, ?_, ?_, f1, f2, fun h => absurd h f3⟩ <;> unfold zcall
      · simp (config := {maxSteps := 1000000}) (disch := omega) only [↓reduceIte, Int32.reduceLT, Int32.reduceLE, Int32.reduceToNatClampNeg, Int32.reduceAdd, Int32.reduceSub, Int32.reduceMul, Nat.reduceLeDiff, zEL, zup_ne, zup_eq, zT0, zT1, zT2, if_true, if_false, zneq_f, true_and, and_true, false_and, and_false, zKL, eq_self, Nat.reduceEqDiff, zite0, ite_not, zaddr, zaddl, zputr, zsb1, zsb2, zsb0, zsbm, znm1, gR, gX, ze_63, s63_0, s63_1, s63_4, s63_7, s63_8, s63_11, s63_12, s63_13, s63_16, s63_17, s63_20, s63_23, s63_24, s63_25, s63_26, s63_29, s63_30, s63_31, s63_34, s63_35, s63_36, s63_39, s63_40, s63_43, s63_46, s63_47, s63_48, s63_49, s63_52, s63_55, s63_56, t3, k3, k1, k6]
        all_goals (repeat' split)
        all_goals rfl
      · simp (config := {maxSteps := 1000000}) (disch := omega) only [↓reduceIte, Int32.reduceLT, Int32.reduceLE, Int32.reduceToNatClampNeg, Int32.reduceAdd, Int32.reduceSub, Int32.reduceMul, Nat.reduceLeDiff, zEL, zup_ne, zup_eq, zT0, zT1, zT2, if_true, if_false, r0, ze_185, s185_0, s185_1, s185_4, s185_5, s185_8, s185_9, s185_10, s185_13, s185_16, s185_17, s185_20, s185_21, s185_22, s185_25, s185_28, s185_29, s185_30, s185_33, s185_34, s185_37, s185_38, s185_39, s185_42, s185_43, m9, m92, k4, k5]
  · have hne := zFA_ne hF
    have k3 := fun k => c58F_162 (L := L) (k := k) hne
    have m9 : Sm 0 9 = 5 := by obtain ⟨f, pl, -, -, -, -, -, h9, -⟩ := hF; exact h9
    have k4 := fun k => m180F (Lm := Lm) (k := k) hR m9
    have k5 := m179F (Lm := Lm) hR m9
    obtain ⟨v, k1, -⟩ := t93 (L := L) hT
    refine ⟨-1, Sm 0 12, S, Sm, Lm, ?_, ?_, ⟨p, q, hT, .inr hF⟩, zfr_r, fun h => absurd h hne⟩ <;> unfold zcall
    · simp (config := {maxSteps := 1000000}) (disch := omega) only [↓reduceIte, Int32.reduceLT, Int32.reduceLE, Int32.reduceToNatClampNeg, Int32.reduceAdd, Int32.reduceSub, Int32.reduceMul, Nat.reduceLeDiff, zEL, zup_ne, zup_eq, zT0, zT1, zT2, if_true, if_false, gR, gX, ze_63, s63_0, s63_1, s63_4, s63_7, s63_8, s63_11, s63_12, s63_13, s63_16, s63_17, s63_20, s63_23, s63_24, s63_25, s63_26, s63_29, s63_30, s63_31, s63_34, s63_35, s63_36, s63_39, s63_40, s63_43, s63_46, s63_47, s63_48, s63_49, s63_52, s63_55, s63_56, k1, k3, hne]
      all_goals (repeat' split)
      all_goals rfl
    · simp (config := {maxSteps := 1000000}) (disch := omega) only [↓reduceIte, Int32.reduceLT, Int32.reduceLE, Int32.reduceToNatClampNeg, Int32.reduceAdd, Int32.reduceSub, Int32.reduceMul, Nat.reduceLeDiff, zEL, zup_ne, zup_eq, zT0, zT1, zT2, if_true, if_false, r0, ze_185, s185_0, s185_1, s185_4, s185_5, s185_8, s185_9, s185_10, s185_13, s185_16, s185_17, s185_20, s185_21, s185_22, s185_25, s185_28, s185_29, s185_30, s185_33, s185_34, s185_37, s185_38, s185_39, s185_42, s185_43, m9, k4, k5]
theorem op62_162 {l u r r' : Nat} {lo hi lo' hi' : Int32} {W : List Nat} (hR : zLT R) (hc : ∀ p q S L, zTKc n b p q S → zcall 92 [.ref 1, .ref r] zRc S L = some (some (.int (zbi (zW b n p q W))), zRc, S, L)) (hm : ∀ p q S Sm Lm, zTK n b p q S Sm Lm → zcall 181 [.ref 0, .ref r'] R Sm Lm = some (some (.int (zbi (zW b n p q W))), R, Sm, Lm)) (h : zST 162 n b S Sm Lm) (hl : l ≤ 1000) (hu : u ≤ 1000) (hb : S 162 6 = 0 → lo = nI l ∧ hi = nI u ∧ lo' = nI l ∧ hi' = nI u) : ∃ v v' : Int32, ∃ S' Sm' Lm', zcall 62 [.ref 162, .ref r, .int lo, .int hi] zRc S L = some (some (.int v), zRc, S', L) ∧ zcall 186 [.ref 0, .ref r', .int lo', .int hi'] R Sm Lm = some (some (.int v'), R, Sm', Lm') ∧ zST 162 n b S' Sm' Lm' ∧ zfr 162 S Sm Lm S' Sm' Lm' ∧ (S' 162 6 = 0 → S 162 6 = 0 ∧ ∃ x, l ≤ x ∧ x ≤ u ∧ v = nI x ∧ v' = nI x) := by
  have r0 := hR
  unfold zLT at r0
  obtain ⟨S1, Sm1, Lm1, a1, a2, a3, a4, a5⟩ := op60_162 (L := L) hR hc hm h
  obtain ⟨v, v', S2, Sm2, Lm2, c1, c2, c3, c4, c5⟩ := op63_162 (L := L) hR a3 hl hu (fun h => hb (a5 h))
  refine ⟨v, v', S2, Sm2, Lm2, ?_, ?_, c3, zfr_t a4 c4, fun h => ⟨a5 (c5 h).1, (c5 h).2⟩⟩ <;> unfold zcall
  · simp (config := {maxSteps := 1000000}) (disch := omega) only [↓reduceIte, Int32.reduceLT, Int32.reduceLE, Int32.reduceToNatClampNeg, Int32.reduceAdd, Int32.reduceSub, Int32.reduceMul, Nat.reduceLeDiff, zEL, zup_ne, zup_eq, zT0, zT1, zT2, if_true, if_false, gR, ze_62, s62_0, s62_1, s62_2, s62_5, s62_6, s62_7, s62_8, s62_11, a1, c1]
  · simp (config := {maxSteps := 1000000}) (disch := omega) only [↓reduceIte, Int32.reduceLT, Int32.reduceLE, Int32.reduceToNatClampNeg, Int32.reduceAdd, Int32.reduceSub, Int32.reduceMul, Nat.reduceLeDiff, zEL, zup_ne, zup_eq, zT0, zT1, zT2, if_true, if_false, r0, ze_186, s186_0, s186_1, s186_2, s186_5, s186_6, s186_7, s186_8, s186_11, a2, c2]
/-- the first WORD of a LINE for which there is room, or isn't -/
theorem op59_162 {fl many most : Int32} (hR : zLT R) (hT : zTKc n b p q S) (hO : zOKs 162 n b p q S Sm Lm) (hk : zkN b n p q = 1) (hf : (fl = 1 ∧ many = most) ∨ (fl = 0 ∧ ¬ many = most)) : ∃ S' Sm' Lm', zcall 59 [.ref 162, .int fl] zRc S L = some (none, zRc, S', L) ∧ zcall 188 [.ref 0, .int many, .int most] R Sm Lm = some (none, R, Sm', Lm') ∧ zST 162 n b S' Sm' Lm' ∧ zfr 162 S Sm Lm S' Sm' Lm' ∧ (S' 162 6 = 0 → fl = 0) := by
  have r0 := hR
  unfold zLT at r0
  have h6 := hO.1
  rcases hf with ⟨rfl, hf⟩ | ⟨rfl, hf⟩
  · obtain ⟨f1, f2, f3, f4, -⟩ := zFk_162 (f := 5) rfl (by omega) (by omega) hT hO
    have k3 : zcall 58 [.ref 162, .int 5] zRc S L = _ := c58O_162 (L := L) (k := nI 5) h6
    have k4 : zcall 180 [.ref 0, .int 5] R Sm Lm = _ := m180O (Lm := Lm) (k := nI 5) hR (zOK_9 hO)
    have k5 := m179F (Lm := Lm) hR f4
    refine ⟨_, _, Lm, ?_, ?_, f1, f2, fun h => absurd h f3⟩ <;> unfold zcall
    · simp (config := {maxSteps := 1000000}) (disch := omega) only [↓reduceIte, Int32.reduceLT, Int32.reduceLE, Int32.reduceToNatClampNeg, Int32.reduceAdd, Int32.reduceSub, Int32.reduceMul, Nat.reduceLeDiff, zEL, zup_ne, zup_eq, zT0, zT1, zT2, if_true, if_false, zneq_f, true_and, and_true, false_and, and_false, zKL, eq_self, Nat.reduceEqDiff, zite0, ite_not, zaddr, zaddl, zputr, zsb1, zsb2, zsb0, zsbm, znm1, gR, gX, ze_59, s59_0, s59_1, s59_4, s59_5, s59_6, s59_9, s59_10, s59_13, s59_16, s59_17, s59_20, s59_23, k3]
    · simp (config := {maxSteps := 1000000}) (disch := omega) only [↓reduceIte, Int32.reduceLT, Int32.reduceLE, Int32.reduceToNatClampNeg, Int32.reduceAdd, Int32.reduceSub, Int32.reduceMul, Nat.reduceLeDiff, zEL, zup_ne, zup_eq, zT0, zT1, zT2, if_true, if_false, r0, ze_188, s188_0, s188_1, s188_2, s188_5, s188_6, s188_7, s188_10, s188_11, s188_14, hf, k4, k5]
  · obtain ⟨S', Sm', Lm', a1, a2, a3, a4, a5⟩ := zsn_162 (L := L) hR hT hO (by omega) (by omega)
    refine ⟨S', Sm', Lm', ?_, ?_, a3, a4, fun _ => rfl⟩ <;> unfold zcall
    · simp (config := {maxSteps := 1000000}) (disch := omega) only [↓reduceIte, Int32.reduceLT, Int32.reduceLE, Int32.reduceToNatClampNeg, Int32.reduceAdd, Int32.reduceSub, Int32.reduceMul, Nat.reduceLeDiff, zEL, zup_ne, zup_eq, zT0, zT1, zT2, if_true, if_false, gR, gX, ze_59, s59_0, s59_1, s59_4, s59_5, s59_6, s59_9, s59_10, s59_13, s59_16, s59_17, s59_20, s59_23, h6, a1]
    · simp (config := {maxSteps := 1000000}) (disch := omega) only [↓reduceIte, Int32.reduceLT, Int32.reduceLE, Int32.reduceToNatClampNeg, Int32.reduceAdd, Int32.reduceSub, Int32.reduceMul, Nat.reduceLeDiff, zEL, zup_ne, zup_eq, zT0, zT1, zT2, if_true, if_false, r0, ze_188, s188_0, s188_1, s188_2, s188_5, s188_6, s188_7, s188_10, s188_11, s188_14, hf, a2]
theorem op59g_162 (hR : zLT R) (h : zST 162 n b S Sm Lm) (hk : S 162 6 = 0 → S 1 2 = 1) : ∃ S' Sm' Lm', zcall 59 [.ref 162, .int 0] zRc S L = some (none, zRc, S', L) ∧ zcall 179 [.ref 0] R Sm Lm = some (none, R, Sm', Lm') ∧ zST 162 n b S' Sm' Lm' ∧ zfr 162 S Sm Lm S' Sm' Lm' ∧ (S' 162 6 = 0 → S 162 6 = 0) := by
  obtain ⟨p, q, hT, hO⟩ := h
  rcases hO with hO | hF
  · have h6 := hO.1
    have hk := hk h6
    rw [hT.2.2.2.2.1] at hk
    have hr := @zkN_r n p q b
    have hk := (znI_inj (b := 1) (by omega) (by omega)).mp hk
    obtain ⟨S', Sm', Lm', a1, a2, a3, a4, a5⟩ := zsn_162 (L := L) hR hT hO (by omega) (by omega)
    refine ⟨S', Sm', Lm', ?_, a2, a3, a4, fun _ => h6⟩
    unfold zcall
    simp (config := {maxSteps := 1000000}) (disch := omega) only [↓reduceIte, Int32.reduceLT, Int32.reduceLE, Int32.reduceToNatClampNeg, Int32.reduceAdd, Int32.reduceSub, Int32.reduceMul, Nat.reduceLeDiff, zEL, zup_ne, zup_eq, zT0, zT1, zT2, if_true, if_false, gR, gX, ze_59, s59_0, s59_1, s59_4, s59_5, s59_6, s59_9, s59_10, s59_13, s59_16, s59_17, s59_20, s59_23, h6, a1]
  · have hne := zFA_ne hF
    have m9 : Sm 0 9 = 5 := by obtain ⟨f, pl, -, -, -, -, -, h9, -⟩ := hF; exact h9
    refine ⟨S, Sm, Lm, ?_, m179F hR m9, ⟨p, q, hT, .inr hF⟩, zfr_r, fun h => h⟩
    unfold zcall
    simp (config := {maxSteps := 1000000}) (disch := omega) only [↓reduceIte, Int32.reduceLT, Int32.reduceLE, Int32.reduceToNatClampNeg, Int32.reduceAdd, Int32.reduceSub, Int32.reduceMul, Nat.reduceLeDiff, zEL, zup_ne, zup_eq, zT0, zT1, zT2, if_true, if_false, gR, gX, ze_59, s59_0, s59_1, s59_4, s59_5, s59_6, s59_9, s59_10, s59_13, s59_16, s59_17, s59_20, s59_23, hne]
theorem c66_162 {k : Nat} {x : Int64} (hk : k ≤ 26) (h : S 162 5 = nI k) : zcall 66 [.ref 162, .long x] zRc S L = some (some (.int (zon (zfd (fun i => decide (L 163 i = x)) k))), zRc, S, L) := by
  have key : ∀ d i, i + d = k → zfd (fun i => decide (L 163 i = x)) i = none → zgo 66 2 [.ref 162, .long x, .retAddr 0, .int (nI i)] [] zRc S L = some (some (.int (zon (zfd (fun i => decide (L 163 i = x)) k))), zRc, S, L) := by
    intro d
    induction d with
    | zero =>
      intro i hd hz
      have hi : i = k := by omega
      subst hi
      rw [hz, s66_2]
      simp (config := {maxSteps := 1000000}) (disch := omega) only [↓reduceIte, Int32.reduceLT, Int32.reduceLE, Int32.reduceToNatClampNeg, Int32.reduceAdd, Int32.reduceSub, Int32.reduceMul, Nat.reduceLeDiff, zEL, zup_ne, zup_eq, zT0, zT1, zT2, if_true, if_false, zneq_f, true_and, and_true, false_and, and_false, zKL, eq_self, Nat.reduceEqDiff, zite0, ite_not, zaddr, zaddl, zputr, zsb1, zsb2, zsb0, zsbm, znm1, gR, lcl_163, lca_163, s66_3, s66_4, s66_7, s66_10, s66_11, s66_12, s66_15, s66_16, s66_19, s66_20, s66_23, s66_24, s66_25, s66_26, s66_27, s66_30, s66_31, s66_32, s66_35, s66_38, s66_39, h, zon_n]
    | succ d ih =>
      intro i hd hz
      by_cases e : L 163 i = x
      · rw [zfd_at hz (decide_eq_true e) (show i < k by omega), s66_2]
        simp (config := {maxSteps := 1000000}) (disch := omega) only [↓reduceIte, Int32.reduceLT, Int32.reduceLE, Int32.reduceToNatClampNeg, Int32.reduceAdd, Int32.reduceSub, Int32.reduceMul, Nat.reduceLeDiff, zEL, zup_ne, zup_eq, zT0, zT1, zT2, if_true, if_false, zneq_f, true_and, and_true, false_and, and_false, zKL, eq_self, Nat.reduceEqDiff, zite0, ite_not, zaddr, zaddl, zputr, zsb1, zsb2, zsb0, zsbm, znm1, gR, lcl_163, lca_163, s66_3, s66_4, s66_7, s66_10, s66_11, s66_12, s66_15, s66_16, s66_19, s66_20, s66_23, s66_24, s66_25, s66_26, s66_27, s66_30, s66_31, s66_32, s66_35, s66_38, s66_39, h, zon_s, e, lg_cmp0]
      · rw [← ih (i + 1) (by omega) (zfd_n hz (decide_eq_false e)), s66_2]
        simp (config := {maxSteps := 1000000}) (disch := omega) only [↓reduceIte, Int32.reduceLT, Int32.reduceLE, Int32.reduceToNatClampNeg, Int32.reduceAdd, Int32.reduceSub, Int32.reduceMul, Nat.reduceLeDiff, zEL, zup_ne, zup_eq, zT0, zT1, zT2, if_true, if_false, zneq_f, true_and, and_true, false_and, and_false, zKL, eq_self, Nat.reduceEqDiff, zite0, ite_not, zaddr, zaddl, zputr, zsb1, zsb2, zsb0, zsbm, znm1, gR, lcl_163, lca_163, s66_3, s66_4, s66_7, s66_10, s66_11, s66_12, s66_15, s66_16, s66_19, s66_20, s66_23, s66_24, s66_25, s66_26, s66_27, s66_30, s66_31, s66_32, s66_35, s66_38, s66_39, h, e, lg_cmp0]
  have := key k 0 (by omega) rfl
  unfold zcall
  simp (config := {maxSteps := 1000000}) (disch := omega) only [↓reduceIte, Int32.reduceLT, Int32.reduceLE, Int32.reduceToNatClampNeg, Int32.reduceAdd, Int32.reduceSub, Int32.reduceMul, Nat.reduceLeDiff, zEL, zup_ne, zup_eq, zT0, zT1, zT2, if_true, if_false, zneq_f, true_and, and_true, false_and, and_false, zKL, eq_self, Nat.reduceEqDiff, zite0, ite_not, zaddr, zaddl, zputr, zsb1, zsb2, zsb0, zsbm, znm1, ze_66, s66_0, s66_1]
  exact this
end ZP6
