/-! GAMES: who ducks, who is paired -/
section ZGA
variable {c : Nat → Nat} {S Sm S0 Sm0 : zS} {L Lm : zL} {rd : Value}
/-- is one of the first k so -/
def zany (ok : Nat → Bool) : Nat → Bool
  | 0 => false
  | k + 1 => zany ok k || ok k
theorem zany_of {ok : Nat → Bool} {k n : Nat} (h : k < n) (hk : ok k = true) : zany ok n = true := by
  induction n with
  | zero => omega
  | succ n ih =>
    show (zany ok n || ok n) = true
    by_cases e : k = n
    · subst e
      rw [hk, Bool.or_true]
    · rw [ih (by omega), Bool.true_or]
theorem zany_f {ok : Nat → Bool} {k : Nat} (hk : ok k = false) : zany ok (k + 1) = zany ok k := by
  show (zany ok k || ok k) = _
  rw [hk, Bool.or_false]
theorem zany_t {ok : Nat → Bool} {k : Nat} (hk : ok k = true) : zany ok (k + 1) = true := by
  show (zany ok k || ok k) = _
  rw [hk, Bool.or_true]
theorem zclear_ne {S : zS} {a n j k : Nat} (h : j ≠ a) : zclear S a n j k = S j k := by
  unfold zclear
  rw [if_neg (fun h' => h h'.1)]
theorem zclear_eq {S : zS} {a n j k : Nat} (h : j = a) (hk : k < n) : zclear S a n j k = 0 := by
  unfold zclear
  rw [if_pos ⟨h, hk⟩]
def zbi (b : Bool) : Int32 := if b = true then 1 else 0
theorem zbi_t : zbi true = 1 := rfl
theorem zbi_f : zbi false = 0 := rfl
def zwho (v : Int32) : Nat := v.toInt.toNat
theorem zwho_n {p : Nat} (h : p < 1000) : zwho (nI p) = p := by
  unfold zwho
  rw [zint_nI (by omega)]
  omega
/-- line k: now, and p ducks -/
def ztd (Sm : zS) (q : Nat) (k : Nat) : Bool := decide (Sm 31 k = Sm 2 2 ∧ Sm 33 k = 5 ∧ Sm 32 k = nI q)
/-- line k: now, act a at q by one of the other side who is not out and has a ball -/
def zth (Sm : zS) (a : Int32) (q k : Nat) : Bool := decide (Sm 31 k = Sm 2 2 ∧ Sm 33 k = a ∧ Sm 34 k = nI q ∧ ¬ Sm 18 (zwho (Sm 32 k)) = Sm 18 q ∧ ¬ Sm 2 (33 + zwho (Sm 32 k)) = 1 ∧ 0 < Sm 2 (17 + zwho (Sm 32 k)))
theorem zth_fr {X : zS} {a : Int32} {q : Nat} (hX : ∀ j k, j ≠ 5 → j ≠ 6 → X j k = Sm j k) : zth X a q = zth Sm a q := by
  have e : ∀ j, j ≠ 5 → j ≠ 6 → X j = Sm j := fun j h1 h2 => funext fun k => hX j k h1 h2
  funext k
  unfold zth
  rw [e 31 (by decide) (by decide), e 2 (by decide) (by decide), e 33 (by decide) (by decide), e 34 (by decide) (by decide), e 18 (by decide) (by decide), e 32 (by decide) (by decide)]
theorem ztd_fr {X : zS} {q : Nat} (hX : ∀ j k, j ≠ 5 → j ≠ 6 → X j k = Sm j k) : ztd X q = ztd Sm q := by
  have e : ∀ j, j ≠ 5 → j ≠ 6 → X j = Sm j := fun j h1 h2 => funext fun k => hX j k h1 h2
  funext k
  unfold ztd
  rw [e 31 (by decide) (by decide), e 2 (by decide) (by decide), e 33 (by decide) (by decide), e 32 (by decide) (by decide)]
theorem t225 {k : Nat} (hk : k < 20) : zcall 225 [.ref 0, .int (nI k)] (zRm1 rd) Sm Lm = some (some (.int (if Sm 31 k = Sm 2 2 then 1 else 0)), zRm1 rd, Sm, Lm) := by
  unfold zcall
  simp (config := {maxSteps := 1000000}) (disch := omega) only [↓reduceIte, Int32.reduceLT, Int32.reduceLE, Int32.reduceToNatClampNeg, Int32.reduceAdd, Int32.reduceSub, Int32.reduceMul, Nat.reduceLeDiff, zEL, zup_ne, zup_eq, zT0, zT1, zT2, if_true, if_false, zneq_f, true_and, and_true, false_and, and_false, zKL, eq_self, Nat.reduceEqDiff, zite0, ite_not, zaddr, zaddl, zputr, zsb1, zsb2, zsb0, zsbm, znm1, layM1, ze_225, s225_0, s225_1, s225_4, s225_7, s225_8, s225_9, s225_10, s225_13, s225_14, s225_15, s225_18, s225_19, s225_22, s225_23]
  split <;> rfl
theorem t226 {n q : Nat} {a : Int32} (hn : Sm 11 11 = nI n) (hn20 : n ≤ 20) (hw : ∀ k, k < n → ∃ p, p < 8 ∧ Sm 32 k = nI p) (hq : q < 8) : zcall 226 [.ref 0, .int (nI q), .int a] (zRm1 rd) Sm Lm = some (some (.int (zbi (zany (zth Sm a q) n))), zRm1 rd, Sm, Lm) := by
  have key : ∀ d k, k + d = n → zany (zth Sm a q) k = false → ∀ j, zgo 226 2 [.ref 0, .int (nI q), .int a, .int (nI k), j] [] (zRm1 rd) Sm Lm = some (some (.int (zbi (zany (zth Sm a q) n))), zRm1 rd, Sm, Lm) := by
    intro d
    induction d with
    | zero =>
      intro k hd hz j
      rw [s226_2]
      simp (config := {maxSteps := 1000000}) (disch := omega) only [↓reduceIte, Int32.reduceLT, Int32.reduceLE, Int32.reduceToNatClampNeg, Int32.reduceAdd, Int32.reduceSub, Int32.reduceMul, Nat.reduceLeDiff, zEL, zup_ne, zup_eq, zT0, zT1, zT2, if_true, if_false, zneq_f, true_and, and_true, false_and, and_false, zKL, eq_self, Nat.reduceEqDiff, zite0, ite_not, zaddr, zaddl, zputr, zsb1, zsb2, zsb0, zsbm, znm1, layM1, s226_3, s226_4, s226_7, s226_10, s226_13, s226_14, s226_17, s226_20, s226_21, s226_22, s226_24, s226_25, s226_26, s226_29, s226_32, s226_33, s226_36, s226_39, s226_40, s226_41, s226_42, s226_45, s226_46, s226_49, s226_52, s226_53, s226_54, s226_55, s226_58, s226_59, s226_62, s226_65, s226_67, s226_68, s226_69, s226_72, s226_75, s226_76, s226_77, s226_80, s226_81, s226_83, s226_86, s226_89, s226_90, s226_93, s226_95, s226_97, s226_98, s226_99, s226_102, s226_103, s226_104, s226_107, s226_110, s226_111, hn]
      rw [show n = k by omega, hz]
      rfl
    | succ d ih =>
      intro k hd hz j
      obtain ⟨p, hp, ew⟩ := hw k (by omega)
      rw [s226_2]
      by_cases hk : zth Sm a q k = true
      · rw [zany_of (show k < n by omega) hk]
        obtain ⟨h1, h2, h3, h4, h5, h6⟩ := of_decide_eq_true hk
        rw [ew, zwho_n (by omega)] at h4 h5 h6
        have h6 : (Sm 2 (17 + p) ≤ 0) = False := eq_false (Int32.not_le.mpr h6)
        simp (config := {maxSteps := 1000000}) (disch := omega) only [↓reduceIte, Int32.reduceLT, Int32.reduceLE, Int32.reduceToNatClampNeg, Int32.reduceAdd, Int32.reduceSub, Int32.reduceMul, Nat.reduceLeDiff, zEL, zup_ne, zup_eq, zT0, zT1, zT2, if_true, if_false, zneq_f, true_and, and_true, false_and, and_false, zKL, eq_self, Nat.reduceEqDiff, zite0, ite_not, zaddr, zaddl, zputr, zsb1, zsb2, zsb0, zsbm, znm1, layM1, s226_3, s226_4, s226_7, s226_10, s226_13, s226_14, s226_17, s226_20, s226_21, s226_22, s226_24, s226_25, s226_26, s226_29, s226_32, s226_33, s226_36, s226_39, s226_40, s226_41, s226_42, s226_45, s226_46, s226_49, s226_52, s226_53, s226_54, s226_55, s226_58, s226_59, s226_62, s226_65, s226_67, s226_68, s226_69, s226_72, s226_75, s226_76, s226_77, s226_80, s226_81, s226_83, s226_86, s226_89, s226_90, s226_93, s226_95, s226_97, s226_98, s226_99, s226_102, s226_103, s226_104, s226_107, s226_110, s226_111, hn, t225, t214, ew, h1, h2, h3, h4, h5, h6]
        all_goals rfl
      · have hk' : zth Sm a q k = false := Bool.eq_false_iff.mpr hk
        have next : ∀ j, zgo 226 2 [.ref 0, .int (nI q), .int a, .int (nI (k + 1)), j] [] (zRm1 rd) Sm Lm = some (some (.int (zbi (zany (zth Sm a q) n))), zRm1 rd, Sm, Lm) := fun j => ih (k + 1) (by omega) (by rw [zany_f hk', hz]) j
        simp (config := {maxSteps := 1000000}) (disch := omega) only [↓reduceIte, Int32.reduceLT, Int32.reduceLE, Int32.reduceToNatClampNeg, Int32.reduceAdd, Int32.reduceSub, Int32.reduceMul, Nat.reduceLeDiff, zEL, zup_ne, zup_eq, zT0, zT1, zT2, if_true, if_false, zneq_f, true_and, and_true, false_and, and_false, zKL, eq_self, Nat.reduceEqDiff, zite0, ite_not, zaddr, zaddl, zputr, zsb1, zsb2, zsb0, zsbm, znm1, layM1, s226_3, s226_4, s226_7, s226_10, s226_13, s226_14, s226_17, s226_20, s226_21, s226_22, s226_24, s226_25, s226_26, s226_29, s226_32, s226_33, s226_36, s226_39, s226_40, s226_41, s226_42, s226_45, s226_46, s226_49, s226_52, s226_53, s226_54, s226_55, s226_58, s226_59, s226_62, s226_65, s226_67, s226_68, s226_69, s226_72, s226_75, s226_76, s226_77, s226_80, s226_81, s226_83, s226_86, s226_89, s226_90, s226_93, s226_95, s226_97, s226_98, s226_99, s226_102, s226_103, s226_104, s226_107, s226_110, s226_111, hn, t225, t214, ew]
        repeat' split
        all_goals first | exact next _ | (exfalso; exact hk (decide_eq_true ⟨by assumption, by assumption, by assumption, by rw [ew, zwho_n (by omega)]; assumption, by rw [ew, zwho_n (by omega)]; assumption, by rw [ew, zwho_n (by omega)]; exact Int32.not_le.mp (by assumption)⟩))
  have := key n 0 (by omega) rfl (.retAddr 0)
  unfold zcall
  simp (config := {maxSteps := 1000000}) (disch := omega) only [↓reduceIte, Int32.reduceLT, Int32.reduceLE, Int32.reduceToNatClampNeg, Int32.reduceAdd, Int32.reduceSub, Int32.reduceMul, Nat.reduceLeDiff, zEL, zup_ne, zup_eq, zT0, zT1, zT2, if_true, if_false, zneq_f, true_and, and_true, false_and, and_false, zKL, eq_self, Nat.reduceEqDiff, zite0, ite_not, zaddr, zaddl, zputr, zsb1, zsb2, zsb0, zsbm, znm1, ze_226, s226_0, s226_1]
  exact this
theorem vpn0 : vp_nar .boolean 0 = 0 := rfl
theorem vpn1 : vp_nar .boolean 1 = 1 := rfl
theorem t229a {n : Nat} (hn : Sm 11 11 = nI n) (hn20 : n ≤ 20) (hw : ∀ k, k < n → ∃ p, p < 8 ∧ Sm 32 k = nI p) (h8 : Sm 11 8 = nI (c 0)) (b0 : c 0 ≤ 8) : ∃ X, zgo 229 0 [.ref 0, .retAddr 0] [] (zRm1 rd) Sm Lm = zgo 229 112 [.ref 0, .int (nI 0)] [] (zRm1 rd) X Lm ∧ (∀ j k, j ≠ 5 → j ≠ 6 → X j k = Sm j k) ∧ ∀ q, q < c 0 → X 5 q = zbi (zany (ztd Sm q) n) ∧ X 6 q = zbi (zany (zth Sm 0 q) n && zany (zth Sm 1 q) n) := by
  have s19 := fun (ls st : List Value) (X : zS) (i x : Int32) => s229_19 (ls := ls) (st := st) (S := X) (L := Lm) (i := i) (x := x) (R := zRm1 rd) l1n_5 l1l_5
  have s48 := fun (ls st : List Value) (X : zS) (i x : Int32) => s229_48 (ls := ls) (st := st) (S := X) (L := Lm) (i := i) (x := x) (R := zRm1 rd) l1n_6 l1l_6
  have s103 := fun (ls st : List Value) (X : zS) (i x : Int32) => s229_103 (ls := ls) (st := st) (S := X) (L := Lm) (i := i) (x := x) (R := zRm1 rd) l1n_5 l1l_5
  have key1 : ∀ d p, p + d = c 0 → ∀ X : zS, (∀ j k, j ≠ 5 → j ≠ 6 → X j k = Sm j k) → (∀ q, q < p → X 5 q = 0 ∧ X 6 q = zbi (zany (zth Sm 0 q) n && zany (zth Sm 1 q) n)) → ∃ X', zgo 229 2 [.ref 0, .int (nI p)] [] (zRm1 rd) X Lm = zgo 229 57 [.ref 0, .int (nI 0)] [] (zRm1 rd) X' Lm ∧ (∀ j k, j ≠ 5 → j ≠ 6 → X' j k = Sm j k) ∧ (∀ q, q < c 0 → X' 5 q = 0 ∧ X' 6 q = zbi (zany (zth Sm 0 q) n && zany (zth Sm 1 q) n)) := by
    intro d
    induction d with
    | zero =>
      intro p hd X hX hi
      have x8 : X 11 8 = nI (c 0) := (hX 11 8 (by decide) (by decide)).trans h8
      refine ⟨X, ?_, hX, fun q hq => hi q (by omega)⟩
      rw [s229_2]
      simp (config := {maxSteps := 1000000}) (disch := omega) only [↓reduceIte, Int32.reduceLT, Int32.reduceLE, Int32.reduceToNatClampNeg, Int32.reduceAdd, Int32.reduceSub, Int32.reduceMul, Nat.reduceLeDiff, zEL, zup_ne, zup_eq, zT0, zT1, zT2, if_true, if_false, zneq_f, true_and, and_true, false_and, and_false, zKL, eq_self, Nat.reduceEqDiff, zite0, ite_not, zaddr, zaddl, zputr, zsb1, zsb2, zsb0, zsbm, znm1, layM1, s229_3, s229_4, s229_7, s229_10, s229_13, s229_14, s229_17, s229_18, s229_19, s229_20, s229_21, s229_24, s229_25, s229_26, s229_27, s229_28, s229_31, s229_34, s229_35, s229_36, s229_37, s229_40, s229_43, s229_44, s229_47, s229_48, s229_49, s229_52, s229_55, s229_56, x8]
      all_goals rfl
    | succ d ih =>
      intro p hd X hX hi
      have x8 : X 11 8 = nI (c 0) := (hX 11 8 (by decide) (by decide)).trans h8
      have hX1 : ∀ j k, j ≠ 5 → j ≠ 6 → zup X 5 p 0 j k = Sm j k := fun j k h5 h6 => by rw [zup_ne (by omega)]; exact hX j k h5 h6
      have k0 := fun a => t226 (Sm := zup X 5 p 0) (Lm := Lm) (rd := rd) (n := n) (q := p) (a := a) ((hX1 11 11 (by decide) (by decide)).trans hn) hn20 (fun k hk => by obtain ⟨w, hw1, hw2⟩ := hw k hk; exact ⟨w, hw1, (hX1 32 k (by decide) (by decide)).trans hw2⟩) (by omega)
      have k1 := k0 0
      have k2 := k0 1
      rw [zth_fr hX1] at k1 k2
      have step : ∃ v, v = zbi (zany (zth Sm 0 p) n && zany (zth Sm 1 p) n) ∧ zgo 229 2 [.ref 0, .int (nI p)] [] (zRm1 rd) X Lm = zgo 229 2 [.ref 0, .int (nI (p + 1))] [] (zRm1 rd) (zup (zup X 5 p 0) 6 p v) Lm := by
        refine ⟨_, rfl, ?_⟩
        rw [s229_2]
        cases e1 : zany (zth Sm 0 p) n <;> cases e2 : zany (zth Sm 1 p) n
        all_goals rw [e1, zbi] at k1
        all_goals rw [e2, zbi] at k2
        all_goals simp (config := {maxSteps := 1000000}) (disch := omega) only [↓reduceIte, Int32.reduceLT, Int32.reduceLE, Int32.reduceToNatClampNeg, Int32.reduceAdd, Int32.reduceSub, Int32.reduceMul, Nat.reduceLeDiff, zEL, zup_ne, zup_eq, zT0, zT1, zT2, if_true, if_false, zneq_f, true_and, and_true, false_and, and_false, zKL, eq_self, Nat.reduceEqDiff, zite0, ite_not, zaddr, zaddl, zputr, zsb1, zsb2, zsb0, zsbm, znm1, layM1, s229_3, s229_4, s229_7, s229_10, s229_13, s229_14, s229_17, s229_18, s229_20, s229_21, s229_24, s229_25, s229_26, s229_27, s229_28, s229_31, s229_34, s229_35, s229_36, s229_37, s229_40, s229_43, s229_44, s229_47, s229_49, s229_52, s229_55, s229_56, x8, s19, s48, vpn0, vpn1, k1, k2, Bool.false_eq_true, zbi, Bool.and_self, Bool.false_and, Bool.and_false]
      obtain ⟨v, hv, hs⟩ := step
      obtain ⟨X', r1, r2, r3⟩ := ih (p + 1) (by omega) (zup (zup X 5 p 0) 6 p v) (fun j k h5 h6 => by rw [zup_ne (by omega)]; exact hX1 j k h5 h6) (fun q hq => by
        by_cases e : q = p
        · subst e
          exact ⟨by rw [zup_ne (by omega), zup_eq rfl rfl], by rw [zup_eq rfl rfl]; exact hv⟩
        · rw [zup_ne (by omega), zup_ne (by omega), zup_ne (by omega), zup_ne (by omega)]
          exact hi q (by omega))
      exact ⟨X', hs.trans r1, r2, r3⟩
  have key2 : ∀ d k, k + d = n → ∀ X : zS, (∀ j k, j ≠ 5 → j ≠ 6 → X j k = Sm j k) → (∀ q, q < c 0 → X 5 q = zbi (zany (ztd Sm q) k) ∧ X 6 q = zbi (zany (zth Sm 0 q) n && zany (zth Sm 1 q) n)) → ∃ X', zgo 229 57 [.ref 0, .int (nI k)] [] (zRm1 rd) X Lm = zgo 229 112 [.ref 0, .int (nI 0)] [] (zRm1 rd) X' Lm ∧ (∀ j k, j ≠ 5 → j ≠ 6 → X' j k = Sm j k) ∧ (∀ q, q < c 0 → X' 5 q = zbi (zany (ztd Sm q) n) ∧ X' 6 q = zbi (zany (zth Sm 0 q) n && zany (zth Sm 1 q) n)) := by
    intro d
    induction d with
    | zero =>
      intro k hd X hX hi
      have x8 : X 11 11 = nI n := (hX 11 11 (by decide) (by decide)).trans hn
      have hk : k = n := by omega
      subst hk
      refine ⟨X, ?_, hX, hi⟩
      rw [s229_57]
      simp (config := {maxSteps := 1000000}) (disch := omega) only [↓reduceIte, Int32.reduceLT, Int32.reduceLE, Int32.reduceToNatClampNeg, Int32.reduceAdd, Int32.reduceSub, Int32.reduceMul, Nat.reduceLeDiff, zEL, zup_ne, zup_eq, zT0, zT1, zT2, if_true, if_false, zneq_f, true_and, and_true, false_and, and_false, zKL, eq_self, Nat.reduceEqDiff, zite0, ite_not, zaddr, zaddl, zputr, zsb1, zsb2, zsb0, zsbm, znm1, layM1, s229_58, s229_59, s229_62, s229_65, s229_68, s229_69, s229_70, s229_73, s229_76, s229_77, s229_80, s229_83, s229_84, s229_85, s229_86, s229_89, s229_90, s229_93, s229_94, s229_97, s229_100, s229_101, s229_102, s229_103, s229_104, s229_107, s229_110, s229_111, x8]
      all_goals rfl
    | succ d ih =>
      intro k hd X hX hi
      have x8 : X 11 11 = nI n := (hX 11 11 (by decide) (by decide)).trans hn
      obtain ⟨w, hw8, ew⟩ := hw k (by omega)
      have y0 : X 31 k = Sm 31 k := hX 31 k (by decide) (by decide)
      have y1 : X 33 k = Sm 33 k := hX 33 k (by decide) (by decide)
      have y2 : X 32 k = nI w := (hX 32 k (by decide) (by decide)).trans ew
      have y3 : X 2 2 = Sm 2 2 := hX 2 2 (by decide) (by decide)
      by_cases hk : Sm 31 k = Sm 2 2 ∧ Sm 33 k = 5
      · obtain ⟨h1, h2⟩ := hk
        have hs : zgo 229 57 [.ref 0, .int (nI k)] [] (zRm1 rd) X Lm = zgo 229 57 [.ref 0, .int (nI (k + 1))] [] (zRm1 rd) (zup X 5 w 1) Lm := by
          rw [s229_57]
          simp (config := {maxSteps := 1000000}) (disch := omega) only [↓reduceIte, Int32.reduceLT, Int32.reduceLE, Int32.reduceToNatClampNeg, Int32.reduceAdd, Int32.reduceSub, Int32.reduceMul, Nat.reduceLeDiff, zEL, zup_ne, zup_eq, zT0, zT1, zT2, if_true, if_false, zneq_f, true_and, and_true, false_and, and_false, zKL, eq_self, Nat.reduceEqDiff, zite0, ite_not, zaddr, zaddl, zputr, zsb1, zsb2, zsb0, zsbm, znm1, layM1, s229_58, s229_59, s229_62, s229_65, s229_68, s229_69, s229_70, s229_73, s229_76, s229_77, s229_80, s229_83, s229_84, s229_85, s229_86, s229_89, s229_90, s229_93, s229_94, s229_97, s229_100, s229_101, s229_102, s229_104, s229_107, s229_110, s229_111, x8, s103, vpn1, t225, y0, y1, y2, y3, h1, h2]
        obtain ⟨X', r1, r2, r3⟩ := ih (k + 1) (by omega) (zup X 5 w 1) (fun j k h5 h6 => by rw [zup_ne (by omega)]; exact hX j k h5 h6) (fun q hq => by
          refine ⟨?_, by rw [zup_ne (by omega)]; exact (hi q hq).2⟩
          by_cases e : q = w
          · subst e
            rw [zup_eq rfl rfl, zany_t (decide_eq_true ⟨h1, h2, ew⟩)]
            rfl
          · rw [zup_ne (by omega), zany_f (decide_eq_false (fun h' => e (by
              have := h'.2.2
              rw [ew, znI_inj (by omega) (by omega)] at this
              exact this.symm)))]
            exact (hi q hq).1)
        exact ⟨X', hs.trans r1, r2, r3⟩
      · have hs : zgo 229 57 [.ref 0, .int (nI k)] [] (zRm1 rd) X Lm = zgo 229 57 [.ref 0, .int (nI (k + 1))] [] (zRm1 rd) X Lm := by
          rw [s229_57]
          simp (config := {maxSteps := 1000000}) (disch := omega) only [↓reduceIte, Int32.reduceLT, Int32.reduceLE, Int32.reduceToNatClampNeg, Int32.reduceAdd, Int32.reduceSub, Int32.reduceMul, Nat.reduceLeDiff, zEL, zup_ne, zup_eq, zT0, zT1, zT2, if_true, if_false, zneq_f, true_and, and_true, false_and, and_false, zKL, eq_self, Nat.reduceEqDiff, zite0, ite_not, zaddr, zaddl, zputr, zsb1, zsb2, zsb0, zsbm, znm1, layM1, s229_58, s229_59, s229_62, s229_65, s229_68, s229_69, s229_70, s229_73, s229_76, s229_77, s229_80, s229_83, s229_84, s229_85, s229_86, s229_89, s229_90, s229_93, s229_94, s229_97, s229_100, s229_101, s229_102, s229_104, s229_107, s229_110, s229_111, x8, s103, vpn1, t225, y0, y1, y2, y3]
          repeat' split
          all_goals first | rfl | (exfalso; exact hk ⟨by assumption, by assumption⟩)
        obtain ⟨X', r1, r2, r3⟩ := ih (k + 1) (by omega) X hX (fun q hq => by
          rw [zany_f (decide_eq_false (fun h' => hk ⟨h'.1, h'.2.1⟩))]
          exact hi q hq)
        exact ⟨X', hs.trans r1, r2, r3⟩
  obtain ⟨X1, r1, r2, r3⟩ := key1 (c 0) 0 (by omega) Sm (fun _ _ _ _ => rfl) (fun q hq => by omega)
  obtain ⟨X2, q1, q2, q3⟩ := key2 n 0 (by omega) X1 r2 (fun q hq => r3 q hq)
  refine ⟨X2, ?_, q2, q3⟩
  have : zgo 229 0 [.ref 0, .retAddr 0] [] (zRm1 rd) Sm Lm = zgo 229 2 [.ref 0, .int (nI 0)] [] (zRm1 rd) Sm Lm := by
    simp (config := {maxSteps := 1000000}) (disch := omega) only [↓reduceIte, Int32.reduceLT, Int32.reduceLE, Int32.reduceToNatClampNeg, Int32.reduceAdd, Int32.reduceSub, Int32.reduceMul, Nat.reduceLeDiff, zEL, zup_ne, zup_eq, zT0, zT1, zT2, if_true, if_false, zneq_f, true_and, and_true, false_and, and_false, zKL, eq_self, Nat.reduceEqDiff, zite0, ite_not, zaddr, zaddl, zputr, zsb1, zsb2, zsb0, zsbm, znm1, s229_0, s229_1]
    all_goals rfl
  rw [this, r1]
  exact q1
theorem t20v_168 {p : Nat} {v : Int32} (hM : zMD c S Sm) (hp : p < c 0) : zcall 20 [.ref 168, .int (nI p), .int v] zRc S L = some (some (.int (if Sm 18 p = zrd S 14 8 v then 1 else 0)), zRc, S, L) := by
  obtain ⟨⟨b0, b0', b1, -⟩, -, -, -, -, hP, -⟩ := hM
  obtain ⟨p1, -⟩ := hP p hp
  unfold zcall
  simp (config := {maxSteps := 1000000}) (disch := omega) only [↓reduceIte, Int32.reduceLT, Int32.reduceLE, Int32.reduceToNatClampNeg, Int32.reduceAdd, Int32.reduceSub, Int32.reduceMul, Nat.reduceLeDiff, zEL, zup_ne, zup_eq, zT0, zT1, zT2, if_true, if_false, zneq_f, true_and, and_true, false_and, and_false, zKL, eq_self, Nat.reduceEqDiff, zite0, ite_not, zaddr, zaddl, zputr, zsb1, zsb2, zsb0, zsbm, znm1, gM, g168, ze_20, s20_0, s20_1, s20_4, s20_7, s20_10, s20_11, s20_14, s20_15, s20_18, s20_21, s20_24, s20_25, s20_28, s20_31, s20_32, s20_35, s20_36, p1]
  split <;> rfl
theorem t19_168 (hM : zMD c S Sm) (hG : zGD 168 c S (Sm 2)) : ∃ S1, zcall 19 [.ref 168] zRc S L = some (none, zRc, S1, L) ∧ (∀ j k, (j < 181 ∨ 186 < j) → S1 j k = S j k) ∧ ∀ q, q < c 0 → S1 182 q = zbi (zany (ztd Sm q) (c 4)) ∧ S1 184 q = zbi (zany (zth Sm 0 q) (c 4)) ∧ S1 186 q = zbi (zany (zth Sm 1 q) (c 4)) := by
  have hM' := hM
  have hG' := hG
  obtain ⟨⟨b0, b0', b1, -, -, c4, -⟩, ⟨-, -, -, -, a4, -⟩, -, -, -, hP, -, -, -, hA, -⟩ := hM
  obtain ⟨g0, -, -, ⟨g7, -⟩, -⟩ := hG
  have key : ∀ d k, k + d = c 4 → ∀ X : zS, (∀ j k, (j < 181 ∨ 186 < j) → X j k = S j k) → (∀ q, q < c 0 → X 182 q = zbi (zany (ztd Sm q) k) ∧ X 184 q = zbi (zany (zth Sm 0 q) k) ∧ X 186 q = zbi (zany (zth Sm 1 q) k)) → ∀ j3 j4 j5 : Value, ∃ X', (∀ j, zgo 19 31 [.ref 168, .ref 64, .int (nI k), j3, j4, j5, j] [] zRc X L = some (none, zRc, X', L)) ∧ (∀ j k, (j < 181 ∨ 186 < j) → X' j k = S j k) ∧ (∀ q, q < c 0 → X' 182 q = zbi (zany (ztd Sm q) (c 4)) ∧ X' 184 q = zbi (zany (zth Sm 0 q) (c 4)) ∧ X' 186 q = zbi (zany (zth Sm 1 q) (c 4))) := by
    intro d
    induction d with
    | zero =>
      intro k hd X hX hi j3 j4 j5
      have x4 : X 64 4 = nI (c 4) := (hX 64 4 (by omega)).trans a4
      have hk : k = c 4 := by omega
      subst hk
      refine ⟨X, fun j => ?_, hX, hi⟩
      rw [s19_31]
      simp (config := {maxSteps := 1000000}) (disch := omega) only [↓reduceIte, Int32.reduceLT, Int32.reduceLE, Int32.reduceToNatClampNeg, Int32.reduceAdd, Int32.reduceSub, Int32.reduceMul, Nat.reduceLeDiff, zEL, zup_ne, zup_eq, zT0, zT1, zT2, if_true, if_false, zneq_f, true_and, and_true, false_and, and_false, zKL, eq_self, Nat.reduceEqDiff, zite0, ite_not, zaddr, zaddl, zputr, zsb1, zsb2, zsb0, zsbm, znm1, gM, g168, s19_32, s19_33, s19_36, s19_39, s19_40, s19_43, s19_44, s19_47, s19_48, s19_51, s19_54, s19_57, s19_58, s19_61, s19_62, s19_65, s19_66, s19_67, s19_70, s19_71, s19_74, s19_76, s19_77, s19_80, s19_81, s19_84, s19_86, s19_87, s19_90, s19_91, s19_94, s19_97, s19_98, s19_101, s19_102, s19_105, s19_108, s19_109, s19_110, s19_112, s19_115, s19_118, s19_119, s19_122, s19_123, s19_125, s19_127, s19_128, s19_131, s19_132, s19_135, s19_136, s19_137, s19_140, s19_143, s19_145, s19_148, s19_150, s19_153, s19_154, s19_157, s19_159, s19_160, s19_163, s19_166, s19_168, s19_169, s19_172, s19_174, s19_177, s19_178, s19_181, s19_183, s19_184, s19_187, s19_190, s19_193, x4]
    | succ d ih =>
      intro k hd X hX hi j3 j4 j5
      have x4 : X 64 4 = nI (c 4) := (hX 64 4 (by omega)).trans a4
      obtain ⟨e1, -, ⟨p, hp, e2, e3⟩, e4, hk⟩ := hA k (by omega)
      have x1 : X 66 k = Sm 31 k := (hX 66 k (by omega)).trans e1
      have x2 : X 68 k = nI p := (hX 68 k (by omega)).trans e2
      have x3 : X 70 k = Sm 33 k := (hX 70 k (by omega)).trans e4
      have x5 : X 72 k = S 72 k := hX 72 k (by omega)
      have x7 : X 168 7 = Sm 2 2 := (hX 168 7 (by omega)).trans g7
      obtain ⟨f1, f2, f3, f4, -, ⟨b, hb, eb⟩, ⟨o, ho, eo⟩⟩ := g0 p hp
      have x8 : X 176 p = nI o := (hX 176 p (by omega)).trans (f4.trans eo)
      have x9 : X 172 p = nI b := (hX 172 p (by omega)).trans (f2.trans eb)
      have eo : Sm 2 (33 + p) = nI o := eo
      have eb : Sm 2 (17 + p) = nI b := eb
      have xM : zMD c X Sm := zMD_fr hM' (fun j k hj => hX j k (by omega)) (fun _ _ _ => rfl)
      have t20 := t20v_168 (S := X) (L := L) (v := S 72 k) xM hp
      have x14 : zrd X 14 8 (S 72 k) = zrd S 14 8 (S 72 k) := by
        unfold zrd
        rw [hX 14 _ (by omega)]
      rw [x14] at t20
      by_cases hnow : Sm 31 k = Sm 2 2
      · -- the line is told for now
        have a1 : ∃ v : Bool, (v = true ↔ (o = 0 ∧ 0 < b ∧ ¬ Sm 18 p = zrd S 14 8 (S 72 k))) ∧ ∀ j, zgo 19 31 [.ref 168, .ref 64, .int (nI k), j3, j4, j5, j] [] zRc X L = zgo 19 125 [.ref 168, .ref 64, .int (nI k), .int (nI p), .int (S 72 k), .int (Sm 33 k), .int (zbi v)] [] zRc X L := by
          by_cases hv : o = 0 ∧ 0 < b ∧ ¬ Sm 18 p = zrd S 14 8 (S 72 k)
          · obtain ⟨rfl, h2, h3⟩ := hv
            refine ⟨true, ⟨fun _ => ⟨rfl, h2, h3⟩, fun _ => rfl⟩, fun j => ?_⟩
            rw [s19_31]
            simp (config := {maxSteps := 1000000}) (disch := omega) only [↓reduceIte, Int32.reduceLT, Int32.reduceLE, Int32.reduceToNatClampNeg, Int32.reduceAdd, Int32.reduceSub, Int32.reduceMul, Nat.reduceLeDiff, zEL, zup_ne, zup_eq, zT0, zT1, zT2, if_true, if_false, zneq_f, true_and, and_true, false_and, and_false, zKL, eq_self, Nat.reduceEqDiff, zite0, ite_not, zaddr, zaddl, zputr, zsb1, zsb2, zsb0, zsbm, znm1, gM, g168, s19_32, s19_33, s19_36, s19_39, s19_40, s19_43, s19_44, s19_47, s19_48, s19_51, s19_54, s19_57, s19_58, s19_61, s19_62, s19_65, s19_66, s19_67, s19_70, s19_71, s19_74, s19_76, s19_77, s19_80, s19_81, s19_84, s19_86, s19_87, s19_90, s19_91, s19_94, s19_97, s19_98, s19_101, s19_102, s19_105, s19_108, s19_109, s19_110, s19_112, s19_115, s19_118, s19_119, s19_122, s19_123, x4, x1, x2, x3, x5, x7, x8, x9, hnow, t20, h3, zbi_t]
          · refine ⟨false, ⟨fun h => (by cases h), fun h => absurd h hv⟩, fun j => ?_⟩
            rw [s19_31]
            simp (config := {maxSteps := 1000000}) (disch := omega) only [↓reduceIte, Int32.reduceLT, Int32.reduceLE, Int32.reduceToNatClampNeg, Int32.reduceAdd, Int32.reduceSub, Int32.reduceMul, Nat.reduceLeDiff, zEL, zup_ne, zup_eq, zT0, zT1, zT2, if_true, if_false, zneq_f, true_and, and_true, false_and, and_false, zKL, eq_self, Nat.reduceEqDiff, zite0, ite_not, zaddr, zaddl, zputr, zsb1, zsb2, zsb0, zsbm, znm1, gM, g168, s19_32, s19_33, s19_36, s19_39, s19_40, s19_43, s19_44, s19_47, s19_48, s19_51, s19_54, s19_57, s19_58, s19_61, s19_62, s19_65, s19_66, s19_67, s19_70, s19_71, s19_74, s19_76, s19_77, s19_80, s19_81, s19_84, s19_86, s19_87, s19_90, s19_91, s19_94, s19_97, s19_98, s19_101, s19_102, s19_105, s19_108, s19_109, s19_110, s19_112, s19_115, s19_118, s19_119, s19_122, s19_123, x4, x1, x2, x3, x5, x7, x8, x9, hnow, t20, zbi_f]
            repeat' split
            all_goals first | rfl | (exfalso; exact hv ⟨by omega, by omega, by assumption⟩)
        obtain ⟨v, hv, a1⟩ := a1
        -- what is written
        have a2 : ∃ X2 : zS, (∀ j, ∃ j6', zgo 19 31 [.ref 168, .ref 64, .int (nI k), j3, j4, j5, j] [] zRc X L = zgo 19 31 [.ref 168, .ref 64, .int (nI (k + 1)), .int (nI p), .int (S 72 k), .int (Sm 33 k), j6'] [] zRc X2 L) ∧ (∀ j k, (j < 181 ∨ 186 < j) → X2 j k = S j k) ∧ (∀ q, q < c 0 → X2 182 q = zbi (zany (ztd Sm q) (k + 1)) ∧ X2 184 q = zbi (zany (zth Sm 0 q) (k + 1)) ∧ X2 186 q = zbi (zany (zth Sm 1 q) (k + 1))) := by
          have nd : ∀ q, ¬ Sm 33 k = 5 → ztd Sm q k = false := fun q h => decide_eq_false (fun h' => h h'.2.1)
          have nt : ∀ a q, ¬ Sm 33 k = a → zth Sm a q k = false := fun a q h => decide_eq_false (fun h' => h h'.2.1)
          rcases hk with ⟨⟨kd, hkd, ek⟩, w, hw, e5, e6⟩ | ek | ek | ek
          · have x6 : S 72 k = nI w := e5
            have hw14 : zrd S 14 8 (S 72 k) = Sm 18 w := by
              rw [e5, zrd_nI (by omega) (by omega)]
              exact (hP w hw).1
            rw [hw14] at hv
            have hz : ∀ a q, q < c 0 → Sm 33 k = a → (zth Sm a q k = true ↔ (v = true ∧ q = w)) := fun a q hq h => by
              rw [hv]
              unfold zth
              rw [decide_eq_true_iff, e3, zwho_n (by omega), e6, eo, eb, znI_inj (by omega) (by omega), show (1 : Int32) = nI 1 from rfl, znI_inj (by omega) (by omega), znI_0, znI_lt (by omega) (by omega)]
              constructor
              · rintro ⟨h1, h2, h3, h4, h5, h6⟩
                subst h3
                exact ⟨⟨by omega, h6, h4⟩, rfl⟩
              · rintro ⟨⟨h1, h2, h3⟩, rfl⟩
                exact ⟨hnow, h, rfl, h3, by omega, h2⟩
            rcases (show kd = 0 ∨ kd = 1 ∨ kd = 2 by omega) with rfl | rfl | rfl
            · have ek : Sm 33 k = 0 := ek
              have n5 : ∀ q, ztd Sm q k = false := fun q => nd q (by rw [ek]; decide)
              have n1 : ∀ q, zth Sm 1 q k = false := fun q => nt 1 q (by rw [ek]; decide)
              cases v with
              | false =>
                refine ⟨X, fun j => ⟨.int (zbi false), ?_⟩, hX, fun q hq => ?_⟩
                · rw [a1, ek, zbi_f]
                  simp (config := {maxSteps := 1000000}) (disch := omega) only [↓reduceIte, Int32.reduceLT, Int32.reduceLE, Int32.reduceToNatClampNeg, Int32.reduceAdd, Int32.reduceSub, Int32.reduceMul, Nat.reduceLeDiff, zEL, zup_ne, zup_eq, zT0, zT1, zT2, if_true, if_false, zneq_f, true_and, and_true, false_and, and_false, zKL, eq_self, Nat.reduceEqDiff, zite0, ite_not, zaddr, zaddl, zputr, zsb1, zsb2, zsb0, zsbm, znm1, gM, g168, s19_125, s19_127, s19_128, s19_131, s19_132, s19_135, s19_136, s19_137, s19_140, s19_143, s19_145, s19_148, s19_150, s19_153, s19_154, s19_157, s19_159, s19_160, s19_163, s19_166, s19_168, s19_169, s19_172, s19_174, s19_177, s19_178, s19_181, s19_183, s19_184, s19_187, s19_190, s19_193]
                · rw [zany_f (n5 q), zany_f (n1 q), zany_f (Bool.eq_false_iff.mpr (fun h => by have := (hz 0 q hq ek).mp h; exact absurd this.1 (by decide)))]
                  exact hi q hq
              | true =>
                refine ⟨zup X 184 w 1, fun j => ⟨.int (zbi true), ?_⟩, fun j i hj => by rw [zup_ne (by omega)]; exact hX j i hj, fun q hq => ?_⟩
                · rw [a1, ek, x6, zbi_t]
                  simp (config := {maxSteps := 1000000}) (disch := omega) only [↓reduceIte, Int32.reduceLT, Int32.reduceLE, Int32.reduceToNatClampNeg, Int32.reduceAdd, Int32.reduceSub, Int32.reduceMul, Nat.reduceLeDiff, zEL, zup_ne, zup_eq, zT0, zT1, zT2, if_true, if_false, zneq_f, true_and, and_true, false_and, and_false, zKL, eq_self, Nat.reduceEqDiff, zite0, ite_not, zaddr, zaddl, zputr, zsb1, zsb2, zsb0, zsbm, znm1, gM, g168, s19_125, s19_127, s19_128, s19_131, s19_132, s19_135, s19_136, s19_137, s19_140, s19_143, s19_145, s19_148, s19_150, s19_153, s19_154, s19_157, s19_159, s19_160, s19_163, s19_166, s19_168, s19_169, s19_172, s19_174, s19_177, s19_178, s19_181, s19_183, s19_184, s19_187, s19_190, s19_193]
                · rw [zany_f (n5 q), zany_f (n1 q)]
                  obtain ⟨i1, i2, i3⟩ := hi q hq
                  refine ⟨by rw [zup_ne (by omega)]; exact i1, ?_, by rw [zup_ne (by omega)]; exact i3⟩
                  by_cases e : q = w
                  · rw [zup_eq rfl e, zany_t ((hz 0 q hq ek).mpr ⟨rfl, e⟩)]
                    rfl
                  · rw [zup_ne (by omega), zany_f (Bool.eq_false_iff.mpr (fun h => e ((hz 0 q hq ek).mp h).2))]
                    exact i2
            · have ek : Sm 33 k = 1 := ek
              have n5 : ∀ q, ztd Sm q k = false := fun q => nd q (by rw [ek]; decide)
              have n1 : ∀ q, zth Sm 0 q k = false := fun q => nt 0 q (by rw [ek]; decide)
              cases v with
              | false =>
                refine ⟨X, fun j => ⟨.int (zbi false), ?_⟩, hX, fun q hq => ?_⟩
                · rw [a1, ek, zbi_f]
                  simp (config := {maxSteps := 1000000}) (disch := omega) only [↓reduceIte, Int32.reduceLT, Int32.reduceLE, Int32.reduceToNatClampNeg, Int32.reduceAdd, Int32.reduceSub, Int32.reduceMul, Nat.reduceLeDiff, zEL, zup_ne, zup_eq, zT0, zT1, zT2, if_true, if_false, zneq_f, true_and, and_true, false_and, and_false, zKL, eq_self, Nat.reduceEqDiff, zite0, ite_not, zaddr, zaddl, zputr, zsb1, zsb2, zsb0, zsbm, znm1, gM, g168, s19_125, s19_127, s19_128, s19_131, s19_132, s19_135, s19_136, s19_137, s19_140, s19_143, s19_145, s19_148, s19_150, s19_153, s19_154, s19_157, s19_159, s19_160, s19_163, s19_166, s19_168, s19_169, s19_172, s19_174, s19_177, s19_178, s19_181, s19_183, s19_184, s19_187, s19_190, s19_193]
                · rw [zany_f (n5 q), zany_f (n1 q), zany_f (Bool.eq_false_iff.mpr (fun h => by have := (hz 1 q hq ek).mp h; exact absurd this.1 (by decide)))]
                  exact hi q hq
              | true =>
                refine ⟨zup X 186 w 1, fun j => ⟨.int (zbi true), ?_⟩, fun j i hj => by rw [zup_ne (by omega)]; exact hX j i hj, fun q hq => ?_⟩
                · rw [a1, ek, x6, zbi_t]
                  simp (config := {maxSteps := 1000000}) (disch := omega) only [↓reduceIte, Int32.reduceLT, Int32.reduceLE, Int32.reduceToNatClampNeg, Int32.reduceAdd, Int32.reduceSub, Int32.reduceMul, Nat.reduceLeDiff, zEL, zup_ne, zup_eq, zT0, zT1, zT2, if_true, if_false, zneq_f, true_and, and_true, false_and, and_false, zKL, eq_self, Nat.reduceEqDiff, zite0, ite_not, zaddr, zaddl, zputr, zsb1, zsb2, zsb0, zsbm, znm1, gM, g168, s19_125, s19_127, s19_128, s19_131, s19_132, s19_135, s19_136, s19_137, s19_140, s19_143, s19_145, s19_148, s19_150, s19_153, s19_154, s19_157, s19_159, s19_160, s19_163, s19_166, s19_168, s19_169, s19_172, s19_174, s19_177, s19_178, s19_181, s19_183, s19_184, s19_187, s19_190, s19_193]
                · rw [zany_f (n5 q), zany_f (n1 q)]
                  obtain ⟨i1, i2, i3⟩ := hi q hq
                  refine ⟨by rw [zup_ne (by omega)]; exact i1, by rw [zup_ne (by omega)]; exact i2, ?_⟩
                  by_cases e : q = w
                  · rw [zup_eq rfl e, zany_t ((hz 1 q hq ek).mpr ⟨rfl, e⟩)]
                    rfl
                  · rw [zup_ne (by omega), zany_f (Bool.eq_false_iff.mpr (fun h => e ((hz 1 q hq ek).mp h).2))]
                    exact i3
            · have ek : Sm 33 k = 2 := ek
              refine ⟨X, fun j => ⟨.int (zbi v), ?_⟩, hX, fun q hq => ?_⟩
              · rw [a1, ek]
                simp (config := {maxSteps := 1000000}) (disch := omega) only [↓reduceIte, Int32.reduceLT, Int32.reduceLE, Int32.reduceToNatClampNeg, Int32.reduceAdd, Int32.reduceSub, Int32.reduceMul, Nat.reduceLeDiff, zEL, zup_ne, zup_eq, zT0, zT1, zT2, if_true, if_false, zneq_f, true_and, and_true, false_and, and_false, zKL, eq_self, Nat.reduceEqDiff, zite0, ite_not, zaddr, zaddl, zputr, zsb1, zsb2, zsb0, zsbm, znm1, gM, g168, s19_125, s19_127, s19_128, s19_131, s19_132, s19_135, s19_136, s19_137, s19_140, s19_143, s19_145, s19_148, s19_150, s19_153, s19_154, s19_157, s19_159, s19_160, s19_163, s19_166, s19_168, s19_169, s19_172, s19_174, s19_177, s19_178, s19_181, s19_183, s19_184, s19_187, s19_190, s19_193]
              · rw [zany_f (nd q (by rw [ek]; decide)), zany_f (nt 0 q (by rw [ek]; decide)), zany_f (nt 1 q (by rw [ek]; decide))]
                exact hi q hq
          · refine ⟨X, fun j => ⟨.int (zbi v), ?_⟩, hX, fun q hq => ?_⟩
            · rw [a1, ek]
              simp (config := {maxSteps := 1000000}) (disch := omega) only [↓reduceIte, Int32.reduceLT, Int32.reduceLE, Int32.reduceToNatClampNeg, Int32.reduceAdd, Int32.reduceSub, Int32.reduceMul, Nat.reduceLeDiff, zEL, zup_ne, zup_eq, zT0, zT1, zT2, if_true, if_false, zneq_f, true_and, and_true, false_and, and_false, zKL, eq_self, Nat.reduceEqDiff, zite0, ite_not, zaddr, zaddl, zputr, zsb1, zsb2, zsb0, zsbm, znm1, gM, g168, s19_125, s19_127, s19_128, s19_131, s19_132, s19_135, s19_136, s19_137, s19_140, s19_143, s19_145, s19_148, s19_150, s19_153, s19_154, s19_157, s19_159, s19_160, s19_163, s19_166, s19_168, s19_169, s19_172, s19_174, s19_177, s19_178, s19_181, s19_183, s19_184, s19_187, s19_190, s19_193]
            · rw [zany_f (nd q (by rw [ek]; decide)), zany_f (nt 0 q (by rw [ek]; decide)), zany_f (nt 1 q (by rw [ek]; decide))]
              exact hi q hq
          · refine ⟨X, fun j => ⟨.int (zbi v), ?_⟩, hX, fun q hq => ?_⟩
            · rw [a1, ek]
              simp (config := {maxSteps := 1000000}) (disch := omega) only [↓reduceIte, Int32.reduceLT, Int32.reduceLE, Int32.reduceToNatClampNeg, Int32.reduceAdd, Int32.reduceSub, Int32.reduceMul, Nat.reduceLeDiff, zEL, zup_ne, zup_eq, zT0, zT1, zT2, if_true, if_false, zneq_f, true_and, and_true, false_and, and_false, zKL, eq_self, Nat.reduceEqDiff, zite0, ite_not, zaddr, zaddl, zputr, zsb1, zsb2, zsb0, zsbm, znm1, gM, g168, s19_125, s19_127, s19_128, s19_131, s19_132, s19_135, s19_136, s19_137, s19_140, s19_143, s19_145, s19_148, s19_150, s19_153, s19_154, s19_157, s19_159, s19_160, s19_163, s19_166, s19_168, s19_169, s19_172, s19_174, s19_177, s19_178, s19_181, s19_183, s19_184, s19_187, s19_190, s19_193]
            · rw [zany_f (nd q (by rw [ek]; decide)), zany_f (nt 0 q (by rw [ek]; decide)), zany_f (nt 1 q (by rw [ek]; decide))]
              exact hi q hq
          · refine ⟨zup X 182 p 1, fun j => ⟨.int (zbi v), ?_⟩, fun j i hj => by rw [zup_ne (by omega)]; exact hX j i hj, fun q hq => ?_⟩
            · rw [a1, ek]
              simp (config := {maxSteps := 1000000}) (disch := omega) only [↓reduceIte, Int32.reduceLT, Int32.reduceLE, Int32.reduceToNatClampNeg, Int32.reduceAdd, Int32.reduceSub, Int32.reduceMul, Nat.reduceLeDiff, zEL, zup_ne, zup_eq, zT0, zT1, zT2, if_true, if_false, zneq_f, true_and, and_true, false_and, and_false, zKL, eq_self, Nat.reduceEqDiff, zite0, ite_not, zaddr, zaddl, zputr, zsb1, zsb2, zsb0, zsbm, znm1, gM, g168, s19_125, s19_127, s19_128, s19_131, s19_132, s19_135, s19_136, s19_137, s19_140, s19_143, s19_145, s19_148, s19_150, s19_153, s19_154, s19_157, s19_159, s19_160, s19_163, s19_166, s19_168, s19_169, s19_172, s19_174, s19_177, s19_178, s19_181, s19_183, s19_184, s19_187, s19_190, s19_193]
            · rw [zany_f (nt 0 q (by rw [ek]; decide)), zany_f (nt 1 q (by rw [ek]; decide))]
              obtain ⟨i1, i2, i3⟩ := hi q hq
              refine ⟨?_, by rw [zup_ne (by omega)]; exact i2, by rw [zup_ne (by omega)]; exact i3⟩
              by_cases e : q = p
              · rw [zup_eq rfl e, zany_t (decide_eq_true ⟨hnow, ek, by rw [e]; exact e3⟩)]
                rfl
              · rw [zup_ne (by omega), zany_f (decide_eq_false (fun h => e (by
                  have := h.2.2
                  rw [e3, znI_inj (by omega) (by omega)] at this
                  exact this.symm)))]
                exact i1
        obtain ⟨X2, a2, a3, a4'⟩ := a2
        obtain ⟨X', r1, r2, r3⟩ := ih (k + 1) (by omega) X2 a3 a4' (.int (nI p)) (.int (S 72 k)) (.int (Sm 33 k))
        refine ⟨X', fun j => ?_, r2, r3⟩
        obtain ⟨j6', a2⟩ := a2 j
        rw [a2]
        exact r1 j6'
      · obtain ⟨X', r1, r2, r3⟩ := ih (k + 1) (by omega) X hX (fun q hq => by
          rw [zany_f (decide_eq_false (fun h' => hnow h'.1)), zany_f (decide_eq_false (fun h' => hnow h'.1)), zany_f (decide_eq_false (fun h' => hnow h'.1))]
          exact hi q hq) j3 j4 j5
        refine ⟨X', fun j => ?_, r2, r3⟩
        rw [← r1 j, s19_31]
        simp (config := {maxSteps := 1000000}) (disch := omega) only [↓reduceIte, Int32.reduceLT, Int32.reduceLE, Int32.reduceToNatClampNeg, Int32.reduceAdd, Int32.reduceSub, Int32.reduceMul, Nat.reduceLeDiff, zEL, zup_ne, zup_eq, zT0, zT1, zT2, if_true, if_false, zneq_f, true_and, and_true, false_and, and_false, zKL, eq_self, Nat.reduceEqDiff, zite0, ite_not, zaddr, zaddl, zputr, zsb1, zsb2, zsb0, zsbm, znm1, gM, g168, s19_32, s19_33, s19_36, s19_39, s19_40, s19_43, s19_44, s19_47, s19_48, s19_51, s19_54, s19_57, s19_58, s19_61, s19_62, s19_65, s19_66, s19_67, s19_70, s19_71, s19_74, s19_76, s19_77, s19_80, s19_81, s19_84, s19_86, s19_87, s19_90, s19_91, s19_94, s19_97, s19_98, s19_101, s19_102, s19_105, s19_108, s19_109, s19_110, s19_112, s19_115, s19_118, s19_119, s19_122, s19_123, s19_125, s19_127, s19_128, s19_131, s19_132, s19_135, s19_136, s19_137, s19_140, s19_143, s19_145, s19_148, s19_150, s19_153, s19_154, s19_157, s19_159, s19_160, s19_163, s19_166, s19_168, s19_169, s19_172, s19_174, s19_177, s19_178, s19_181, s19_183, s19_184, s19_187, s19_190, s19_193, x4, x1, x7, hnow]
  obtain ⟨X, r1, r2, r3⟩ := key (c 4) 0 (by omega) (zclear (zclear (zclear S 182 8) 184 8) 186 8) (fun j k hj => by
    rw [zclear_ne (by omega), zclear_ne (by omega), zclear_ne (by omega)]) (fun q hq => by
    refine ⟨?_, ?_, ?_⟩
    · rw [zclear_ne (by omega), zclear_ne (by omega), zclear_eq rfl (by omega)]
      rfl
    · rw [zclear_ne (by omega), zclear_eq rfl (by omega)]
      rfl
    · rw [zclear_eq rfl (by omega)]
      rfl) (.retAddr 0) (.retAddr 0) (.retAddr 0)
  refine ⟨X, ?_, r2, r3⟩
  unfold zcall
  simp (config := {maxSteps := 1000000}) (disch := omega) only [↓reduceIte, Int32.reduceLT, Int32.reduceLE, Int32.reduceToNatClampNeg, Int32.reduceAdd, Int32.reduceSub, Int32.reduceMul, Nat.reduceLeDiff, zEL, zup_ne, zup_eq, zT0, zT1, zT2, if_true, if_false, zneq_f, true_and, and_true, false_and, and_false, zKL, eq_self, Nat.reduceEqDiff, zite0, ite_not, zaddr, zaddl, zputr, zsb1, zsb2, zsb0, zsbm, znm1, gM, g168, ze_19, s19_0, s19_1, s19_4, s19_7, s19_8, s19_11, s19_14, s19_15, s19_18, s19_21, s19_22, s19_25, s19_28, s19_29, s19_30]
  exact r1 _
theorem t20v_187 {p : Nat} {v : Int32} (hM : zMD c S Sm) (hp : p < c 0) : zcall 20 [.ref 187, .int (nI p), .int v] zRc S L = some (some (.int (if Sm 18 p = zrd S 14 8 v then 1 else 0)), zRc, S, L) := by
  obtain ⟨⟨b0, b0', b1, -⟩, -, -, -, -, hP, -⟩ := hM
  obtain ⟨p1, -⟩ := hP p hp
  unfold zcall
  simp (config := {maxSteps := 1000000}) (disch := omega) only [↓reduceIte, Int32.reduceLT, Int32.reduceLE, Int32.reduceToNatClampNeg, Int32.reduceAdd, Int32.reduceSub, Int32.reduceMul, Nat.reduceLeDiff, zEL, zup_ne, zup_eq, zT0, zT1, zT2, if_true, if_false, zneq_f, true_and, and_true, false_and, and_false, zKL, eq_self, Nat.reduceEqDiff, zite0, ite_not, zaddr, zaddl, zputr, zsb1, zsb2, zsb0, zsbm, znm1, gM, g187, ze_20, s20_0, s20_1, s20_4, s20_7, s20_10, s20_11, s20_14, s20_15, s20_18, s20_21, s20_24, s20_25, s20_28, s20_31, s20_32, s20_35, s20_36, p1]
  split <;> rfl
theorem t19_187 (hM : zMD c S Sm) (hG : zGD 187 c S (Sm 2)) : ∃ S1, zcall 19 [.ref 187] zRc S L = some (none, zRc, S1, L) ∧ (∀ j k, (j < 200 ∨ 205 < j) → S1 j k = S j k) ∧ ∀ q, q < c 0 → S1 201 q = zbi (zany (ztd Sm q) (c 4)) ∧ S1 203 q = zbi (zany (zth Sm 0 q) (c 4)) ∧ S1 205 q = zbi (zany (zth Sm 1 q) (c 4)) := by
  have hM' := hM
  have hG' := hG
  obtain ⟨⟨b0, b0', b1, -, -, c4, -⟩, ⟨-, -, -, -, a4, -⟩, -, -, -, hP, -, -, -, hA, -⟩ := hM
  obtain ⟨g0, -, -, ⟨g7, -⟩, -⟩ := hG
  have key : ∀ d k, k + d = c 4 → ∀ X : zS, (∀ j k, (j < 200 ∨ 205 < j) → X j k = S j k) → (∀ q, q < c 0 → X 201 q = zbi (zany (ztd Sm q) k) ∧ X 203 q = zbi (zany (zth Sm 0 q) k) ∧ X 205 q = zbi (zany (zth Sm 1 q) k)) → ∀ j3 j4 j5 : Value, ∃ X', (∀ j, zgo 19 31 [.ref 187, .ref 64, .int (nI k), j3, j4, j5, j] [] zRc X L = some (none, zRc, X', L)) ∧ (∀ j k, (j < 200 ∨ 205 < j) → X' j k = S j k) ∧ (∀ q, q < c 0 → X' 201 q = zbi (zany (ztd Sm q) (c 4)) ∧ X' 203 q = zbi (zany (zth Sm 0 q) (c 4)) ∧ X' 205 q = zbi (zany (zth Sm 1 q) (c 4))) := by
    intro d
    induction d with
    | zero =>
      intro k hd X hX hi j3 j4 j5
      have x4 : X 64 4 = nI (c 4) := (hX 64 4 (by omega)).trans a4
      have hk : k = c 4 := by omega
      subst hk
      refine ⟨X, fun j => ?_, hX, hi⟩
      rw [s19_31]
      simp (config := {maxSteps := 1000000}) (disch := omega) only [↓reduceIte, Int32.reduceLT, Int32.reduceLE, Int32.reduceToNatClampNeg, Int32.reduceAdd, Int32.reduceSub, Int32.reduceMul, Nat.reduceLeDiff, zEL, zup_ne, zup_eq, zT0, zT1, zT2, if_true, if_false, zneq_f, true_and, and_true, false_and, and_false, zKL, eq_self, Nat.reduceEqDiff, zite0, ite_not, zaddr, zaddl, zputr, zsb1, zsb2, zsb0, zsbm, znm1, gM, g187, s19_32, s19_33, s19_36, s19_39, s19_40, s19_43, s19_44, s19_47, s19_48, s19_51, s19_54, s19_57, s19_58, s19_61, s19_62, s19_65, s19_66, s19_67, s19_70, s19_71, s19_74, s19_76, s19_77, s19_80, s19_81, s19_84, s19_86, s19_87, s19_90, s19_91, s19_94, s19_97, s19_98, s19_101, s19_102, s19_105, s19_108, s19_109, s19_110, s19_112, s19_115, s19_118, s19_119, s19_122, s19_123, s19_125, s19_127, s19_128, s19_131, s19_132, s19_135, s19_136, s19_137, s19_140, s19_143, s19_145, s19_148, s19_150, s19_153, s19_154, s19_157, s19_159, s19_160, s19_163, s19_166, s19_168, s19_169, s19_172, s19_174, s19_177, s19_178, s19_181, s19_183, s19_184, s19_187, s19_190, s19_193, x4]
    | succ d ih =>
      intro k hd X hX hi j3 j4 j5
      have x4 : X 64 4 = nI (c 4) := (hX 64 4 (by omega)).trans a4
      obtain ⟨e1, -, ⟨p, hp, e2, e3⟩, e4, hk⟩ := hA k (by omega)
      have x1 : X 66 k = Sm 31 k := (hX 66 k (by omega)).trans e1
      have x2 : X 68 k = nI p := (hX 68 k (by omega)).trans e2
      have x3 : X 70 k = Sm 33 k := (hX 70 k (by omega)).trans e4
      have x5 : X 72 k = S 72 k := hX 72 k (by omega)
      have x7 : X 187 7 = Sm 2 2 := (hX 187 7 (by omega)).trans g7
      obtain ⟨f1, f2, f3, f4, -, ⟨b, hb, eb⟩, ⟨o, ho, eo⟩⟩ := g0 p hp
      have x8 : X 195 p = nI o := (hX 195 p (by omega)).trans (f4.trans eo)
      have x9 : X 191 p = nI b := (hX 191 p (by omega)).trans (f2.trans eb)
      have eo : Sm 2 (33 + p) = nI o := eo
      have eb : Sm 2 (17 + p) = nI b := eb
      have xM : zMD c X Sm := zMD_fr hM' (fun j k hj => hX j k (by omega)) (fun _ _ _ => rfl)
      have t20 := t20v_187 (S := X) (L := L) (v := S 72 k) xM hp
      have x14 : zrd X 14 8 (S 72 k) = zrd S 14 8 (S 72 k) := by
        unfold zrd
        rw [hX 14 _ (by omega)]
      rw [x14] at t20
      by_cases hnow : Sm 31 k = Sm 2 2
      · -- the line is told for now
        have a1 : ∃ v : Bool, (v = true ↔ (o = 0 ∧ 0 < b ∧ ¬ Sm 18 p = zrd S 14 8 (S 72 k))) ∧ ∀ j, zgo 19 31 [.ref 187, .ref 64, .int (nI k), j3, j4, j5, j] [] zRc X L = zgo 19 125 [.ref 187, .ref 64, .int (nI k), .int (nI p), .int (S 72 k), .int (Sm 33 k), .int (zbi v)] [] zRc X L := by
          by_cases hv : o = 0 ∧ 0 < b ∧ ¬ Sm 18 p = zrd S 14 8 (S 72 k)
          · obtain ⟨rfl, h2, h3⟩ := hv
            refine ⟨true, ⟨fun _ => ⟨rfl, h2, h3⟩, fun _ => rfl⟩, fun j => ?_⟩
            rw [s19_31]
            simp (config := {maxSteps := 1000000}) (disch := omega) only [↓reduceIte, Int32.reduceLT, Int32.reduceLE, Int32.reduceToNatClampNeg, Int32.reduceAdd, Int32.reduceSub, Int32.reduceMul, Nat.reduceLeDiff, zEL, zup_ne, zup_eq, zT0, zT1, zT2, if_true, if_false, zneq_f, true_and, and_true, false_and, and_false, zKL, eq_self, Nat.reduceEqDiff, zite0, ite_not, zaddr, zaddl, zputr, zsb1, zsb2, zsb0, zsbm, znm1, gM, g187, s19_32, s19_33, s19_36, s19_39, s19_40, s19_43, s19_44, s19_47, s19_48, s19_51, s19_54, s19_57, s19_58, s19_61, s19_62, s19_65, s19_66, s19_67, s19_70, s19_71, s19_74, s19_76, s19_77, s19_80, s19_81, s19_84, s19_86, s19_87, s19_90, s19_91, s19_94, s19_97, s19_98, s19_101, s19_102, s19_105, s19_108, s19_109, s19_110, s19_112, s19_115, s19_118, s19_119, s19_122, s19_123, x4, x1, x2, x3, x5, x7, x8, x9, hnow, t20, h3, zbi_t]
          · refine ⟨false, ⟨fun h => (by cases h), fun h => absurd h hv⟩, fun j => ?_⟩
            rw [s19_31]
            simp (config := {maxSteps := 1000000}) (disch := omega) only [↓reduceIte, Int32.reduceLT, Int32.reduceLE, Int32.reduceToNatClampNeg, Int32.reduceAdd, Int32.reduceSub, Int32.reduceMul, Nat.reduceLeDiff, zEL, zup_ne, zup_eq, zT0, zT1, zT2, if_true, if_false, zneq_f, true_and, and_true, false_and, and_false, zKL, eq_self, Nat.reduceEqDiff, zite0, ite_not, zaddr, zaddl, zputr, zsb1, zsb2, zsb0, zsbm, znm1, gM, g187, s19_32, s19_33, s19_36, s19_39, s19_40, s19_43, s19_44, s19_47, s19_48, s19_51, s19_54, s19_57, s19_58, s19_61, s19_62, s19_65, s19_66, s19_67, s19_70, s19_71, s19_74, s19_76, s19_77, s19_80, s19_81, s19_84, s19_86, s19_87, s19_90, s19_91, s19_94, s19_97, s19_98, s19_101, s19_102, s19_105, s19_108, s19_109, s19_110, s19_112, s19_115, s19_118, s19_119, s19_122, s19_123, x4, x1, x2, x3, x5, x7, x8, x9, hnow, t20, zbi_f]
            repeat' split
            all_goals first | rfl | (exfalso; exact hv ⟨by omega, by omega, by assumption⟩)
        obtain ⟨v, hv, a1⟩ := a1
        -- what is written
        have a2 : ∃ X2 : zS, (∀ j, ∃ j6', zgo 19 31 [.ref 187, .ref 64, .int (nI k), j3, j4, j5, j] [] zRc X L = zgo 19 31 [.ref 187, .ref 64, .int (nI (k + 1)), .int (nI p), .int (S 72 k), .int (Sm 33 k), j6'] [] zRc X2 L) ∧ (∀ j k, (j < 200 ∨ 205 < j) → X2 j k = S j k) ∧ (∀ q, q < c 0 → X2 201 q = zbi (zany (ztd Sm q) (k + 1)) ∧ X2 203 q = zbi (zany (zth Sm 0 q) (k + 1)) ∧ X2 205 q = zbi (zany (zth Sm 1 q) (k + 1))) := by
          have nd : ∀ q, ¬ Sm 33 k = 5 → ztd Sm q k = false := fun q h => decide_eq_false (fun h' => h h'.2.1)
          have nt : ∀ a q, ¬ Sm 33 k = a → zth Sm a q k = false := fun a q h => decide_eq_false (fun h' => h h'.2.1)
          rcases hk with ⟨⟨kd, hkd, ek⟩, w, hw, e5, e6⟩ | ek | ek | ek
          · have x6 : S 72 k = nI w := e5
            have hw14 : zrd S 14 8 (S 72 k) = Sm 18 w := by
              rw [e5, zrd_nI (by omega) (by omega)]
              exact (hP w hw).1
            rw [hw14] at hv
            have hz : ∀ a q, q < c 0 → Sm 33 k = a → (zth Sm a q k = true ↔ (v = true ∧ q = w)) := fun a q hq h => by
              rw [hv]
              unfold zth
              rw [decide_eq_true_iff, e3, zwho_n (by omega), e6, eo, eb, znI_inj (by omega) (by omega), show (1 : Int32) = nI 1 from rfl, znI_inj (by omega) (by omega), znI_0, znI_lt (by omega) (by omega)]
              constructor
              · rintro ⟨h1, h2, h3, h4, h5, h6⟩
                subst h3
                exact ⟨⟨by omega, h6, h4⟩, rfl⟩
              · rintro ⟨⟨h1, h2, h3⟩, rfl⟩
                exact ⟨hnow, h, rfl, h3, by omega, h2⟩
            rcases (show kd = 0 ∨ kd = 1 ∨ kd = 2 by omega) with rfl | rfl | rfl
            · have ek : Sm 33 k = 0 := ek
              have n5 : ∀ q, ztd Sm q k = false := fun q => nd q (by rw [ek]; decide)
              have n1 : ∀ q, zth Sm 1 q k = false := fun q => nt 1 q (by rw [ek]; decide)
              cases v with
              | false =>
                refine ⟨X, fun j => ⟨.int (zbi false), ?_⟩, hX, fun q hq => ?_⟩
                · rw [a1, ek, zbi_f]
                  simp (config := {maxSteps := 1000000}) (disch := omega) only [↓reduceIte, Int32.reduceLT, Int32.reduceLE, Int32.reduceToNatClampNeg, Int32.reduceAdd, Int32.reduceSub, Int32.reduceMul, Nat.reduceLeDiff, zEL, zup_ne, zup_eq, zT0, zT1, zT2, if_true, if_false, zneq_f, true_and, and_true, false_and, and_false, zKL, eq_self, Nat.reduceEqDiff, zite0, ite_not, zaddr, zaddl, zputr, zsb1, zsb2, zsb0, zsbm, znm1, gM, g187, s19_125, s19_127, s19_128, s19_131, s19_132, s19_135, s19_136, s19_137, s19_140, s19_143, s19_145, s19_148, s19_150, s19_153, s19_154, s19_157, s19_159, s19_160, s19_163, s19_166, s19_168, s19_169, s19_172, s19_174, s19_177, s19_178, s19_181, s19_183, s19_184, s19_187, s19_190, s19_193]
                · rw [zany_f (n5 q), zany_f (n1 q), zany_f (Bool.eq_false_iff.mpr (fun h => by have := (hz 0 q hq ek).mp h; exact absurd this.1 (by decide)))]
                  exact hi q hq
              | true =>
                refine ⟨zup X 203 w 1, fun j => ⟨.int (zbi true), ?_⟩, fun j i hj => by rw [zup_ne (by omega)]; exact hX j i hj, fun q hq => ?_⟩
                · rw [a1, ek, x6, zbi_t]
                  simp (config := {maxSteps := 1000000}) (disch := omega) only [↓reduceIte, Int32.reduceLT, Int32.reduceLE, Int32.reduceToNatClampNeg, Int32.reduceAdd, Int32.reduceSub, Int32.reduceMul, Nat.reduceLeDiff, zEL, zup_ne, zup_eq, zT0, zT1, zT2, if_true, if_false, zneq_f, true_and, and_true, false_and, and_false, zKL, eq_self, Nat.reduceEqDiff, zite0, ite_not, zaddr, zaddl, zputr, zsb1, zsb2, zsb0, zsbm, znm1, gM, g187, s19_125, s19_127, s19_128, s19_131, s19_132, s19_135, s19_136, s19_137, s19_140, s19_143, s19_145, s19_148, s19_150, s19_153, s19_154, s19_157, s19_159, s19_160, s19_163, s19_166, s19_168, s19_169, s19_172, s19_174, s19_177, s19_178, s19_181, s19_183, s19_184, s19_187, s19_190, s19_193]
                · rw [zany_f (n5 q), zany_f (n1 q)]
                  obtain ⟨i1, i2, i3⟩ := hi q hq
                  refine ⟨by rw [zup_ne (by omega)]; exact i1, ?_, by rw [zup_ne (by omega)]; exact i3⟩
                  by_cases e : q = w
                  · rw [zup_eq rfl e, zany_t ((hz 0 q hq ek).mpr ⟨rfl, e⟩)]
                    rfl
                  · rw [zup_ne (by omega), zany_f (Bool.eq_false_iff.mpr (fun h => e ((hz 0 q hq ek).mp h).2))]
                    exact i2
            · have ek : Sm 33 k = 1 := ek
              have n5 : ∀ q, ztd Sm q k = false := fun q => nd q (by rw [ek]; decide)
              have n1 : ∀ q, zth Sm 0 q k = false := fun q => nt 0 q (by rw [ek]; decide)
              cases v with
              | false =>
                refine ⟨X, fun j => ⟨.int (zbi false), ?_⟩, hX, fun q hq => ?_⟩
                · rw [a1, ek, zbi_f]
                  simp (config := {maxSteps := 1000000}) (disch := omega) only [↓reduceIte, Int32.reduceLT, Int32.reduceLE, Int32.reduceToNatClampNeg, Int32.reduceAdd, Int32.reduceSub, Int32.reduceMul, Nat.reduceLeDiff, zEL, zup_ne, zup_eq, zT0, zT1, zT2, if_true, if_false, zneq_f, true_and, and_true, false_and, and_false, zKL, eq_self, Nat.reduceEqDiff, zite0, ite_not, zaddr, zaddl, zputr, zsb1, zsb2, zsb0, zsbm, znm1, gM, g187, s19_125, s19_127, s19_128, s19_131, s19_132, s19_135, s19_136, s19_137, s19_140, s19_143, s19_145, s19_148, s19_150, s19_153, s19_154, s19_157, s19_159, s19_160, s19_163, s19_166, s19_168, s19_169, s19_172, s19_174, s19_177, s19_178, s19_181, s19_183, s19_184, s19_187, s19_190, s19_193]
                · rw [zany_f (n5 q), zany_f (n1 q), zany_f (Bool.eq_false_iff.mpr (fun h => by have := (hz 1 q hq ek).mp h; exact absurd this.1 (by decide)))]
                  exact hi q hq
              | true =>
                refine ⟨zup X 205 w 1, fun j => ⟨.int (zbi true), ?_⟩, fun j i hj => by rw [zup_ne (by omega)]; exact hX j i hj, fun q hq => ?_⟩
                · rw [a1, ek, x6, zbi_t]
                  simp (config := {maxSteps := 1000000}) (disch := omega) only [↓reduceIte, Int32.reduceLT, Int32.reduceLE, Int32.reduceToNatClampNeg, Int32.reduceAdd, Int32.reduceSub, Int32.reduceMul, Nat.reduceLeDiff, zEL, zup_ne, zup_eq, zT0, zT1, zT2, if_true, if_false, zneq_f, true_and, and_true, false_and, and_false, zKL, eq_self, Nat.reduceEqDiff, zite0, ite_not, zaddr, zaddl, zputr, zsb1, zsb2, zsb0, zsbm, znm1, gM, g187, s19_125, s19_127, s19_128, s19_131, s19_132, s19_135, s19_136, s19_137, s19_140, s19_143, s19_145, s19_148, s19_150, s19_153, s19_154, s19_157, s19_159, s19_160, s19_163, s19_166, s19_168, s19_169, s19_172, s19_174, s19_177, s19_178, s19_181, s19_183, s19_184, s19_187, s19_190, s19_193]
                · rw [zany_f (n5 q), zany_f (n1 q)]
                  obtain ⟨i1, i2, i3⟩ := hi q hq
                  refine ⟨by rw [zup_ne (by omega)]; exact i1, by rw [zup_ne (by omega)]; exact i2, ?_⟩
                  by_cases e : q = w
                  · rw [zup_eq rfl e, zany_t ((hz 1 q hq ek).mpr ⟨rfl, e⟩)]
                    rfl
                  · rw [zup_ne (by omega), zany_f (Bool.eq_false_iff.mpr (fun h => e ((hz 1 q hq ek).mp h).2))]
                    exact i3
            · have ek : Sm 33 k = 2 := ek
              refine ⟨X, fun j => ⟨.int (zbi v), ?_⟩, hX, fun q hq => ?_⟩
              · rw [a1, ek]
                simp (config := {maxSteps := 1000000}) (disch := omega) only [↓reduceIte, Int32.reduceLT, Int32.reduceLE, Int32.reduceToNatClampNeg, Int32.reduceAdd, Int32.reduceSub, Int32.reduceMul, Nat.reduceLeDiff, zEL, zup_ne, zup_eq, zT0, zT1, zT2, if_true, if_false, zneq_f, true_and, and_true, false_and, and_false, zKL, eq_self, Nat.reduceEqDiff, zite0, ite_not, zaddr, zaddl, zputr, zsb1, zsb2, zsb0, zsbm, znm1, gM, g187, s19_125, s19_127, s19_128, s19_131, s19_132, s19_135, s19_136, s19_137, s19_140, s19_143, s19_145, s19_148, s19_150, s19_153, s19_154, s19_157, s19_159, s19_160, s19_163, s19_166, s19_168, s19_169, s19_172, s19_174, s19_177, s19_178, s19_181, s19_183, s19_184, s19_187, s19_190, s19_193]
              · rw [zany_f (nd q (by rw [ek]; decide)), zany_f (nt 0 q (by rw [ek]; decide)), zany_f (nt 1 q (by rw [ek]; decide))]
                exact hi q hq
          · refine ⟨X, fun j => ⟨.int (zbi v), ?_⟩, hX, fun q hq => ?_⟩
            · rw [a1, ek]
              simp (config := {maxSteps := 1000000}) (disch := omega) only [↓reduceIte, Int32.reduceLT, Int32.reduceLE, Int32.reduceToNatClampNeg, Int32.reduceAdd, Int32.reduceSub, Int32.reduceMul, Nat.reduceLeDiff, zEL, zup_ne, zup_eq, zT0, zT1, zT2, if_true, if_false, zneq_f, true_and, and_true, false_and, and_false, zKL, eq_self, Nat.reduceEqDiff, zite0, ite_not, zaddr, zaddl, zputr, zsb1, zsb2, zsb0, zsbm, znm1, gM, g187, s19_125, s19_127, s19_128, s19_131, s19_132, s19_135, s19_136, s19_137, s19_140, s19_143, s19_145, s19_148, s19_150, s19_153, s19_154, s19_157, s19_159, s19_160, s19_163, s19_166, s19_168, s19_169, s19_172, s19_174, s19_177, s19_178, s19_181, s19_183, s19_184, s19_187, s19_190, s19_193]
            · rw [zany_f (nd q (by rw [ek]; decide)), zany_f (nt 0 q (by rw [ek]; decide)), zany_f (nt 1 q (by rw [ek]; decide))]
              exact hi q hq
          · refine ⟨X, fun j => ⟨.int (zbi v), ?_⟩, hX, fun q hq => ?_⟩
            · rw [a1, ek]
              simp (config := {maxSteps := 1000000}) (disch := omega) only [↓reduceIte, Int32.reduceLT, Int32.reduceLE, Int32.reduceToNatClampNeg, Int32.reduceAdd, Int32.reduceSub, Int32.reduceMul, Nat.reduceLeDiff, zEL, zup_ne, zup_eq, zT0, zT1, zT2, if_true, if_false, zneq_f, true_and, and_true, false_and, and_false, zKL, eq_self, Nat.reduceEqDiff, zite0, ite_not, zaddr, zaddl, zputr, zsb1, zsb2, zsb0, zsbm, znm1, gM, g187, s19_125, s19_127, s19_128, s19_131, s19_132, s19_135, s19_136, s19_137, s19_140, s19_143, s19_145, s19_148, s19_150, s19_153, s19_154, s19_157, s19_159, s19_160, s19_163, s19_166, s19_168, s19_169, s19_172, s19_174, s19_177, s19_178, s19_181, s19_183, s19_184, s19_187, s19_190, s19_193]
            · rw [zany_f (nd q (by rw [ek]; decide)), zany_f (nt 0 q (by rw [ek]; decide)), zany_f (nt 1 q (by rw [ek]; decide))]
              exact hi q hq
          · refine ⟨zup X 201 p 1, fun j => ⟨.int (zbi v), ?_⟩, fun j i hj => by rw [zup_ne (by omega)]; exact hX j i hj, fun q hq => ?_⟩
            · rw [a1, ek]
              simp (config := {maxSteps := 1000000}) (disch := omega) only [↓reduceIte, Int32.reduceLT, Int32.reduceLE, Int32.reduceToNatClampNeg, Int32.reduceAdd, Int32.reduceSub, Int32.reduceMul, Nat.reduceLeDiff, zEL, zup_ne, zup_eq, zT0, zT1, zT2, if_true, if_false, zneq_f, true_and, and_true, false_and, and_false, zKL, eq_self, Nat.reduceEqDiff, zite0, ite_not, zaddr, zaddl, zputr, zsb1, zsb2, zsb0, zsbm, znm1, gM, g187, s19_125, s19_127, s19_128, s19_131, s19_132, s19_135, s19_136, s19_137, s19_140, s19_143, s19_145, s19_148, s19_150, s19_153, s19_154, s19_157, s19_159, s19_160, s19_163, s19_166, s19_168, s19_169, s19_172, s19_174, s19_177, s19_178, s19_181, s19_183, s19_184, s19_187, s19_190, s19_193]
            · rw [zany_f (nt 0 q (by rw [ek]; decide)), zany_f (nt 1 q (by rw [ek]; decide))]
              obtain ⟨i1, i2, i3⟩ := hi q hq
              refine ⟨?_, by rw [zup_ne (by omega)]; exact i2, by rw [zup_ne (by omega)]; exact i3⟩
              by_cases e : q = p
              · rw [zup_eq rfl e, zany_t (decide_eq_true ⟨hnow, ek, by rw [e]; exact e3⟩)]
                rfl
              · rw [zup_ne (by omega), zany_f (decide_eq_false (fun h => e (by
                  have := h.2.2
                  rw [e3, znI_inj (by omega) (by omega)] at this
                  exact this.symm)))]
                exact i1
        obtain ⟨X2, a2, a3, a4'⟩ := a2
        obtain ⟨X', r1, r2, r3⟩ := ih (k + 1) (by omega) X2 a3 a4' (.int (nI p)) (.int (S 72 k)) (.int (Sm 33 k))
        refine ⟨X', fun j => ?_, r2, r3⟩
        obtain ⟨j6', a2⟩ := a2 j
        rw [a2]
        exact r1 j6'
      · obtain ⟨X', r1, r2, r3⟩ := ih (k + 1) (by omega) X hX (fun q hq => by
          rw [zany_f (decide_eq_false (fun h' => hnow h'.1)), zany_f (decide_eq_false (fun h' => hnow h'.1)), zany_f (decide_eq_false (fun h' => hnow h'.1))]
          exact hi q hq) j3 j4 j5
        refine ⟨X', fun j => ?_, r2, r3⟩
        rw [← r1 j, s19_31]
        simp (config := {maxSteps := 1000000}) (disch := omega) only [↓reduceIte, Int32.reduceLT, Int32.reduceLE, Int32.reduceToNatClampNeg, Int32.reduceAdd, Int32.reduceSub, Int32.reduceMul, Nat.reduceLeDiff, zEL, zup_ne, zup_eq, zT0, zT1, zT2, if_true, if_false, zneq_f, true_and, and_true, false_and, and_false, zKL, eq_self, Nat.reduceEqDiff, zite0, ite_not, zaddr, zaddl, zputr, zsb1, zsb2, zsb0, zsbm, znm1, gM, g187, s19_32, s19_33, s19_36, s19_39, s19_40, s19_43, s19_44, s19_47, s19_48, s19_51, s19_54, s19_57, s19_58, s19_61, s19_62, s19_65, s19_66, s19_67, s19_70, s19_71, s19_74, s19_76, s19_77, s19_80, s19_81, s19_84, s19_86, s19_87, s19_90, s19_91, s19_94, s19_97, s19_98, s19_101, s19_102, s19_105, s19_108, s19_109, s19_110, s19_112, s19_115, s19_118, s19_119, s19_122, s19_123, s19_125, s19_127, s19_128, s19_131, s19_132, s19_135, s19_136, s19_137, s19_140, s19_143, s19_145, s19_148, s19_150, s19_153, s19_154, s19_157, s19_159, s19_160, s19_163, s19_166, s19_168, s19_169, s19_172, s19_174, s19_177, s19_178, s19_181, s19_183, s19_184, s19_187, s19_190, s19_193, x4, x1, x7, hnow]
  obtain ⟨X, r1, r2, r3⟩ := key (c 4) 0 (by omega) (zclear (zclear (zclear S 201 8) 203 8) 205 8) (fun j k hj => by
    rw [zclear_ne (by omega), zclear_ne (by omega), zclear_ne (by omega)]) (fun q hq => by
    refine ⟨?_, ?_, ?_⟩
    · rw [zclear_ne (by omega), zclear_ne (by omega), zclear_eq rfl (by omega)]
      rfl
    · rw [zclear_ne (by omega), zclear_eq rfl (by omega)]
      rfl
    · rw [zclear_eq rfl (by omega)]
      rfl) (.retAddr 0) (.retAddr 0) (.retAddr 0)
  refine ⟨X, ?_, r2, r3⟩
  unfold zcall
  simp (config := {maxSteps := 1000000}) (disch := omega) only [↓reduceIte, Int32.reduceLT, Int32.reduceLE, Int32.reduceToNatClampNeg, Int32.reduceAdd, Int32.reduceSub, Int32.reduceMul, Nat.reduceLeDiff, zEL, zup_ne, zup_eq, zT0, zT1, zT2, if_true, if_false, zneq_f, true_and, and_true, false_and, and_false, zKL, eq_self, Nat.reduceEqDiff, zite0, ite_not, zaddr, zaddl, zputr, zsb1, zsb2, zsb0, zsbm, znm1, gM, g187, ze_19, s19_0, s19_1, s19_4, s19_7, s19_8, s19_11, s19_14, s19_15, s19_18, s19_21, s19_22, s19_25, s19_28, s19_29, s19_30]
  exact r1 _
end ZGA
