/-! GAMES: the nearest wall -/
section ZG4
variable {c : Nat → Nat} {S Sm S0 Sm0 : zS} {L Lm : zL} {rd : Value}
/-- of walls 0 to k-1 the first nearest that counts -/
def znr (bt : Nat → Bool) (ds : Nat → Nat) : Nat → Option Nat
  | 0 => none
  | k + 1 => match znr bt ds k with
    | none => if bt k = true then some k else none
    | some b => if bt k = true ∧ ds k < ds b then some k else some b
def zon : Option Nat → Int32
  | none => -1
  | some k => nI k
def zdist (a b : Nat) : Nat := (a - b) + (b - a)
theorem zmn {a b : Nat} : (if b < a then nI b else nI a) = nI (min a b) := by
  split <;> congr <;> omega
theorem zmx {a b : Nat} : (if a < b then nI b else nI a) = nI (max a b) := by
  split <;> congr <;> omega
def zbt (lw lq : Int32) (xp xq x : Nat) (s : Int32) : Bool := decide (lw = lq) && decide (min xp xq < x) && decide (x < max xp xq) && decide (0 < s)
def znv (o : Option Nat) (ds : Nat → Nat) (bf : Nat) : Prop := match o with
  | none => bf = 20
  | some b => bf = ds b
theorem zbt_iff {lw lq : Int32} {xp xq x : Nat} {s : Int32} : zbt lw lq xp xq x s = true ↔ lw = lq ∧ min xp xq < x ∧ x < max xp xq ∧ 0 < s := by
  simp [zbt, and_assoc]
theorem znr_s {bt : Nat → Bool} {ds : Nat → Nat} {k : Nat} : znr bt ds (k + 1) = (match znr bt ds k with
    | none => if bt k = true then some k else none
    | some b => if bt k = true ∧ ds k < ds b then some k else some b) := rfl
theorem znr_f {bt : Nat → Bool} {ds : Nat → Nat} {k : Nat} (h : bt k = false) : znr bt ds (k + 1) = znr bt ds k := by
  rw [znr_s]
  cases e : znr bt ds k with
  | none => simp [h]
  | some b => simp [h]
theorem znr_t {bt : Nat → Bool} {ds : Nat → Nat} {k bf : Nat} (h : bt k = true) (hi : znv (znr bt ds k) ds bf) (hd : ds k ≤ 19) : (bf ≤ ds k → znr bt ds (k + 1) = znr bt ds k) ∧ (ds k < bf → znr bt ds (k + 1) = some k) := by
  rw [znr_s]
  cases e : znr bt ds k with
  | none =>
    rw [e] at hi
    have hi : bf = 20 := hi
    refine ⟨fun h' => by omega, fun h' => ?_⟩
    simp only [h, if_true]
  | some b =>
    rw [e] at hi
    have hi : bf = ds b := hi
    refine ⟨fun h' => ?_, fun h' => ?_⟩
    · show (if bt k = true ∧ ds k < ds b then some k else some b) = some b
      rw [if_neg (fun h'' => by have := h''.2; omega)]
    · show (if bt k = true ∧ ds k < ds b then some k else some b) = some k
      rw [if_pos ⟨h, by omega⟩]
theorem znr_lt {bt : Nat → Bool} {ds : Nat → Nat} {k b : Nat} (h : znr bt ds k = some b) : b < k := by
  induction k generalizing b with
  | zero => cases h
  | succ k ih =>
    rw [znr_s] at h
    cases e : znr bt ds k with
    | none =>
      rw [e] at h
      have h : (if bt k = true then some k else none) = some b := h
      split at h
      · cases h; omega
      · cases h
    | some b' =>
      rw [e] at h
      have h : (if bt k = true ∧ ds k < ds b' then some k else some b') = some b := h
      have := ih e
      split at h
      · cases h; omega
      · cases h; omega
theorem znm1 {a : Nat} (h : a < 2147483648) : (nI a = -1) = False := eq_false (fun h' => by
  have := congrArg Int32.toInt h'
  rw [zint_nI h] at this
  have e : (-1 : Int32).toInt = -1 := rfl
  omega)
theorem zon_n : zon none = -1 := rfl
theorem zon_s {b : Nat} : zon (some b) = nI b := rfl
theorem t28_168_g {n p q xp xq : Nat} {bt : Nat → Bool} {ds : Nat → Nat} (hn : S 25 7 = nI n) (hn8 : n ≤ 8) (hp : p < 8) (hq : q < 8) (ep : S 170 p = nI xp) (eq : S 170 q = nI xq) (hxp : xp ≤ 19) (hxq : xq ≤ 19) (hw : ∀ w, w < n → ∃ x, x ≤ 19 ∧ S 31 w = nI x ∧ bt w = zbt (S 29 w) (S 16 q) xp xq x (S 178 w) ∧ ds w = zdist x xq) :
    zcall 28 [.ref 168, .ref 25, .ref 177, .int (nI p), .int (nI q)] zRc S L = some (some (.int (zon (znr bt ds n))), zRc, S, L) := by
  have key : ∀ d w, w + d = n → ∀ bf : Nat, bf ≤ 20 → znv (znr bt ds w) ds bf → ∀ j1 j2, zgo 28 68 [.ref 168, .ref 25, .ref 177, .int (nI p), .int (nI q), .int (S 16 q), .int (nI xq), .int (nI (min xp xq)), .int (nI (max xp xq)), .int (zon (znr bt ds w)), .int (nI bf), .int (nI w), j1, j2] [] zRc S L = some (some (.int (zon (znr bt ds n))), zRc, S, L) := by
    intro d
    induction d with
    | zero =>
      intro w hd bf hbf hi j1 j2
      rw [s28_68]
      simp (config := {maxSteps := 1000000}) (disch := omega) only [Int32.reduceLT, Int32.reduceLE, Int32.reduceToNatClampNeg, Int32.reduceAdd, Int32.reduceSub, Int32.reduceMul, Nat.reduceLeDiff, zEL, zup_ne, zup_eq, layC, layM1, rowsC, zT0, zT1, zT2, if_true, if_false, S28, hn]
      rw [show w = n by omega]
    | succ d ih =>
      intro w hd bf hbf hi j1 j2
      obtain ⟨x, hx, ex, eb, ed⟩ := hw w (by omega)
      rw [s28_68]
      simp (config := {maxSteps := 1000000}) (disch := omega) only [Int32.reduceLT, Int32.reduceLE, Int32.reduceToNatClampNeg, Int32.reduceAdd, Int32.reduceSub, Int32.reduceMul, Nat.reduceLeDiff, zEL, zup_ne, zup_eq, layC, layM1, rowsC, zT0, zT1, zT2, if_true, if_false, S28, hn, ex, zabd]
      have keep : znr bt ds (w + 1) = znr bt ds w → ∀ j1 j2, zgo 28 68 [.ref 168, .ref 25, .ref 177, .int (nI p), .int (nI q), .int (S 16 q), .int (nI xq), .int (nI (min xp xq)), .int (nI (max xp xq)), .int (zon (znr bt ds w)), .int (nI bf), .int (nI (w + 1)), j1, j2] [] zRc S L = some (some (.int (zon (znr bt ds n))), zRc, S, L) := fun e j1 j2 => by
        have := ih (w + 1) (by omega) bf hbf (by rw [e]; exact hi) j1 j2
        rw [e] at this
        exact this
      have hf : ¬ (S 29 w = S 16 q ∧ min xp xq < x ∧ x < max xp xq ∧ 0 < S 178 w) → znr bt ds (w + 1) = znr bt ds w := fun h => znr_f (by rw [eb]; exact Bool.eq_false_iff.mpr (fun h' => h (zbt_iff.mp h')))
      have ed' : ds w = x - xq + (xq - x) := ed
      split
      · rename_i h1
        split
        · exact keep (hf (fun h => absurd h.2.1 (by omega))) _ _
        · rename_i h2
          split
          · exact keep (hf (fun h => absurd h.2.2.1 (by omega))) _ _
          · rename_i h3
            split
            · rename_i h4
              exact keep (hf (fun h => absurd h.2.2.2 (Int32.not_lt.mpr h4))) _ _
            · rename_i h4
              have hb : bt w = true := by rw [eb]; exact zbt_iff.mpr ⟨h1, by omega, by omega, Int32.not_le.mp h4⟩
              have ht := znr_t hb hi (by omega)
              split
              · rename_i h5
                exact keep (ht.1 (by omega)) _ _
              · rename_i h5
                have e := ht.2 (by omega)
                have := ih (w + 1) (by omega) (ds w) (by omega) (by rw [e]; exact rfl) (.int (nI x)) (.int 1)
                rw [e, ed'] at this
                exact this
      · rename_i h1
        exact keep (hf (fun h => h1 h.1)) _ _
  have := key n 0 (by omega) 20 (by omega) rfl (.retAddr 0) (.retAddr 0)
  unfold zcall
  simp (config := {maxSteps := 1000000}) (disch := omega) only [Int32.reduceLT, Int32.reduceLE, Int32.reduceToNatClampNeg, Int32.reduceAdd, Int32.reduceSub, Int32.reduceMul, Nat.reduceLeDiff, zEL, zup_ne, zup_eq, layC, layM1, rowsC, zT0, zT1, zT2, if_true, if_false, S28, hn, ep, eq, zmn, zmx]
  exact this
theorem t28_168_s {n p q xp xq : Nat} {bt : Nat → Bool} {ds : Nat → Nat} (hn : S 38 7 = nI n) (hn8 : n ≤ 6) (hp : p < 8) (hq : q < 8) (ep : S 170 p = nI xp) (eq : S 170 q = nI xq) (hxp : xp ≤ 19) (hxq : xq ≤ 19) (hw : ∀ w, w < n → ∃ x, x ≤ 19 ∧ S 44 w = nI x ∧ bt w = zbt (S 42 w) (S 16 q) xp xq x (S 287 w) ∧ ds w = zdist x xq) :
    zcall 28 [.ref 168, .ref 38, .ref 286, .int (nI p), .int (nI q)] zRc S L = some (some (.int (zon (znr bt ds n))), zRc, S, L) := by
  have key : ∀ d w, w + d = n → ∀ bf : Nat, bf ≤ 20 → znv (znr bt ds w) ds bf → ∀ j1 j2, zgo 28 68 [.ref 168, .ref 38, .ref 286, .int (nI p), .int (nI q), .int (S 16 q), .int (nI xq), .int (nI (min xp xq)), .int (nI (max xp xq)), .int (zon (znr bt ds w)), .int (nI bf), .int (nI w), j1, j2] [] zRc S L = some (some (.int (zon (znr bt ds n))), zRc, S, L) := by
    intro d
    induction d with
    | zero =>
      intro w hd bf hbf hi j1 j2
      rw [s28_68]
      simp (config := {maxSteps := 1000000}) (disch := omega) only [Int32.reduceLT, Int32.reduceLE, Int32.reduceToNatClampNeg, Int32.reduceAdd, Int32.reduceSub, Int32.reduceMul, Nat.reduceLeDiff, zEL, zup_ne, zup_eq, layC, layM1, rowsC, zT0, zT1, zT2, if_true, if_false, S28, hn]
      rw [show w = n by omega]
    | succ d ih =>
      intro w hd bf hbf hi j1 j2
      obtain ⟨x, hx, ex, eb, ed⟩ := hw w (by omega)
      rw [s28_68]
      simp (config := {maxSteps := 1000000}) (disch := omega) only [Int32.reduceLT, Int32.reduceLE, Int32.reduceToNatClampNeg, Int32.reduceAdd, Int32.reduceSub, Int32.reduceMul, Nat.reduceLeDiff, zEL, zup_ne, zup_eq, layC, layM1, rowsC, zT0, zT1, zT2, if_true, if_false, S28, hn, ex, zabd]
      have keep : znr bt ds (w + 1) = znr bt ds w → ∀ j1 j2, zgo 28 68 [.ref 168, .ref 38, .ref 286, .int (nI p), .int (nI q), .int (S 16 q), .int (nI xq), .int (nI (min xp xq)), .int (nI (max xp xq)), .int (zon (znr bt ds w)), .int (nI bf), .int (nI (w + 1)), j1, j2] [] zRc S L = some (some (.int (zon (znr bt ds n))), zRc, S, L) := fun e j1 j2 => by
        have := ih (w + 1) (by omega) bf hbf (by rw [e]; exact hi) j1 j2
        rw [e] at this
        exact this
      have hf : ¬ (S 42 w = S 16 q ∧ min xp xq < x ∧ x < max xp xq ∧ 0 < S 287 w) → znr bt ds (w + 1) = znr bt ds w := fun h => znr_f (by rw [eb]; exact Bool.eq_false_iff.mpr (fun h' => h (zbt_iff.mp h')))
      have ed' : ds w = x - xq + (xq - x) := ed
      split
      · rename_i h1
        split
        · exact keep (hf (fun h => absurd h.2.1 (by omega))) _ _
        · rename_i h2
          split
          · exact keep (hf (fun h => absurd h.2.2.1 (by omega))) _ _
          · rename_i h3
            split
            · rename_i h4
              exact keep (hf (fun h => absurd h.2.2.2 (Int32.not_lt.mpr h4))) _ _
            · rename_i h4
              have hb : bt w = true := by rw [eb]; exact zbt_iff.mpr ⟨h1, by omega, by omega, Int32.not_le.mp h4⟩
              have ht := znr_t hb hi (by omega)
              split
              · rename_i h5
                exact keep (ht.1 (by omega)) _ _
              · rename_i h5
                have e := ht.2 (by omega)
                have := ih (w + 1) (by omega) (ds w) (by omega) (by rw [e]; exact rfl) (.int (nI x)) (.int 1)
                rw [e, ed'] at this
                exact this
      · rename_i h1
        exact keep (hf (fun h => h1 h.1)) _ _
  have := key n 0 (by omega) 20 (by omega) rfl (.retAddr 0) (.retAddr 0)
  unfold zcall
  simp (config := {maxSteps := 1000000}) (disch := omega) only [Int32.reduceLT, Int32.reduceLE, Int32.reduceToNatClampNeg, Int32.reduceAdd, Int32.reduceSub, Int32.reduceMul, Nat.reduceLeDiff, zEL, zup_ne, zup_eq, layC, layM1, rowsC, zT0, zT1, zT2, if_true, if_false, S28, hn, ep, eq, zmn, zmx]
  exact this
theorem t28_187_g {n p q xp xq : Nat} {bt : Nat → Bool} {ds : Nat → Nat} (hn : S 25 7 = nI n) (hn8 : n ≤ 8) (hp : p < 8) (hq : q < 8) (ep : S 189 p = nI xp) (eq : S 189 q = nI xq) (hxp : xp ≤ 19) (hxq : xq ≤ 19) (hw : ∀ w, w < n → ∃ x, x ≤ 19 ∧ S 31 w = nI x ∧ bt w = zbt (S 29 w) (S 16 q) xp xq x (S 197 w) ∧ ds w = zdist x xq) :
    zcall 28 [.ref 187, .ref 25, .ref 196, .int (nI p), .int (nI q)] zRc S L = some (some (.int (zon (znr bt ds n))), zRc, S, L) := by
  have key : ∀ d w, w + d = n → ∀ bf : Nat, bf ≤ 20 → znv (znr bt ds w) ds bf → ∀ j1 j2, zgo 28 68 [.ref 187, .ref 25, .ref 196, .int (nI p), .int (nI q), .int (S 16 q), .int (nI xq), .int (nI (min xp xq)), .int (nI (max xp xq)), .int (zon (znr bt ds w)), .int (nI bf), .int (nI w), j1, j2] [] zRc S L = some (some (.int (zon (znr bt ds n))), zRc, S, L) := by
    intro d
    induction d with
    | zero =>
      intro w hd bf hbf hi j1 j2
      rw [s28_68]
      simp (config := {maxSteps := 1000000}) (disch := omega) only [Int32.reduceLT, Int32.reduceLE, Int32.reduceToNatClampNeg, Int32.reduceAdd, Int32.reduceSub, Int32.reduceMul, Nat.reduceLeDiff, zEL, zup_ne, zup_eq, layC, layM1, rowsC, zT0, zT1, zT2, if_true, if_false, S28, hn]
      rw [show w = n by omega]
    | succ d ih =>
      intro w hd bf hbf hi j1 j2
      obtain ⟨x, hx, ex, eb, ed⟩ := hw w (by omega)
      rw [s28_68]
      simp (config := {maxSteps := 1000000}) (disch := omega) only [Int32.reduceLT, Int32.reduceLE, Int32.reduceToNatClampNeg, Int32.reduceAdd, Int32.reduceSub, Int32.reduceMul, Nat.reduceLeDiff, zEL, zup_ne, zup_eq, layC, layM1, rowsC, zT0, zT1, zT2, if_true, if_false, S28, hn, ex, zabd]
      have keep : znr bt ds (w + 1) = znr bt ds w → ∀ j1 j2, zgo 28 68 [.ref 187, .ref 25, .ref 196, .int (nI p), .int (nI q), .int (S 16 q), .int (nI xq), .int (nI (min xp xq)), .int (nI (max xp xq)), .int (zon (znr bt ds w)), .int (nI bf), .int (nI (w + 1)), j1, j2] [] zRc S L = some (some (.int (zon (znr bt ds n))), zRc, S, L) := fun e j1 j2 => by
        have := ih (w + 1) (by omega) bf hbf (by rw [e]; exact hi) j1 j2
        rw [e] at this
        exact this
      have hf : ¬ (S 29 w = S 16 q ∧ min xp xq < x ∧ x < max xp xq ∧ 0 < S 197 w) → znr bt ds (w + 1) = znr bt ds w := fun h => znr_f (by rw [eb]; exact Bool.eq_false_iff.mpr (fun h' => h (zbt_iff.mp h')))
      have ed' : ds w = x - xq + (xq - x) := ed
      split
      · rename_i h1
        split
        · exact keep (hf (fun h => absurd h.2.1 (by omega))) _ _
        · rename_i h2
          split
          · exact keep (hf (fun h => absurd h.2.2.1 (by omega))) _ _
          · rename_i h3
            split
            · rename_i h4
              exact keep (hf (fun h => absurd h.2.2.2 (Int32.not_lt.mpr h4))) _ _
            · rename_i h4
              have hb : bt w = true := by rw [eb]; exact zbt_iff.mpr ⟨h1, by omega, by omega, Int32.not_le.mp h4⟩
              have ht := znr_t hb hi (by omega)
              split
              · rename_i h5
                exact keep (ht.1 (by omega)) _ _
              · rename_i h5
                have e := ht.2 (by omega)
                have := ih (w + 1) (by omega) (ds w) (by omega) (by rw [e]; exact rfl) (.int (nI x)) (.int 1)
                rw [e, ed'] at this
                exact this
      · rename_i h1
        exact keep (hf (fun h => h1 h.1)) _ _
  have := key n 0 (by omega) 20 (by omega) rfl (.retAddr 0) (.retAddr 0)
  unfold zcall
  simp (config := {maxSteps := 1000000}) (disch := omega) only [Int32.reduceLT, Int32.reduceLE, Int32.reduceToNatClampNeg, Int32.reduceAdd, Int32.reduceSub, Int32.reduceMul, Nat.reduceLeDiff, zEL, zup_ne, zup_eq, layC, layM1, rowsC, zT0, zT1, zT2, if_true, if_false, S28, hn, ep, eq, zmn, zmx]
  exact this
theorem t219 {l : Int32} {x p q xp xq : Nat} (hp : p < 8) (hq : q < 8) (ep : Sm 2 (9 + p) = nI xp) (eq : Sm 2 (9 + q) = nI xq) (hx : x ≤ 19) (hxp : xp ≤ 19) (hxq : xq ≤ 19) :
    zcall 219 [.ref 0, .int l, .int (nI x), .int (nI p), .int (nI q)] (zRm1 rd) Sm Lm = some (some (.int (if l = Sm 19 q ∧ min xp xq < x ∧ x < max xp xq then 1 else 0)), zRm1 rd, Sm, Lm) := by
  unfold zcall
  simp (config := {maxSteps := 1000000}) (disch := omega) only [Int32.reduceLT, Int32.reduceLE, Int32.reduceToNatClampNeg, Int32.reduceAdd, Int32.reduceSub, Int32.reduceMul, Nat.reduceLeDiff, zEL, zup_ne, zup_eq, layC, layM1, rowsC, zT0, zT1, zT2, if_true, if_false, S219, ep, eq, zadd_nI, znI_sub]
  by_cases h0 : l = Sm 19 q
  · simp only [h0, if_true, true_and]
    repeat' split
    all_goals first | rfl | (exfalso; omega)
  · simp only [h0, if_false, false_and]
theorem t220 {n p q xp xq : Nat} {bt : Nat → Bool} {ds : Nat → Nat} (hn : Sm 11 7 = nI n) (hn8 : n ≤ 8) (hp : p < 8) (hq : q < 8) (ep : Sm 2 (9 + p) = nI xp) (eq : Sm 2 (9 + q) = nI xq) (hxp : xp ≤ 19) (hxq : xq ≤ 19) (hw : ∀ w, w < n → ∃ x s, x ≤ 19 ∧ Sm 16 w = nI x ∧ s ≤ 9 ∧ Sm 2 (41 + w) = nI s ∧ bt w = zbt (Sm 15 w) (Sm 19 q) xp xq x (nI s) ∧ ds w = zdist x xq) :
    zcall 220 [.ref 0, .int (nI p), .int (nI q)] (zRm1 rd) Sm Lm = some (some (.int (zon (znr bt ds n))), zRm1 rd, Sm, Lm) := by
  have key : ∀ d w, w + d = n → ∀ bf : Nat, bf ≤ 20 → znv (znr bt ds w) ds bf → zgo 220 5 [.ref 0, .int (nI p), .int (nI q), .int (zon (znr bt ds w)), .int (nI w)] [] (zRm1 rd) Sm Lm = some (some (.int (zon (znr bt ds n))), zRm1 rd, Sm, Lm) := by
    intro d
    induction d with
    | zero =>
      intro w hd bf hbf hi
      rw [s220_5]
      simp (config := {maxSteps := 1000000}) (disch := omega) only [Int32.reduceLT, Int32.reduceLE, Int32.reduceToNatClampNeg, Int32.reduceAdd, Int32.reduceSub, Int32.reduceMul, Nat.reduceLeDiff, zEL, zup_ne, zup_eq, layC, layM1, rowsC, zT0, zT1, zT2, if_true, if_false, S220, hn]
      rw [show w = n by omega]
    | succ d ih =>
      intro w hd bf hbf hi
      obtain ⟨x, s, hx, ex, hs, es, eb, ed⟩ := hw w (by omega)
      have ed2 : ds w = x - xq + (xq - x) := ed
      have keep : znr bt ds (w + 1) = znr bt ds w → zgo 220 5 [.ref 0, .int (nI p), .int (nI q), .int (zon (znr bt ds w)), .int (nI (w + 1))] [] (zRm1 rd) Sm Lm = some (some (.int (zon (znr bt ds n))), zRm1 rd, Sm, Lm) := fun e => by
        have := ih (w + 1) (by omega) bf hbf (by rw [e]; exact hi)
        rw [e] at this
        exact this
      have move : znr bt ds (w + 1) = some w → zgo 220 5 [.ref 0, .int (nI p), .int (nI q), .int (nI w), .int (nI (w + 1))] [] (zRm1 rd) Sm Lm = some (some (.int (zon (znr bt ds n))), zRm1 rd, Sm, Lm) := fun e => by
        have := ih (w + 1) (by omega) (ds w) (by omega) (by rw [e]; exact rfl)
        rw [e] at this
        exact this
      have hf : ¬ (Sm 15 w = Sm 19 q ∧ min xp xq < x ∧ x < max xp xq ∧ 0 < nI s) → znr bt ds (w + 1) = znr bt ds w := fun h => znr_f (by rw [eb]; exact Bool.eq_false_iff.mpr (fun h' => h (zbt_iff.mp h')))
      rw [s220_5]
      by_cases h0 : s = 0
      · subst h0
        simp (config := {maxSteps := 1000000}) (disch := omega) only [Int32.reduceLT, Int32.reduceLE, Int32.reduceToNatClampNeg, Int32.reduceAdd, Int32.reduceSub, Int32.reduceMul, Nat.reduceLeDiff, zEL, zup_ne, zup_eq, layC, layM1, rowsC, zT0, zT1, zT2, if_true, if_false, S220, hn, ex, es]
        exact keep (hf (fun h => absurd h.2.2.2 (by decide)))
      · have hs0 : 0 < nI s := by rw [znI_0, znI_lt (by omega) (by omega)]; omega
        have hs1 : (nI s = 0) = False := eq_false (fun h => by rw [znI_0, znI_inj (by omega) (by omega)] at h; omega)
        by_cases h1 : Sm 15 w = Sm 19 q ∧ min xp xq < x ∧ x < max xp xq
        · have hb : bt w = true := by rw [eb]; exact zbt_iff.mpr ⟨h1.1, h1.2.1, h1.2.2, hs0⟩
          have ht := znr_t hb hi (by omega)
          rcases e : znr bt ds w with _ | b
          · rw [e] at hi
            have hi : bf = 20 := hi
            simp (config := {maxSteps := 1000000}) (disch := omega) only [Int32.reduceLT, Int32.reduceLE, Int32.reduceToNatClampNeg, Int32.reduceAdd, Int32.reduceSub, Int32.reduceMul, Nat.reduceLeDiff, zEL, zup_ne, zup_eq, layC, layM1, rowsC, zT0, zT1, zT2, if_true, if_false, S220, hn, ex, es, t219 (Sm := Sm) (Lm := Lm) (rd := rd) hp hq ep eq hx hxp hxq, h1, true_and, and_true, hs1, zon_n]
            exact move (ht.2 (by omega))
          · rw [e] at hi keep ht
            have hi : bf = ds b := hi
            obtain ⟨x', s', hx', ex', hs', es', eb', ed3⟩ := hw b (by have := znr_lt e; omega)
            have ed4 : ds b = x' - xq + (xq - x') := ed3
            have hbn := znr_lt e
            simp (config := {maxSteps := 1000000}) (disch := omega) only [Int32.reduceLT, Int32.reduceLE, Int32.reduceToNatClampNeg, Int32.reduceAdd, Int32.reduceSub, Int32.reduceMul, Nat.reduceLeDiff, zEL, zup_ne, zup_eq, layC, layM1, rowsC, zT0, zT1, zT2, if_true, if_false, S220, hn, ex, es, t219 (Sm := Sm) (Lm := Lm) (rd := rd) hp hq ep eq hx hxp hxq, h1, true_and, and_true, hs1, zon_s, znm1, t174, ex', eq]
            split
            · exact keep (ht.1 (by omega))
            · exact move (ht.2 (by omega))
        · simp (config := {maxSteps := 1000000}) (disch := omega) only [Int32.reduceLT, Int32.reduceLE, Int32.reduceToNatClampNeg, Int32.reduceAdd, Int32.reduceSub, Int32.reduceMul, Nat.reduceLeDiff, zEL, zup_ne, zup_eq, layC, layM1, rowsC, zT0, zT1, zT2, if_true, if_false, S220, hn, ex, es, t219 (Sm := Sm) (Lm := Lm) (rd := rd) hp hq ep eq hx hxp hxq, h1, hs1]
          exact keep (hf (fun h => h1 ⟨h.1, h.2.1, h.2.2.1⟩))
  have := key n 0 (by omega) 20 (by omega) rfl
  unfold zcall
  simp (config := {maxSteps := 1000000}) (disch := omega) only [Int32.reduceLT, Int32.reduceLE, Int32.reduceToNatClampNeg, Int32.reduceAdd, Int32.reduceSub, Int32.reduceMul, Nat.reduceLeDiff, zEL, zup_ne, zup_eq, layC, layM1, rowsC, zT0, zT1, zT2, if_true, if_false, S220, hn, ep, eq, zmn, zmx]
  exact this
end ZG4
