/-! GAMES: the nearest wall -/
section ZG4
variable {c : Nat → Nat} {S Sm S0 Sm0 : zS} {L Lm : zL} {rd : Value}
/-- of walls 0 to k-1 the first nearest that counts -/
def znr (bt : Nat → Bool) (ds : Nat → Nat) : Nat → Option Nat
  | 0 => none
  | k + 1 => match znr bt ds k with
    | none => if bt k = true then some k else none
    | some b => if bt k = true ∧ ds k < ds b then some k else some b
def zon : Option Nat → Int32
  | none => -1
  | some k => nI k
def zdist (a b : Nat) : Nat := (a - b) + (b - a)
theorem zmn {a b : Nat} : (if b < a then nI b else nI a) = nI (min a b) := by
  split <;> congr <;> omega
theorem zmx {a b : Nat} : (if a < b then nI b else nI a) = nI (max a b) := by
  split <;> congr <;> omega
def zbt (lw lq : Int32) (xp xq x : Nat) (s : Int32) : Bool := decide (lw = lq) && decide (min xp xq < x) && decide (x < max xp xq) && decide (0 < s)
theorem t28_168_g {n p q xp xq : Nat} {X : Nat → Nat} (hn : S 25 7 = nI n) (hn8 : n ≤ 8) (hp : p < 8) (hq : q < 8) (ep : S 170 p = nI xp) (eq : S 170 q = nI xq) (hxp : xp ≤ 19) (hxq : xq ≤ 19) (hX : ∀ w, w < n → S 31 w = nI (X w) ∧ X w ≤ 19)  :
    zcall 28 [.ref 168, .ref 25, .ref 177, .int (nI p), .int (nI q)] zRc S L = some (some (.int (zon (znr (fun w => zbt (S 29 w) (S 16 q) xp xq (X w) (S 178 w)) (fun w => zdist (X w) xq) n))), zRc, S, L) := by
  have key : ∀ d w, w + d = n → ∀ bf : Nat, (∀ b, znr (fun w => zbt (S 29 w) (S 16 q) xp xq (X w) (S 178 w)) (fun w => zdist (X w) xq) w = some b → bf = zdist (X b) xq) → (znr (fun w => zbt (S 29 w) (S 16 q) xp xq (X w) (S 178 w)) (fun w => zdist (X w) xq) w = none → bf = 20) → bf ≤ 20 → ∀ j, zgo 28 75 [.ref 168, .ref 25, .ref 177, .int (nI p), .int (nI q), .int (S 16 q), .int (nI xq), .int (nI (min xp xq)), .int (nI (max xp xq)), .int (zon (znr (fun w => zbt (S 29 w) (S 16 q) xp xq (X w) (S 178 w)) (fun w => zdist (X w) xq) w)), .int (nI bf), .int (nI w), j, j] [] zRc S L = some (some (.int (zon (znr (fun w => zbt (S 29 w) (S 16 q) xp xq (X w) (S 178 w)) (fun w => zdist (X w) xq) n))), zRc, S, L) := by
    sorry
  unfold zcall
  simp (config := {maxSteps := 1000000}) (disch := omega) only [Int32.reduceLT, Int32.reduceLE, Int32.reduceToNatClampNeg, Int32.reduceAdd, Int32.reduceSub, Int32.reduceMul, Nat.reduceLeDiff, zEL, zup_ne, zup_eq, layC, layM1, rowsC, zT0, zT1, zT2, if_true, if_false, S28, hn, ep, eq, zmn, zmx]
  trace_state
  sorry
theorem t28_168_b {n p q xp xq : Nat} {X : Nat → Nat} (hn : S 38 7 = nI n) (hn8 : n ≤ 8) (hp : p < 8) (hq : q < 8) (ep : S 170 p = nI xp) (eq : S 170 q = nI xq) (hxp : xp ≤ 19) (hxq : xq ≤ 19) (hX : ∀ w, w < n → S 44 w = nI (X w) ∧ X w ≤ 19) (hn6 : n ≤ 6) :
    zcall 28 [.ref 168, .ref 38, .ref 286, .int (nI p), .int (nI q)] zRc S L = some (some (.int (zon (znr (fun w => zbt (S 42 w) (S 16 q) xp xq (X w) (S 287 w)) (fun w => zdist (X w) xq) n))), zRc, S, L) := by
  have key : ∀ d w, w + d = n → ∀ bf : Nat, (∀ b, znr (fun w => zbt (S 42 w) (S 16 q) xp xq (X w) (S 287 w)) (fun w => zdist (X w) xq) w = some b → bf = zdist (X b) xq) → (znr (fun w => zbt (S 42 w) (S 16 q) xp xq (X w) (S 287 w)) (fun w => zdist (X w) xq) w = none → bf = 20) → bf ≤ 20 → ∀ j, zgo 28 75 [.ref 168, .ref 38, .ref 286, .int (nI p), .int (nI q), .int (S 16 q), .int (nI xq), .int (nI (min xp xq)), .int (nI (max xp xq)), .int (zon (znr (fun w => zbt (S 42 w) (S 16 q) xp xq (X w) (S 287 w)) (fun w => zdist (X w) xq) w)), .int (nI bf), .int (nI w), j, j] [] zRc S L = some (some (.int (zon (znr (fun w => zbt (S 42 w) (S 16 q) xp xq (X w) (S 287 w)) (fun w => zdist (X w) xq) n))), zRc, S, L) := by
    sorry
  unfold zcall
  simp (config := {maxSteps := 1000000}) (disch := omega) only [Int32.reduceLT, Int32.reduceLE, Int32.reduceToNatClampNeg, Int32.reduceAdd, Int32.reduceSub, Int32.reduceMul, Nat.reduceLeDiff, zEL, zup_ne, zup_eq, layC, layM1, rowsC, zT0, zT1, zT2, if_true, if_false, S28, hn, ep, eq, zmn, zmx]
  trace_state
  sorry
theorem t28_187_g {n p q xp xq : Nat} {X : Nat → Nat} (hn : S 25 7 = nI n) (hn8 : n ≤ 8) (hp : p < 8) (hq : q < 8) (ep : S 189 p = nI xp) (eq : S 189 q = nI xq) (hxp : xp ≤ 19) (hxq : xq ≤ 19) (hX : ∀ w, w < n → S 31 w = nI (X w) ∧ X w ≤ 19)  :
    zcall 28 [.ref 187, .ref 25, .ref 196, .int (nI p), .int (nI q)] zRc S L = some (some (.int (zon (znr (fun w => zbt (S 29 w) (S 16 q) xp xq (X w) (S 197 w)) (fun w => zdist (X w) xq) n))), zRc, S, L) := by
  have key : ∀ d w, w + d = n → ∀ bf : Nat, (∀ b, znr (fun w => zbt (S 29 w) (S 16 q) xp xq (X w) (S 197 w)) (fun w => zdist (X w) xq) w = some b → bf = zdist (X b) xq) → (znr (fun w => zbt (S 29 w) (S 16 q) xp xq (X w) (S 197 w)) (fun w => zdist (X w) xq) w = none → bf = 20) → bf ≤ 20 → ∀ j, zgo 28 75 [.ref 187, .ref 25, .ref 196, .int (nI p), .int (nI q), .int (S 16 q), .int (nI xq), .int (nI (min xp xq)), .int (nI (max xp xq)), .int (zon (znr (fun w => zbt (S 29 w) (S 16 q) xp xq (X w) (S 197 w)) (fun w => zdist (X w) xq) w)), .int (nI bf), .int (nI w), j, j] [] zRc S L = some (some (.int (zon (znr (fun w => zbt (S 29 w) (S 16 q) xp xq (X w) (S 197 w)) (fun w => zdist (X w) xq) n))), zRc, S, L) := by
    sorry
  unfold zcall
  simp (config := {maxSteps := 1000000}) (disch := omega) only [Int32.reduceLT, Int32.reduceLE, Int32.reduceToNatClampNeg, Int32.reduceAdd, Int32.reduceSub, Int32.reduceMul, Nat.reduceLeDiff, zEL, zup_ne, zup_eq, layC, layM1, rowsC, zT0, zT1, zT2, if_true, if_false, S28, hn, ep, eq, zmn, zmx]
  trace_state
  sorry
theorem t28_187_b {n p q xp xq : Nat} {X : Nat → Nat} (hn : S 38 7 = nI n) (hn8 : n ≤ 8) (hp : p < 8) (hq : q < 8) (ep : S 189 p = nI xp) (eq : S 189 q = nI xq) (hxp : xp ≤ 19) (hxq : xq ≤ 19) (hX : ∀ w, w < n → S 44 w = nI (X w) ∧ X w ≤ 19) (hn6 : n ≤ 6) :
    zcall 28 [.ref 187, .ref 38, .ref 286, .int (nI p), .int (nI q)] zRc S L = some (some (.int (zon (znr (fun w => zbt (S 42 w) (S 16 q) xp xq (X w) (S 287 w)) (fun w => zdist (X w) xq) n))), zRc, S, L) := by
  have key : ∀ d w, w + d = n → ∀ bf : Nat, (∀ b, znr (fun w => zbt (S 42 w) (S 16 q) xp xq (X w) (S 287 w)) (fun w => zdist (X w) xq) w = some b → bf = zdist (X b) xq) → (znr (fun w => zbt (S 42 w) (S 16 q) xp xq (X w) (S 287 w)) (fun w => zdist (X w) xq) w = none → bf = 20) → bf ≤ 20 → ∀ j, zgo 28 75 [.ref 187, .ref 38, .ref 286, .int (nI p), .int (nI q), .int (S 16 q), .int (nI xq), .int (nI (min xp xq)), .int (nI (max xp xq)), .int (zon (znr (fun w => zbt (S 42 w) (S 16 q) xp xq (X w) (S 287 w)) (fun w => zdist (X w) xq) w)), .int (nI bf), .int (nI w), j, j] [] zRc S L = some (some (.int (zon (znr (fun w => zbt (S 42 w) (S 16 q) xp xq (X w) (S 287 w)) (fun w => zdist (X w) xq) n))), zRc, S, L) := by
    sorry
  unfold zcall
  simp (config := {maxSteps := 1000000}) (disch := omega) only [Int32.reduceLT, Int32.reduceLE, Int32.reduceToNatClampNeg, Int32.reduceAdd, Int32.reduceSub, Int32.reduceMul, Nat.reduceLeDiff, zEL, zup_ne, zup_eq, layC, layM1, rowsC, zT0, zT1, zT2, if_true, if_false, S28, hn, ep, eq, zmn, zmx]
  trace_state
  sorry
end ZG4
