/-! THE TEXT: the reference's TOKENS -/
def zLT (R : List zE) : Prop := zrc R 0 13 = true ∧ (∀ (S : zS) (L : zL), zgetf R S L 0 13 5 = some (.ref 1)) ∧ zlen R 1 3 = some 900 ∧ (∀ (S : zS) (L : zL), zgetf R S L 0 13 0 = some (.int (S 0 0))) ∧ (∀ (S : zS) (L : zL) (x : Int32), zputf R S L 0 13 0 (.int x) = some (R, zup S 0 0 x, L)) ∧ (∀ (S : zS) (L : zL), zgetf R S L 0 13 1 = some (.int (S 0 1))) ∧ (∀ (S : zS) (L : zL) (x : Int32), zputf R S L 0 13 1 (.int x) = some (R, zup S 0 1 x, L)) ∧ (∀ (S : zS) (L : zL), zgetf R S L 0 13 2 = some (.int (S 0 2))) ∧ (∀ (S : zS) (L : zL) (x : Int32), zputf R S L 0 13 2 (.int x) = some (R, zup S 0 2 x, L)) ∧ (∀ (S : zS) (L : zL), zgetf R S L 0 13 6 = some (.int (S 0 6))) ∧ (∀ (S : zS) (L : zL) (x : Int32), zputf R S L 0 13 6 (.int x) = some (R, zup S 0 6 x, L)) ∧ (∀ (S : zS) (L : zL), zgetf R S L 0 13 7 = some (.int (S 0 7))) ∧ (∀ (S : zS) (L : zL) (x : Int32), zputf R S L 0 13 7 (.int x) = some (R, zup S 0 7 x, L)) ∧ (∀ (S : zS) (L : zL), zgetf R S L 0 13 8 = some (.int (S 0 8))) ∧ (∀ (S : zS) (L : zL) (x : Int32), zputf R S L 0 13 8 (.int x) = some (R, zup S 0 8 x, L)) ∧ (∀ (S : zS) (L : zL), zgetf R S L 0 13 9 = some (.int (S 0 9))) ∧ (∀ (S : zS) (L : zL) (x : Int32), zputf R S L 0 13 9 (.int x) = some (R, zup S 0 9 x, L)) ∧ (∀ (S : zS) (L : zL), zgetf R S L 0 13 10 = some (.int (S 0 10))) ∧ (∀ (S : zS) (L : zL) (x : Int32), zputf R S L 0 13 10 (.int x) = some (R, zup S 0 10 x, L)) ∧ (∀ (S : zS) (L : zL), zgetf R S L 0 13 11 = some (.int (S 0 11))) ∧ (∀ (S : zS) (L : zL) (x : Int32), zputf R S L 0 13 11 (.int x) = some (R, zup S 0 11 x, L)) ∧ (∀ (S : zS) (L : zL), zgetf R S L 0 13 12 = some (.int (S 0 12))) ∧ (∀ (S : zS) (L : zL) (x : Int32), zputf R S L 0 13 12 (.int x) = some (R, zup S 0 12 x, L)) ∧ (∀ (S : zS) (L : zL), zgetf R S L 0 13 13 = some (.int (S 0 13))) ∧ (∀ (S : zS) (L : zL) (x : Int32), zputf R S L 0 13 13 (.int x) = some (R, zup S 0 13 x, L)) ∧ (∀ (S : zS) (L : zL), zgetf R S L 0 13 14 = some (.int (S 0 14))) ∧ (∀ (S : zS) (L : zL) (x : Int32), zputf R S L 0 13 14 (.int x) = some (R, zup S 0 14 x, L)) ∧ (∀ (S : zS) (L : zL), zgetf R S L 0 13 16 = some (.int (S 0 16))) ∧ (∀ (S : zS) (L : zL) (x : Int32), zputf R S L 0 13 16 (.int x) = some (R, zup S 0 16 x, L)) ∧ (∀ (S : zS) (L : zL), zgetf R S L 0 13 17 = some (.int (S 0 17))) ∧ (∀ (S : zS) (L : zL) (x : Int32), zputf R S L 0 13 17 (.int x) = some (R, zup S 0 17 x, L)) ∧ (∀ (S : zS) (L : zL), zgetf R S L 0 13 18 = some (.int (S 0 18))) ∧ (∀ (S : zS) (L : zL) (x : Int32), zputf R S L 0 13 18 (.int x) = some (R, zup S 0 18 x, L)) ∧ (∀ (S : zS) (L : zL), zgetf R S L 0 13 22 = some (.int (S 0 22))) ∧ (∀ (S : zS) (L : zL) (x : Int32), zputf R S L 0 13 22 (.int x) = some (R, zup S 0 22 x, L)) ∧ (∀ (S : zS) (L : zL), zgetf R S L 0 13 28 = some (.int (S 0 28))) ∧ (∀ (S : zS) (L : zL) (x : Int32), zputf R S L 0 13 28 (.int x) = some (R, zup S 0 28 x, L)) ∧ (∀ (S : zS) (L : zL), zgetf R S L 0 13 15 = some (.long (L 0 15))) ∧ (∀ (S : zS) (L : zL) (x : Int64), zputf R S L 0 13 15 (.long x) = some (R, S, zup L 0 15 x))
def zLB (R : List zE) (B : Nat) : Prop := (∀ (S : zS) (L : zL), zgetf R S L 0 13 4 = some (.ref B)) ∧ zrc R B 12 = true ∧ (∀ (S : zS) (L : zL), zgetf R S L B 12 0 = some (.int (S B 0))) ∧ (∀ (S : zS) (L : zL) (x : Int32), zputf R S L B 12 0 (.int x) = some (R, zup S B 0 x, L)) ∧ (∀ (S : zS) (L : zL), zgetf R S L B 12 1 = some (.int (S B 1))) ∧ (∀ (S : zS) (L : zL) (x : Int32), zputf R S L B 12 1 (.int x) = some (R, zup S B 1 x, L)) ∧ (∀ (S : zS) (L : zL), zgetf R S L B 12 2 = some (.int (S B 2))) ∧ (∀ (S : zS) (L : zL) (x : Int32), zputf R S L B 12 2 (.int x) = some (R, zup S B 2 x, L)) ∧ (∀ (S : zS) (L : zL), zgetf R S L B 12 3 = some (.int (S B 3))) ∧ (∀ (S : zS) (L : zL) (x : Int32), zputf R S L B 12 3 (.int x) = some (R, zup S B 3 x, L)) ∧ (∀ (S : zS) (L : zL), zgetf R S L B 12 4 = some (.int (S B 4))) ∧ (∀ (S : zS) (L : zL) (x : Int32), zputf R S L B 12 4 (.int x) = some (R, zup S B 4 x, L)) ∧ (∀ (S : zS) (L : zL), zgetf R S L B 12 5 = some (.int (S B 5))) ∧ (∀ (S : zS) (L : zL) (x : Int32), zputf R S L B 12 5 (.int x) = some (R, zup S B 5 x, L)) ∧ (∀ (S : zS) (L : zL), zgetf R S L B 12 6 = some (.int (S B 6))) ∧ (∀ (S : zS) (L : zL) (x : Int32), zputf R S L B 12 6 (.int x) = some (R, zup S B 6 x, L)) ∧ (∀ (S : zS) (L : zL), zgetf R S L B 12 7 = some (.int (S B 7))) ∧ (∀ (S : zS) (L : zL) (x : Int32), zputf R S L B 12 7 (.int x) = some (R, zup S B 7 x, L)) ∧ (∀ (S : zS) (L : zL), zgetf R S L B 12 8 = some (.int (S B 8))) ∧ (∀ (S : zS) (L : zL) (x : Int32), zputf R S L B 12 8 (.int x) = some (R, zup S B 8 x, L)) ∧ (∀ (S : zS) (L : zL), zgetf R S L B 12 9 = some (.int (S B 9))) ∧ (∀ (S : zS) (L : zL) (x : Int32), zputf R S L B 12 9 (.int x) = some (R, zup S B 9 x, L)) ∧ (∀ (S : zS) (L : zL), zgetf R S L B 12 10 = some (.int (S B 10))) ∧ (∀ (S : zS) (L : zL) (x : Int32), zputf R S L B 12 10 (.int x) = some (R, zup S B 10 x, L)) ∧ (∀ (S : zS) (L : zL), zgetf R S L B 12 11 = some (.int (S B 11))) ∧ (∀ (S : zS) (L : zL) (x : Int32), zputf R S L B 12 11 (.int x) = some (R, zup S B 11 x, L)) ∧ (∀ (S : zS) (L : zL), zgetf R S L B 12 12 = some (.int (S B 12))) ∧ (∀ (S : zS) (L : zL) (x : Int32), zputf R S L B 12 12 (.int x) = some (R, zup S B 12 x, L)) ∧ (∀ (S : zS) (L : zL), zgetf R S L B 12 13 = some (.int (S B 13))) ∧ (∀ (S : zS) (L : zL) (x : Int32), zputf R S L B 12 13 (.int x) = some (R, zup S B 13 x, L)) ∧ (∀ (S : zS) (L : zL), zgetf R S L B 12 14 = some (.int (S B 14))) ∧ (∀ (S : zS) (L : zL) (x : Int32), zputf R S L B 12 14 (.int x) = some (R, zup S B 14 x, L)) ∧ (∀ (S : zS) (L : zL), zgetf R S L B 12 15 = some (.ref (B + 1))) ∧ (∀ (S : zS) (L : zL), zgetf R S L B 12 16 = some (.ref (B + 2))) ∧ (∀ (S : zS) (L : zL), zgetf R S L B 12 17 = some (.ref (B + 3))) ∧ (∀ (S : zS) (L : zL), zgetf R S L B 12 18 = some (.ref (B + 4))) ∧ (∀ (S : zS) (L : zL), zgetf R S L B 12 19 = some (.ref (B + 5))) ∧ (∀ (S : zS) (L : zL), zgetf R S L B 12 20 = some (.ref (B + 6))) ∧ (∀ (S : zS) (L : zL), zgetf R S L B 12 21 = some (.ref (B + 7))) ∧ (∀ (S : zS) (L : zL), zgetf R S L B 12 22 = some (.ref (B + 8))) ∧ (∀ (S : zS) (L : zL), zgetf R S L B 12 23 = some (.ref (B + 9))) ∧ (∀ (S : zS) (L : zL), zgetf R S L B 12 24 = some (.ref (B + 10))) ∧ (∀ (S : zS) (L : zL), zgetf R S L B 12 25 = some (.ref (B + 11))) ∧ (∀ (S : zS) (L : zL), zgetf R S L B 12 26 = some (.ref (B + 12))) ∧ (∀ (S : zS) (L : zL), zgetf R S L B 12 27 = some (.ref (B + 13))) ∧ (∀ (S : zS) (L : zL), zgetf R S L B 12 28 = some (.ref (B + 14))) ∧ (∀ (S : zS) (L : zL), zgetf R S L B 12 29 = some (.ref (B + 15))) ∧ (∀ (S : zS) (L : zL), zgetf R S L B 12 30 = some (.ref (B + 16))) ∧ (∀ (S : zS) (L : zL), zgetf R S L B 12 31 = some (.ref (B + 17))) ∧ (∀ (S : zS) (L : zL), zgetf R S L B 12 32 = some (.ref (B + 18))) ∧ (∀ (S : zS) (L : zL), zgetf R S L B 12 33 = some (.ref (B + 19))) ∧ (∀ (S : zS) (L : zL), zgetf R S L B 12 34 = some (.ref (B + 20))) ∧ (∀ (S : zS) (L : zL), zgetf R S L B 12 35 = some (.ref (B + 21))) ∧ (∀ (S : zS) (L : zL), zgetf R S L B 12 36 = some (.ref (B + 22))) ∧ (∀ (S : zS) (L : zL), zgetf R S L B 12 37 = some (.ref (B + 23))) ∧ (∀ (S : zS) (L : zL), zgetf R S L B 12 38 = some (.ref (B + 24))) ∧ (∀ (S : zS) (L : zL), zgetf R S L B 12 39 = some (.ref (B + 25))) ∧ (∀ (S : zS) (L : zL), zgetf R S L B 12 40 = some (.ref (B + 26))) ∧ (∀ (S : zS) (L : zL), zgetf R S L B 12 41 = some (.ref (B + 27))) ∧ (∀ (S : zS) (L : zL), zgetf R S L B 12 42 = some (.ref (B + 28))) ∧ (∀ (S : zS) (L : zL), zgetf R S L B 12 43 = some (.ref (B + 29))) ∧ zlen R (B + 1) 1 = some 24 ∧ zlen R (B + 2) 1 = some 24 ∧ zlen R (B + 3) 1 = some 8 ∧ zlen R (B + 4) 1 = some 8 ∧ zlen R (B + 5) 1 = some 8 ∧ zlen R (B + 6) 1 = some 8 ∧ zlen R (B + 7) 1 = some 8 ∧ zlen R (B + 8) 1 = some 8 ∧ zlen R (B + 9) 1 = some 8 ∧ zlen R (B + 10) 1 = some 8 ∧ zlen R (B + 11) 1 = some 8 ∧ zlen R (B + 12) 1 = some 8 ∧ zlen R (B + 13) 1 = some 6 ∧ zlen R (B + 14) 1 = some 6 ∧ zlen R (B + 15) 1 = some 6 ∧ zlen R (B + 16) 1 = some 6 ∧ zlen R (B + 17) 1 = some 6 ∧ zlen R (B + 18) 1 = some 6 ∧ zlen R (B + 19) 1 = some 6 ∧ zlen R (B + 20) 1 = some 20 ∧ zlen R (B + 21) 1 = some 20 ∧ zlen R (B + 22) 1 = some 20 ∧ zlen R (B + 23) 1 = some 20 ∧ zlen R (B + 24) 1 = some 4 ∧ zlen R (B + 25) 1 = some 4 ∧ zlen R (B + 26) 1 = some 4 ∧ zlen R (B + 27) 2 = some 26 ∧ zlen R (B + 28) 1 = some 26 ∧ zlen R (B + 29) 1 = some 26
def zRp0 : List zE := zRm0 (.ref 11) ++ [(0, 12, [.int 0, .int 0, .int 0, .int 0, .int 0, .int 0, .int 0, .int 0, .int 0, .int 0, .int 0, .int 0, .int 0, .int 0, .int 0, .ref 12, .ref 13, .ref 14, .ref 15, .ref 16, .ref 17, .ref 18, .ref 19, .ref 20, .ref 21, .ref 22, .ref 23, .ref 24, .ref 25, .ref 26, .ref 27, .ref 28, .ref 29, .ref 30, .ref 31, .ref 32, .ref 33, .ref 34, .ref 35, .ref 36, .ref 37, .ref 38, .ref 39, .ref 40]), (1, 24, []), (1, 24, []), (1, 8, []), (1, 8, []), (1, 8, []), (1, 8, []), (1, 8, []), (1, 8, []), (1, 8, []), (1, 8, []), (1, 8, []), (1, 8, []), (1, 6, []), (1, 6, []), (1, 6, []), (1, 6, []), (1, 6, []), (1, 6, []), (1, 6, []), (1, 20, []), (1, 20, []), (1, 20, []), (1, 20, []), (1, 4, []), (1, 4, []), (1, 4, []), (2, 26, []), (1, 26, []), (1, 26, [])]
def zRp1 : List zE := zRm1 (.ref 41) ++ [(0, 12, [.int 0, .int 0, .int 0, .int 0, .int 0, .int 0, .int 0, .int 0, .int 0, .int 0, .int 0, .int 0, .int 0, .int 0, .int 0, .ref 42, .ref 43, .ref 44, .ref 45, .ref 46, .ref 47, .ref 48, .ref 49, .ref 50, .ref 51, .ref 52, .ref 53, .ref 54, .ref 55, .ref 56, .ref 57, .ref 58, .ref 59, .ref 60, .ref 61, .ref 62, .ref 63, .ref 64, .ref 65, .ref 66, .ref 67, .ref 68, .ref 69, .ref 70]), (1, 24, []), (1, 24, []), (1, 8, []), (1, 8, []), (1, 8, []), (1, 8, []), (1, 8, []), (1, 8, []), (1, 8, []), (1, 8, []), (1, 8, []), (1, 8, []), (1, 6, []), (1, 6, []), (1, 6, []), (1, 6, []), (1, 6, []), (1, 6, []), (1, 6, []), (1, 20, []), (1, 20, []), (1, 20, []), (1, 20, []), (1, 4, []), (1, 4, []), (1, 4, []), (2, 26, []), (1, 26, []), (1, 26, [])]
theorem zLT_0 : zLT zRp0 := ⟨rfl, fun _ _ => rfl, rfl, fun _ _ => rfl, fun _ _ _ => zputI rfl rfl rfl, fun _ _ => rfl, fun _ _ _ => zputI rfl rfl rfl, fun _ _ => rfl, fun _ _ _ => zputI rfl rfl rfl, fun _ _ => rfl, fun _ _ _ => zputI rfl rfl rfl, fun _ _ => rfl, fun _ _ _ => zputI rfl rfl rfl, fun _ _ => rfl, fun _ _ _ => zputI rfl rfl rfl, fun _ _ => rfl, fun _ _ _ => zputI rfl rfl rfl, fun _ _ => rfl, fun _ _ _ => zputI rfl rfl rfl, fun _ _ => rfl, fun _ _ _ => zputI rfl rfl rfl, fun _ _ => rfl, fun _ _ _ => zputI rfl rfl rfl, fun _ _ => rfl, fun _ _ _ => zputI rfl rfl rfl, fun _ _ => rfl, fun _ _ _ => zputI rfl rfl rfl, fun _ _ => rfl, fun _ _ _ => zputI rfl rfl rfl, fun _ _ => rfl, fun _ _ _ => zputI rfl rfl rfl, fun _ _ => rfl, fun _ _ _ => zputI rfl rfl rfl, fun _ _ => rfl, fun _ _ _ => zputI rfl rfl rfl, fun _ _ => rfl, fun _ _ _ => zputI rfl rfl rfl, fun _ _ => rfl, fun _ _ _ => zputL rfl rfl rfl⟩
theorem zLB_0 : zLB zRp0 11 := ⟨fun _ _ => rfl, rfl, fun _ _ => rfl, fun _ _ _ => zputI rfl rfl rfl, fun _ _ => rfl, fun _ _ _ => zputI rfl rfl rfl, fun _ _ => rfl, fun _ _ _ => zputI rfl rfl rfl, fun _ _ => rfl, fun _ _ _ => zputI rfl rfl rfl, fun _ _ => rfl, fun _ _ _ => zputI rfl rfl rfl, fun _ _ => rfl, fun _ _ _ => zputI rfl rfl rfl, fun _ _ => rfl, fun _ _ _ => zputI rfl rfl rfl, fun _ _ => rfl, fun _ _ _ => zputI rfl rfl rfl, fun _ _ => rfl, fun _ _ _ => zputI rfl rfl rfl, fun _ _ => rfl, fun _ _ _ => zputI rfl rfl rfl, fun _ _ => rfl, fun _ _ _ => zputI rfl rfl rfl, fun _ _ => rfl, fun _ _ _ => zputI rfl rfl rfl, fun _ _ => rfl, fun _ _ _ => zputI rfl rfl rfl, fun _ _ => rfl, fun _ _ _ => zputI rfl rfl rfl, fun _ _ => rfl, fun _ _ _ => zputI rfl rfl rfl, fun _ _ => rfl, fun _ _ => rfl, fun _ _ => rfl, fun _ _ => rfl, fun _ _ => rfl, fun _ _ => rfl, fun _ _ => rfl, fun _ _ => rfl, fun _ _ => rfl, fun _ _ => rfl, fun _ _ => rfl, fun _ _ => rfl, fun _ _ => rfl, fun _ _ => rfl, fun _ _ => rfl, fun _ _ => rfl, fun _ _ => rfl, fun _ _ => rfl, fun _ _ => rfl, fun _ _ => rfl, fun _ _ => rfl, fun _ _ => rfl, fun _ _ => rfl, fun _ _ => rfl, fun _ _ => rfl, fun _ _ => rfl, fun _ _ => rfl, fun _ _ => rfl, fun _ _ => rfl, rfl, rfl, rfl, rfl, rfl, rfl, rfl, rfl, rfl, rfl, rfl, rfl, rfl, rfl, rfl, rfl, rfl, rfl, rfl, rfl, rfl, rfl, rfl, rfl, rfl, rfl, rfl, rfl, rfl⟩
theorem zLT_1 : zLT zRp1 := ⟨rfl, fun _ _ => rfl, rfl, fun _ _ => rfl, fun _ _ _ => zputI rfl rfl rfl, fun _ _ => rfl, fun _ _ _ => zputI rfl rfl rfl, fun _ _ => rfl, fun _ _ _ => zputI rfl rfl rfl, fun _ _ => rfl, fun _ _ _ => zputI rfl rfl rfl, fun _ _ => rfl, fun _ _ _ => zputI rfl rfl rfl, fun _ _ => rfl, fun _ _ _ => zputI rfl rfl rfl, fun _ _ => rfl, fun _ _ _ => zputI rfl rfl rfl, fun _ _ => rfl, fun _ _ _ => zputI rfl rfl rfl, fun _ _ => rfl, fun _ _ _ => zputI rfl rfl rfl, fun _ _ => rfl, fun _ _ _ => zputI rfl rfl rfl, fun _ _ => rfl, fun _ _ _ => zputI rfl rfl rfl, fun _ _ => rfl, fun _ _ _ => zputI rfl rfl rfl, fun _ _ => rfl, fun _ _ _ => zputI rfl rfl rfl, fun _ _ => rfl, fun _ _ _ => zputI rfl rfl rfl, fun _ _ => rfl, fun _ _ _ => zputI rfl rfl rfl, fun _ _ => rfl, fun _ _ _ => zputI rfl rfl rfl, fun _ _ => rfl, fun _ _ _ => zputI rfl rfl rfl, fun _ _ => rfl, fun _ _ _ => zputL rfl rfl rfl⟩
theorem zLB_1 : zLB zRp1 41 := ⟨fun _ _ => rfl, rfl, fun _ _ => rfl, fun _ _ _ => zputI rfl rfl rfl, fun _ _ => rfl, fun _ _ _ => zputI rfl rfl rfl, fun _ _ => rfl, fun _ _ _ => zputI rfl rfl rfl, fun _ _ => rfl, fun _ _ _ => zputI rfl rfl rfl, fun _ _ => rfl, fun _ _ _ => zputI rfl rfl rfl, fun _ _ => rfl, fun _ _ _ => zputI rfl rfl rfl, fun _ _ => rfl, fun _ _ _ => zputI rfl rfl rfl, fun _ _ => rfl, fun _ _ _ => zputI rfl rfl rfl, fun _ _ => rfl, fun _ _ _ => zputI rfl rfl rfl, fun _ _ => rfl, fun _ _ _ => zputI rfl rfl rfl, fun _ _ => rfl, fun _ _ _ => zputI rfl rfl rfl, fun _ _ => rfl, fun _ _ _ => zputI rfl rfl rfl, fun _ _ => rfl, fun _ _ _ => zputI rfl rfl rfl, fun _ _ => rfl, fun _ _ _ => zputI rfl rfl rfl, fun _ _ => rfl, fun _ _ _ => zputI rfl rfl rfl, fun _ _ => rfl, fun _ _ => rfl, fun _ _ => rfl, fun _ _ => rfl, fun _ _ => rfl, fun _ _ => rfl, fun _ _ => rfl, fun _ _ => rfl, fun _ _ => rfl, fun _ _ => rfl, fun _ _ => rfl, fun _ _ => rfl, fun _ _ => rfl, fun _ _ => rfl, fun _ _ => rfl, fun _ _ => rfl, fun _ _ => rfl, fun _ _ => rfl, fun _ _ => rfl, fun _ _ => rfl, fun _ _ => rfl, fun _ _ => rfl, fun _ _ => rfl, fun _ _ => rfl, fun _ _ => rfl, fun _ _ => rfl, fun _ _ => rfl, fun _ _ => rfl, fun _ _ => rfl, rfl, rfl, rfl, rfl, rfl, rfl, rfl, rfl, rfl, rfl, rfl, rfl, rfl, rfl, rfl, rfl, rfl, rfl, rfl, rfl, rfl, rfl, rfl, rfl, rfl, rfl, rfl, rfl, rfl⟩

section ZP2
variable {S Sm : zS} {L Lm : zL} {R : List zE} {n : Nat} {b : Nat → Nat}
theorem m175 (hR : zLT R) (hT : zTN n b Sm) {i : Nat} (hi : i ≤ 900) : zcall 175 [.ref 0, .int (nI i)] R Sm Lm = some (some (.int (if i < n then nI (b i) else -1)), R, Sm, Lm) := by
  have r := hR
  unfold zLT at r
  have s13 := fun (ls st : List Value) (i : Int32) => s175_13 (ls := ls) (st := st) (S := Sm) (L := Lm) (i := i) (R := R) r.2.2.1
  obtain ⟨hn, h7, hb⟩ := hT
  unfold zcall
  by_cases h : i < n
  · obtain ⟨b1, b2⟩ := hb i h
    rw [if_pos h]
    simp (config := {maxSteps := 1000000}) (disch := omega) only [↓reduceIte, Int32.reduceLT, Int32.reduceLE, Int32.reduceToNatClampNeg, Int32.reduceAdd, Int32.reduceSub, Int32.reduceMul, Nat.reduceLeDiff, zEL, zup_ne, zup_eq, zT0, zT1, zT2, if_true, if_false, ze_175, s175_0, s175_1, s175_2, s175_5, s175_8, s175_9, s175_12, s175_14, s175_17, s175_18, s175_21, s175_22, s13, r, h7, b2]
  · rw [if_neg h]
    simp (config := {maxSteps := 1000000}) (disch := omega) only [↓reduceIte, Int32.reduceLT, Int32.reduceLE, Int32.reduceToNatClampNeg, Int32.reduceAdd, Int32.reduceSub, Int32.reduceMul, Nat.reduceLeDiff, zEL, zup_ne, zup_eq, zT0, zT1, zT2, if_true, if_false, ze_175, s175_0, s175_1, s175_2, s175_5, s175_8, s175_9, s175_12, s175_14, s175_17, s175_18, s175_21, s175_22, s13, r, h7]
theorem m176 {x : Nat} (hx : x ≤ 255) : zcall 176 [.int (nI x)] R S L = some (some (.int (if zkd x = 1 then 1 else 0)), R, S, L) := by
  unfold zcall
  simp only [zkd_1]
  simp (config := {maxSteps := 1000000}) (disch := omega) only [↓reduceIte, Int32.reduceLT, Int32.reduceLE, Int32.reduceToNatClampNeg, Int32.reduceAdd, Int32.reduceSub, Int32.reduceMul, Nat.reduceLeDiff, zEL, zup_ne, zup_eq, zT0, zT1, zT2, if_true, if_false, zneq_f, true_and, and_true, false_and, and_false, zKL, eq_self, Nat.reduceEqDiff, zite0, ite_not, zaddr, zaddl, zputr, zsb1, zsb2, zsb0, zsbm, znm1, zKM, ze_176, s176_0, s176_1, s176_3, s176_6, s176_7, s176_9, s176_12, s176_13, s176_16, s176_17]
  repeat' split
  all_goals first | rfl | (exfalso; omega)
theorem m177 {x : Nat} (hx : x ≤ 255) : zcall 177 [.int (nI x)] R S L = some (some (.int (if zkd x = 2 then 1 else 0)), R, S, L) := by
  unfold zcall
  simp only [zkd_2]
  simp (config := {maxSteps := 1000000}) (disch := omega) only [↓reduceIte, Int32.reduceLT, Int32.reduceLE, Int32.reduceToNatClampNeg, Int32.reduceAdd, Int32.reduceSub, Int32.reduceMul, Nat.reduceLeDiff, zEL, zup_ne, zup_eq, zT0, zT1, zT2, if_true, if_false, zneq_f, true_and, and_true, false_and, and_false, zKL, eq_self, Nat.reduceEqDiff, zite0, ite_not, zaddr, zaddl, zputr, zsb1, zsb2, zsb0, zsbm, znm1, zKM, ze_177, s177_0, s177_1, s177_3, s177_6, s177_7, s177_9, s177_12, s177_13, s177_16, s177_17]
  repeat' split
  all_goals first | rfl | (exfalso; omega)
theorem m176n : zcall 176 [.int (-1)] R S L = some (some (.int 0), R, S, L) := by
  have h : (-1 : Int32) < 97 := by decide
  unfold zcall
  simp (config := {maxSteps := 1000000}) (disch := omega) only [↓reduceIte, Int32.reduceLT, Int32.reduceLE, Int32.reduceToNatClampNeg, Int32.reduceAdd, Int32.reduceSub, Int32.reduceMul, Nat.reduceLeDiff, zEL, zup_ne, zup_eq, zT0, zT1, zT2, if_true, if_false, ze_176, s176_0, s176_1, s176_3, s176_6, s176_7, s176_9, s176_12, s176_13, s176_16, s176_17, h]
theorem m177n : zcall 177 [.int (-1)] R S L = some (some (.int 0), R, S, L) := by
  have h : (-1 : Int32) < 48 := by decide
  unfold zcall
  simp (config := {maxSteps := 1000000}) (disch := omega) only [↓reduceIte, Int32.reduceLT, Int32.reduceLE, Int32.reduceToNatClampNeg, Int32.reduceAdd, Int32.reduceSub, Int32.reduceMul, Nat.reduceLeDiff, zEL, zup_ne, zup_eq, zT0, zT1, zT2, if_true, if_false, ze_177, s177_0, s177_1, s177_3, s177_6, s177_7, s177_9, s177_12, s177_13, s177_16, s177_17, h]
theorem zm1_32 : ((-1 : Int32) = 32) = False := by decide
theorem m179a {q : Nat} (hR : zLT R) : ∀ d a, a + d = q → q ≤ n → (∀ i, a ≤ i → i < q → b i = 32) → (q < n → ¬ b q = 32) → ∀ S, zTN n b S → S 0 10 = nI a → ∀ j1 j2, zgo 179 9 [.ref 0, j1, j2] [] R S L = zgo 179 35 [.ref 0, j1, j2] [] R (zup S 0 10 (nI q)) L := by
  have r := hR
  unfold zLT at r
  intro d
  induction d with
  | zero =>
    intro a hd hq h1 h2 S hT h4 j1 j2
    have hb := m175 (Lm := L) hR hT (i := a) (by have := hT.1; omega)
    have ha : a = q := by omega
    subst ha
    rw [zup_self h4.symm, s179_9]
    by_cases e : a < n
    · have h2 := h2 e
      have b1 := (hT.2.2 a e).1
      rw [if_pos e] at hb
      simp (config := {maxSteps := 1000000}) (disch := omega) only [↓reduceIte, Int32.reduceLT, Int32.reduceLE, Int32.reduceToNatClampNeg, Int32.reduceAdd, Int32.reduceSub, Int32.reduceMul, Nat.reduceLeDiff, zEL, zup_ne, zup_eq, zT0, zT1, zT2, if_true, if_false, zneq_f, true_and, and_true, false_and, and_false, zKL, eq_self, Nat.reduceEqDiff, zite0, ite_not, zaddr, zaddl, zputr, zsb1, zsb2, zsb0, zsbm, znm1, zKM, r, s179_10, s179_11, s179_14, s179_17, s179_19, s179_22, s179_23, s179_24, s179_27, s179_28, s179_29, s179_32, h4, hb]
    · rw [if_neg e] at hb
      simp (config := {maxSteps := 1000000}) (disch := omega) only [↓reduceIte, Int32.reduceLT, Int32.reduceLE, Int32.reduceToNatClampNeg, Int32.reduceAdd, Int32.reduceSub, Int32.reduceMul, Nat.reduceLeDiff, zEL, zup_ne, zup_eq, zT0, zT1, zT2, if_true, if_false, zneq_f, true_and, and_true, false_and, and_false, zKL, eq_self, Nat.reduceEqDiff, zite0, ite_not, zaddr, zaddl, zputr, zsb1, zsb2, zsb0, zsbm, znm1, zKM, r, s179_10, s179_11, s179_14, s179_17, s179_19, s179_22, s179_23, s179_24, s179_27, s179_28, s179_29, s179_32, h4, hb, zm1_32]
  | succ d ih =>
    intro a hd hq h1 h2 S hT h4 j1 j2
    have := ih (a + 1) (by omega) hq (fun i h3 h5 => h1 i (by omega) h5) h2 (zup S 0 10 (nI (a + 1))) (zTN_fr hT (zup_ne (by omega)) (fun i => zup_ne (by omega))) (zup_eq rfl rfl) j1 j2
    rw [zup_zup] at this
    have hb := m175 (Lm := L) hR hT (i := a) (by have := hT.1; omega)
    rw [if_pos (by omega), h1 a (by omega) (by omega)] at hb
    rw [← this, s179_9]
    simp (config := {maxSteps := 1000000}) (disch := omega) only [↓reduceIte, Int32.reduceLT, Int32.reduceLE, Int32.reduceToNatClampNeg, Int32.reduceAdd, Int32.reduceSub, Int32.reduceMul, Nat.reduceLeDiff, zEL, zup_ne, zup_eq, zT0, zT1, zT2, if_true, if_false, zneq_f, true_and, and_true, false_and, and_false, zKL, eq_self, Nat.reduceEqDiff, zite0, ite_not, zaddr, zaddl, zputr, zsb1, zsb2, zsb0, zsbm, znm1, zKM, r, s179_10, s179_11, s179_14, s179_17, s179_19, s179_22, s179_23, s179_24, s179_27, s179_28, s179_29, s179_32, h4, hb]
/-- the number of a word; of digits -/
def zco (b : Nat → Nat) (p : Nat) : Nat → Nat
  | 0 => 0
  | k + 1 => zco b p k * 32 + (b (p + k) - 96)
def znu (b : Nat → Nat) (p : Nat) : Nat → Nat
  | 0 => 0
  | k + 1 => znu b p k * 10 + (b (p + k) - 48)
theorem zco_le {p k : Nat} (h : ∀ i, i < k → 97 ≤ b (p + i) ∧ b (p + i) ≤ 122) : zco b p k < 32 ^ k := by
  induction k with
  | zero => exact Nat.one_pos
  | succ k ih =>
    have := ih (fun i hi => h i (by omega))
    have h2 := h k (by omega)
    show zco b p k * 32 + (b (p + k) - 96) < 32 ^ (k + 1)
    rw [Nat.pow_succ]
    omega
theorem znu_le {p k : Nat} (h : ∀ i, i < k → 48 ≤ b (p + i) ∧ b (p + i) ≤ 57) : znu b p k < 10 ^ k := by
  induction k with
  | zero => exact Nat.one_pos
  | succ k ih =>
    have := ih (fun i hi => h i (by omega))
    have h2 := h k (by omega)
    show znu b p k * 10 + (b (p + k) - 48) < 10 ^ (k + 1)
    rw [Nat.pow_succ]
    omega
/-- letters -/
theorem m179b {p q : Nat} (hR : zLT R) (hq900 : q ≤ n) {c1 : Int32} : ∀ d i, i + d = q → p ≤ i → (∀ j, p ≤ j → j < q → zkd (b j) = 1) → (q < n → ¬ zkd (b q) = 1) → ∀ S L, zTN n b S → S 0 10 = nI i → (i - p ≤ 8 → L 0 15 = lN (zco b p (i - p))) → ∃ L', zgo 179 89 [.ref 0, .int c1, .int (nI (i - p))] [] R S L = zgo 179 152 [.ref 0, .int c1, .int (nI (q - p))] [] R (zup S 0 10 (nI q)) L' ∧ (∀ j k, (j ≠ 0 ∨ k ≠ 15) → L' j k = L j k) ∧ (q - p ≤ 8 → L' 0 15 = lN (zco b p (q - p))) := by
  have r := hR
  unfold zLT at r
  intro d
  induction d with
  | zero =>
    intro i hd hp h1 h2 S L hT h4 hw
    have hb := m175 (Lm := L) hR hT (i := i) (by have := hT.1; omega)
    have ha : i = q := by omega
    subst ha
    refine ⟨L, ?_, fun _ _ _ => rfl, hw⟩
    rw [zup_self h4.symm, s179_89]
    by_cases e : i < n
    · have h2 := h2 e
      have b1 := (hT.2.2 i e).1
      have k1 := m176 (R := R) (S := S) (L := L) b1
      rw [if_neg h2] at k1
      rw [if_pos e] at hb
      simp (config := {maxSteps := 1000000}) (disch := omega) only [↓reduceIte, Int32.reduceLT, Int32.reduceLE, Int32.reduceToNatClampNeg, Int32.reduceAdd, Int32.reduceSub, Int32.reduceMul, Nat.reduceLeDiff, zEL, zup_ne, zup_eq, zT0, zT1, zT2, if_true, if_false, zneq_f, true_and, and_true, false_and, and_false, zKL, eq_self, Nat.reduceEqDiff, zite0, ite_not, zaddr, zaddl, zputr, zsb1, zsb2, zsb0, zsbm, znm1, r, s179_90, s179_91, s179_94, s179_97, s179_100, s179_103, s179_104, s179_106, s179_109, s179_110, s179_113, s179_114, s179_117, s179_118, s179_119, s179_120, s179_123, s179_126, s179_128, s179_129, s179_130, s179_131, s179_132, s179_133, s179_136, s179_139, s179_140, s179_141, s179_144, s179_145, s179_146, s179_149, h4, hb, k1]
    · rw [if_neg e] at hb
      simp (config := {maxSteps := 1000000}) (disch := omega) only [↓reduceIte, Int32.reduceLT, Int32.reduceLE, Int32.reduceToNatClampNeg, Int32.reduceAdd, Int32.reduceSub, Int32.reduceMul, Nat.reduceLeDiff, zEL, zup_ne, zup_eq, zT0, zT1, zT2, if_true, if_false, zneq_f, true_and, and_true, false_and, and_false, zKL, eq_self, Nat.reduceEqDiff, zite0, ite_not, zaddr, zaddl, zputr, zsb1, zsb2, zsb0, zsbm, znm1, r, s179_90, s179_91, s179_94, s179_97, s179_100, s179_103, s179_104, s179_106, s179_109, s179_110, s179_113, s179_114, s179_117, s179_118, s179_119, s179_120, s179_123, s179_126, s179_128, s179_129, s179_130, s179_131, s179_132, s179_133, s179_136, s179_139, s179_140, s179_141, s179_144, s179_145, s179_146, s179_149, h4, hb, m176n]
  | succ d ih =>
    intro i hd hp h1 h2 S L hT h4 hw
    have hb := m175 (Lm := L) hR hT (i := i) (by have := hT.1; omega)
    have hl := h1 i hp (by omega)
    have b1 := (hT.2.2 i (by omega)).1
    have k1 := m176 (R := R) (S := S) (L := L) b1
    rw [if_pos hl] at k1
    rw [if_pos (by omega)] at hb
    have hl2 := zkd_1.mp hl
    have hn9 : n ≤ 900 := hT.1
    have es : i + 1 - p = (i - p) + 1 := by omega
    by_cases h8 : i - p < 8
    · have hw := hw (by omega)
      have h97 : nI (b i) - 97 = nI (b i - 97) := by rw [show (97 : Int32) = nI 97 from rfl, znI_sub (by omega)]
      have e1 : (nI (b i - 97 + 1)).toInt64 = lN (b i - 96) := by rw [zl_i2l (by omega), show b i - 97 + 1 = b i - 96 by omega]
      have e2 : 32 * lN (zco b p (i - p)) + lN (b i - 96) = lN (zco b p (i - p + 1)) := by
        rw [show (32 : Int64) = lN 32 from rfl, zl_mul, zl_add]
        congr 1
        show _ = zco b p (i - p) * 32 + (b (p + (i - p)) - 96)
        rw [show p + (i - p) = i by omega, Nat.mul_comm]
      obtain ⟨L', r1, r2, r3⟩ := ih (i + 1) (by omega) (by omega) h1 h2 (zup S 0 10 (nI (i + 1))) (zup L 0 15 (lN (zco b p (i - p + 1)))) (zTN_fr hT (zup_ne (by omega)) (fun i => zup_ne (by omega))) (zup_eq rfl rfl) (fun _ => by rw [zup_eq rfl rfl, es])
      rw [zup_zup, es] at r1
      refine ⟨L', ?_, fun j k hj => (r2 j k hj).trans (zup_ne (by omega)), r3⟩
      rw [← r1, s179_89]
      simp (config := {maxSteps := 1000000}) (disch := omega) only [↓reduceIte, Int32.reduceLT, Int32.reduceLE, Int32.reduceToNatClampNeg, Int32.reduceAdd, Int32.reduceSub, Int32.reduceMul, Nat.reduceLeDiff, zEL, zup_ne, zup_eq, zT0, zT1, zT2, if_true, if_false, zneq_f, true_and, and_true, false_and, and_false, zKL, eq_self, Nat.reduceEqDiff, zite0, ite_not, zaddr, zaddl, zputr, zsb1, zsb2, zsb0, zsbm, znm1, r, s179_90, s179_91, s179_94, s179_97, s179_100, s179_103, s179_104, s179_106, s179_109, s179_110, s179_113, s179_114, s179_117, s179_118, s179_119, s179_120, s179_123, s179_126, s179_128, s179_129, s179_130, s179_131, s179_132, s179_133, s179_136, s179_139, s179_140, s179_141, s179_144, s179_145, s179_146, s179_149, h4, hb, k1, hw, h97, e1, e2]
    · obtain ⟨L', r1, r2, r3⟩ := ih (i + 1) (by omega) (by omega) h1 h2 (zup S 0 10 (nI (i + 1))) L (zTN_fr hT (zup_ne (by omega)) (fun i => zup_ne (by omega))) (zup_eq rfl rfl) (fun h => by omega)
      rw [zup_zup, es] at r1
      refine ⟨L', ?_, r2, r3⟩
      rw [← r1, s179_89]
      simp (config := {maxSteps := 1000000}) (disch := omega) only [↓reduceIte, Int32.reduceLT, Int32.reduceLE, Int32.reduceToNatClampNeg, Int32.reduceAdd, Int32.reduceSub, Int32.reduceMul, Nat.reduceLeDiff, zEL, zup_ne, zup_eq, zT0, zT1, zT2, if_true, if_false, zneq_f, true_and, and_true, false_and, and_false, zKL, eq_self, Nat.reduceEqDiff, zite0, ite_not, zaddr, zaddl, zputr, zsb1, zsb2, zsb0, zsbm, znm1, r, s179_90, s179_91, s179_94, s179_97, s179_100, s179_103, s179_104, s179_106, s179_109, s179_110, s179_113, s179_114, s179_117, s179_118, s179_119, s179_120, s179_123, s179_126, s179_128, s179_129, s179_130, s179_131, s179_132, s179_133, s179_136, s179_139, s179_140, s179_141, s179_144, s179_145, s179_146, s179_149, h4, hb, k1]
/-- digits -/
theorem m179c {p q : Nat} (hR : zLT R) (hq900 : q ≤ n) {c1 : Int32} : ∀ d i, i + d = q → p ≤ i → (∀ j, p ≤ j → j < q → zkd (b j) = 2) → (q < n → ¬ zkd (b q) = 2) → ∀ S, zTN n b S → S 0 10 = nI i → (i - p ≤ 3 → S 0 12 = nI (znu b p (i - p))) → ∃ S', zgo 179 178 [.ref 0, .int c1, .int (nI (i - p))] [] R S L = zgo 179 236 [.ref 0, .int c1, .int (nI (q - p))] [] R S' L ∧ (∀ j k, (j ≠ 0 ∨ (k ≠ 10 ∧ k ≠ 12)) → S' j k = S j k) ∧ S' 0 10 = nI q ∧ (q - p ≤ 3 → S' 0 12 = nI (znu b p (q - p))) := by
  have r := hR
  unfold zLT at r
  intro d
  induction d with
  | zero =>
    intro i hd hp h1 h2 S hT h4 hw
    have hb := m175 (Lm := L) hR hT (i := i) (by have := hT.1; omega)
    have ha : i = q := by omega
    subst ha
    refine ⟨S, ?_, fun _ _ _ => rfl, h4, hw⟩
    rw [s179_178]
    by_cases e : i < n
    · have h2 := h2 e
      have b1 := (hT.2.2 i e).1
      have k1 := m177 (R := R) (S := S) (L := L) b1
      rw [if_neg h2] at k1
      rw [if_pos e] at hb
      simp (config := {maxSteps := 1000000}) (disch := omega) only [↓reduceIte, Int32.reduceLT, Int32.reduceLE, Int32.reduceToNatClampNeg, Int32.reduceAdd, Int32.reduceSub, Int32.reduceMul, Nat.reduceLeDiff, zEL, zup_ne, zup_eq, zT0, zT1, zT2, if_true, if_false, zneq_f, true_and, and_true, false_and, and_false, zKL, eq_self, Nat.reduceEqDiff, zite0, ite_not, zaddr, zaddl, zputr, zsb1, zsb2, zsb0, zsbm, znm1, r, s179_179, s179_180, s179_183, s179_186, s179_189, s179_192, s179_193, s179_194, s179_197, s179_198, s179_200, s179_201, s179_204, s179_205, s179_206, s179_207, s179_210, s179_213, s179_214, s179_216, s179_217, s179_220, s179_223, s179_224, s179_225, s179_228, s179_229, s179_230, s179_233, h4, hb, k1]
    · rw [if_neg e] at hb
      simp (config := {maxSteps := 1000000}) (disch := omega) only [↓reduceIte, Int32.reduceLT, Int32.reduceLE, Int32.reduceToNatClampNeg, Int32.reduceAdd, Int32.reduceSub, Int32.reduceMul, Nat.reduceLeDiff, zEL, zup_ne, zup_eq, zT0, zT1, zT2, if_true, if_false, zneq_f, true_and, and_true, false_and, and_false, zKL, eq_self, Nat.reduceEqDiff, zite0, ite_not, zaddr, zaddl, zputr, zsb1, zsb2, zsb0, zsbm, znm1, r, s179_179, s179_180, s179_183, s179_186, s179_189, s179_192, s179_193, s179_194, s179_197, s179_198, s179_200, s179_201, s179_204, s179_205, s179_206, s179_207, s179_210, s179_213, s179_214, s179_216, s179_217, s179_220, s179_223, s179_224, s179_225, s179_228, s179_229, s179_230, s179_233, h4, hb, m177n]
  | succ d ih =>
    intro i hd hp h1 h2 S hT h4 hw
    have hb := m175 (Lm := L) hR hT (i := i) (by have := hT.1; omega)
    have hl := h1 i hp (by omega)
    have b1 := (hT.2.2 i (by omega)).1
    have k1 := m177 (R := R) (S := S) (L := L) b1
    rw [if_pos hl] at k1
    rw [if_pos (by omega)] at hb
    have hl2 := zkd_2.mp hl
    have hn9 : n ≤ 900 := hT.1
    have es : i + 1 - p = (i - p) + 1 := by omega
    by_cases h8 : i - p < 3
    · have hw := hw (by omega)
      have hk : znu b p (i - p) < 10 ^ (i - p) := znu_le (fun j hj => zkd_2.mp (h1 (p + j) (by omega) (by omega)))
      have h10 : (10 : Nat) ^ (i - p) ≤ 10 ^ 3 := Nat.pow_le_pow_right (by omega) (by omega)
      have e1 : 10 * nI (znu b p (i - p)) + nI (b i) - 48 = nI (znu b p (i - p + 1)) := by
        rw [show (10 : Int32) = nI 10 from rfl, show (48 : Int32) = nI 48 from rfl, znI_mul (by omega), zadd_nI, znI_sub (by omega)]
        congr 1
        show _ = znu b p (i - p) * 10 + (b (p + (i - p)) - 48)
        rw [show p + (i - p) = i by omega]
        omega
      obtain ⟨S', r1, r2, r3, r4⟩ := ih (i + 1) (by omega) (by omega) h1 h2 (zup (zup S 0 12 (nI (znu b p (i - p + 1)))) 0 10 (nI (i + 1))) (zTN_fr hT (by rw [zup_ne (by omega), zup_ne (by omega)]) (fun i => by rw [zup_ne (by omega), zup_ne (by omega)])) (zup_eq rfl rfl) (fun _ => by rw [zup_ne (by omega), zup_eq rfl rfl, es])
      rw [es] at r1
      refine ⟨S', ?_, fun j k hj => (r2 j k hj).trans (by rw [zup_ne (by omega), zup_ne (by omega)]), r3, r4⟩
      have hb2 := m175 (Lm := L) hR (zTN_fr hT (zup_ne (by omega)) (fun i => zup_ne (by omega)) : zTN n b (zup S 0 10 (nI i))) (i := i) (by omega)
      rw [← r1, s179_178]
      simp (config := {maxSteps := 1000000}) (disch := omega) only [↓reduceIte, Int32.reduceLT, Int32.reduceLE, Int32.reduceToNatClampNeg, Int32.reduceAdd, Int32.reduceSub, Int32.reduceMul, Nat.reduceLeDiff, zEL, zup_ne, zup_eq, zT0, zT1, zT2, if_true, if_false, zneq_f, true_and, and_true, false_and, and_false, zKL, eq_self, Nat.reduceEqDiff, zite0, ite_not, zaddr, zaddl, zputr, zsb1, zsb2, zsb0, zsbm, znm1, r, s179_179, s179_180, s179_183, s179_186, s179_189, s179_192, s179_193, s179_194, s179_197, s179_198, s179_200, s179_201, s179_204, s179_205, s179_206, s179_207, s179_210, s179_213, s179_214, s179_216, s179_217, s179_220, s179_223, s179_224, s179_225, s179_228, s179_229, s179_230, s179_233, h4, hb, k1, hw, e1]
    · obtain ⟨S', r1, r2, r3, r4⟩ := ih (i + 1) (by omega) (by omega) h1 h2 (zup S 0 10 (nI (i + 1))) (zTN_fr hT (zup_ne (by omega)) (fun i => zup_ne (by omega))) (zup_eq rfl rfl) (fun h => by omega)
      rw [es] at r1
      refine ⟨S', ?_, fun j k hj => (r2 j k hj).trans (zup_ne (by omega)), r3, r4⟩
      rw [← r1, s179_178]
      simp (config := {maxSteps := 1000000}) (disch := omega) only [↓reduceIte, Int32.reduceLT, Int32.reduceLE, Int32.reduceToNatClampNeg, Int32.reduceAdd, Int32.reduceSub, Int32.reduceMul, Nat.reduceLeDiff, zEL, zup_ne, zup_eq, zT0, zT1, zT2, if_true, if_false, zneq_f, true_and, and_true, false_and, and_false, zKL, eq_self, Nat.reduceEqDiff, zite0, ite_not, zaddr, zaddl, zputr, zsb1, zsb2, zsb0, zsbm, znm1, r, s179_179, s179_180, s179_183, s179_186, s179_189, s179_192, s179_193, s179_194, s179_197, s179_198, s179_200, s179_201, s179_204, s179_205, s179_206, s179_207, s179_210, s179_213, s179_214, s179_216, s179_217, s179_220, s179_223, s179_224, s179_225, s179_228, s179_229, s179_230, s179_233, h4, hb, k1]
end ZP2
