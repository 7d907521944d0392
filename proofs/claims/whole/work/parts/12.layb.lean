/-! the reference's heap: without a MATCH, and with one -/
def zRm0 (rd : Value) : List zE := [(0, 13, [.int 0, .int 0, .int 0, .null, rd, .ref 1, .int 0, .int 0, .int 0, .int 0, .int 0, .int 0, .int 0, .int 0, .int 0, .long 0, .int 0, .int 0, .int 0, .ref 2, .ref 3, .ref 4, .int 0, .ref 5, .ref 6, .ref 7, .ref 8, .ref 9, .int 0, .ref 10]), (3, 900, []), (1, 49, []), (1, 196, []), (1, 49, []), (4, 8, []), (4, 8, []), (2, 9, []), (1, 256, []), (1, 256, []), (1, 14, [])]
def zRm1 (rd : Value) : List zE := [(0, 13, [.int 0, .int 0, .int 0, .ref 11, rd, .ref 1, .int 0, .int 0, .int 0, .int 0, .int 0, .int 0, .int 0, .int 0, .int 0, .long 0, .int 0, .int 0, .int 0, .ref 2, .ref 3, .ref 4, .int 0, .ref 5, .ref 6, .ref 7, .ref 8, .ref 9, .int 0, .ref 10]), (3, 900, []), (1, 49, []), (1, 196, []), (1, 49, []), (4, 8, []), (4, 8, []), (2, 9, []), (1, 256, []), (1, 256, []), (1, 14, [])] ++ [(0, 12, [.int 0, .int 0, .int 0, .int 0, .int 0, .int 0, .int 0, .int 0, .int 0, .int 0, .int 0, .int 0, .int 0, .int 0, .int 0, .ref 12, .ref 13, .ref 14, .ref 15, .ref 16, .ref 17, .ref 18, .ref 19, .ref 20, .ref 21, .ref 22, .ref 23, .ref 24, .ref 25, .ref 26, .ref 27, .ref 28, .ref 29, .ref 30, .ref 31, .ref 32, .ref 33, .ref 34, .ref 35, .ref 36, .ref 37, .ref 38, .ref 39, .ref 40]), (1, 24, []), (1, 24, []), (1, 8, []), (1, 8, []), (1, 8, []), (1, 8, []), (1, 8, []), (1, 8, []), (1, 8, []), (1, 8, []), (1, 8, []), (1, 8, []), (1, 6, []), (1, 6, []), (1, 6, []), (1, 6, []), (1, 6, []), (1, 6, []), (1, 6, []), (1, 20, []), (1, 20, []), (1, 20, []), (1, 20, []), (1, 4, []), (1, 4, []), (1, 4, []), (2, 26, []), (1, 26, []), (1, 26, [])]
theorem l0c_0 {rd : Value} : zrc (zRm0 rd) 0 13 = true := rfl
theorem l0f_0_0 {rd : Value} {S : zS} {L : zL} : zgetf (zRm0 rd) S L 0 13 0 = some (.int (S 0 0)) := rfl
theorem l0p_0_0 {rd : Value} {S : zS} {L : zL} {x : Int32} : zputf (zRm0 rd) S L 0 13 0 (.int x) = some ((zRm0 rd), zup S 0 0 x, L) := zputI rfl rfl rfl
theorem l0f_0_1 {rd : Value} {S : zS} {L : zL} : zgetf (zRm0 rd) S L 0 13 1 = some (.int (S 0 1)) := rfl
theorem l0p_0_1 {rd : Value} {S : zS} {L : zL} {x : Int32} : zputf (zRm0 rd) S L 0 13 1 (.int x) = some ((zRm0 rd), zup S 0 1 x, L) := zputI rfl rfl rfl
theorem l0f_0_2 {rd : Value} {S : zS} {L : zL} : zgetf (zRm0 rd) S L 0 13 2 = some (.int (S 0 2)) := rfl
theorem l0p_0_2 {rd : Value} {S : zS} {L : zL} {x : Int32} : zputf (zRm0 rd) S L 0 13 2 (.int x) = some ((zRm0 rd), zup S 0 2 x, L) := zputI rfl rfl rfl
theorem l0f_0_3 {rd : Value} {S : zS} {L : zL} : zgetf (zRm0 rd) S L 0 13 3 = some (.null) := rfl
theorem l0f_0_5 {rd : Value} {S : zS} {L : zL} : zgetf (zRm0 rd) S L 0 13 5 = some (.ref 1) := rfl
theorem l0f_0_6 {rd : Value} {S : zS} {L : zL} : zgetf (zRm0 rd) S L 0 13 6 = some (.int (S 0 6)) := rfl
theorem l0p_0_6 {rd : Value} {S : zS} {L : zL} {x : Int32} : zputf (zRm0 rd) S L 0 13 6 (.int x) = some ((zRm0 rd), zup S 0 6 x, L) := zputI rfl rfl rfl
theorem l0f_0_7 {rd : Value} {S : zS} {L : zL} : zgetf (zRm0 rd) S L 0 13 7 = some (.int (S 0 7)) := rfl
theorem l0p_0_7 {rd : Value} {S : zS} {L : zL} {x : Int32} : zputf (zRm0 rd) S L 0 13 7 (.int x) = some ((zRm0 rd), zup S 0 7 x, L) := zputI rfl rfl rfl
theorem l0f_0_8 {rd : Value} {S : zS} {L : zL} : zgetf (zRm0 rd) S L 0 13 8 = some (.int (S 0 8)) := rfl
theorem l0p_0_8 {rd : Value} {S : zS} {L : zL} {x : Int32} : zputf (zRm0 rd) S L 0 13 8 (.int x) = some ((zRm0 rd), zup S 0 8 x, L) := zputI rfl rfl rfl
theorem l0f_0_9 {rd : Value} {S : zS} {L : zL} : zgetf (zRm0 rd) S L 0 13 9 = some (.int (S 0 9)) := rfl
theorem l0p_0_9 {rd : Value} {S : zS} {L : zL} {x : Int32} : zputf (zRm0 rd) S L 0 13 9 (.int x) = some ((zRm0 rd), zup S 0 9 x, L) := zputI rfl rfl rfl
theorem l0f_0_10 {rd : Value} {S : zS} {L : zL} : zgetf (zRm0 rd) S L 0 13 10 = some (.int (S 0 10)) := rfl
theorem l0p_0_10 {rd : Value} {S : zS} {L : zL} {x : Int32} : zputf (zRm0 rd) S L 0 13 10 (.int x) = some ((zRm0 rd), zup S 0 10 x, L) := zputI rfl rfl rfl
theorem l0f_0_11 {rd : Value} {S : zS} {L : zL} : zgetf (zRm0 rd) S L 0 13 11 = some (.int (S 0 11)) := rfl
theorem l0p_0_11 {rd : Value} {S : zS} {L : zL} {x : Int32} : zputf (zRm0 rd) S L 0 13 11 (.int x) = some ((zRm0 rd), zup S 0 11 x, L) := zputI rfl rfl rfl
theorem l0f_0_12 {rd : Value} {S : zS} {L : zL} : zgetf (zRm0 rd) S L 0 13 12 = some (.int (S 0 12)) := rfl
theorem l0p_0_12 {rd : Value} {S : zS} {L : zL} {x : Int32} : zputf (zRm0 rd) S L 0 13 12 (.int x) = some ((zRm0 rd), zup S 0 12 x, L) := zputI rfl rfl rfl
theorem l0f_0_13 {rd : Value} {S : zS} {L : zL} : zgetf (zRm0 rd) S L 0 13 13 = some (.int (S 0 13)) := rfl
theorem l0p_0_13 {rd : Value} {S : zS} {L : zL} {x : Int32} : zputf (zRm0 rd) S L 0 13 13 (.int x) = some ((zRm0 rd), zup S 0 13 x, L) := zputI rfl rfl rfl
theorem l0f_0_14 {rd : Value} {S : zS} {L : zL} : zgetf (zRm0 rd) S L 0 13 14 = some (.int (S 0 14)) := rfl
theorem l0p_0_14 {rd : Value} {S : zS} {L : zL} {x : Int32} : zputf (zRm0 rd) S L 0 13 14 (.int x) = some ((zRm0 rd), zup S 0 14 x, L) := zputI rfl rfl rfl
theorem l0f_0_15 {rd : Value} {S : zS} {L : zL} : zgetf (zRm0 rd) S L 0 13 15 = some (.long (L 0 15)) := rfl
theorem l0p_0_15 {rd : Value} {S : zS} {L : zL} {x : Int64} : zputf (zRm0 rd) S L 0 13 15 (.long x) = some ((zRm0 rd), S, zup L 0 15 x) := zputL rfl rfl rfl
theorem l0f_0_16 {rd : Value} {S : zS} {L : zL} : zgetf (zRm0 rd) S L 0 13 16 = some (.int (S 0 16)) := rfl
theorem l0p_0_16 {rd : Value} {S : zS} {L : zL} {x : Int32} : zputf (zRm0 rd) S L 0 13 16 (.int x) = some ((zRm0 rd), zup S 0 16 x, L) := zputI rfl rfl rfl
theorem l0f_0_17 {rd : Value} {S : zS} {L : zL} : zgetf (zRm0 rd) S L 0 13 17 = some (.int (S 0 17)) := rfl
theorem l0p_0_17 {rd : Value} {S : zS} {L : zL} {x : Int32} : zputf (zRm0 rd) S L 0 13 17 (.int x) = some ((zRm0 rd), zup S 0 17 x, L) := zputI rfl rfl rfl
theorem l0f_0_18 {rd : Value} {S : zS} {L : zL} : zgetf (zRm0 rd) S L 0 13 18 = some (.int (S 0 18)) := rfl
theorem l0p_0_18 {rd : Value} {S : zS} {L : zL} {x : Int32} : zputf (zRm0 rd) S L 0 13 18 (.int x) = some ((zRm0 rd), zup S 0 18 x, L) := zputI rfl rfl rfl
theorem l0f_0_19 {rd : Value} {S : zS} {L : zL} : zgetf (zRm0 rd) S L 0 13 19 = some (.ref 2) := rfl
theorem l0f_0_20 {rd : Value} {S : zS} {L : zL} : zgetf (zRm0 rd) S L 0 13 20 = some (.ref 3) := rfl
theorem l0f_0_21 {rd : Value} {S : zS} {L : zL} : zgetf (zRm0 rd) S L 0 13 21 = some (.ref 4) := rfl
theorem l0f_0_22 {rd : Value} {S : zS} {L : zL} : zgetf (zRm0 rd) S L 0 13 22 = some (.int (S 0 22)) := rfl
theorem l0p_0_22 {rd : Value} {S : zS} {L : zL} {x : Int32} : zputf (zRm0 rd) S L 0 13 22 (.int x) = some ((zRm0 rd), zup S 0 22 x, L) := zputI rfl rfl rfl
theorem l0f_0_23 {rd : Value} {S : zS} {L : zL} : zgetf (zRm0 rd) S L 0 13 23 = some (.ref 5) := rfl
theorem l0f_0_24 {rd : Value} {S : zS} {L : zL} : zgetf (zRm0 rd) S L 0 13 24 = some (.ref 6) := rfl
theorem l0f_0_25 {rd : Value} {S : zS} {L : zL} : zgetf (zRm0 rd) S L 0 13 25 = some (.ref 7) := rfl
theorem l0f_0_26 {rd : Value} {S : zS} {L : zL} : zgetf (zRm0 rd) S L 0 13 26 = some (.ref 8) := rfl
theorem l0f_0_27 {rd : Value} {S : zS} {L : zL} : zgetf (zRm0 rd) S L 0 13 27 = some (.ref 9) := rfl
theorem l0f_0_28 {rd : Value} {S : zS} {L : zL} : zgetf (zRm0 rd) S L 0 13 28 = some (.int (S 0 28)) := rfl
theorem l0p_0_28 {rd : Value} {S : zS} {L : zL} {x : Int32} : zputf (zRm0 rd) S L 0 13 28 (.int x) = some ((zRm0 rd), zup S 0 28 x, L) := zputI rfl rfl rfl
theorem l0f_0_29 {rd : Value} {S : zS} {L : zL} : zgetf (zRm0 rd) S L 0 13 29 = some (.ref 10) := rfl
theorem l0l_1 {rd : Value} : zlen (zRm0 rd) 1 3 = some 900 := rfl
theorem l0a_1 {rd : Value} : zalen (zRm0 rd) 1 = some 900 := rfl
theorem l0l_2 {rd : Value} : zlen (zRm0 rd) 2 1 = some 49 := rfl
theorem l0a_2 {rd : Value} : zalen (zRm0 rd) 2 = some 49 := rfl
theorem l0l_3 {rd : Value} : zlen (zRm0 rd) 3 1 = some 196 := rfl
theorem l0a_3 {rd : Value} : zalen (zRm0 rd) 3 = some 196 := rfl
theorem l0l_4 {rd : Value} : zlen (zRm0 rd) 4 1 = some 49 := rfl
theorem l0a_4 {rd : Value} : zalen (zRm0 rd) 4 = some 49 := rfl
theorem l0l_5 {rd : Value} : zlen (zRm0 rd) 5 4 = some 8 := rfl
theorem l0a_5 {rd : Value} : zalen (zRm0 rd) 5 = some 8 := rfl
theorem l0n_5 {rd : Value} : zlen (zRm0 rd) 5 3 = none := rfl
theorem l0l_6 {rd : Value} : zlen (zRm0 rd) 6 4 = some 8 := rfl
theorem l0a_6 {rd : Value} : zalen (zRm0 rd) 6 = some 8 := rfl
theorem l0n_6 {rd : Value} : zlen (zRm0 rd) 6 3 = none := rfl
theorem l0l_7 {rd : Value} : zlen (zRm0 rd) 7 2 = some 9 := rfl
theorem l0a_7 {rd : Value} : zalen (zRm0 rd) 7 = some 9 := rfl
theorem l0l_8 {rd : Value} : zlen (zRm0 rd) 8 1 = some 256 := rfl
theorem l0a_8 {rd : Value} : zalen (zRm0 rd) 8 = some 256 := rfl
theorem l0l_9 {rd : Value} : zlen (zRm0 rd) 9 1 = some 256 := rfl
theorem l0a_9 {rd : Value} : zalen (zRm0 rd) 9 = some 256 := rfl
theorem l0l_10 {rd : Value} : zlen (zRm0 rd) 10 1 = some 14 := rfl
theorem l0a_10 {rd : Value} : zalen (zRm0 rd) 10 = some 14 := rfl
def layM0_0 := And.intro @l0c_0 (And.intro @l0f_0_0 (And.intro @l0p_0_0 (And.intro @l0f_0_1 (And.intro @l0p_0_1 (And.intro @l0f_0_2 (And.intro @l0p_0_2 (And.intro @l0f_0_3 (And.intro @l0f_0_5 (And.intro @l0f_0_6 (And.intro @l0p_0_6 (And.intro @l0f_0_7 (And.intro @l0p_0_7 (And.intro @l0f_0_8 (And.intro @l0p_0_8 (And.intro @l0f_0_9 (And.intro @l0p_0_9 (And.intro @l0f_0_10 (And.intro @l0p_0_10 (And.intro @l0f_0_11 (And.intro @l0p_0_11 (And.intro @l0f_0_12 (And.intro @l0p_0_12 (And.intro @l0f_0_13 (And.intro @l0p_0_13 (And.intro @l0f_0_14 (And.intro @l0p_0_14 (And.intro @l0f_0_15 (And.intro @l0p_0_15 (And.intro @l0f_0_16 (And.intro @l0p_0_16 (And.intro @l0f_0_17 (And.intro @l0p_0_17 (And.intro @l0f_0_18 (And.intro @l0p_0_18 (And.intro @l0f_0_19 (And.intro @l0f_0_20 (And.intro @l0f_0_21 (And.intro @l0f_0_22 (And.intro @l0p_0_22 (And.intro @l0f_0_23 (And.intro @l0f_0_24 (And.intro @l0f_0_25 (And.intro @l0f_0_26 (And.intro @l0f_0_27 (And.intro @l0f_0_28 (And.intro @l0p_0_28 (And.intro @l0f_0_29 (And.intro @l0l_1 (And.intro @l0a_1 (And.intro @l0l_2 (And.intro @l0a_2 (And.intro @l0l_3 (And.intro @l0a_3 (And.intro @l0l_4 (And.intro @l0a_4 (And.intro @l0l_5 (And.intro @l0a_5 (And.intro @l0n_5 (@l0l_6)))))))))))))))))))))))))))))))))))))))))))))))))))))))))))
def layM0_1 := And.intro @l0a_6 (And.intro @l0n_6 (And.intro @l0l_7 (And.intro @l0a_7 (And.intro @l0l_8 (And.intro @l0a_8 (And.intro @l0l_9 (And.intro @l0a_9 (And.intro @l0l_10 (@l0a_10)))))))))
def layM0 := And.intro @layM0_0 (@layM0_1)
theorem l1c_0 {rd : Value} : zrc (zRm1 rd) 0 13 = true := rfl
theorem l1f_0_0 {rd : Value} {S : zS} {L : zL} : zgetf (zRm1 rd) S L 0 13 0 = some (.int (S 0 0)) := rfl
theorem l1p_0_0 {rd : Value} {S : zS} {L : zL} {x : Int32} : zputf (zRm1 rd) S L 0 13 0 (.int x) = some ((zRm1 rd), zup S 0 0 x, L) := zputI rfl rfl rfl
theorem l1f_0_1 {rd : Value} {S : zS} {L : zL} : zgetf (zRm1 rd) S L 0 13 1 = some (.int (S 0 1)) := rfl
theorem l1p_0_1 {rd : Value} {S : zS} {L : zL} {x : Int32} : zputf (zRm1 rd) S L 0 13 1 (.int x) = some ((zRm1 rd), zup S 0 1 x, L) := zputI rfl rfl rfl
theorem l1f_0_2 {rd : Value} {S : zS} {L : zL} : zgetf (zRm1 rd) S L 0 13 2 = some (.int (S 0 2)) := rfl
theorem l1p_0_2 {rd : Value} {S : zS} {L : zL} {x : Int32} : zputf (zRm1 rd) S L 0 13 2 (.int x) = some ((zRm1 rd), zup S 0 2 x, L) := zputI rfl rfl rfl
theorem l1f_0_3 {rd : Value} {S : zS} {L : zL} : zgetf (zRm1 rd) S L 0 13 3 = some (.ref 11) := rfl
theorem l1f_0_5 {rd : Value} {S : zS} {L : zL} : zgetf (zRm1 rd) S L 0 13 5 = some (.ref 1) := rfl
theorem l1f_0_6 {rd : Value} {S : zS} {L : zL} : zgetf (zRm1 rd) S L 0 13 6 = some (.int (S 0 6)) := rfl
theorem l1p_0_6 {rd : Value} {S : zS} {L : zL} {x : Int32} : zputf (zRm1 rd) S L 0 13 6 (.int x) = some ((zRm1 rd), zup S 0 6 x, L) := zputI rfl rfl rfl
theorem l1f_0_7 {rd : Value} {S : zS} {L : zL} : zgetf (zRm1 rd) S L 0 13 7 = some (.int (S 0 7)) := rfl
theorem l1p_0_7 {rd : Value} {S : zS} {L : zL} {x : Int32} : zputf (zRm1 rd) S L 0 13 7 (.int x) = some ((zRm1 rd), zup S 0 7 x, L) := zputI rfl rfl rfl
theorem l1f_0_8 {rd : Value} {S : zS} {L : zL} : zgetf (zRm1 rd) S L 0 13 8 = some (.int (S 0 8)) := rfl
theorem l1p_0_8 {rd : Value} {S : zS} {L : zL} {x : Int32} : zputf (zRm1 rd) S L 0 13 8 (.int x) = some ((zRm1 rd), zup S 0 8 x, L) := zputI rfl rfl rfl
theorem l1f_0_9 {rd : Value} {S : zS} {L : zL} : zgetf (zRm1 rd) S L 0 13 9 = some (.int (S 0 9)) := rfl
theorem l1p_0_9 {rd : Value} {S : zS} {L : zL} {x : Int32} : zputf (zRm1 rd) S L 0 13 9 (.int x) = some ((zRm1 rd), zup S 0 9 x, L) := zputI rfl rfl rfl
theorem l1f_0_10 {rd : Value} {S : zS} {L : zL} : zgetf (zRm1 rd) S L 0 13 10 = some (.int (S 0 10)) := rfl
theorem l1p_0_10 {rd : Value} {S : zS} {L : zL} {x : Int32} : zputf (zRm1 rd) S L 0 13 10 (.int x) = some ((zRm1 rd), zup S 0 10 x, L) := zputI rfl rfl rfl
theorem l1f_0_11 {rd : Value} {S : zS} {L : zL} : zgetf (zRm1 rd) S L 0 13 11 = some (.int (S 0 11)) := rfl
theorem l1p_0_11 {rd : Value} {S : zS} {L : zL} {x : Int32} : zputf (zRm1 rd) S L 0 13 11 (.int x) = some ((zRm1 rd), zup S 0 11 x, L) := zputI rfl rfl rfl
theorem l1f_0_12 {rd : Value} {S : zS} {L : zL} : zgetf (zRm1 rd) S L 0 13 12 = some (.int (S 0 12)) := rfl
theorem l1p_0_12 {rd : Value} {S : zS} {L : zL} {x : Int32} : zputf (zRm1 rd) S L 0 13 12 (.int x) = some ((zRm1 rd), zup S 0 12 x, L) := zputI rfl rfl rfl
theorem l1f_0_13 {rd : Value} {S : zS} {L : zL} : zgetf (zRm1 rd) S L 0 13 13 = some (.int (S 0 13)) := rfl
theorem l1p_0_13 {rd : Value} {S : zS} {L : zL} {x : Int32} : zputf (zRm1 rd) S L 0 13 13 (.int x) = some ((zRm1 rd), zup S 0 13 x, L) := zputI rfl rfl rfl
theorem l1f_0_14 {rd : Value} {S : zS} {L : zL} : zgetf (zRm1 rd) S L 0 13 14 = some (.int (S 0 14)) := rfl
theorem l1p_0_14 {rd : Value} {S : zS} {L : zL} {x : Int32} : zputf (zRm1 rd) S L 0 13 14 (.int x) = some ((zRm1 rd), zup S 0 14 x, L) := zputI rfl rfl rfl
theorem l1f_0_15 {rd : Value} {S : zS} {L : zL} : zgetf (zRm1 rd) S L 0 13 15 = some (.long (L 0 15)) := rfl
theorem l1p_0_15 {rd : Value} {S : zS} {L : zL} {x : Int64} : zputf (zRm1 rd) S L 0 13 15 (.long x) = some ((zRm1 rd), S, zup L 0 15 x) := zputL rfl rfl rfl
theorem l1f_0_16 {rd : Value} {S : zS} {L : zL} : zgetf (zRm1 rd) S L 0 13 16 = some (.int (S 0 16)) := rfl
theorem l1p_0_16 {rd : Value} {S : zS} {L : zL} {x : Int32} : zputf (zRm1 rd) S L 0 13 16 (.int x) = some ((zRm1 rd), zup S 0 16 x, L) := zputI rfl rfl rfl
theorem l1f_0_17 {rd : Value} {S : zS} {L : zL} : zgetf (zRm1 rd) S L 0 13 17 = some (.int (S 0 17)) := rfl
theorem l1p_0_17 {rd : Value} {S : zS} {L : zL} {x : Int32} : zputf (zRm1 rd) S L 0 13 17 (.int x) = some ((zRm1 rd), zup S 0 17 x, L) := zputI rfl rfl rfl
theorem l1f_0_18 {rd : Value} {S : zS} {L : zL} : zgetf (zRm1 rd) S L 0 13 18 = some (.int (S 0 18)) := rfl
theorem l1p_0_18 {rd : Value} {S : zS} {L : zL} {x : Int32} : zputf (zRm1 rd) S L 0 13 18 (.int x) = some ((zRm1 rd), zup S 0 18 x, L) := zputI rfl rfl rfl
theorem l1f_0_19 {rd : Value} {S : zS} {L : zL} : zgetf (zRm1 rd) S L 0 13 19 = some (.ref 2) := rfl
theorem l1f_0_20 {rd : Value} {S : zS} {L : zL} : zgetf (zRm1 rd) S L 0 13 20 = some (.ref 3) := rfl
theorem l1f_0_21 {rd : Value} {S : zS} {L : zL} : zgetf (zRm1 rd) S L 0 13 21 = some (.ref 4) := rfl
theorem l1f_0_22 {rd : Value} {S : zS} {L : zL} : zgetf (zRm1 rd) S L 0 13 22 = some (.int (S 0 22)) := rfl
theorem l1p_0_22 {rd : Value} {S : zS} {L : zL} {x : Int32} : zputf (zRm1 rd) S L 0 13 22 (.int x) = some ((zRm1 rd), zup S 0 22 x, L) := zputI rfl rfl rfl
theorem l1f_0_23 {rd : Value} {S : zS} {L : zL} : zgetf (zRm1 rd) S L 0 13 23 = some (.ref 5) := rfl
theorem l1f_0_24 {rd : Value} {S : zS} {L : zL} : zgetf (zRm1 rd) S L 0 13 24 = some (.ref 6) := rfl
theorem l1f_0_25 {rd : Value} {S : zS} {L : zL} : zgetf (zRm1 rd) S L 0 13 25 = some (.ref 7) := rfl
theorem l1f_0_26 {rd : Value} {S : zS} {L : zL} : zgetf (zRm1 rd) S L 0 13 26 = some (.ref 8) := rfl
theorem l1f_0_27 {rd : Value} {S : zS} {L : zL} : zgetf (zRm1 rd) S L 0 13 27 = some (.ref 9) := rfl
theorem l1f_0_28 {rd : Value} {S : zS} {L : zL} : zgetf (zRm1 rd) S L 0 13 28 = some (.int (S 0 28)) := rfl
theorem l1p_0_28 {rd : Value} {S : zS} {L : zL} {x : Int32} : zputf (zRm1 rd) S L 0 13 28 (.int x) = some ((zRm1 rd), zup S 0 28 x, L) := zputI rfl rfl rfl
theorem l1f_0_29 {rd : Value} {S : zS} {L : zL} : zgetf (zRm1 rd) S L 0 13 29 = some (.ref 10) := rfl
theorem l1l_1 {rd : Value} : zlen (zRm1 rd) 1 3 = some 900 := rfl
theorem l1a_1 {rd : Value} : zalen (zRm1 rd) 1 = some 900 := rfl
theorem l1l_2 {rd : Value} : zlen (zRm1 rd) 2 1 = some 49 := rfl
theorem l1a_2 {rd : Value} : zalen (zRm1 rd) 2 = some 49 := rfl
theorem l1l_3 {rd : Value} : zlen (zRm1 rd) 3 1 = some 196 := rfl
theorem l1a_3 {rd : Value} : zalen (zRm1 rd) 3 = some 196 := rfl
theorem l1l_4 {rd : Value} : zlen (zRm1 rd) 4 1 = some 49 := rfl
theorem l1a_4 {rd : Value} : zalen (zRm1 rd) 4 = some 49 := rfl
theorem l1l_5 {rd : Value} : zlen (zRm1 rd) 5 4 = some 8 := rfl
theorem l1a_5 {rd : Value} : zalen (zRm1 rd) 5 = some 8 := rfl
theorem l1n_5 {rd : Value} : zlen (zRm1 rd) 5 3 = none := rfl
theorem l1l_6 {rd : Value} : zlen (zRm1 rd) 6 4 = some 8 := rfl
theorem l1a_6 {rd : Value} : zalen (zRm1 rd) 6 = some 8 := rfl
theorem l1n_6 {rd : Value} : zlen (zRm1 rd) 6 3 = none := rfl
theorem l1l_7 {rd : Value} : zlen (zRm1 rd) 7 2 = some 9 := rfl
theorem l1a_7 {rd : Value} : zalen (zRm1 rd) 7 = some 9 := rfl
theorem l1l_8 {rd : Value} : zlen (zRm1 rd) 8 1 = some 256 := rfl
theorem l1a_8 {rd : Value} : zalen (zRm1 rd) 8 = some 256 := rfl
theorem l1l_9 {rd : Value} : zlen (zRm1 rd) 9 1 = some 256 := rfl
theorem l1a_9 {rd : Value} : zalen (zRm1 rd) 9 = some 256 := rfl
theorem l1l_10 {rd : Value} : zlen (zRm1 rd) 10 1 = some 14 := rfl
theorem l1a_10 {rd : Value} : zalen (zRm1 rd) 10 = some 14 := rfl
theorem l1c_11 {rd : Value} : zrc (zRm1 rd) 11 12 = true := rfl
theorem l1f_11_0 {rd : Value} {S : zS} {L : zL} : zgetf (zRm1 rd) S L 11 12 0 = some (.int (S 11 0)) := rfl
theorem l1p_11_0 {rd : Value} {S : zS} {L : zL} {x : Int32} : zputf (zRm1 rd) S L 11 12 0 (.int x) = some ((zRm1 rd), zup S 11 0 x, L) := zputI rfl rfl rfl
theorem l1f_11_1 {rd : Value} {S : zS} {L : zL} : zgetf (zRm1 rd) S L 11 12 1 = some (.int (S 11 1)) := rfl
theorem l1p_11_1 {rd : Value} {S : zS} {L : zL} {x : Int32} : zputf (zRm1 rd) S L 11 12 1 (.int x) = some ((zRm1 rd), zup S 11 1 x, L) := zputI rfl rfl rfl
theorem l1f_11_2 {rd : Value} {S : zS} {L : zL} : zgetf (zRm1 rd) S L 11 12 2 = some (.int (S 11 2)) := rfl
theorem l1p_11_2 {rd : Value} {S : zS} {L : zL} {x : Int32} : zputf (zRm1 rd) S L 11 12 2 (.int x) = some ((zRm1 rd), zup S 11 2 x, L) := zputI rfl rfl rfl
theorem l1f_11_3 {rd : Value} {S : zS} {L : zL} : zgetf (zRm1 rd) S L 11 12 3 = some (.int (S 11 3)) := rfl
theorem l1p_11_3 {rd : Value} {S : zS} {L : zL} {x : Int32} : zputf (zRm1 rd) S L 11 12 3 (.int x) = some ((zRm1 rd), zup S 11 3 x, L) := zputI rfl rfl rfl
theorem l1f_11_4 {rd : Value} {S : zS} {L : zL} : zgetf (zRm1 rd) S L 11 12 4 = some (.int (S 11 4)) := rfl
theorem l1p_11_4 {rd : Value} {S : zS} {L : zL} {x : Int32} : zputf (zRm1 rd) S L 11 12 4 (.int x) = some ((zRm1 rd), zup S 11 4 x, L) := zputI rfl rfl rfl
theorem l1f_11_5 {rd : Value} {S : zS} {L : zL} : zgetf (zRm1 rd) S L 11 12 5 = some (.int (S 11 5)) := rfl
theorem l1p_11_5 {rd : Value} {S : zS} {L : zL} {x : Int32} : zputf (zRm1 rd) S L 11 12 5 (.int x) = some ((zRm1 rd), zup S 11 5 x, L) := zputI rfl rfl rfl
theorem l1f_11_6 {rd : Value} {S : zS} {L : zL} : zgetf (zRm1 rd) S L 11 12 6 = some (.int (S 11 6)) := rfl
theorem l1p_11_6 {rd : Value} {S : zS} {L : zL} {x : Int32} : zputf (zRm1 rd) S L 11 12 6 (.int x) = some ((zRm1 rd), zup S 11 6 x, L) := zputI rfl rfl rfl
theorem l1f_11_7 {rd : Value} {S : zS} {L : zL} : zgetf (zRm1 rd) S L 11 12 7 = some (.int (S 11 7)) := rfl
theorem l1p_11_7 {rd : Value} {S : zS} {L : zL} {x : Int32} : zputf (zRm1 rd) S L 11 12 7 (.int x) = some ((zRm1 rd), zup S 11 7 x, L) := zputI rfl rfl rfl
theorem l1f_11_8 {rd : Value} {S : zS} {L : zL} : zgetf (zRm1 rd) S L 11 12 8 = some (.int (S 11 8)) := rfl
theorem l1p_11_8 {rd : Value} {S : zS} {L : zL} {x : Int32} : zputf (zRm1 rd) S L 11 12 8 (.int x) = some ((zRm1 rd), zup S 11 8 x, L) := zputI rfl rfl rfl
theorem l1f_11_9 {rd : Value} {S : zS} {L : zL} : zgetf (zRm1 rd) S L 11 12 9 = some (.int (S 11 9)) := rfl
theorem l1p_11_9 {rd : Value} {S : zS} {L : zL} {x : Int32} : zputf (zRm1 rd) S L 11 12 9 (.int x) = some ((zRm1 rd), zup S 11 9 x, L) := zputI rfl rfl rfl
theorem l1f_11_10 {rd : Value} {S : zS} {L : zL} : zgetf (zRm1 rd) S L 11 12 10 = some (.int (S 11 10)) := rfl
theorem l1p_11_10 {rd : Value} {S : zS} {L : zL} {x : Int32} : zputf (zRm1 rd) S L 11 12 10 (.int x) = some ((zRm1 rd), zup S 11 10 x, L) := zputI rfl rfl rfl
theorem l1f_11_11 {rd : Value} {S : zS} {L : zL} : zgetf (zRm1 rd) S L 11 12 11 = some (.int (S 11 11)) := rfl
theorem l1p_11_11 {rd : Value} {S : zS} {L : zL} {x : Int32} : zputf (zRm1 rd) S L 11 12 11 (.int x) = some ((zRm1 rd), zup S 11 11 x, L) := zputI rfl rfl rfl
theorem l1f_11_12 {rd : Value} {S : zS} {L : zL} : zgetf (zRm1 rd) S L 11 12 12 = some (.int (S 11 12)) := rfl
theorem l1p_11_12 {rd : Value} {S : zS} {L : zL} {x : Int32} : zputf (zRm1 rd) S L 11 12 12 (.int x) = some ((zRm1 rd), zup S 11 12 x, L) := zputI rfl rfl rfl
theorem l1f_11_13 {rd : Value} {S : zS} {L : zL} : zgetf (zRm1 rd) S L 11 12 13 = some (.int (S 11 13)) := rfl
theorem l1p_11_13 {rd : Value} {S : zS} {L : zL} {x : Int32} : zputf (zRm1 rd) S L 11 12 13 (.int x) = some ((zRm1 rd), zup S 11 13 x, L) := zputI rfl rfl rfl
theorem l1f_11_14 {rd : Value} {S : zS} {L : zL} : zgetf (zRm1 rd) S L 11 12 14 = some (.int (S 11 14)) := rfl
theorem l1p_11_14 {rd : Value} {S : zS} {L : zL} {x : Int32} : zputf (zRm1 rd) S L 11 12 14 (.int x) = some ((zRm1 rd), zup S 11 14 x, L) := zputI rfl rfl rfl
theorem l1f_11_15 {rd : Value} {S : zS} {L : zL} : zgetf (zRm1 rd) S L 11 12 15 = some (.ref 12) := rfl
theorem l1f_11_16 {rd : Value} {S : zS} {L : zL} : zgetf (zRm1 rd) S L 11 12 16 = some (.ref 13) := rfl
theorem l1f_11_17 {rd : Value} {S : zS} {L : zL} : zgetf (zRm1 rd) S L 11 12 17 = some (.ref 14) := rfl
theorem l1f_11_18 {rd : Value} {S : zS} {L : zL} : zgetf (zRm1 rd) S L 11 12 18 = some (.ref 15) := rfl
theorem l1f_11_19 {rd : Value} {S : zS} {L : zL} : zgetf (zRm1 rd) S L 11 12 19 = some (.ref 16) := rfl
theorem l1f_11_20 {rd : Value} {S : zS} {L : zL} : zgetf (zRm1 rd) S L 11 12 20 = some (.ref 17) := rfl
theorem l1f_11_21 {rd : Value} {S : zS} {L : zL} : zgetf (zRm1 rd) S L 11 12 21 = some (.ref 18) := rfl
theorem l1f_11_22 {rd : Value} {S : zS} {L : zL} : zgetf (zRm1 rd) S L 11 12 22 = some (.ref 19) := rfl
theorem l1f_11_23 {rd : Value} {S : zS} {L : zL} : zgetf (zRm1 rd) S L 11 12 23 = some (.ref 20) := rfl
theorem l1f_11_24 {rd : Value} {S : zS} {L : zL} : zgetf (zRm1 rd) S L 11 12 24 = some (.ref 21) := rfl
theorem l1f_11_25 {rd : Value} {S : zS} {L : zL} : zgetf (zRm1 rd) S L 11 12 25 = some (.ref 22) := rfl
theorem l1f_11_26 {rd : Value} {S : zS} {L : zL} : zgetf (zRm1 rd) S L 11 12 26 = some (.ref 23) := rfl
theorem l1f_11_27 {rd : Value} {S : zS} {L : zL} : zgetf (zRm1 rd) S L 11 12 27 = some (.ref 24) := rfl
theorem l1f_11_28 {rd : Value} {S : zS} {L : zL} : zgetf (zRm1 rd) S L 11 12 28 = some (.ref 25) := rfl
theorem l1f_11_29 {rd : Value} {S : zS} {L : zL} : zgetf (zRm1 rd) S L 11 12 29 = some (.ref 26) := rfl
theorem l1f_11_30 {rd : Value} {S : zS} {L : zL} : zgetf (zRm1 rd) S L 11 12 30 = some (.ref 27) := rfl
theorem l1f_11_31 {rd : Value} {S : zS} {L : zL} : zgetf (zRm1 rd) S L 11 12 31 = some (.ref 28) := rfl
theorem l1f_11_32 {rd : Value} {S : zS} {L : zL} : zgetf (zRm1 rd) S L 11 12 32 = some (.ref 29) := rfl
theorem l1f_11_33 {rd : Value} {S : zS} {L : zL} : zgetf (zRm1 rd) S L 11 12 33 = some (.ref 30) := rfl
theorem l1f_11_34 {rd : Value} {S : zS} {L : zL} : zgetf (zRm1 rd) S L 11 12 34 = some (.ref 31) := rfl
theorem l1f_11_35 {rd : Value} {S : zS} {L : zL} : zgetf (zRm1 rd) S L 11 12 35 = some (.ref 32) := rfl
theorem l1f_11_36 {rd : Value} {S : zS} {L : zL} : zgetf (zRm1 rd) S L 11 12 36 = some (.ref 33) := rfl
theorem l1f_11_37 {rd : Value} {S : zS} {L : zL} : zgetf (zRm1 rd) S L 11 12 37 = some (.ref 34) := rfl
theorem l1f_11_38 {rd : Value} {S : zS} {L : zL} : zgetf (zRm1 rd) S L 11 12 38 = some (.ref 35) := rfl
theorem l1f_11_39 {rd : Value} {S : zS} {L : zL} : zgetf (zRm1 rd) S L 11 12 39 = some (.ref 36) := rfl
theorem l1f_11_40 {rd : Value} {S : zS} {L : zL} : zgetf (zRm1 rd) S L 11 12 40 = some (.ref 37) := rfl
theorem l1f_11_41 {rd : Value} {S : zS} {L : zL} : zgetf (zRm1 rd) S L 11 12 41 = some (.ref 38) := rfl
theorem l1f_11_42 {rd : Value} {S : zS} {L : zL} : zgetf (zRm1 rd) S L 11 12 42 = some (.ref 39) := rfl
theorem l1f_11_43 {rd : Value} {S : zS} {L : zL} : zgetf (zRm1 rd) S L 11 12 43 = some (.ref 40) := rfl
theorem l1l_12 {rd : Value} : zlen (zRm1 rd) 12 1 = some 24 := rfl
theorem l1a_12 {rd : Value} : zalen (zRm1 rd) 12 = some 24 := rfl
theorem l1l_13 {rd : Value} : zlen (zRm1 rd) 13 1 = some 24 := rfl
theorem l1a_13 {rd : Value} : zalen (zRm1 rd) 13 = some 24 := rfl
theorem l1l_14 {rd : Value} : zlen (zRm1 rd) 14 1 = some 8 := rfl
theorem l1a_14 {rd : Value} : zalen (zRm1 rd) 14 = some 8 := rfl
theorem l1l_15 {rd : Value} : zlen (zRm1 rd) 15 1 = some 8 := rfl
theorem l1a_15 {rd : Value} : zalen (zRm1 rd) 15 = some 8 := rfl
theorem l1l_16 {rd : Value} : zlen (zRm1 rd) 16 1 = some 8 := rfl
theorem l1a_16 {rd : Value} : zalen (zRm1 rd) 16 = some 8 := rfl
theorem l1l_17 {rd : Value} : zlen (zRm1 rd) 17 1 = some 8 := rfl
theorem l1a_17 {rd : Value} : zalen (zRm1 rd) 17 = some 8 := rfl
theorem l1l_18 {rd : Value} : zlen (zRm1 rd) 18 1 = some 8 := rfl
theorem l1a_18 {rd : Value} : zalen (zRm1 rd) 18 = some 8 := rfl
theorem l1l_19 {rd : Value} : zlen (zRm1 rd) 19 1 = some 8 := rfl
theorem l1a_19 {rd : Value} : zalen (zRm1 rd) 19 = some 8 := rfl
theorem l1l_20 {rd : Value} : zlen (zRm1 rd) 20 1 = some 8 := rfl
theorem l1a_20 {rd : Value} : zalen (zRm1 rd) 20 = some 8 := rfl
theorem l1l_21 {rd : Value} : zlen (zRm1 rd) 21 1 = some 8 := rfl
theorem l1a_21 {rd : Value} : zalen (zRm1 rd) 21 = some 8 := rfl
theorem l1l_22 {rd : Value} : zlen (zRm1 rd) 22 1 = some 8 := rfl
theorem l1a_22 {rd : Value} : zalen (zRm1 rd) 22 = some 8 := rfl
theorem l1l_23 {rd : Value} : zlen (zRm1 rd) 23 1 = some 8 := rfl
theorem l1a_23 {rd : Value} : zalen (zRm1 rd) 23 = some 8 := rfl
theorem l1l_24 {rd : Value} : zlen (zRm1 rd) 24 1 = some 6 := rfl
theorem l1a_24 {rd : Value} : zalen (zRm1 rd) 24 = some 6 := rfl
theorem l1l_25 {rd : Value} : zlen (zRm1 rd) 25 1 = some 6 := rfl
theorem l1a_25 {rd : Value} : zalen (zRm1 rd) 25 = some 6 := rfl
theorem l1l_26 {rd : Value} : zlen (zRm1 rd) 26 1 = some 6 := rfl
theorem l1a_26 {rd : Value} : zalen (zRm1 rd) 26 = some 6 := rfl
theorem l1l_27 {rd : Value} : zlen (zRm1 rd) 27 1 = some 6 := rfl
theorem l1a_27 {rd : Value} : zalen (zRm1 rd) 27 = some 6 := rfl
theorem l1l_28 {rd : Value} : zlen (zRm1 rd) 28 1 = some 6 := rfl
theorem l1a_28 {rd : Value} : zalen (zRm1 rd) 28 = some 6 := rfl
theorem l1l_29 {rd : Value} : zlen (zRm1 rd) 29 1 = some 6 := rfl
theorem l1a_29 {rd : Value} : zalen (zRm1 rd) 29 = some 6 := rfl
theorem l1l_30 {rd : Value} : zlen (zRm1 rd) 30 1 = some 6 := rfl
theorem l1a_30 {rd : Value} : zalen (zRm1 rd) 30 = some 6 := rfl
theorem l1l_31 {rd : Value} : zlen (zRm1 rd) 31 1 = some 20 := rfl
theorem l1a_31 {rd : Value} : zalen (zRm1 rd) 31 = some 20 := rfl
theorem l1l_32 {rd : Value} : zlen (zRm1 rd) 32 1 = some 20 := rfl
theorem l1a_32 {rd : Value} : zalen (zRm1 rd) 32 = some 20 := rfl
theorem l1l_33 {rd : Value} : zlen (zRm1 rd) 33 1 = some 20 := rfl
theorem l1a_33 {rd : Value} : zalen (zRm1 rd) 33 = some 20 := rfl
theorem l1l_34 {rd : Value} : zlen (zRm1 rd) 34 1 = some 20 := rfl
theorem l1a_34 {rd : Value} : zalen (zRm1 rd) 34 = some 20 := rfl
theorem l1l_35 {rd : Value} : zlen (zRm1 rd) 35 1 = some 4 := rfl
theorem l1a_35 {rd : Value} : zalen (zRm1 rd) 35 = some 4 := rfl
theorem l1l_36 {rd : Value} : zlen (zRm1 rd) 36 1 = some 4 := rfl
theorem l1a_36 {rd : Value} : zalen (zRm1 rd) 36 = some 4 := rfl
theorem l1l_37 {rd : Value} : zlen (zRm1 rd) 37 1 = some 4 := rfl
theorem l1a_37 {rd : Value} : zalen (zRm1 rd) 37 = some 4 := rfl
theorem l1l_38 {rd : Value} : zlen (zRm1 rd) 38 2 = some 26 := rfl
theorem l1a_38 {rd : Value} : zalen (zRm1 rd) 38 = some 26 := rfl
theorem l1l_39 {rd : Value} : zlen (zRm1 rd) 39 1 = some 26 := rfl
theorem l1a_39 {rd : Value} : zalen (zRm1 rd) 39 = some 26 := rfl
theorem l1l_40 {rd : Value} : zlen (zRm1 rd) 40 1 = some 26 := rfl
theorem l1a_40 {rd : Value} : zalen (zRm1 rd) 40 = some 26 := rfl
def layM1_0 := And.intro @l1c_0 (And.intro @l1f_0_0 (And.intro @l1p_0_0 (And.intro @l1f_0_1 (And.intro @l1p_0_1 (And.intro @l1f_0_2 (And.intro @l1p_0_2 (And.intro @l1f_0_3 (And.intro @l1f_0_5 (And.intro @l1f_0_6 (And.intro @l1p_0_6 (And.intro @l1f_0_7 (And.intro @l1p_0_7 (And.intro @l1f_0_8 (And.intro @l1p_0_8 (And.intro @l1f_0_9 (And.intro @l1p_0_9 (And.intro @l1f_0_10 (And.intro @l1p_0_10 (And.intro @l1f_0_11 (And.intro @l1p_0_11 (And.intro @l1f_0_12 (And.intro @l1p_0_12 (And.intro @l1f_0_13 (And.intro @l1p_0_13 (And.intro @l1f_0_14 (And.intro @l1p_0_14 (And.intro @l1f_0_15 (And.intro @l1p_0_15 (And.intro @l1f_0_16 (And.intro @l1p_0_16 (And.intro @l1f_0_17 (And.intro @l1p_0_17 (And.intro @l1f_0_18 (And.intro @l1p_0_18 (And.intro @l1f_0_19 (And.intro @l1f_0_20 (And.intro @l1f_0_21 (And.intro @l1f_0_22 (And.intro @l1p_0_22 (And.intro @l1f_0_23 (And.intro @l1f_0_24 (And.intro @l1f_0_25 (And.intro @l1f_0_26 (And.intro @l1f_0_27 (And.intro @l1f_0_28 (And.intro @l1p_0_28 (And.intro @l1f_0_29 (And.intro @l1l_1 (And.intro @l1a_1 (And.intro @l1l_2 (And.intro @l1a_2 (And.intro @l1l_3 (And.intro @l1a_3 (And.intro @l1l_4 (And.intro @l1a_4 (And.intro @l1l_5 (And.intro @l1a_5 (And.intro @l1n_5 (@l1l_6)))))))))))))))))))))))))))))))))))))))))))))))))))))))))))
def layM1_1 := And.intro @l1a_6 (And.intro @l1n_6 (And.intro @l1l_7 (And.intro @l1a_7 (And.intro @l1l_8 (And.intro @l1a_8 (And.intro @l1l_9 (And.intro @l1a_9 (And.intro @l1l_10 (And.intro @l1a_10 (And.intro @l1c_11 (And.intro @l1f_11_0 (And.intro @l1p_11_0 (And.intro @l1f_11_1 (And.intro @l1p_11_1 (And.intro @l1f_11_2 (And.intro @l1p_11_2 (And.intro @l1f_11_3 (And.intro @l1p_11_3 (And.intro @l1f_11_4 (And.intro @l1p_11_4 (And.intro @l1f_11_5 (And.intro @l1p_11_5 (And.intro @l1f_11_6 (And.intro @l1p_11_6 (And.intro @l1f_11_7 (And.intro @l1p_11_7 (And.intro @l1f_11_8 (And.intro @l1p_11_8 (And.intro @l1f_11_9 (And.intro @l1p_11_9 (And.intro @l1f_11_10 (And.intro @l1p_11_10 (And.intro @l1f_11_11 (And.intro @l1p_11_11 (And.intro @l1f_11_12 (And.intro @l1p_11_12 (And.intro @l1f_11_13 (And.intro @l1p_11_13 (And.intro @l1f_11_14 (And.intro @l1p_11_14 (And.intro @l1f_11_15 (And.intro @l1f_11_16 (And.intro @l1f_11_17 (And.intro @l1f_11_18 (And.intro @l1f_11_19 (And.intro @l1f_11_20 (And.intro @l1f_11_21 (And.intro @l1f_11_22 (And.intro @l1f_11_23 (And.intro @l1f_11_24 (And.intro @l1f_11_25 (And.intro @l1f_11_26 (And.intro @l1f_11_27 (And.intro @l1f_11_28 (And.intro @l1f_11_29 (And.intro @l1f_11_30 (And.intro @l1f_11_31 (And.intro @l1f_11_32 (@l1f_11_33)))))))))))))))))))))))))))))))))))))))))))))))))))))))))))
def layM1_2 := And.intro @l1f_11_34 (And.intro @l1f_11_35 (And.intro @l1f_11_36 (And.intro @l1f_11_37 (And.intro @l1f_11_38 (And.intro @l1f_11_39 (And.intro @l1f_11_40 (And.intro @l1f_11_41 (And.intro @l1f_11_42 (And.intro @l1f_11_43 (And.intro @l1l_12 (And.intro @l1a_12 (And.intro @l1l_13 (And.intro @l1a_13 (And.intro @l1l_14 (And.intro @l1a_14 (And.intro @l1l_15 (And.intro @l1a_15 (And.intro @l1l_16 (And.intro @l1a_16 (And.intro @l1l_17 (And.intro @l1a_17 (And.intro @l1l_18 (And.intro @l1a_18 (And.intro @l1l_19 (And.intro @l1a_19 (And.intro @l1l_20 (And.intro @l1a_20 (And.intro @l1l_21 (And.intro @l1a_21 (And.intro @l1l_22 (And.intro @l1a_22 (And.intro @l1l_23 (And.intro @l1a_23 (And.intro @l1l_24 (And.intro @l1a_24 (And.intro @l1l_25 (And.intro @l1a_25 (And.intro @l1l_26 (And.intro @l1a_26 (And.intro @l1l_27 (And.intro @l1a_27 (And.intro @l1l_28 (And.intro @l1a_28 (And.intro @l1l_29 (And.intro @l1a_29 (And.intro @l1l_30 (And.intro @l1a_30 (And.intro @l1l_31 (And.intro @l1a_31 (And.intro @l1l_32 (And.intro @l1a_32 (And.intro @l1l_33 (And.intro @l1a_33 (And.intro @l1l_34 (And.intro @l1a_34 (And.intro @l1l_35 (And.intro @l1a_35 (And.intro @l1l_36 (@l1a_36)))))))))))))))))))))))))))))))))))))))))))))))))))))))))))
def layM1_3 := And.intro @l1l_37 (And.intro @l1a_37 (And.intro @l1l_38 (And.intro @l1a_38 (And.intro @l1l_39 (And.intro @l1a_39 (And.intro @l1l_40 (@l1a_40)))))))
def layM1 := And.intro @layM1_0 (And.intro @layM1_1 (And.intro @layM1_2 (@layM1_3)))
