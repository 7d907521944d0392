/-! match: its ends -/
section ZPR
variable {c : Nat → Nat} {S Sm : zS} {L Lm : zL} {rd : Value}
def zRs1 : List zE := [(0, 13, [.int 0, .int 0, .int 0, .ref 41, .ref 41, .ref 1, .int 0, .int 0, .int 0, .int 0, .int 0, .int 0, .int 0, .int 0, .int 0, .long 0, .int 0, .int 0, .int 0, .ref 2, .ref 3, .ref 4, .int 0, .ref 5, .ref 6, .ref 7, .ref 8, .ref 9, .int 0, .ref 10]), (3, 900, []), (1, 49, []), (1, 196, []), (1, 49, []), (4, 8, []), (4, 8, []), (2, 9, []), (1, 256, []), (1, 256, []), (1, 14, [])] ++ [(0, 12, [.int 0, .int 0, .int 0, .int 0, .int 0, .int 0, .int 0, .int 0, .int 0, .int 0, .int 0, .int 0, .int 0, .int 0, .int 0, .ref 12, .ref 13, .ref 14, .ref 15, .ref 16, .ref 17, .ref 18, .ref 19, .ref 20, .ref 21, .ref 22, .ref 23, .ref 24, .ref 25, .ref 26, .ref 27, .ref 28, .ref 29, .ref 30, .ref 31, .ref 32, .ref 33, .ref 34, .ref 35, .ref 36, .ref 37, .ref 38, .ref 39, .ref 40]), (1, 24, []), (1, 24, []), (1, 8, []), (1, 8, []), (1, 8, []), (1, 8, []), (1, 8, []), (1, 8, []), (1, 8, []), (1, 8, []), (1, 8, []), (1, 8, []), (1, 6, []), (1, 6, []), (1, 6, []), (1, 6, []), (1, 6, []), (1, 6, []), (1, 6, []), (1, 20, []), (1, 20, []), (1, 20, []), (1, 20, []), (1, 4, []), (1, 4, []), (1, 4, []), (2, 26, []), (1, 26, []), (1, 26, [])] ++ [(0, 12, [.int 0, .int 0, .int 0, .int 0, .int 0, .int 0, .int 0, .int 0, .int 0, .int 0, .int 0, .int 0, .int 0, .int 0, .int 0, .ref 42, .ref 43, .ref 44, .ref 45, .ref 46, .ref 47, .ref 48, .ref 49, .ref 50, .ref 51, .ref 52, .ref 53, .ref 54, .ref 55, .ref 56, .ref 57, .ref 58, .ref 59, .ref 60, .ref 61, .ref 62, .ref 63, .ref 64, .ref 65, .ref 66, .ref 67, .ref 68, .ref 69, .ref 70]), (1, 24, []), (1, 24, []), (1, 8, []), (1, 8, []), (1, 8, []), (1, 8, []), (1, 8, []), (1, 8, []), (1, 8, []), (1, 8, []), (1, 8, []), (1, 8, []), (1, 6, []), (1, 6, []), (1, 6, []), (1, 6, []), (1, 6, []), (1, 6, []), (1, 6, []), (1, 20, []), (1, 20, []), (1, 20, []), (1, 20, []), (1, 4, []), (1, 4, []), (1, 4, []), (2, 26, []), (1, 26, []), (1, 26, [])]
theorem y_c0 : zrc zRs1 0 13 = true := rfl
theorem y_f_0 : ∀ (S : zS) (L : zL), zgetf zRs1 S L 0 13 0 = some (.int (S 0 0)) := fun _ _ => rfl
theorem y_p_0 : ∀ (S : zS) (L : zL) (x : Int32), zputf zRs1 S L 0 13 0 (.int x) = some (zRs1, zup S 0 0 x, L) := fun _ _ _ => zputI rfl rfl rfl
theorem y_f_1 : ∀ (S : zS) (L : zL), zgetf zRs1 S L 0 13 1 = some (.int (S 0 1)) := fun _ _ => rfl
theorem y_p_1 : ∀ (S : zS) (L : zL) (x : Int32), zputf zRs1 S L 0 13 1 (.int x) = some (zRs1, zup S 0 1 x, L) := fun _ _ _ => zputI rfl rfl rfl
theorem y_f_2 : ∀ (S : zS) (L : zL), zgetf zRs1 S L 0 13 2 = some (.int (S 0 2)) := fun _ _ => rfl
theorem y_p_2 : ∀ (S : zS) (L : zL) (x : Int32), zputf zRs1 S L 0 13 2 (.int x) = some (zRs1, zup S 0 2 x, L) := fun _ _ _ => zputI rfl rfl rfl
theorem y_f_6 : ∀ (S : zS) (L : zL), zgetf zRs1 S L 0 13 6 = some (.int (S 0 6)) := fun _ _ => rfl
theorem y_p_6 : ∀ (S : zS) (L : zL) (x : Int32), zputf zRs1 S L 0 13 6 (.int x) = some (zRs1, zup S 0 6 x, L) := fun _ _ _ => zputI rfl rfl rfl
theorem y_f_7 : ∀ (S : zS) (L : zL), zgetf zRs1 S L 0 13 7 = some (.int (S 0 7)) := fun _ _ => rfl
theorem y_p_7 : ∀ (S : zS) (L : zL) (x : Int32), zputf zRs1 S L 0 13 7 (.int x) = some (zRs1, zup S 0 7 x, L) := fun _ _ _ => zputI rfl rfl rfl
theorem y_f_8 : ∀ (S : zS) (L : zL), zgetf zRs1 S L 0 13 8 = some (.int (S 0 8)) := fun _ _ => rfl
theorem y_p_8 : ∀ (S : zS) (L : zL) (x : Int32), zputf zRs1 S L 0 13 8 (.int x) = some (zRs1, zup S 0 8 x, L) := fun _ _ _ => zputI rfl rfl rfl
theorem y_f_9 : ∀ (S : zS) (L : zL), zgetf zRs1 S L 0 13 9 = some (.int (S 0 9)) := fun _ _ => rfl
theorem y_p_9 : ∀ (S : zS) (L : zL) (x : Int32), zputf zRs1 S L 0 13 9 (.int x) = some (zRs1, zup S 0 9 x, L) := fun _ _ _ => zputI rfl rfl rfl
theorem y_f_10 : ∀ (S : zS) (L : zL), zgetf zRs1 S L 0 13 10 = some (.int (S 0 10)) := fun _ _ => rfl
theorem y_p_10 : ∀ (S : zS) (L : zL) (x : Int32), zputf zRs1 S L 0 13 10 (.int x) = some (zRs1, zup S 0 10 x, L) := fun _ _ _ => zputI rfl rfl rfl
theorem y_f_11 : ∀ (S : zS) (L : zL), zgetf zRs1 S L 0 13 11 = some (.int (S 0 11)) := fun _ _ => rfl
theorem y_p_11 : ∀ (S : zS) (L : zL) (x : Int32), zputf zRs1 S L 0 13 11 (.int x) = some (zRs1, zup S 0 11 x, L) := fun _ _ _ => zputI rfl rfl rfl
theorem y_f_12 : ∀ (S : zS) (L : zL), zgetf zRs1 S L 0 13 12 = some (.int (S 0 12)) := fun _ _ => rfl
theorem y_p_12 : ∀ (S : zS) (L : zL) (x : Int32), zputf zRs1 S L 0 13 12 (.int x) = some (zRs1, zup S 0 12 x, L) := fun _ _ _ => zputI rfl rfl rfl
theorem y_f_13 : ∀ (S : zS) (L : zL), zgetf zRs1 S L 0 13 13 = some (.int (S 0 13)) := fun _ _ => rfl
theorem y_p_13 : ∀ (S : zS) (L : zL) (x : Int32), zputf zRs1 S L 0 13 13 (.int x) = some (zRs1, zup S 0 13 x, L) := fun _ _ _ => zputI rfl rfl rfl
theorem y_f_14 : ∀ (S : zS) (L : zL), zgetf zRs1 S L 0 13 14 = some (.int (S 0 14)) := fun _ _ => rfl
theorem y_p_14 : ∀ (S : zS) (L : zL) (x : Int32), zputf zRs1 S L 0 13 14 (.int x) = some (zRs1, zup S 0 14 x, L) := fun _ _ _ => zputI rfl rfl rfl
theorem y_f_16 : ∀ (S : zS) (L : zL), zgetf zRs1 S L 0 13 16 = some (.int (S 0 16)) := fun _ _ => rfl
theorem y_p_16 : ∀ (S : zS) (L : zL) (x : Int32), zputf zRs1 S L 0 13 16 (.int x) = some (zRs1, zup S 0 16 x, L) := fun _ _ _ => zputI rfl rfl rfl
theorem y_f_17 : ∀ (S : zS) (L : zL), zgetf zRs1 S L 0 13 17 = some (.int (S 0 17)) := fun _ _ => rfl
theorem y_p_17 : ∀ (S : zS) (L : zL) (x : Int32), zputf zRs1 S L 0 13 17 (.int x) = some (zRs1, zup S 0 17 x, L) := fun _ _ _ => zputI rfl rfl rfl
theorem y_f_18 : ∀ (S : zS) (L : zL), zgetf zRs1 S L 0 13 18 = some (.int (S 0 18)) := fun _ _ => rfl
theorem y_p_18 : ∀ (S : zS) (L : zL) (x : Int32), zputf zRs1 S L 0 13 18 (.int x) = some (zRs1, zup S 0 18 x, L) := fun _ _ _ => zputI rfl rfl rfl
theorem y_f_22 : ∀ (S : zS) (L : zL), zgetf zRs1 S L 0 13 22 = some (.int (S 0 22)) := fun _ _ => rfl
theorem y_p_22 : ∀ (S : zS) (L : zL) (x : Int32), zputf zRs1 S L 0 13 22 (.int x) = some (zRs1, zup S 0 22 x, L) := fun _ _ _ => zputI rfl rfl rfl
theorem y_f_28 : ∀ (S : zS) (L : zL), zgetf zRs1 S L 0 13 28 = some (.int (S 0 28)) := fun _ _ => rfl
theorem y_p_28 : ∀ (S : zS) (L : zL) (x : Int32), zputf zRs1 S L 0 13 28 (.int x) = some (zRs1, zup S 0 28 x, L) := fun _ _ _ => zputI rfl rfl rfl
theorem y_f_3 : ∀ (S : zS) (L : zL), zgetf zRs1 S L 0 13 3 = some (.ref 41) := fun _ _ => rfl
theorem y_f_19 : ∀ (S : zS) (L : zL), zgetf zRs1 S L 0 13 19 = some (.ref 2) := fun _ _ => rfl
theorem y_l2 : zlen zRs1 2 1 = some 49 := rfl
theorem y_c41 : zrc zRs1 41 12 = true := rfl
theorem y_g_0 : ∀ (S : zS) (L : zL), zgetf zRs1 S L 41 12 0 = some (.int (S 41 0)) := fun _ _ => rfl
theorem y_g_1 : ∀ (S : zS) (L : zL), zgetf zRs1 S L 41 12 1 = some (.int (S 41 1)) := fun _ _ => rfl
theorem y_g_2 : ∀ (S : zS) (L : zL), zgetf zRs1 S L 41 12 2 = some (.int (S 41 2)) := fun _ _ => rfl
theorem y_g_3 : ∀ (S : zS) (L : zL), zgetf zRs1 S L 41 12 3 = some (.int (S 41 3)) := fun _ _ => rfl
theorem y_g_4 : ∀ (S : zS) (L : zL), zgetf zRs1 S L 41 12 4 = some (.int (S 41 4)) := fun _ _ => rfl
theorem y_g_5 : ∀ (S : zS) (L : zL), zgetf zRs1 S L 41 12 5 = some (.int (S 41 5)) := fun _ _ => rfl
theorem y_g_6 : ∀ (S : zS) (L : zL), zgetf zRs1 S L 41 12 6 = some (.int (S 41 6)) := fun _ _ => rfl
theorem y_g_7 : ∀ (S : zS) (L : zL), zgetf zRs1 S L 41 12 7 = some (.int (S 41 7)) := fun _ _ => rfl
theorem y_g_8 : ∀ (S : zS) (L : zL), zgetf zRs1 S L 41 12 8 = some (.int (S 41 8)) := fun _ _ => rfl
theorem y_g_9 : ∀ (S : zS) (L : zL), zgetf zRs1 S L 41 12 9 = some (.int (S 41 9)) := fun _ _ => rfl
theorem y_g_10 : ∀ (S : zS) (L : zL), zgetf zRs1 S L 41 12 10 = some (.int (S 41 10)) := fun _ _ => rfl
theorem y_g_11 : ∀ (S : zS) (L : zL), zgetf zRs1 S L 41 12 11 = some (.int (S 41 11)) := fun _ _ => rfl
theorem y_g_12 : ∀ (S : zS) (L : zL), zgetf zRs1 S L 41 12 12 = some (.int (S 41 12)) := fun _ _ => rfl
theorem y_g_13 : ∀ (S : zS) (L : zL), zgetf zRs1 S L 41 12 13 = some (.int (S 41 13)) := fun _ _ => rfl
theorem y_g_14 : ∀ (S : zS) (L : zL), zgetf zRs1 S L 41 12 14 = some (.int (S 41 14)) := fun _ _ => rfl
theorem y_g_15 : ∀ (S : zS) (L : zL), zgetf zRs1 S L 41 12 15 = some (.ref 42) := fun _ _ => rfl
theorem y_g_16 : ∀ (S : zS) (L : zL), zgetf zRs1 S L 41 12 16 = some (.ref 43) := fun _ _ => rfl
theorem y_g_17 : ∀ (S : zS) (L : zL), zgetf zRs1 S L 41 12 17 = some (.ref 44) := fun _ _ => rfl
theorem y_g_18 : ∀ (S : zS) (L : zL), zgetf zRs1 S L 41 12 18 = some (.ref 45) := fun _ _ => rfl
theorem y_g_19 : ∀ (S : zS) (L : zL), zgetf zRs1 S L 41 12 19 = some (.ref 46) := fun _ _ => rfl
theorem y_g_20 : ∀ (S : zS) (L : zL), zgetf zRs1 S L 41 12 20 = some (.ref 47) := fun _ _ => rfl
theorem y_g_21 : ∀ (S : zS) (L : zL), zgetf zRs1 S L 41 12 21 = some (.ref 48) := fun _ _ => rfl
theorem y_g_22 : ∀ (S : zS) (L : zL), zgetf zRs1 S L 41 12 22 = some (.ref 49) := fun _ _ => rfl
theorem y_g_23 : ∀ (S : zS) (L : zL), zgetf zRs1 S L 41 12 23 = some (.ref 50) := fun _ _ => rfl
theorem y_g_24 : ∀ (S : zS) (L : zL), zgetf zRs1 S L 41 12 24 = some (.ref 51) := fun _ _ => rfl
theorem y_g_25 : ∀ (S : zS) (L : zL), zgetf zRs1 S L 41 12 25 = some (.ref 52) := fun _ _ => rfl
theorem y_g_26 : ∀ (S : zS) (L : zL), zgetf zRs1 S L 41 12 26 = some (.ref 53) := fun _ _ => rfl
theorem y_g_27 : ∀ (S : zS) (L : zL), zgetf zRs1 S L 41 12 27 = some (.ref 54) := fun _ _ => rfl
theorem y_g_28 : ∀ (S : zS) (L : zL), zgetf zRs1 S L 41 12 28 = some (.ref 55) := fun _ _ => rfl
theorem y_g_29 : ∀ (S : zS) (L : zL), zgetf zRs1 S L 41 12 29 = some (.ref 56) := fun _ _ => rfl
theorem y_g_30 : ∀ (S : zS) (L : zL), zgetf zRs1 S L 41 12 30 = some (.ref 57) := fun _ _ => rfl
theorem y_g_31 : ∀ (S : zS) (L : zL), zgetf zRs1 S L 41 12 31 = some (.ref 58) := fun _ _ => rfl
theorem y_g_32 : ∀ (S : zS) (L : zL), zgetf zRs1 S L 41 12 32 = some (.ref 59) := fun _ _ => rfl
theorem y_g_33 : ∀ (S : zS) (L : zL), zgetf zRs1 S L 41 12 33 = some (.ref 60) := fun _ _ => rfl
theorem y_g_34 : ∀ (S : zS) (L : zL), zgetf zRs1 S L 41 12 34 = some (.ref 61) := fun _ _ => rfl
theorem y_g_35 : ∀ (S : zS) (L : zL), zgetf zRs1 S L 41 12 35 = some (.ref 62) := fun _ _ => rfl
theorem y_g_36 : ∀ (S : zS) (L : zL), zgetf zRs1 S L 41 12 36 = some (.ref 63) := fun _ _ => rfl
theorem y_g_37 : ∀ (S : zS) (L : zL), zgetf zRs1 S L 41 12 37 = some (.ref 64) := fun _ _ => rfl
theorem y_g_38 : ∀ (S : zS) (L : zL), zgetf zRs1 S L 41 12 38 = some (.ref 65) := fun _ _ => rfl
theorem y_g_39 : ∀ (S : zS) (L : zL), zgetf zRs1 S L 41 12 39 = some (.ref 66) := fun _ _ => rfl
theorem y_g_40 : ∀ (S : zS) (L : zL), zgetf zRs1 S L 41 12 40 = some (.ref 67) := fun _ _ => rfl
theorem y_g_41 : ∀ (S : zS) (L : zL), zgetf zRs1 S L 41 12 41 = some (.ref 68) := fun _ _ => rfl
theorem y_g_42 : ∀ (S : zS) (L : zL), zgetf zRs1 S L 41 12 42 = some (.ref 69) := fun _ _ => rfl
theorem y_g_43 : ∀ (S : zS) (L : zL), zgetf zRs1 S L 41 12 43 = some (.ref 70) := fun _ _ => rfl
theorem y_l42 : zlen zRs1 42 1 = some 24 := rfl
theorem y_l43 : zlen zRs1 43 1 = some 24 := rfl
theorem y_l44 : zlen zRs1 44 1 = some 8 := rfl
theorem y_l45 : zlen zRs1 45 1 = some 8 := rfl
theorem y_l46 : zlen zRs1 46 1 = some 8 := rfl
theorem y_l47 : zlen zRs1 47 1 = some 8 := rfl
theorem y_l48 : zlen zRs1 48 1 = some 8 := rfl
theorem y_l49 : zlen zRs1 49 1 = some 8 := rfl
theorem y_l50 : zlen zRs1 50 1 = some 8 := rfl
theorem y_l51 : zlen zRs1 51 1 = some 8 := rfl
theorem y_l52 : zlen zRs1 52 1 = some 8 := rfl
theorem y_l53 : zlen zRs1 53 1 = some 8 := rfl
theorem y_l54 : zlen zRs1 54 1 = some 6 := rfl
theorem y_l55 : zlen zRs1 55 1 = some 6 := rfl
theorem y_l56 : zlen zRs1 56 1 = some 6 := rfl
theorem y_l57 : zlen zRs1 57 1 = some 6 := rfl
theorem y_l58 : zlen zRs1 58 1 = some 6 := rfl
theorem y_l59 : zlen zRs1 59 1 = some 6 := rfl
theorem y_l60 : zlen zRs1 60 1 = some 6 := rfl
theorem y_l61 : zlen zRs1 61 1 = some 20 := rfl
theorem y_l62 : zlen zRs1 62 1 = some 20 := rfl
theorem y_l63 : zlen zRs1 63 1 = some 20 := rfl
theorem y_l64 : zlen zRs1 64 1 = some 20 := rfl
theorem y_l65 : zlen zRs1 65 1 = some 4 := rfl
theorem y_l66 : zlen zRs1 66 1 = some 4 := rfl
theorem y_l67 : zlen zRs1 67 1 = some 4 := rfl
theorem y_l68 : zlen zRs1 68 2 = some 26 := rfl
theorem y_l69 : zlen zRs1 69 1 = some 26 := rfl
theorem y_l70 : zlen zRs1 70 1 = some 26 := rfl
def layS := And.intro @y_c0 (And.intro @y_f_0 (And.intro @y_p_0 (And.intro @y_f_1 (And.intro @y_p_1 (And.intro @y_f_2 (And.intro @y_p_2 (And.intro @y_f_6 (And.intro @y_p_6 (And.intro @y_f_7 (And.intro @y_p_7 (And.intro @y_f_8 (And.intro @y_p_8 (And.intro @y_f_9 (And.intro @y_p_9 (And.intro @y_f_10 (And.intro @y_p_10 (And.intro @y_f_11 (And.intro @y_p_11 (And.intro @y_f_12 (And.intro @y_p_12 (And.intro @y_f_13 (And.intro @y_p_13 (And.intro @y_f_14 (And.intro @y_p_14 (And.intro @y_f_16 (And.intro @y_p_16 (And.intro @y_f_17 (And.intro @y_p_17 (And.intro @y_f_18 (And.intro @y_p_18 (And.intro @y_f_22 (And.intro @y_p_22 (And.intro @y_f_28 (And.intro @y_p_28 (And.intro @y_f_3 (And.intro @y_f_19 (And.intro @y_l2 (And.intro @y_c41 (And.intro @y_g_0 (And.intro @y_g_1 (And.intro @y_g_2 (And.intro @y_g_3 (And.intro @y_g_4 (And.intro @y_g_5 (And.intro @y_g_6 (And.intro @y_g_7 (And.intro @y_g_8 (And.intro @y_g_9 (And.intro @y_g_10 (And.intro @y_g_11 (And.intro @y_g_12 (And.intro @y_g_13 (And.intro @y_g_14 (And.intro @y_g_15 (And.intro @y_g_16 (And.intro @y_g_17 (And.intro @y_g_18 (And.intro @y_g_19 (And.intro @y_g_20 (And.intro @y_g_21 (And.intro @y_g_22 (And.intro @y_g_23 (And.intro @y_g_24 (And.intro @y_g_25 (And.intro @y_g_26 (And.intro @y_g_27 (And.intro @y_g_28 (And.intro @y_g_29 (And.intro @y_g_30 (And.intro @y_g_31 (And.intro @y_g_32 (And.intro @y_g_33 (And.intro @y_g_34 (And.intro @y_g_35 (And.intro @y_g_36 (And.intro @y_g_37 (And.intro @y_g_38 (And.intro @y_g_39 (And.intro @y_g_40 (And.intro @y_g_41 (And.intro @y_g_42 (And.intro @y_g_43 (And.intro @y_l42 (And.intro @y_l43 (And.intro @y_l44 (And.intro @y_l45 (And.intro @y_l46 (And.intro @y_l47 (And.intro @y_l48 (And.intro @y_l49 (And.intro @y_l50 (And.intro @y_l51 (And.intro @y_l52 (And.intro @y_l53 (And.intro @y_l54 (And.intro @y_l55 (And.intro @y_l56 (And.intro @y_l57 (And.intro @y_l58 (And.intro @y_l59 (And.intro @y_l60 (And.intro @y_l61 (And.intro @y_l62 (And.intro @y_l63 (And.intro @y_l64 (And.intro @y_l65 (And.intro @y_l66 (And.intro @y_l67 (And.intro @y_l68 (And.intro @y_l69 (@y_l70)))))))))))))))))))))))))))))))))))))))))))))))))))))))))))))))))))))))))))))))))))))))))))))))))))))))))))))))
theorem t207S {v : Int32} {n m : Nat} (h8 : Sm 41 8 = nI n) (hn : n ≤ 8) (h7 : Sm 41 7 = nI m) (hm : m ≤ 8) : ∃ X : zS, zcall 207 [.ref 0, .int v] zRs1 Sm Lm = some (none, zRs1, X, Lm) ∧ (∀ j k, j ≠ 2 → X j k = Sm j k) ∧ X 2 0 = Sm 2 0 ∧ X 2 1 = v ∧ X 2 2 = 0 ∧ X 2 3 = -1 ∧ (∀ k, k < 5 → X 2 (4 + k) = 0) ∧ (∀ p, p < n → X 2 (9 + p) = Sm 50 p ∧ X 2 (17 + p) = Sm 53 p ∧ X 2 (25 + p) = 0 ∧ X 2 (33 + p) = 0) ∧ ∀ b, b < m → X 2 (41 + b) = Sm 47 b := by
  have key1 : ∀ d i, i + d = 49 → 1 ≤ i → ∀ X : zS, (∀ j k, j ≠ 2 → X j k = Sm j k) → X 2 0 = Sm 2 0 → (∀ k, 1 ≤ k → k < i → X 2 k = 0) → ∃ X' : zS, zgo 207 2 [.ref 0, .int v, .int (nI i)] [] zRs1 X Lm = zgo 207 21 [.ref 0, .int v, .int (nI 49)] [] zRs1 X' Lm ∧ (∀ j k, j ≠ 2 → X' j k = Sm j k) ∧ X' 2 0 = Sm 2 0 ∧ (∀ k, 1 ≤ k → k < 49 → X' 2 k = 0) := by
    intro d
    induction d with
    | zero =>
      intro i hd hi X hX h0 hk
      have hi : i = 49 := by omega
      subst hi
      refine ⟨X, ?_, hX, h0, hk⟩
      rw [s207_2]
      simp (config := {maxSteps := 1000000}) (disch := omega) only [↓reduceIte, Int32.reduceLT, Int32.reduceLE, Int32.reduceToNatClampNeg, Int32.reduceAdd, Int32.reduceSub, Int32.reduceMul, Nat.reduceLeDiff, zEL, zup_ne, zup_eq, zT0, zT1, zT2, if_true, if_false, zneq_f, true_and, and_true, false_and, and_false, zKL, eq_self, Nat.reduceEqDiff, zite0, ite_not, zaddr, zaddl, zputr, zsb1, zsb2, zsb0, zsbm, znm1, layS, s207_3, s207_5, s207_8, s207_9, s207_12, s207_13, s207_14, s207_15, s207_18, show ((49 : Int32) ≤ nI 49) = True from eq_true (by decide)]
    | succ d ih =>
      intro i hd hi X hX h0 hk
      obtain ⟨X', r1, r2⟩ := ih (i + 1) (by omega) (by omega) (zup X 2 i 0) (fun j k h => by rw [zup_ne (by omega)]; exact hX j k h) (by rw [zup_ne (by omega)]; exact h0) (fun k h1 h2 => by
        by_cases e : k = i
        · rw [zup_eq rfl e]
        · rw [zup_ne (by omega)]
          exact hk k h1 (by omega))
      refine ⟨X', ?_, r2⟩
      have h49 : ((49 : Int32) ≤ nI i) = False := eq_false (by rw [show (49 : Int32) = nI 49 from rfl, znI_le (by omega) (by omega)]; omega)
      rw [← r1, s207_2]
      simp (config := {maxSteps := 1000000}) (disch := omega) only [↓reduceIte, Int32.reduceLT, Int32.reduceLE, Int32.reduceToNatClampNeg, Int32.reduceAdd, Int32.reduceSub, Int32.reduceMul, Nat.reduceLeDiff, zEL, zup_ne, zup_eq, zT0, zT1, zT2, if_true, if_false, zneq_f, true_and, and_true, false_and, and_false, zKL, eq_self, Nat.reduceEqDiff, zite0, ite_not, zaddr, zaddl, zputr, zsb1, zsb2, zsb0, zsbm, znm1, layS, s207_3, s207_5, s207_8, s207_9, s207_12, s207_13, s207_14, s207_15, s207_18, h49]
  have key2 : ∀ d p, p + d = n → ∀ X Y : zS, (∀ j k, j ≠ 2 → X j k = Sm j k) → (∀ k, k < 9 ∨ 25 ≤ k → X 2 k = Y 2 k) → (∀ q, q < p → X 2 (9 + q) = Sm 50 q ∧ X 2 (17 + q) = Sm 53 q) → ∃ X' : zS, zgo 207 37 [.ref 0, .int v, .int (nI p)] [] zRs1 X Lm = zgo 207 90 [.ref 0, .int v, .int (nI n)] [] zRs1 X' Lm ∧ (∀ j k, j ≠ 2 → X' j k = Sm j k) ∧ (∀ k, k < 9 ∨ 25 ≤ k → X' 2 k = Y 2 k) ∧ (∀ q, q < n → X' 2 (9 + q) = Sm 50 q ∧ X' 2 (17 + q) = Sm 53 q) := by
    intro d
    induction d with
    | zero =>
      intro p hd X Y hX h0 hk
      have hp : p = n := by omega
      subst hp
      have x8 : X 41 8 = nI p := (hX 41 8 (by decide)).trans h8
      refine ⟨X, ?_, hX, h0, hk⟩
      rw [s207_37]
      simp (config := {maxSteps := 1000000}) (disch := omega) only [↓reduceIte, Int32.reduceLT, Int32.reduceLE, Int32.reduceToNatClampNeg, Int32.reduceAdd, Int32.reduceSub, Int32.reduceMul, Nat.reduceLeDiff, zEL, zup_ne, zup_eq, zT0, zT1, zT2, if_true, if_false, zneq_f, true_and, and_true, false_and, and_false, zKL, eq_self, Nat.reduceEqDiff, zite0, ite_not, zaddr, zaddl, zputr, zsb1, zsb2, zsb0, zsbm, znm1, layS, s207_38, s207_39, s207_42, s207_45, s207_48, s207_49, s207_52, s207_54, s207_55, s207_56, s207_57, s207_60, s207_63, s207_64, s207_65, s207_66, s207_67, s207_70, s207_72, s207_73, s207_74, s207_75, s207_78, s207_81, s207_82, s207_83, s207_84, s207_87, x8]
    | succ d ih =>
      intro p hd X Y hX h0 hk
      have x8 : X 41 8 = nI n := (hX 41 8 (by decide)).trans h8
      have x20 : X 50 p = Sm 50 p := hX 50 p (by decide)
      have x23 : X 53 p = Sm 53 p := hX 53 p (by decide)
      obtain ⟨X', r1, r2⟩ := ih (p + 1) (by omega) (zup (zup X 2 (9 + p) (Sm 50 p)) 2 (17 + p) (Sm 53 p)) Y (fun j k h => by rw [zup_ne (by omega), zup_ne (by omega)]; exact hX j k h) (fun k h => by rw [zup_ne (by omega), zup_ne (by omega)]; exact h0 k h) (fun q hq => by
        by_cases e : q = p
        · subst e
          exact ⟨by rw [zup_ne (by omega), zup_eq rfl rfl], by rw [zup_eq rfl rfl]⟩
        · rw [zup_ne (by omega), zup_ne (by omega), zup_ne (by omega), zup_ne (by omega)]
          exact hk q (by omega))
      refine ⟨X', ?_, r2⟩
      rw [← r1, s207_37]
      simp (config := {maxSteps := 1000000}) (disch := omega) only [↓reduceIte, Int32.reduceLT, Int32.reduceLE, Int32.reduceToNatClampNeg, Int32.reduceAdd, Int32.reduceSub, Int32.reduceMul, Nat.reduceLeDiff, zEL, zup_ne, zup_eq, zT0, zT1, zT2, if_true, if_false, zneq_f, true_and, and_true, false_and, and_false, zKL, eq_self, Nat.reduceEqDiff, zite0, ite_not, zaddr, zaddl, zputr, zsb1, zsb2, zsb0, zsbm, znm1, layS, s207_38, s207_39, s207_42, s207_45, s207_48, s207_49, s207_52, s207_54, s207_55, s207_56, s207_57, s207_60, s207_63, s207_64, s207_65, s207_66, s207_67, s207_70, s207_72, s207_73, s207_74, s207_75, s207_78, s207_81, s207_82, s207_83, s207_84, s207_87, x8, x20, x23]
  have key3 : ∀ d p, p + d = m → ∀ X Y : zS, (∀ j k, j ≠ 2 → X j k = Sm j k) → (∀ k, k < 41 → X 2 k = Y 2 k) → (∀ q, q < p → X 2 (41 + q) = Sm 47 q) → ∃ X' : zS, zgo 207 92 [.ref 0, .int v, .int (nI p)] [] zRs1 X Lm = some (none, zRs1, X', Lm) ∧ (∀ j k, j ≠ 2 → X' j k = Sm j k) ∧ (∀ k, k < 41 → X' 2 k = Y 2 k) ∧ (∀ q, q < m → X' 2 (41 + q) = Sm 47 q) := by
    intro d
    induction d with
    | zero =>
      intro p hd X Y hX h0 hk
      have hp : p = m := by omega
      subst hp
      have x8 : X 41 7 = nI p := (hX 41 7 (by decide)).trans h7
      refine ⟨X, ?_, hX, h0, hk⟩
      rw [s207_92]
      simp (config := {maxSteps := 1000000}) (disch := omega) only [↓reduceIte, Int32.reduceLT, Int32.reduceLE, Int32.reduceToNatClampNeg, Int32.reduceAdd, Int32.reduceSub, Int32.reduceMul, Nat.reduceLeDiff, zEL, zup_ne, zup_eq, zT0, zT1, zT2, if_true, if_false, zneq_f, true_and, and_true, false_and, and_false, zKL, eq_self, Nat.reduceEqDiff, zite0, ite_not, zaddr, zaddl, zputr, zsb1, zsb2, zsb0, zsbm, znm1, layS, s207_93, s207_94, s207_97, s207_100, s207_103, s207_104, s207_107, s207_109, s207_110, s207_111, s207_112, s207_115, s207_118, s207_119, s207_120, s207_121, s207_124, s207_127, x8]
    | succ d ih =>
      intro p hd X Y hX h0 hk
      have x8 : X 41 7 = nI m := (hX 41 7 (by decide)).trans h7
      have x20 : X 47 p = Sm 47 p := hX 47 p (by decide)
      obtain ⟨X', r1, r2⟩ := ih (p + 1) (by omega) (zup X 2 (41 + p) (Sm 47 p)) Y (fun j k h => by rw [zup_ne (by omega)]; exact hX j k h) (fun k h => by rw [zup_ne (by omega)]; exact h0 k h) (fun q hq => by
        by_cases e : q = p
        · subst e
          rw [zup_eq rfl rfl]
        · rw [zup_ne (by omega)]
          exact hk q (by omega))
      refine ⟨X', ?_, r2⟩
      rw [← r1, s207_92]
      simp (config := {maxSteps := 1000000}) (disch := omega) only [↓reduceIte, Int32.reduceLT, Int32.reduceLE, Int32.reduceToNatClampNeg, Int32.reduceAdd, Int32.reduceSub, Int32.reduceMul, Nat.reduceLeDiff, zEL, zup_ne, zup_eq, zT0, zT1, zT2, if_true, if_false, zneq_f, true_and, and_true, false_and, and_false, zKL, eq_self, Nat.reduceEqDiff, zite0, ite_not, zaddr, zaddl, zputr, zsb1, zsb2, zsb0, zsbm, znm1, layS, s207_93, s207_94, s207_97, s207_100, s207_103, s207_104, s207_107, s207_109, s207_110, s207_111, s207_112, s207_115, s207_118, s207_119, s207_120, s207_121, s207_124, s207_127, x8, x20]
  obtain ⟨X1, r1, r2, r3, r4⟩ := key1 48 1 (by omega) (by omega) Sm (fun _ _ _ => rfl) rfl (fun k h1 h2 => by omega)
  obtain ⟨X2, q1, q2, q3, q4⟩ := key2 n 0 (by omega) (zup (zup X1 2 1 v) 2 3 (-1)) (zup (zup X1 2 1 v) 2 3 (-1)) (fun j k h => by rw [zup_ne (by omega), zup_ne (by omega)]; exact r2 j k h) (fun _ _ => rfl) (fun q hq => by omega)
  obtain ⟨X3, p1, p2, p3, p4⟩ := key3 m 0 (by omega) X2 X2 q2 (fun _ _ => rfl) (fun q hq => by omega)
  have lo : ∀ k, k < 9 ∨ (25 ≤ k ∧ k < 41) → X3 2 k = zup (zup X1 2 1 v) 2 3 (-1) 2 k := fun k hk => (p3 k (by omega)).trans (q3 k (by omega))
  refine ⟨X3, ?_, p2, ?_, ?_, ?_, ?_, fun k hk => ?_, fun p hp => ⟨?_, ?_, ?_, ?_⟩, p4⟩
  · have a1 : zcall 207 [.ref 0, .int v] zRs1 Sm Lm = zgo 207 2 [.ref 0, .int v, .int (nI 1)] [] zRs1 Sm Lm := by
      unfold zcall
      simp (config := {maxSteps := 1000000}) (disch := omega) only [↓reduceIte, Int32.reduceLT, Int32.reduceLE, Int32.reduceToNatClampNeg, Int32.reduceAdd, Int32.reduceSub, Int32.reduceMul, Nat.reduceLeDiff, zEL, zup_ne, zup_eq, zT0, zT1, zT2, if_true, if_false, zneq_f, true_and, and_true, false_and, and_false, zKL, eq_self, Nat.reduceEqDiff, zite0, ite_not, zaddr, zaddl, zputr, zsb1, zsb2, zsb0, zsbm, znm1, ze_207, s207_0, s207_1]
      all_goals rfl
    have a2 : zgo 207 21 [.ref 0, .int v, .int (nI 49)] [] zRs1 X1 Lm = zgo 207 37 [.ref 0, .int v, .int (nI 0)] [] zRs1 (zup (zup X1 2 1 v) 2 3 (-1)) Lm := by
      simp (config := {maxSteps := 1000000}) (disch := omega) only [↓reduceIte, Int32.reduceLT, Int32.reduceLE, Int32.reduceToNatClampNeg, Int32.reduceAdd, Int32.reduceSub, Int32.reduceMul, Nat.reduceLeDiff, zEL, zup_ne, zup_eq, zT0, zT1, zT2, if_true, if_false, zneq_f, true_and, and_true, false_and, and_false, zKL, eq_self, Nat.reduceEqDiff, zite0, ite_not, zaddr, zaddl, zputr, zsb1, zsb2, zsb0, zsbm, znm1, layS, s207_21, s207_22, s207_25, s207_26, s207_27, s207_28, s207_29, s207_32, s207_33, s207_34, s207_35, s207_36]
      all_goals rfl
    have a3 : zgo 207 90 [.ref 0, .int v, .int (nI n)] [] zRs1 X2 Lm = zgo 207 92 [.ref 0, .int v, .int (nI 0)] [] zRs1 X2 Lm := by
      simp (config := {maxSteps := 1000000}) (disch := omega) only [↓reduceIte, Int32.reduceLT, Int32.reduceLE, Int32.reduceToNatClampNeg, Int32.reduceAdd, Int32.reduceSub, Int32.reduceMul, Nat.reduceLeDiff, zEL, zup_ne, zup_eq, zT0, zT1, zT2, if_true, if_false, zneq_f, true_and, and_true, false_and, and_false, zKL, eq_self, Nat.reduceEqDiff, zite0, ite_not, zaddr, zaddl, zputr, zsb1, zsb2, zsb0, zsbm, znm1, layS, s207_90, s207_91]
      all_goals rfl
    rw [a1, r1, a2, q1, a3, p1]
  · rw [lo 0 (by omega), zup_ne (by omega), zup_ne (by omega)]
    exact r3
  · rw [lo 1 (by omega), zup_ne (by omega), zup_eq rfl rfl]
  · rw [lo 2 (by omega), zup_ne (by omega), zup_ne (by omega)]
    exact r4 2 (by omega) (by omega)
  · rw [lo 3 (by omega), zup_eq rfl rfl]
  · rw [lo (4 + k) (by omega), zup_ne (by omega), zup_ne (by omega)]
    exact r4 (4 + k) (by omega) (by omega)
  · rw [p3 (9 + p) (by omega)]
    exact (q4 p hp).1
  · rw [p3 (17 + p) (by omega)]
    exact (q4 p hp).2
  · rw [lo (25 + p) (by omega), zup_ne (by omega), zup_ne (by omega)]
    exact r4 (25 + p) (by omega) (by omega)
  · rw [lo (33 + p) (by omega), zup_ne (by omega), zup_ne (by omega)]
    exact r4 (33 + p) (by omega) (by omega)
theorem t12x {s i hh : Nat} {X : zS} (hM : zMD c S Sm) (hs : s ≤ 65536) (hi : i < c 5) (hh24 : hh < 24) (e7 : S 7 i = nI hh) (el : ∀ j, i < j → j < c 5 → S 7 j ≠ nI hh) (e0 : Sm 2 0 = nI hh) (q2 : ∀ j k, j ≠ 2 → X j k = Sm j k) (q3 : X 2 0 = Sm 2 0) (q4 : X 2 1 = nI s) (q5 : X 2 2 = 0) (q6 : X 2 3 = -1) (q7 : ∀ k, k < 5 → X 2 (4 + k) = 0) (q8 : ∀ p, p < c 0 → X 2 (9 + p) = Sm 20 p ∧ X 2 (17 + p) = Sm 23 p ∧ X 2 (25 + p) = 0 ∧ X 2 (33 + p) = 0) (q9 : ∀ b, b < c 1 → X 2 (41 + b) = Sm 17 b) : ∃ S' : zS, zcall 12 [.ref 168, .int (nI s), .int (nI i)] zRc S L = some (none, zRc, S', L) ∧ zMD c S' X ∧ zGD 168 c S' (X 2) ∧ (∀ j k, (j < 168 ∨ 186 < j) → S' j k = S j k) := by
  have b0 : c 0 ≤ 8 := hM.1.2.1
  have b1 : c 1 ≤ 8 := hM.1.2.2.1
  let Y := zup (zup (zup (zup (zclear (zcopy (zclear (zclear (zcopy (zcopy S 170 8 18 8) 172 8 20 8) 174 8) 176 8) 178 8 33 8) 180 5) 168 7 0) 168 8 (nI s)) 168 9 (nI i)) 168 10 (-1)
  have hY : ∀ j k, (j < 168 ∨ 180 < j) → Y j k = S j k := fun j k hj => by
    show zup _ _ _ _ j k = _
    rw [zup_ne (by omega), zup_ne (by omega), zup_ne (by omega), zup_ne (by omega), zclear_ne (by omega), zcopy_ne (by omega), zclear_ne (by omega), zclear_ne (by omega), zcopy_ne (by omega), zcopy_ne (by omega)]
  refine ⟨Y, ?_, zMD_fr hM (fun j k hj => hY j k (by omega)) (fun j k hj => q2 j k (by omega)), ?_, fun j k hj => hY j k (by omega)⟩
  · unfold zcall
    simp (config := {maxSteps := 1000000}) (disch := omega) only [↓reduceIte, Int32.reduceLT, Int32.reduceLE, Int32.reduceToNatClampNeg, Int32.reduceAdd, Int32.reduceSub, Int32.reduceMul, Nat.reduceLeDiff, zEL, zup_ne, zup_eq, zT0, zT1, zT2, if_true, if_false, zneq_f, true_and, and_true, false_and, and_false, zKL, eq_self, Nat.reduceEqDiff, zite0, ite_not, zaddr, zaddl, zputr, zsb1, zsb2, zsb0, zsbm, znm1, gM, g168, ry_169_17, ry_171_19, ry_177_32, ze_12, s12_0, s12_1, s12_4, s12_5, s12_8, s12_11, s12_14, s12_17, s12_18, s12_21, s12_22, s12_25, s12_28, s12_31, s12_34, s12_35, s12_38, s12_41, s12_42, s12_45, s12_48, s12_49, s12_52, s12_53, s12_56, s12_59, s12_62, s12_65, s12_66, s12_69, s12_72, s12_73, s12_74, s12_77, s12_78, s12_79, s12_82, s12_83, s12_84, s12_87, s12_88, s12_89, s12_92]
    all_goals rfl
  · obtain ⟨-, -, -, -, -, hP, hB, -⟩ := hM
    have u : ∀ j k, j ≠ 168 → Y j k = zclear (zcopy (zclear (zclear (zcopy (zcopy S 170 8 18 8) 172 8 20 8) 174 8) 176 8) 178 8 33 8) 180 5 j k := fun j k hj => by
      show zup _ _ _ _ j k = _
      rw [zup_ne (by omega), zup_ne (by omega), zup_ne (by omega), zup_ne (by omega)]
    refine ⟨fun p hp => ?_, fun b hb => ?_, fun k hk => ?_, ⟨?_, ?_⟩, ⟨?_, ?_⟩, ⟨?_, ?_⟩, ⟨i, hh, hi, hh24, ?_, ?_, ?_, ?_⟩⟩
    · obtain ⟨-, -, p3, p4, -, -, -, -, p9, p10, -⟩ := hP p hp
      obtain ⟨a1, a2, a3, a4⟩ := q8 p hp
      refine ⟨?_, ?_, ?_, ?_, ?_, ?_, ?_⟩
      · rw [u _ _ (by omega), zclear_ne (by omega), zcopy_ne (by omega), zclear_ne (by omega), zclear_ne (by omega), zcopy_ne (by omega), zcopy_eq rfl (by omega) (by omega), p3, a1]
      · rw [u _ _ (by omega), zclear_ne (by omega), zcopy_ne (by omega), zclear_ne (by omega), zclear_ne (by omega), zcopy_eq rfl (by omega) (by omega), zcopy_ne (by omega), p4, a2]
      · rw [u _ _ (by omega), zclear_ne (by omega), zcopy_ne (by omega), zclear_ne (by omega), zclear_eq rfl (by omega), a3]
      · rw [u _ _ (by omega), zclear_ne (by omega), zcopy_ne (by omega), zclear_eq rfl (by omega), a4]
      · rw [a1]
        exact p9
      · rw [a2]
        exact p10
      · rw [a4]
        exact ⟨0, by omega, rfl⟩
    · obtain ⟨-, -, -, p4, -, -, -, p8⟩ := hB b hb
      refine ⟨?_, ?_⟩
      · rw [u _ _ (by omega), zclear_ne (by omega), zcopy_eq rfl (by omega) (by omega), zclear_ne (by omega), zclear_ne (by omega), zcopy_ne (by omega), zcopy_ne (by omega), p4, q9 b hb]
      · rw [q9 b hb]
        exact p8
    · rw [u _ _ (by omega), zclear_eq rfl (by omega), q7 k hk]
    · show zup _ _ _ _ _ _ = _
      rw [zup_ne (by omega), zup_ne (by omega), zup_ne (by omega), zup_eq rfl rfl, q5]
    · rw [q5]
      exact ⟨0, by omega, rfl⟩
    · show zup _ _ _ _ _ _ = _
      rw [zup_ne (by omega), zup_ne (by omega), zup_eq rfl rfl, q4]
    · rw [q4]
      exact ⟨s, hs, rfl⟩
    · show zup _ _ _ _ _ _ = _
      rw [zup_eq rfl rfl, q6]
    · rw [q6]
      exact .inl rfl
    · show zup _ _ _ _ _ _ = _
      rw [zup_ne (by omega), zup_eq rfl rfl]
    · rw [hY 7 i (by omega)]
      exact e7
    · exact q3.trans e0
    · intro j h1 h2
      rw [hY 7 j (by omega)]
      exact el j h1 h2
theorem t171S {w : Int32} : zcall 171 [.ref 0, .int w] zRs1 Sm Lm = some (some (.int w), zRs1, zup (zup Sm 0 1 0) 0 2 (-1), Lm) := by
  unfold zcall
  simp (config := {maxSteps := 1000000}) (disch := omega) only [↓reduceIte, Int32.reduceLT, Int32.reduceLE, Int32.reduceToNatClampNeg, Int32.reduceAdd, Int32.reduceSub, Int32.reduceMul, Nat.reduceLeDiff, zEL, zup_ne, zup_eq, zT0, zT1, zT2, if_true, if_false, layS, ze_171, s171_0, s171_1, s171_2, s171_5, s171_6, s171_7, s171_10, s171_11]
theorem t88 : zcall 88 [.ref 1] zRc S L = some (none, zRc, zup S 1 1 0, L) := by
  unfold zcall
  simp (config := {maxSteps := 1000000}) (disch := omega) only [↓reduceIte, Int32.reduceLT, Int32.reduceLE, Int32.reduceToNatClampNeg, Int32.reduceAdd, Int32.reduceSub, Int32.reduceMul, Nat.reduceLeDiff, zEL, zup_ne, zup_eq, zT0, zT1, zT2, if_true, if_false, gX, gR, ze_88, s88_0, s88_1, s88_2, s88_5]
def zsh_0 (S : zS) : zS := S
def zsh_1 (S : zS) : zS := fun j k => if j < 11 then S j k else S (j + 30) k
theorem zsh_lt_0 {j k : Nat} (h : j < 11) : zsh_0 S j k = S j k := rfl
theorem zsh_lt_1 {j k : Nat} (h : j < 11) : zsh_1 S j k = S j k := if_pos h
theorem zsh_ge_0 {j k : Nat} (h : 11 ≤ j) : zsh_0 S j k = S j k := rfl
theorem zsh_ge_1 {j k : Nat} (h : 11 ≤ j) : zsh_1 S j k = S (j + 30) k := if_neg (by omega)
def zLsh (S : zL) : zL := fun j k => if j < 11 then S j k else S (j + 30) k
theorem zPA_sh_0 {N : Nat} (h : zPA_162 11 N S Sm L Lm) : ∃ Lm', zPA_162 11 N S (zsh_0 Sm) L Lm' := ⟨_, h⟩
theorem zPA_sh_1 {N : Nat} (h : zPA_162 41 N S Sm L Lm) : ∃ Lm', zPA_162 11 N S (zsh_1 Sm) L Lm' := ⟨zLsh Lm, h⟩
/-- a FAULT: the state keeps -/
theorem zMD_fr3 {S' Sm' : zS} (h : zMD c S Sm) (h1 : ∀ j k, 4 ≤ j ∧ j ≤ 79 → S' j k = S j k) (h2 : ∀ j k, 11 ≤ j ∧ j ≤ 40 → Sm' j k = Sm j k) : zMD c S' Sm' := by
  unfold zMD at h ⊢
  have e1 : ∀ j, 4 ≤ j ∧ j ≤ 79 → S' j = S j := fun j hj => funext fun k => h1 j k hj
  have e2 : ∀ j, 11 ≤ j ∧ j ≤ 40 → Sm' j = Sm j := fun j hj => funext fun k => h2 j k hj
  simp (disch := omega) only [e1, e2]
  exact h
def zrelD (j k : Nat) : Prop := (j = 0 ∧ (k = 11 ∨ k = 12 ∨ k = 13)) ∨ (4 ≤ j ∧ j ≤ 79) ∨ (168 ≤ j ∧ j ≤ 180) ∨ (209 ≤ j ∧ j ≤ 284) ∨ j = 292
theorem zTM_hd {S' Sm' : zS} (h : zTM c S Sm) (hh : zHD S' Sm') (h1 : ∀ j k, zrelD j k → S' j k = S j k) (h2 : ∀ j k, (j = 0 ∧ 18 < k) ∨ (2 ≤ j ∧ j < 41) → Sm' j k = Sm j k) (ro' : zRO S') : zTM c S' Sm' := by
  unfold zrelD at h1
  obtain ⟨-, b1, hM, hG, ⟨mk, hmk, m1, m2, m3⟩, ⟨se, hse, s1, s2, s3, s4⟩, ro⟩ := h
  have b0 : c 0 ≤ 8 := hM.1.2.1
  have b2 : c 1 ≤ 8 := hM.1.2.2.1
  refine ⟨hh, ?_, ?_, ?_, ⟨mk, hmk, ?_, ?_, fun m hm => ?_⟩, ⟨se, hse, ?_, ?_, fun k hk => ?_, fun a ha => ?_⟩, ro'⟩
  · rw [h1 _ _ (by omega)]
    exact b1
  · exact zMD_fr3 hM (fun j k hj => h1 j k (by omega)) (fun j k hj => h2 j k (by omega))
  · exact zGD_fr hG b0 b2 (fun j k hj => h1 j k (by omega)) (fun k hk => h2 2 k (by omega))
  · rw [h1 _ _ (by omega)]
    exact m1
  · rw [h2 _ _ (by omega)]
    exact m2
  · exact zGD_fr (m3 m hm) b0 b2 (fun j k hj => h1 j k (by omega)) (fun k hk => h2 3 _ (by omega))
  · rw [h1 _ _ (by omega)]
    exact s1
  · rw [h2 _ _ (by omega)]
    exact s2
  · rw [h2 _ _ (by omega)]
    exact s3 k hk
  · rw [h1 _ _ (by omega)]
    have e : Sm' 10 = Sm 10 := funext fun k => h2 10 k (by omega)
    rw [e]
    exact s4 a ha
theorem zTU_hd {S' Sm' : zS} (h : zTU S Sm) (hh : zHD S' Sm') (h1 : ∀ j k, zrelD j k → S' j k = S j k) (ro' : zRO S') : zTU S' Sm' := by
  unfold zrelD at h1
  obtain ⟨-, b1, b2, b3, b4, b5, ro⟩ := h
  refine ⟨hh, ?_, ?_, ?_, ?_, ?_, ro'⟩
  · rw [h1 _ _ (by omega)]
    exact b1
  · rw [h1 12 7 (by omega), h1 25 7 (by omega), h1 38 7 (by omega), h1 51 7 (by omega), h1 64 4 (by omega), h1 5 3 (by omega), h1 73 3 (by omega)]
    exact b2
  · rw [h1 168 7 (by omega), h1 168 8 (by omega), h1 168 9 (by omega), h1 7 0 (by omega)]
    exact b3
  · rw [h1 _ _ (by omega)]
    exact b4
  · rw [h1 _ _ (by omega)]
    exact b5
/-- a FAULT -/
theorem eF_0 {v : Int32} {f : Nat} (f1 : 1 ≤ f) (f6 : f ≤ 6) (h15 : S 0 15 = nI f) (h13 : Sm 0 13 = nI f) (h7 : S 80 7 = Sm 0 14) (m6 : Sm 0 6 = 0) : ∃ S' Sm', zgo 104 49 [.ref 0, .int v] [] zRc S L = some (some (.int (-1)), zRc, S', L) ∧ zgo 204 67 [.ref 0, .int v] [] zRp0 Sm Lm = some (some (.int (-1)), zRp0, Sm', Lm) ∧ zHD S' Sm' ∧ (∀ j k, (j ≠ 1 ∨ k ≠ 1) → (j ≠ 0 ∨ (k ≠ 14 ∧ k ≠ 16)) → S' j k = S j k) ∧ (∀ j k, (j ≠ 0 ∨ 2 < k) → Sm' j k = Sm j k) := by
  have r0 := zLT_0
  unfold zLT at r0
  have n0 : ¬ nI f = 0 := znI_n0 f1 f6
  have l0 : (nI f ≤ 0) = False := eq_false (fun h => by have := (znI_le (a := f) (b := 0) (by omega) (by omega)).mp h; omega)
  refine ⟨zup (zup (zup S 1 1 0) 0 16 (S 80 7)) 0 14 4, zup (zup Sm 0 1 4) 0 2 (Sm 0 14), ?_, ?_, ⟨?_, ?_, ?_, 0, by omega, ?_, ?_, fun i hi => absurd hi (Nat.not_lt_zero i)⟩, fun j k h1 h2 => ?_, fun j k h => ?_⟩
  · simp (config := {maxSteps := 1000000}) (disch := omega) only [↓reduceIte, Int32.reduceLT, Int32.reduceLE, Int32.reduceToNatClampNeg, Int32.reduceAdd, Int32.reduceSub, Int32.reduceMul, Nat.reduceLeDiff, zEL, zup_ne, zup_eq, zT0, zT1, zT2, if_true, if_false, gX, gR, gT, tEC, t88, s104_49, s104_50, s104_53, s104_56, s104_57, s104_60, s104_63, s104_64, s104_65, s104_68, s104_71, s104_74, s104_75, s104_76, s104_79, h15, n0]
  · simp (config := {maxSteps := 1000000}) (disch := omega) only [↓reduceIte, Int32.reduceLT, Int32.reduceLE, Int32.reduceToNatClampNeg, Int32.reduceAdd, Int32.reduceSub, Int32.reduceMul, Nat.reduceLeDiff, zEL, zup_ne, zup_eq, zT0, zT1, zT2, if_true, if_false, r0, s204_67, s204_68, s204_71, s204_74, s204_75, s204_76, s204_79, s204_80, s204_81, s204_84, s204_87, s204_88, h13, l0]
  · rw [zup_eq rfl rfl, zup_ne (by omega), zup_eq rfl rfl]
  · rw [zup_eq rfl rfl, if_pos rfl, zup_ne (by omega), zup_eq rfl rfl, zup_eq rfl rfl, h7]
  · rw [zup_ne (by omega), zup_ne (by omega), zup_ne (by omega), zup_ne (by omega), zup_ne (by omega), h15, h13]
  · rw [zup_ne (by omega), zup_ne (by omega), zup_eq rfl rfl]
    rfl
  · rw [zup_ne (by omega), zup_ne (by omega), m6]
    rfl
  · rw [zup_ne (by omega), zup_ne (by omega), zup_ne (by omega)]
  · rw [zup_ne (by omega), zup_ne (by omega)]
/-- a MATCH is taken -/
theorem eM_0 {v : Int32} {N : Nat} (hA : zPA_162 11 N S Sm L Lm) (g0 : ¬ S 4 0 = 0) (g1 : ¬ S 5 3 = 0) (g2 : ¬ S 12 7 = 0) (h15 : S 0 15 = 0) (h13 : Sm 0 13 = 0) (m6 : Sm 0 6 = 0) (hro : zRO S) : ∃ w c S' Sm', zgo 104 49 [.ref 0, .int v] [] zRc S L = some (some (.int w), zRc, S', L) ∧ zgo 204 67 [.ref 0, .int v] [] zRp0 Sm Lm = some (some (.int w), (zRm1 (.ref 11)), Sm', Lm) ∧ zTM c S' (zsh_0 Sm') := by
  have r0 := zLT_0
  unfold zLT at r0
  have rB := zLB_0
  unfold zLB at rB
  have rB0 := rB.1
  have hp3 : ∀ (S : zS) (L : zL), zputf zRp0 S L 0 13 3 (.ref 11) = some ((zRm1 (.ref 11)), S, L) := fun _ _ => rfl
  obtain ⟨Lq, hq⟩ := zPA_sh_0 hA
  obtain ⟨c, hM⟩ := zMD_of hq g0 g1 g2
  obtain ⟨c0, c08, c18, -, -, -, c51, c55, -⟩ := hM.1
  have e57 : S 5 3 = nI (c 5) := hM.2.1.2.2.2.2.2.1
  have e127 : S 12 7 = nI (c 0) := hM.2.1.1
  have m8 : Sm 11 8 = nI (c 0) := hM.2.2.1.1
  have m7 : Sm 11 7 = nI (c 1) := hM.2.2.1.2.1
  have m14 : Sm 11 14 = S 7 0 := hM.2.2.2.2.2.2.2.2.2.2.2.2.2
  obtain ⟨⟨h0, h24, e70⟩, -⟩ := hM.2.2.2.2.2.2.2.2.2.2.2.1 0 (by omega)
  obtain ⟨C, hC⟩ : ∃ C, C = zclear (zup (zup (zup (zup S 1 1 0) 0 13 1) 0 11 0) 0 12 0) 292 3 := ⟨_, rfl⟩
  have C0 : C 0 13 = 1 ∧ C 0 11 = 0 ∧ C 0 12 = 0 := by
    refine ⟨?_, ?_, ?_⟩
    · rw [hC, zclear_ne (by omega), zup_ne (by omega), zup_ne (by omega), zup_eq rfl rfl]
    · rw [hC, zclear_ne (by omega), zup_ne (by omega), zup_eq rfl rfl]
    · rw [hC, zclear_ne (by omega), zup_eq rfl rfl]
  have C1 : C 1 1 = 0 := by rw [hC, zclear_ne (by omega), zup_ne (by omega), zup_ne (by omega), zup_ne (by omega), zup_eq rfl rfl]
  have C292 : ∀ a, a < 3 → C 292 a = 0 := fun a ha => by rw [hC, zclear_eq rfl ha]
  have Cf : ∀ j k, (j ≠ 0 ∨ (k ≠ 11 ∧ k ≠ 12 ∧ k ≠ 13)) → (j ≠ 1 ∨ k ≠ 1) → j ≠ 292 → C j k = S j k := fun j k a b d => by rw [hC, zclear_ne d, zup_ne (by omega), zup_ne (by omega), zup_ne (by omega), zup_ne (by omega)]
  obtain ⟨Z, hZ⟩ : ∃ Z, Z = zup (zup (zup Sm 0 22 0) 0 28 0) 2 0 (Sm 11 14) := ⟨_, rfl⟩
  have Zf : ∀ j k, (j ≠ 0 ∨ (k ≠ 22 ∧ k ≠ 28)) → (j ≠ 2 ∨ k ≠ 0) → Z j k = Sm j k := fun j k a b => by rw [hZ, zup_ne (by omega), zup_ne (by omega), zup_ne (by omega)]
  have Z20 : Z 2 0 = nI h0 := by rw [hZ, zup_eq rfl rfl, m14, e70]
  have Z0 : Z 0 22 = 0 ∧ Z 0 28 = 0 := by
    refine ⟨?_, ?_⟩
    · rw [hZ, zup_ne (by omega), zup_ne (by omega), zup_eq rfl rfl]
    · rw [hZ, zup_ne (by omega), zup_eq rfl rfl]
  have z8 : Z 11 8 = nI (c 0) := (Zf _ _ (by omega) (by omega)).trans m8
  have z7 : Z 11 7 = nI (c 1) := (Zf _ _ (by omega) (by omega)).trans m7
  obtain ⟨X, x1, x2, x3, x4, x5, x6, x7, x8, x9⟩ := t207 (v := 0) (Sm := Z) (Lm := Lm) (rd := .ref 11) z8 c08 z7 c18
  have hM2 : zMD c C (zsh_0 Z) := zMD_fr2 hM (fun j k hj => Cf j k (by omega) (by omega) (by omega)) (fun j k hj => by
    rw [zsh_ge_0 hj, zsh_ge_0 hj]
    exact Zf _ _ (by omega) (by omega))
  obtain ⟨o, ho, k77⟩ := t77 (S := C) (L := L) (n := c 5) (nI h0) ((Cf 5 3 (by omega) (by omega) (by omega)).trans e57) c55
  have C70 : C 7 0 = nI h0 := (Cf 7 0 (by omega) (by omega) (by omega)).trans e70
  rcases o with _ | i
  · exact absurd C70 (ho 0 (by omega))
  obtain ⟨i1, i2, i3⟩ := ho
  obtain ⟨D, d1, d2, d3, d4⟩ := t12x (L := L) (X := zsh_0 X) (s := 0) hM2 (by omega) i1 h24 i2 i3 Z20 (fun j k hj => by
    rcases Nat.lt_or_ge j 11 with h | h
    · rw [zsh_lt_0 h, zsh_lt_0 h]
      exact x2 j k hj
    · rw [zsh_ge_0 h, zsh_ge_0 h]
      exact x2 _ k (by omega)) x3 x4 x5 x6 x7 x8 x9
  have d1' : zcall 12 [.ref 168, .int 0, .int (nI i)] zRc C L = some (none, zRc, D, L) := d1
  have k77' : zcall 77 [.ref 5, .int (nI h0)] zRc C L = some (some (.int (nI i)), zRc, C, L) := k77
  have zr : zrd C 7 5 0 = nI h0 := (zrd_nI (j := 0) (by omega) (by omega)).trans C70
  have D127 : D 12 7 = nI (c 0) := by rw [d4 _ _ (by omega), Cf _ _ (by omega) (by omega) (by omega)]; exact e127
  have x118 : X 11 8 = nI (c 0) := (x2 _ _ (by omega)).trans z8
  have x06 : X 0 6 = 0 := by rw [x2 _ _ (by omega), Zf _ _ (by omega) (by omega)]; exact m6
  have x013 : X 0 13 = 0 := by rw [x2 _ _ (by omega), Zf _ _ (by omega) (by omega)]; exact h13
  have x022 : X 0 22 = 0 := by rw [x2 _ _ (by omega)]; exact Z0.1
  have x028 : X 0 28 = 0 := by rw [x2 _ _ (by omega)]; exact Z0.2
  have Df : ∀ j k, (j < 168 ∨ 186 < j) → zup D 0 14 0 j k = (if j = 0 ∧ k = 14 then 0 else C j k) := fun j k hj => by
    by_cases e : j = 0 ∧ k = 14
    · rw [if_pos e, zup_eq e.1 e.2]
    · rw [if_neg e, zup_ne (by omega), d4 j k hj]
  refine ⟨nI (c 0), c, zup D 0 14 0, zup (zup X 0 1 0) 0 2 (-1), ?_, ?_, ?_⟩
  · simp (config := {maxSteps := 1000000}) (disch := omega) only [↓reduceIte, Int32.reduceLT, Int32.reduceLE, Int32.reduceToNatClampNeg, Int32.reduceAdd, Int32.reduceSub, Int32.reduceMul, Nat.reduceLeDiff, zEL, zup_ne, zup_eq, zT0, zT1, zT2, if_true, if_false, gX, gR, gM, g168, tEC, t88, rc_291, s104_49, s104_50, s104_53, s104_56, s104_57, s104_60, s104_63, s104_64, s104_65, s104_68, s104_71, s104_74, s104_75, s104_76, s104_79, s104_80, s104_81, s104_82, s104_85, s104_86, s104_87, s104_90, s104_91, s104_92, s104_95, s104_96, s104_99, s104_102, s104_103, s104_106, s104_107, s104_108, s104_111, s104_114, s104_115, s104_118, s104_121, s104_124, s104_125, s104_128, s104_131, s104_134, s104_135, s104_136, s104_139, s104_142, s104_145, s104_148, h15, ← hC, zr, k77', d1', D127]
  · simp (config := {maxSteps := 1000000}) (disch := omega) only [↓reduceIte, Int32.reduceLT, Int32.reduceLE, Int32.reduceToNatClampNeg, Int32.reduceAdd, Int32.reduceSub, Int32.reduceMul, Nat.reduceLeDiff, zEL, zup_ne, zup_eq, zT0, zT1, zT2, if_true, if_false, r0, rB0, hp3, layM1, t171_1, s204_67, s204_68, s204_71, s204_74, s204_75, s204_76, s204_79, s204_80, s204_81, s204_84, s204_87, s204_88, s204_89, s204_90, s204_91, s204_94, s204_97, s204_98, s204_99, s204_102, s204_103, s204_104, s204_107, s204_108, s204_111, s204_112, s204_113, s204_116, s204_119, s204_120, s204_121, s204_122, s204_125, s204_126, s204_127, s204_130, s204_133, s204_136, h13, ← hZ, x1, x118]
  · refine ⟨⟨?_, ?_, ?_, 0, by omega, ?_, ?_, fun i hi => absurd hi (Nat.not_lt_zero i)⟩, ?_, ?_, ?_, ⟨0, by omega, ?_, ?_, fun m hm => absurd hm (Nat.not_lt_zero m)⟩, ⟨0, by omega, ?_, ?_, fun k hk => absurd hk (Nat.not_lt_zero k), fun a ha => ?_⟩, ?_⟩
    · rw [zup_eq rfl rfl, zsh_lt_0 (by omega), zup_ne (by omega), zup_eq rfl rfl]
    · rw [zup_eq rfl rfl, if_neg (by decide), zsh_lt_0 (by omega), zup_eq rfl rfl]
    · rw [Df _ _ (by omega), if_neg (by omega), Cf _ _ (by omega) (by omega) (by omega), h15, zsh_lt_0 (by omega), zup_ne (by omega), zup_ne (by omega), x013]
    · rw [Df _ _ (by omega), if_neg (by omega), C1]
      rfl
    · rw [zsh_lt_0 (by omega), zup_ne (by omega), zup_ne (by omega), x06]
      rfl
    · rw [Df _ _ (by omega), if_neg (by omega)]
      exact C0.1
    · exact zMD_fr2 d2 (fun j k hj => by rw [zup_ne (by omega)]) (fun j k hj => by
        rw [zsh_ge_0 hj, zsh_ge_0 hj, zup_ne (by omega), zup_ne (by omega)])
    · exact zGD_fr d3 c08 c18 (fun j k hj => by rw [zup_ne (by omega)]) (fun k hk => by
        rw [zsh_lt_0 (by omega), zsh_lt_0 (by omega), zup_ne (by omega), zup_ne (by omega)])
    · rw [Df _ _ (by omega), if_neg (by omega), C0.2.1]
      rfl
    · rw [zsh_lt_0 (by omega), zup_ne (by omega), zup_ne (by omega), x022]
      rfl
    · rw [Df _ _ (by omega), if_neg (by omega), C0.2.2]
      rfl
    · rw [zsh_lt_0 (by omega), zup_ne (by omega), zup_ne (by omega), x028]
      rfl
    · rw [Df _ _ (by omega), if_neg (by omega), C292 a ha]
      rfl
    · refine zRO_fr hro (fun j k hj => ?_)
      rw [Df _ _ (by omega), if_neg (by omega), Cf _ _ (by omega) (by omega) (by omega)]
/-- a FAULT -/
theorem eF_1 {v : Int32} {f : Nat} (f1 : 1 ≤ f) (f6 : f ≤ 6) (h15 : S 0 15 = nI f) (h13 : Sm 0 13 = nI f) (h7 : S 80 7 = Sm 0 14) (m6 : Sm 0 6 = 0) : ∃ S' Sm', zgo 104 49 [.ref 0, .int v] [] zRc S L = some (some (.int (-1)), zRc, S', L) ∧ zgo 204 67 [.ref 0, .int v] [] zRp1 Sm Lm = some (some (.int (-1)), zRp1, Sm', Lm) ∧ zHD S' Sm' ∧ (∀ j k, (j ≠ 1 ∨ k ≠ 1) → (j ≠ 0 ∨ (k ≠ 14 ∧ k ≠ 16)) → S' j k = S j k) ∧ (∀ j k, (j ≠ 0 ∨ 2 < k) → Sm' j k = Sm j k) := by
  have r0 := zLT_1
  unfold zLT at r0
  have n0 : ¬ nI f = 0 := znI_n0 f1 f6
  have l0 : (nI f ≤ 0) = False := eq_false (fun h => by have := (znI_le (a := f) (b := 0) (by omega) (by omega)).mp h; omega)
  refine ⟨zup (zup (zup S 1 1 0) 0 16 (S 80 7)) 0 14 4, zup (zup Sm 0 1 4) 0 2 (Sm 0 14), ?_, ?_, ⟨?_, ?_, ?_, 0, by omega, ?_, ?_, fun i hi => absurd hi (Nat.not_lt_zero i)⟩, fun j k h1 h2 => ?_, fun j k h => ?_⟩
  · simp (config := {maxSteps := 1000000}) (disch := omega) only [↓reduceIte, Int32.reduceLT, Int32.reduceLE, Int32.reduceToNatClampNeg, Int32.reduceAdd, Int32.reduceSub, Int32.reduceMul, Nat.reduceLeDiff, zEL, zup_ne, zup_eq, zT0, zT1, zT2, if_true, if_false, gX, gR, gT, tEC, t88, s104_49, s104_50, s104_53, s104_56, s104_57, s104_60, s104_63, s104_64, s104_65, s104_68, s104_71, s104_74, s104_75, s104_76, s104_79, h15, n0]
  · simp (config := {maxSteps := 1000000}) (disch := omega) only [↓reduceIte, Int32.reduceLT, Int32.reduceLE, Int32.reduceToNatClampNeg, Int32.reduceAdd, Int32.reduceSub, Int32.reduceMul, Nat.reduceLeDiff, zEL, zup_ne, zup_eq, zT0, zT1, zT2, if_true, if_false, r0, s204_67, s204_68, s204_71, s204_74, s204_75, s204_76, s204_79, s204_80, s204_81, s204_84, s204_87, s204_88, h13, l0]
  · rw [zup_eq rfl rfl, zup_ne (by omega), zup_eq rfl rfl]
  · rw [zup_eq rfl rfl, if_pos rfl, zup_ne (by omega), zup_eq rfl rfl, zup_eq rfl rfl, h7]
  · rw [zup_ne (by omega), zup_ne (by omega), zup_ne (by omega), zup_ne (by omega), zup_ne (by omega), h15, h13]
  · rw [zup_ne (by omega), zup_ne (by omega), zup_eq rfl rfl]
    rfl
  · rw [zup_ne (by omega), zup_ne (by omega), m6]
    rfl
  · rw [zup_ne (by omega), zup_ne (by omega), zup_ne (by omega)]
  · rw [zup_ne (by omega), zup_ne (by omega)]
/-- a MATCH is taken -/
theorem eM_1 {v : Int32} {N : Nat} (hA : zPA_162 41 N S Sm L Lm) (g0 : ¬ S 4 0 = 0) (g1 : ¬ S 5 3 = 0) (g2 : ¬ S 12 7 = 0) (h15 : S 0 15 = 0) (h13 : Sm 0 13 = 0) (m6 : Sm 0 6 = 0) (hro : zRO S) : ∃ w c S' Sm', zgo 104 49 [.ref 0, .int v] [] zRc S L = some (some (.int w), zRc, S', L) ∧ zgo 204 67 [.ref 0, .int v] [] zRp1 Sm Lm = some (some (.int w), zRs1, Sm', Lm) ∧ zTM c S' (zsh_1 Sm') := by
  have r0 := zLT_1
  unfold zLT at r0
  have rB := zLB_1
  unfold zLB at rB
  have rB0 := rB.1
  have hp3 : ∀ (S : zS) (L : zL), zputf zRp1 S L 0 13 3 (.ref 41) = some (zRs1, S, L) := fun _ _ => rfl
  obtain ⟨Lq, hq⟩ := zPA_sh_1 hA
  obtain ⟨c, hM⟩ := zMD_of hq g0 g1 g2
  obtain ⟨c0, c08, c18, -, -, -, c51, c55, -⟩ := hM.1
  have e57 : S 5 3 = nI (c 5) := hM.2.1.2.2.2.2.2.1
  have e127 : S 12 7 = nI (c 0) := hM.2.1.1
  have m8 : Sm 41 8 = nI (c 0) := hM.2.2.1.1
  have m7 : Sm 41 7 = nI (c 1) := hM.2.2.1.2.1
  have m14 : Sm 41 14 = S 7 0 := hM.2.2.2.2.2.2.2.2.2.2.2.2.2
  obtain ⟨⟨h0, h24, e70⟩, -⟩ := hM.2.2.2.2.2.2.2.2.2.2.2.1 0 (by omega)
  obtain ⟨C, hC⟩ : ∃ C, C = zclear (zup (zup (zup (zup S 1 1 0) 0 13 1) 0 11 0) 0 12 0) 292 3 := ⟨_, rfl⟩
  have C0 : C 0 13 = 1 ∧ C 0 11 = 0 ∧ C 0 12 = 0 := by
    refine ⟨?_, ?_, ?_⟩
    · rw [hC, zclear_ne (by omega), zup_ne (by omega), zup_ne (by omega), zup_eq rfl rfl]
    · rw [hC, zclear_ne (by omega), zup_ne (by omega), zup_eq rfl rfl]
    · rw [hC, zclear_ne (by omega), zup_eq rfl rfl]
  have C1 : C 1 1 = 0 := by rw [hC, zclear_ne (by omega), zup_ne (by omega), zup_ne (by omega), zup_ne (by omega), zup_eq rfl rfl]
  have C292 : ∀ a, a < 3 → C 292 a = 0 := fun a ha => by rw [hC, zclear_eq rfl ha]
  have Cf : ∀ j k, (j ≠ 0 ∨ (k ≠ 11 ∧ k ≠ 12 ∧ k ≠ 13)) → (j ≠ 1 ∨ k ≠ 1) → j ≠ 292 → C j k = S j k := fun j k a b d => by rw [hC, zclear_ne d, zup_ne (by omega), zup_ne (by omega), zup_ne (by omega), zup_ne (by omega)]
  obtain ⟨Z, hZ⟩ : ∃ Z, Z = zup (zup (zup Sm 0 22 0) 0 28 0) 2 0 (Sm 41 14) := ⟨_, rfl⟩
  have Zf : ∀ j k, (j ≠ 0 ∨ (k ≠ 22 ∧ k ≠ 28)) → (j ≠ 2 ∨ k ≠ 0) → Z j k = Sm j k := fun j k a b => by rw [hZ, zup_ne (by omega), zup_ne (by omega), zup_ne (by omega)]
  have Z20 : Z 2 0 = nI h0 := by rw [hZ, zup_eq rfl rfl, m14, e70]
  have Z0 : Z 0 22 = 0 ∧ Z 0 28 = 0 := by
    refine ⟨?_, ?_⟩
    · rw [hZ, zup_ne (by omega), zup_ne (by omega), zup_eq rfl rfl]
    · rw [hZ, zup_ne (by omega), zup_eq rfl rfl]
  have z8 : Z 41 8 = nI (c 0) := (Zf _ _ (by omega) (by omega)).trans m8
  have z7 : Z 41 7 = nI (c 1) := (Zf _ _ (by omega) (by omega)).trans m7
  obtain ⟨X, x1, x2, x3, x4, x5, x6, x7, x8, x9⟩ := t207S (v := 0) (Sm := Z) (Lm := Lm)  z8 c08 z7 c18
  have hM2 : zMD c C (zsh_1 Z) := zMD_fr2 hM (fun j k hj => Cf j k (by omega) (by omega) (by omega)) (fun j k hj => by
    rw [zsh_ge_1 hj, zsh_ge_1 hj]
    exact Zf _ _ (by omega) (by omega))
  obtain ⟨o, ho, k77⟩ := t77 (S := C) (L := L) (n := c 5) (nI h0) ((Cf 5 3 (by omega) (by omega) (by omega)).trans e57) c55
  have C70 : C 7 0 = nI h0 := (Cf 7 0 (by omega) (by omega) (by omega)).trans e70
  rcases o with _ | i
  · exact absurd C70 (ho 0 (by omega))
  obtain ⟨i1, i2, i3⟩ := ho
  obtain ⟨D, d1, d2, d3, d4⟩ := t12x (L := L) (X := zsh_1 X) (s := 0) hM2 (by omega) i1 h24 i2 i3 Z20 (fun j k hj => by
    rcases Nat.lt_or_ge j 11 with h | h
    · rw [zsh_lt_1 h, zsh_lt_1 h]
      exact x2 j k hj
    · rw [zsh_ge_1 h, zsh_ge_1 h]
      exact x2 _ k (by omega)) x3 x4 x5 x6 x7 x8 x9
  have d1' : zcall 12 [.ref 168, .int 0, .int (nI i)] zRc C L = some (none, zRc, D, L) := d1
  have k77' : zcall 77 [.ref 5, .int (nI h0)] zRc C L = some (some (.int (nI i)), zRc, C, L) := k77
  have zr : zrd C 7 5 0 = nI h0 := (zrd_nI (j := 0) (by omega) (by omega)).trans C70
  have D127 : D 12 7 = nI (c 0) := by rw [d4 _ _ (by omega), Cf _ _ (by omega) (by omega) (by omega)]; exact e127
  have x118 : X 41 8 = nI (c 0) := (x2 _ _ (by omega)).trans z8
  have x06 : X 0 6 = 0 := by rw [x2 _ _ (by omega), Zf _ _ (by omega) (by omega)]; exact m6
  have x013 : X 0 13 = 0 := by rw [x2 _ _ (by omega), Zf _ _ (by omega) (by omega)]; exact h13
  have x022 : X 0 22 = 0 := by rw [x2 _ _ (by omega)]; exact Z0.1
  have x028 : X 0 28 = 0 := by rw [x2 _ _ (by omega)]; exact Z0.2
  have Df : ∀ j k, (j < 168 ∨ 186 < j) → zup D 0 14 0 j k = (if j = 0 ∧ k = 14 then 0 else C j k) := fun j k hj => by
    by_cases e : j = 0 ∧ k = 14
    · rw [if_pos e, zup_eq e.1 e.2]
    · rw [if_neg e, zup_ne (by omega), d4 j k hj]
  refine ⟨nI (c 0), c, zup D 0 14 0, zup (zup X 0 1 0) 0 2 (-1), ?_, ?_, ?_⟩
  · simp (config := {maxSteps := 1000000}) (disch := omega) only [↓reduceIte, Int32.reduceLT, Int32.reduceLE, Int32.reduceToNatClampNeg, Int32.reduceAdd, Int32.reduceSub, Int32.reduceMul, Nat.reduceLeDiff, zEL, zup_ne, zup_eq, zT0, zT1, zT2, if_true, if_false, gX, gR, gM, g168, tEC, t88, rc_291, s104_49, s104_50, s104_53, s104_56, s104_57, s104_60, s104_63, s104_64, s104_65, s104_68, s104_71, s104_74, s104_75, s104_76, s104_79, s104_80, s104_81, s104_82, s104_85, s104_86, s104_87, s104_90, s104_91, s104_92, s104_95, s104_96, s104_99, s104_102, s104_103, s104_106, s104_107, s104_108, s104_111, s104_114, s104_115, s104_118, s104_121, s104_124, s104_125, s104_128, s104_131, s104_134, s104_135, s104_136, s104_139, s104_142, s104_145, s104_148, h15, ← hC, zr, k77', d1', D127]
  · simp (config := {maxSteps := 1000000}) (disch := omega) only [↓reduceIte, Int32.reduceLT, Int32.reduceLE, Int32.reduceToNatClampNeg, Int32.reduceAdd, Int32.reduceSub, Int32.reduceMul, Nat.reduceLeDiff, zEL, zup_ne, zup_eq, zT0, zT1, zT2, if_true, if_false, r0, rB0, hp3, layS, t171S, s204_67, s204_68, s204_71, s204_74, s204_75, s204_76, s204_79, s204_80, s204_81, s204_84, s204_87, s204_88, s204_89, s204_90, s204_91, s204_94, s204_97, s204_98, s204_99, s204_102, s204_103, s204_104, s204_107, s204_108, s204_111, s204_112, s204_113, s204_116, s204_119, s204_120, s204_121, s204_122, s204_125, s204_126, s204_127, s204_130, s204_133, s204_136, h13, ← hZ, x1, x118]
  · refine ⟨⟨?_, ?_, ?_, 0, by omega, ?_, ?_, fun i hi => absurd hi (Nat.not_lt_zero i)⟩, ?_, ?_, ?_, ⟨0, by omega, ?_, ?_, fun m hm => absurd hm (Nat.not_lt_zero m)⟩, ⟨0, by omega, ?_, ?_, fun k hk => absurd hk (Nat.not_lt_zero k), fun a ha => ?_⟩, ?_⟩
    · rw [zup_eq rfl rfl, zsh_lt_1 (by omega), zup_ne (by omega), zup_eq rfl rfl]
    · rw [zup_eq rfl rfl, if_neg (by decide), zsh_lt_1 (by omega), zup_eq rfl rfl]
    · rw [Df _ _ (by omega), if_neg (by omega), Cf _ _ (by omega) (by omega) (by omega), h15, zsh_lt_1 (by omega), zup_ne (by omega), zup_ne (by omega), x013]
    · rw [Df _ _ (by omega), if_neg (by omega), C1]
      rfl
    · rw [zsh_lt_1 (by omega), zup_ne (by omega), zup_ne (by omega), x06]
      rfl
    · rw [Df _ _ (by omega), if_neg (by omega)]
      exact C0.1
    · exact zMD_fr2 d2 (fun j k hj => by rw [zup_ne (by omega)]) (fun j k hj => by
        rw [zsh_ge_1 hj, zsh_ge_1 hj, zup_ne (by omega), zup_ne (by omega)])
    · exact zGD_fr d3 c08 c18 (fun j k hj => by rw [zup_ne (by omega)]) (fun k hk => by
        rw [zsh_lt_1 (by omega), zsh_lt_1 (by omega), zup_ne (by omega), zup_ne (by omega)])
    · rw [Df _ _ (by omega), if_neg (by omega), C0.2.1]
      rfl
    · rw [zsh_lt_1 (by omega), zup_ne (by omega), zup_ne (by omega), x022]
      rfl
    · rw [Df _ _ (by omega), if_neg (by omega), C0.2.2]
      rfl
    · rw [zsh_lt_1 (by omega), zup_ne (by omega), zup_ne (by omega), x028]
      rfl
    · rw [Df _ _ (by omega), if_neg (by omega), C292 a ha]
      rfl
    · refine zRO_fr hro (fun j k hj => ?_)
      rw [Df _ _ (by omega), if_neg (by omega), Cf _ _ (by omega) (by omega) (by omega)]
/-- match, where none is told -/
theorem u_104 {v : Int32} (hrd : rd = .null ∨ ∃ q, rd = .ref q) (h : zTU S Sm) : ∃ w S' L' R' Sm' Lm', zcall 104 [.ref 0, .int v] zRc S L = some (some (.int w), zRc, S', L') ∧ zcall 204 [.ref 0, .int v] (zRm0 rd) Sm Lm = some (some (.int w), R', Sm', Lm') ∧ ((R' = zRm0 rd ∧ zTU S' Sm') ∨ (R' = zRp0 ∧ zTU S' Sm') ∨ (R' = zRm1 (.ref 11) ∧ ∃ c, zTM c S' Sm')) := by
  rcases u_104r (L := L) (Lm := Lm) (rd := rd) (v := v) h with ⟨S', Sm', a1, a2, a3⟩ | ⟨len, n, hl, hn, rfl, h1, h6⟩
  · exact ⟨_, S', L, _, Sm', Lm, a1, a2, .inl ⟨rfl, a3⟩⟩
  obtain ⟨-, -, -, len', hn', a4, a5, a6⟩ := id h.1
  have el : len' = len := (znI_inj (by omega) (by omega)).mp (a4.symm.trans h1)
  subst el
  obtain ⟨S1, L1, Sm1, Lm1, b1, b2, b3, b4, b5, b6⟩ := rd2_0 (L := L) (Lm := Lm) (rd := rd) hrd h1 h6 hn hl a6 h.2.2.2.2.2.2
  rcases b6 with ⟨f, f1, f6, f15, f13, f7, ff⟩ | ⟨g15, g13, ⟨N, gA⟩, g0, g1, g2⟩
  · obtain ⟨S', Sm', c1, c2, c3, c4, c5⟩ := eF_0 (v := nI n) (L := L1) (Lm := Lm1) f1 f6 f15 f13 f7 b4
    refine ⟨_, S', L1, _, Sm', Lm1, b1.trans c1, b2.trans c2, .inr (.inl ⟨rfl, zTU_hd h c3 (fun j k hj => ?_) (zRO_fr b5 (fun j k hj => c4 j k (by omega) (by omega)))⟩)⟩
    unfold zrelD at hj
    rw [c4 j k (by omega) (by omega), ff j k (by omega) (by omega) (by omega)]
  · obtain ⟨w, c, S', Sm', c1, c2, c3⟩ := eM_0 (v := nI n) gA g0 g1 g2 g15 g13 b4 b5
    exact ⟨w, S', L1, _, Sm', Lm1, b1.trans c1, b2.trans c2, .inr (.inr ⟨rfl, c, c3⟩)⟩
/-- match, where one is told -/
theorem m_104 {v : Int32} (hrd : rd = .null ∨ ∃ q, rd = .ref q) (h : zTM c S Sm) : ∃ w S' L' R' Sm' Lm', zcall 104 [.ref 0, .int v] zRc S L = some (some (.int w), zRc, S', L') ∧ zcall 204 [.ref 0, .int v] (zRm1 rd) Sm Lm = some (some (.int w), R', Sm', Lm') ∧ ((R' = zRm1 rd ∧ zTM c S' Sm') ∨ (R' = zRp1 ∧ zTM c S' Sm') ∨ (R' = zRs1 ∧ ∃ c, zTM c S' (zsh_1 Sm'))) := by
  rcases m_104r (L := L) (Lm := Lm) (rd := rd) (v := v) h with ⟨S', Sm', a1, a2, a3⟩ | ⟨len, n, hl, hn, rfl, h1, h6⟩
  · exact ⟨_, S', L, _, Sm', Lm, a1, a2, .inl ⟨rfl, a3⟩⟩
  obtain ⟨-, -, -, len', hn', a4, a5, a6⟩ := id h.1
  have el : len' = len := (znI_inj (by omega) (by omega)).mp (a4.symm.trans h1)
  subst el
  obtain ⟨S1, L1, Sm1, Lm1, b1, b2, b3, b4, b5, b6⟩ := rd2_1 (L := L) (Lm := Lm) (rd := rd) hrd h1 h6 hn hl a6 h.2.2.2.2.2.2
  rcases b6 with ⟨f, f1, f6, f15, f13, f7, ff⟩ | ⟨g15, g13, ⟨N, gA⟩, g0, g1, g2⟩
  · obtain ⟨S', Sm', c1, c2, c3, c4, c5⟩ := eF_1 (v := nI n) (L := L1) (Lm := Lm1) f1 f6 f15 f13 f7 b4
    refine ⟨_, S', L1, _, Sm', Lm1, b1.trans c1, b2.trans c2, .inr (.inl ⟨rfl, zTM_hd h c3 (fun j k hj => ?_) (fun j k hj => ?_) (zRO_fr b5 (fun j k hj => c4 j k (by omega) (by omega)))⟩)⟩
    · unfold zrelD at hj
      rw [c4 j k (by omega) (by omega), ff j k (by omega) (by omega) (by omega)]
    · rw [c5 j k (by omega), b3 j k (by omega) (by omega)]
  · obtain ⟨w, c, S', Sm', c1, c2, c3⟩ := eM_1 (v := nI n) gA g0 g1 g2 g15 g13 b4 b5
    exact ⟨w, S', L1, _, Sm', Lm1, b1.trans c1, b2.trans c2, .inr (.inr ⟨rfl, c, c3⟩)⟩
end ZPR
