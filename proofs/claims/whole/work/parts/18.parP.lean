/-! a new Match of the reference's: the walk -/
section ZPP
variable {S : zS} {L : zL} {rd : Value}
def zQ0_0 (rd : Value) : List zE := zRm0 rd ++ [(0, 12, [.int 0, .int 0, .int 0, .int 0, .int 0, .int 0, .int 0, .int 0, .int 0, .int 0, .int 0, .int 0, .int 0, .int 0, .int 0, .null, .null, .null, .null, .null, .null, .null, .null, .null, .null, .null, .null, .null, .null, .null, .null, .null, .null, .null, .null, .null, .null, .null, .null, .null, .null, .null, .null, .null])]
def zQ0_1 (rd : Value) : List zE := zRm0 rd ++ [(0, 12, [.int 0, .int 0, .int 0, .int 0, .int 0, .int 0, .int 0, .int 0, .int 0, .int 0, .int 0, .int 0, .int 0, .int 0, .int 0, .ref 12, .null, .null, .null, .null, .null, .null, .null, .null, .null, .null, .null, .null, .null, .null, .null, .null, .null, .null, .null, .null, .null, .null, .null, .null, .null, .null, .null, .null]), (1, 24, [])]
def zQ0_2 (rd : Value) : List zE := zRm0 rd ++ [(0, 12, [.int 0, .int 0, .int 0, .int 0, .int 0, .int 0, .int 0, .int 0, .int 0, .int 0, .int 0, .int 0, .int 0, .int 0, .int 0, .ref 12, .ref 13, .null, .null, .null, .null, .null, .null, .null, .null, .null, .null, .null, .null, .null, .null, .null, .null, .null, .null, .null, .null, .null, .null, .null, .null, .null, .null, .null]), (1, 24, []), (1, 24, [])]
def zQ0_3 (rd : Value) : List zE := zRm0 rd ++ [(0, 12, [.int 0, .int 0, .int 0, .int 0, .int 0, .int 0, .int 0, .int 0, .int 0, .int 0, .int 0, .int 0, .int 0, .int 0, .int 0, .ref 12, .ref 13, .ref 14, .null, .null, .null, .null, .null, .null, .null, .null, .null, .null, .null, .null, .null, .null, .null, .null, .null, .null, .null, .null, .null, .null, .null, .null, .null, .null]), (1, 24, []), (1, 24, []), (1, 8, [])]
def zQ0_4 (rd : Value) : List zE := zRm0 rd ++ [(0, 12, [.int 0, .int 0, .int 0, .int 0, .int 0, .int 0, .int 0, .int 0, .int 0, .int 0, .int 0, .int 0, .int 0, .int 0, .int 0, .ref 12, .ref 13, .ref 14, .ref 15, .null, .null, .null, .null, .null, .null, .null, .null, .null, .null, .null, .null, .null, .null, .null, .null, .null, .null, .null, .null, .null, .null, .null, .null, .null]), (1, 24, []), (1, 24, []), (1, 8, []), (1, 8, [])]
def zQ0_5 (rd : Value) : List zE := zRm0 rd ++ [(0, 12, [.int 0, .int 0, .int 0, .int 0, .int 0, .int 0, .int 0, .int 0, .int 0, .int 0, .int 0, .int 0, .int 0, .int 0, .int 0, .ref 12, .ref 13, .ref 14, .ref 15, .ref 16, .null, .null, .null, .null, .null, .null, .null, .null, .null, .null, .null, .null, .null, .null, .null, .null, .null, .null, .null, .null, .null, .null, .null, .null]), (1, 24, []), (1, 24, []), (1, 8, []), (1, 8, []), (1, 8, [])]
def zQ0_6 (rd : Value) : List zE := zRm0 rd ++ [(0, 12, [.int 0, .int 0, .int 0, .int 0, .int 0, .int 0, .int 0, .int 0, .int 0, .int 0, .int 0, .int 0, .int 0, .int 0, .int 0, .ref 12, .ref 13, .ref 14, .ref 15, .ref 16, .ref 17, .null, .null, .null, .null, .null, .null, .null, .null, .null, .null, .null, .null, .null, .null, .null, .null, .null, .null, .null, .null, .null, .null, .null]), (1, 24, []), (1, 24, []), (1, 8, []), (1, 8, []), (1, 8, []), (1, 8, [])]
def zQ0_7 (rd : Value) : List zE := zRm0 rd ++ [(0, 12, [.int 0, .int 0, .int 0, .int 0, .int 0, .int 0, .int 0, .int 0, .int 0, .int 0, .int 0, .int 0, .int 0, .int 0, .int 0, .ref 12, .ref 13, .ref 14, .ref 15, .ref 16, .ref 17, .ref 18, .null, .null, .null, .null, .null, .null, .null, .null, .null, .null, .null, .null, .null, .null, .null, .null, .null, .null, .null, .null, .null, .null]), (1, 24, []), (1, 24, []), (1, 8, []), (1, 8, []), (1, 8, []), (1, 8, []), (1, 8, [])]
def zQ0_8 (rd : Value) : List zE := zRm0 rd ++ [(0, 12, [.int 0, .int 0, .int 0, .int 0, .int 0, .int 0, .int 0, .int 0, .int 0, .int 0, .int 0, .int 0, .int 0, .int 0, .int 0, .ref 12, .ref 13, .ref 14, .ref 15, .ref 16, .ref 17, .ref 18, .ref 19, .null, .null, .null, .null, .null, .null, .null, .null, .null, .null, .null, .null, .null, .null, .null, .null, .null, .null, .null, .null, .null]), (1, 24, []), (1, 24, []), (1, 8, []), (1, 8, []), (1, 8, []), (1, 8, []), (1, 8, []), (1, 8, [])]
def zQ0_9 (rd : Value) : List zE := zRm0 rd ++ [(0, 12, [.int 0, .int 0, .int 0, .int 0, .int 0, .int 0, .int 0, .int 0, .int 0, .int 0, .int 0, .int 0, .int 0, .int 0, .int 0, .ref 12, .ref 13, .ref 14, .ref 15, .ref 16, .ref 17, .ref 18, .ref 19, .ref 20, .null, .null, .null, .null, .null, .null, .null, .null, .null, .null, .null, .null, .null, .null, .null, .null, .null, .null, .null, .null]), (1, 24, []), (1, 24, []), (1, 8, []), (1, 8, []), (1, 8, []), (1, 8, []), (1, 8, []), (1, 8, []), (1, 8, [])]
def zQ0_10 (rd : Value) : List zE := zRm0 rd ++ [(0, 12, [.int 0, .int 0, .int 0, .int 0, .int 0, .int 0, .int 0, .int 0, .int 0, .int 0, .int 0, .int 0, .int 0, .int 0, .int 0, .ref 12, .ref 13, .ref 14, .ref 15, .ref 16, .ref 17, .ref 18, .ref 19, .ref 20, .ref 21, .null, .null, .null, .null, .null, .null, .null, .null, .null, .null, .null, .null, .null, .null, .null, .null, .null, .null, .null]), (1, 24, []), (1, 24, []), (1, 8, []), (1, 8, []), (1, 8, []), (1, 8, []), (1, 8, []), (1, 8, []), (1, 8, []), (1, 8, [])]
def zQ0_11 (rd : Value) : List zE := zRm0 rd ++ [(0, 12, [.int 0, .int 0, .int 0, .int 0, .int 0, .int 0, .int 0, .int 0, .int 0, .int 0, .int 0, .int 0, .int 0, .int 0, .int 0, .ref 12, .ref 13, .ref 14, .ref 15, .ref 16, .ref 17, .ref 18, .ref 19, .ref 20, .ref 21, .ref 22, .null, .null, .null, .null, .null, .null, .null, .null, .null, .null, .null, .null, .null, .null, .null, .null, .null, .null]), (1, 24, []), (1, 24, []), (1, 8, []), (1, 8, []), (1, 8, []), (1, 8, []), (1, 8, []), (1, 8, []), (1, 8, []), (1, 8, []), (1, 8, [])]
def zQ0_12 (rd : Value) : List zE := zRm0 rd ++ [(0, 12, [.int 0, .int 0, .int 0, .int 0, .int 0, .int 0, .int 0, .int 0, .int 0, .int 0, .int 0, .int 0, .int 0, .int 0, .int 0, .ref 12, .ref 13, .ref 14, .ref 15, .ref 16, .ref 17, .ref 18, .ref 19, .ref 20, .ref 21, .ref 22, .ref 23, .null, .null, .null, .null, .null, .null, .null, .null, .null, .null, .null, .null, .null, .null, .null, .null, .null]), (1, 24, []), (1, 24, []), (1, 8, []), (1, 8, []), (1, 8, []), (1, 8, []), (1, 8, []), (1, 8, []), (1, 8, []), (1, 8, []), (1, 8, []), (1, 8, [])]
def zQ0_13 (rd : Value) : List zE := zRm0 rd ++ [(0, 12, [.int 0, .int 0, .int 0, .int 0, .int 0, .int 0, .int 0, .int 0, .int 0, .int 0, .int 0, .int 0, .int 0, .int 0, .int 0, .ref 12, .ref 13, .ref 14, .ref 15, .ref 16, .ref 17, .ref 18, .ref 19, .ref 20, .ref 21, .ref 22, .ref 23, .ref 24, .null, .null, .null, .null, .null, .null, .null, .null, .null, .null, .null, .null, .null, .null, .null, .null]), (1, 24, []), (1, 24, []), (1, 8, []), (1, 8, []), (1, 8, []), (1, 8, []), (1, 8, []), (1, 8, []), (1, 8, []), (1, 8, []), (1, 8, []), (1, 8, []), (1, 6, [])]
def zQ0_14 (rd : Value) : List zE := zRm0 rd ++ [(0, 12, [.int 0, .int 0, .int 0, .int 0, .int 0, .int 0, .int 0, .int 0, .int 0, .int 0, .int 0, .int 0, .int 0, .int 0, .int 0, .ref 12, .ref 13, .ref 14, .ref 15, .ref 16, .ref 17, .ref 18, .ref 19, .ref 20, .ref 21, .ref 22, .ref 23, .ref 24, .ref 25, .null, .null, .null, .null, .null, .null, .null, .null, .null, .null, .null, .null, .null, .null, .null]), (1, 24, []), (1, 24, []), (1, 8, []), (1, 8, []), (1, 8, []), (1, 8, []), (1, 8, []), (1, 8, []), (1, 8, []), (1, 8, []), (1, 8, []), (1, 8, []), (1, 6, []), (1, 6, [])]
def zQ0_15 (rd : Value) : List zE := zRm0 rd ++ [(0, 12, [.int 0, .int 0, .int 0, .int 0, .int 0, .int 0, .int 0, .int 0, .int 0, .int 0, .int 0, .int 0, .int 0, .int 0, .int 0, .ref 12, .ref 13, .ref 14, .ref 15, .ref 16, .ref 17, .ref 18, .ref 19, .ref 20, .ref 21, .ref 22, .ref 23, .ref 24, .ref 25, .ref 26, .null, .null, .null, .null, .null, .null, .null, .null, .null, .null, .null, .null, .null, .null]), (1, 24, []), (1, 24, []), (1, 8, []), (1, 8, []), (1, 8, []), (1, 8, []), (1, 8, []), (1, 8, []), (1, 8, []), (1, 8, []), (1, 8, []), (1, 8, []), (1, 6, []), (1, 6, []), (1, 6, [])]
def zQ0_16 (rd : Value) : List zE := zRm0 rd ++ [(0, 12, [.int 0, .int 0, .int 0, .int 0, .int 0, .int 0, .int 0, .int 0, .int 0, .int 0, .int 0, .int 0, .int 0, .int 0, .int 0, .ref 12, .ref 13, .ref 14, .ref 15, .ref 16, .ref 17, .ref 18, .ref 19, .ref 20, .ref 21, .ref 22, .ref 23, .ref 24, .ref 25, .ref 26, .ref 27, .null, .null, .null, .null, .null, .null, .null, .null, .null, .null, .null, .null, .null]), (1, 24, []), (1, 24, []), (1, 8, []), (1, 8, []), (1, 8, []), (1, 8, []), (1, 8, []), (1, 8, []), (1, 8, []), (1, 8, []), (1, 8, []), (1, 8, []), (1, 6, []), (1, 6, []), (1, 6, []), (1, 6, [])]
def zQ0_17 (rd : Value) : List zE := zRm0 rd ++ [(0, 12, [.int 0, .int 0, .int 0, .int 0, .int 0, .int 0, .int 0, .int 0, .int 0, .int 0, .int 0, .int 0, .int 0, .int 0, .int 0, .ref 12, .ref 13, .ref 14, .ref 15, .ref 16, .ref 17, .ref 18, .ref 19, .ref 20, .ref 21, .ref 22, .ref 23, .ref 24, .ref 25, .ref 26, .ref 27, .ref 28, .null, .null, .null, .null, .null, .null, .null, .null, .null, .null, .null, .null]), (1, 24, []), (1, 24, []), (1, 8, []), (1, 8, []), (1, 8, []), (1, 8, []), (1, 8, []), (1, 8, []), (1, 8, []), (1, 8, []), (1, 8, []), (1, 8, []), (1, 6, []), (1, 6, []), (1, 6, []), (1, 6, []), (1, 6, [])]
def zQ0_18 (rd : Value) : List zE := zRm0 rd ++ [(0, 12, [.int 0, .int 0, .int 0, .int 0, .int 0, .int 0, .int 0, .int 0, .int 0, .int 0, .int 0, .int 0, .int 0, .int 0, .int 0, .ref 12, .ref 13, .ref 14, .ref 15, .ref 16, .ref 17, .ref 18, .ref 19, .ref 20, .ref 21, .ref 22, .ref 23, .ref 24, .ref 25, .ref 26, .ref 27, .ref 28, .ref 29, .null, .null, .null, .null, .null, .null, .null, .null, .null, .null, .null]), (1, 24, []), (1, 24, []), (1, 8, []), (1, 8, []), (1, 8, []), (1, 8, []), (1, 8, []), (1, 8, []), (1, 8, []), (1, 8, []), (1, 8, []), (1, 8, []), (1, 6, []), (1, 6, []), (1, 6, []), (1, 6, []), (1, 6, []), (1, 6, [])]
def zQ0_19 (rd : Value) : List zE := zRm0 rd ++ [(0, 12, [.int 0, .int 0, .int 0, .int 0, .int 0, .int 0, .int 0, .int 0, .int 0, .int 0, .int 0, .int 0, .int 0, .int 0, .int 0, .ref 12, .ref 13, .ref 14, .ref 15, .ref 16, .ref 17, .ref 18, .ref 19, .ref 20, .ref 21, .ref 22, .ref 23, .ref 24, .ref 25, .ref 26, .ref 27, .ref 28, .ref 29, .ref 30, .null, .null, .null, .null, .null, .null, .null, .null, .null, .null]), (1, 24, []), (1, 24, []), (1, 8, []), (1, 8, []), (1, 8, []), (1, 8, []), (1, 8, []), (1, 8, []), (1, 8, []), (1, 8, []), (1, 8, []), (1, 8, []), (1, 6, []), (1, 6, []), (1, 6, []), (1, 6, []), (1, 6, []), (1, 6, []), (1, 6, [])]
def zQ0_20 (rd : Value) : List zE := zRm0 rd ++ [(0, 12, [.int 0, .int 0, .int 0, .int 0, .int 0, .int 0, .int 0, .int 0, .int 0, .int 0, .int 0, .int 0, .int 0, .int 0, .int 0, .ref 12, .ref 13, .ref 14, .ref 15, .ref 16, .ref 17, .ref 18, .ref 19, .ref 20, .ref 21, .ref 22, .ref 23, .ref 24, .ref 25, .ref 26, .ref 27, .ref 28, .ref 29, .ref 30, .ref 31, .null, .null, .null, .null, .null, .null, .null, .null, .null]), (1, 24, []), (1, 24, []), (1, 8, []), (1, 8, []), (1, 8, []), (1, 8, []), (1, 8, []), (1, 8, []), (1, 8, []), (1, 8, []), (1, 8, []), (1, 8, []), (1, 6, []), (1, 6, []), (1, 6, []), (1, 6, []), (1, 6, []), (1, 6, []), (1, 6, []), (1, 20, [])]
def zQ0_21 (rd : Value) : List zE := zRm0 rd ++ [(0, 12, [.int 0, .int 0, .int 0, .int 0, .int 0, .int 0, .int 0, .int 0, .int 0, .int 0, .int 0, .int 0, .int 0, .int 0, .int 0, .ref 12, .ref 13, .ref 14, .ref 15, .ref 16, .ref 17, .ref 18, .ref 19, .ref 20, .ref 21, .ref 22, .ref 23, .ref 24, .ref 25, .ref 26, .ref 27, .ref 28, .ref 29, .ref 30, .ref 31, .ref 32, .null, .null, .null, .null, .null, .null, .null, .null]), (1, 24, []), (1, 24, []), (1, 8, []), (1, 8, []), (1, 8, []), (1, 8, []), (1, 8, []), (1, 8, []), (1, 8, []), (1, 8, []), (1, 8, []), (1, 8, []), (1, 6, []), (1, 6, []), (1, 6, []), (1, 6, []), (1, 6, []), (1, 6, []), (1, 6, []), (1, 20, []), (1, 20, [])]
def zQ0_22 (rd : Value) : List zE := zRm0 rd ++ [(0, 12, [.int 0, .int 0, .int 0, .int 0, .int 0, .int 0, .int 0, .int 0, .int 0, .int 0, .int 0, .int 0, .int 0, .int 0, .int 0, .ref 12, .ref 13, .ref 14, .ref 15, .ref 16, .ref 17, .ref 18, .ref 19, .ref 20, .ref 21, .ref 22, .ref 23, .ref 24, .ref 25, .ref 26, .ref 27, .ref 28, .ref 29, .ref 30, .ref 31, .ref 32, .ref 33, .null, .null, .null, .null, .null, .null, .null]), (1, 24, []), (1, 24, []), (1, 8, []), (1, 8, []), (1, 8, []), (1, 8, []), (1, 8, []), (1, 8, []), (1, 8, []), (1, 8, []), (1, 8, []), (1, 8, []), (1, 6, []), (1, 6, []), (1, 6, []), (1, 6, []), (1, 6, []), (1, 6, []), (1, 6, []), (1, 20, []), (1, 20, []), (1, 20, [])]
def zQ0_23 (rd : Value) : List zE := zRm0 rd ++ [(0, 12, [.int 0, .int 0, .int 0, .int 0, .int 0, .int 0, .int 0, .int 0, .int 0, .int 0, .int 0, .int 0, .int 0, .int 0, .int 0, .ref 12, .ref 13, .ref 14, .ref 15, .ref 16, .ref 17, .ref 18, .ref 19, .ref 20, .ref 21, .ref 22, .ref 23, .ref 24, .ref 25, .ref 26, .ref 27, .ref 28, .ref 29, .ref 30, .ref 31, .ref 32, .ref 33, .ref 34, .null, .null, .null, .null, .null, .null]), (1, 24, []), (1, 24, []), (1, 8, []), (1, 8, []), (1, 8, []), (1, 8, []), (1, 8, []), (1, 8, []), (1, 8, []), (1, 8, []), (1, 8, []), (1, 8, []), (1, 6, []), (1, 6, []), (1, 6, []), (1, 6, []), (1, 6, []), (1, 6, []), (1, 6, []), (1, 20, []), (1, 20, []), (1, 20, []), (1, 20, [])]
def zQ0_24 (rd : Value) : List zE := zRm0 rd ++ [(0, 12, [.int 0, .int 0, .int 0, .int 0, .int 0, .int 0, .int 0, .int 0, .int 0, .int 0, .int 0, .int 0, .int 0, .int 0, .int 0, .ref 12, .ref 13, .ref 14, .ref 15, .ref 16, .ref 17, .ref 18, .ref 19, .ref 20, .ref 21, .ref 22, .ref 23, .ref 24, .ref 25, .ref 26, .ref 27, .ref 28, .ref 29, .ref 30, .ref 31, .ref 32, .ref 33, .ref 34, .ref 35, .null, .null, .null, .null, .null]), (1, 24, []), (1, 24, []), (1, 8, []), (1, 8, []), (1, 8, []), (1, 8, []), (1, 8, []), (1, 8, []), (1, 8, []), (1, 8, []), (1, 8, []), (1, 8, []), (1, 6, []), (1, 6, []), (1, 6, []), (1, 6, []), (1, 6, []), (1, 6, []), (1, 6, []), (1, 20, []), (1, 20, []), (1, 20, []), (1, 20, []), (1, 4, [])]
def zQ0_25 (rd : Value) : List zE := zRm0 rd ++ [(0, 12, [.int 0, .int 0, .int 0, .int 0, .int 0, .int 0, .int 0, .int 0, .int 0, .int 0, .int 0, .int 0, .int 0, .int 0, .int 0, .ref 12, .ref 13, .ref 14, .ref 15, .ref 16, .ref 17, .ref 18, .ref 19, .ref 20, .ref 21, .ref 22, .ref 23, .ref 24, .ref 25, .ref 26, .ref 27, .ref 28, .ref 29, .ref 30, .ref 31, .ref 32, .ref 33, .ref 34, .ref 35, .ref 36, .null, .null, .null, .null]), (1, 24, []), (1, 24, []), (1, 8, []), (1, 8, []), (1, 8, []), (1, 8, []), (1, 8, []), (1, 8, []), (1, 8, []), (1, 8, []), (1, 8, []), (1, 8, []), (1, 6, []), (1, 6, []), (1, 6, []), (1, 6, []), (1, 6, []), (1, 6, []), (1, 6, []), (1, 20, []), (1, 20, []), (1, 20, []), (1, 20, []), (1, 4, []), (1, 4, [])]
def zQ0_26 (rd : Value) : List zE := zRm0 rd ++ [(0, 12, [.int 0, .int 0, .int 0, .int 0, .int 0, .int 0, .int 0, .int 0, .int 0, .int 0, .int 0, .int 0, .int 0, .int 0, .int 0, .ref 12, .ref 13, .ref 14, .ref 15, .ref 16, .ref 17, .ref 18, .ref 19, .ref 20, .ref 21, .ref 22, .ref 23, .ref 24, .ref 25, .ref 26, .ref 27, .ref 28, .ref 29, .ref 30, .ref 31, .ref 32, .ref 33, .ref 34, .ref 35, .ref 36, .ref 37, .null, .null, .null]), (1, 24, []), (1, 24, []), (1, 8, []), (1, 8, []), (1, 8, []), (1, 8, []), (1, 8, []), (1, 8, []), (1, 8, []), (1, 8, []), (1, 8, []), (1, 8, []), (1, 6, []), (1, 6, []), (1, 6, []), (1, 6, []), (1, 6, []), (1, 6, []), (1, 6, []), (1, 20, []), (1, 20, []), (1, 20, []), (1, 20, []), (1, 4, []), (1, 4, []), (1, 4, [])]
def zQ0_27 (rd : Value) : List zE := zRm0 rd ++ [(0, 12, [.int 0, .int 0, .int 0, .int 0, .int 0, .int 0, .int 0, .int 0, .int 0, .int 0, .int 0, .int 0, .int 0, .int 0, .int 0, .ref 12, .ref 13, .ref 14, .ref 15, .ref 16, .ref 17, .ref 18, .ref 19, .ref 20, .ref 21, .ref 22, .ref 23, .ref 24, .ref 25, .ref 26, .ref 27, .ref 28, .ref 29, .ref 30, .ref 31, .ref 32, .ref 33, .ref 34, .ref 35, .ref 36, .ref 37, .ref 38, .null, .null]), (1, 24, []), (1, 24, []), (1, 8, []), (1, 8, []), (1, 8, []), (1, 8, []), (1, 8, []), (1, 8, []), (1, 8, []), (1, 8, []), (1, 8, []), (1, 8, []), (1, 6, []), (1, 6, []), (1, 6, []), (1, 6, []), (1, 6, []), (1, 6, []), (1, 6, []), (1, 20, []), (1, 20, []), (1, 20, []), (1, 20, []), (1, 4, []), (1, 4, []), (1, 4, []), (2, 26, [])]
def zQ0_28 (rd : Value) : List zE := zRm0 rd ++ [(0, 12, [.int 0, .int 0, .int 0, .int 0, .int 0, .int 0, .int 0, .int 0, .int 0, .int 0, .int 0, .int 0, .int 0, .int 0, .int 0, .ref 12, .ref 13, .ref 14, .ref 15, .ref 16, .ref 17, .ref 18, .ref 19, .ref 20, .ref 21, .ref 22, .ref 23, .ref 24, .ref 25, .ref 26, .ref 27, .ref 28, .ref 29, .ref 30, .ref 31, .ref 32, .ref 33, .ref 34, .ref 35, .ref 36, .ref 37, .ref 38, .ref 39, .null]), (1, 24, []), (1, 24, []), (1, 8, []), (1, 8, []), (1, 8, []), (1, 8, []), (1, 8, []), (1, 8, []), (1, 8, []), (1, 8, []), (1, 8, []), (1, 8, []), (1, 6, []), (1, 6, []), (1, 6, []), (1, 6, []), (1, 6, []), (1, 6, []), (1, 6, []), (1, 20, []), (1, 20, []), (1, 20, []), (1, 20, []), (1, 4, []), (1, 4, []), (1, 4, []), (2, 26, []), (1, 26, [])]
def zQ0_29 (rd : Value) : List zE := zRm0 rd ++ [(0, 12, [.int 0, .int 0, .int 0, .int 0, .int 0, .int 0, .int 0, .int 0, .int 0, .int 0, .int 0, .int 0, .int 0, .int 0, .int 0, .ref 12, .ref 13, .ref 14, .ref 15, .ref 16, .ref 17, .ref 18, .ref 19, .ref 20, .ref 21, .ref 22, .ref 23, .ref 24, .ref 25, .ref 26, .ref 27, .ref 28, .ref 29, .ref 30, .ref 31, .ref 32, .ref 33, .ref 34, .ref 35, .ref 36, .ref 37, .ref 38, .ref 39, .ref 40]), (1, 24, []), (1, 24, []), (1, 8, []), (1, 8, []), (1, 8, []), (1, 8, []), (1, 8, []), (1, 8, []), (1, 8, []), (1, 8, []), (1, 8, []), (1, 8, []), (1, 6, []), (1, 6, []), (1, 6, []), (1, 6, []), (1, 6, []), (1, 6, []), (1, 6, []), (1, 20, []), (1, 20, []), (1, 20, []), (1, 20, []), (1, 4, []), (1, 4, []), (1, 4, []), (2, 26, []), (1, 26, []), (1, 26, [])]
theorem b165_0_0 : zgo 165 9 [.ref 11] [] (zQ0_0 rd) S L = zgo 165 17 [.ref 11] [] (zQ0_1 rd) (zclr 0 S 12) (zclr 0 L 12) := by
  have hl : (zQ0_0 rd).length = 12 := rfl
  have he : (24 : Int32).toNatClampNeg = 24 := by decide
  have hp : ∀ (S : zS) (L : zL), zputf (zQ0_0 rd ++ [(1, 24, [])]) S L 11 12 15 (.ref 12) = some (zQ0_1 rd, S, L) := fun _ _ => rfl
  rw [s165_9, s165_10, s165_12, hl, he, if_pos ⟨by omega, by decide, by omega⟩, s165_14, hp]
  rfl
theorem b165_0_1 : zgo 165 17 [.ref 11] [] (zQ0_1 rd) S L = zgo 165 25 [.ref 11] [] (zQ0_2 rd) (zclr 0 S 13) (zclr 0 L 13) := by
  have hl : (zQ0_1 rd).length = 13 := rfl
  have he : (24 : Int32).toNatClampNeg = 24 := by decide
  have hp : ∀ (S : zS) (L : zL), zputf (zQ0_1 rd ++ [(1, 24, [])]) S L 11 12 16 (.ref 13) = some (zQ0_2 rd, S, L) := fun _ _ => rfl
  rw [s165_17, s165_18, s165_20, hl, he, if_pos ⟨by omega, by decide, by omega⟩, s165_22, hp]
  rfl
theorem b165_0_2 : zgo 165 25 [.ref 11] [] (zQ0_2 rd) S L = zgo 165 33 [.ref 11] [] (zQ0_3 rd) (zclr 0 S 14) (zclr 0 L 14) := by
  have hl : (zQ0_2 rd).length = 14 := rfl
  have he : (8 : Int32).toNatClampNeg = 8 := by decide
  have hp : ∀ (S : zS) (L : zL), zputf (zQ0_2 rd ++ [(1, 8, [])]) S L 11 12 17 (.ref 14) = some (zQ0_3 rd, S, L) := fun _ _ => rfl
  rw [s165_25, s165_26, s165_28, hl, he, if_pos ⟨by omega, by decide, by omega⟩, s165_30, hp]
  rfl
theorem b165_0_3 : zgo 165 33 [.ref 11] [] (zQ0_3 rd) S L = zgo 165 41 [.ref 11] [] (zQ0_4 rd) (zclr 0 S 15) (zclr 0 L 15) := by
  have hl : (zQ0_3 rd).length = 15 := rfl
  have he : (8 : Int32).toNatClampNeg = 8 := by decide
  have hp : ∀ (S : zS) (L : zL), zputf (zQ0_3 rd ++ [(1, 8, [])]) S L 11 12 18 (.ref 15) = some (zQ0_4 rd, S, L) := fun _ _ => rfl
  rw [s165_33, s165_34, s165_36, hl, he, if_pos ⟨by omega, by decide, by omega⟩, s165_38, hp]
  rfl
theorem b165_0_4 : zgo 165 41 [.ref 11] [] (zQ0_4 rd) S L = zgo 165 49 [.ref 11] [] (zQ0_5 rd) (zclr 0 S 16) (zclr 0 L 16) := by
  have hl : (zQ0_4 rd).length = 16 := rfl
  have he : (8 : Int32).toNatClampNeg = 8 := by decide
  have hp : ∀ (S : zS) (L : zL), zputf (zQ0_4 rd ++ [(1, 8, [])]) S L 11 12 19 (.ref 16) = some (zQ0_5 rd, S, L) := fun _ _ => rfl
  rw [s165_41, s165_42, s165_44, hl, he, if_pos ⟨by omega, by decide, by omega⟩, s165_46, hp]
  rfl
theorem b165_0_5 : zgo 165 49 [.ref 11] [] (zQ0_5 rd) S L = zgo 165 57 [.ref 11] [] (zQ0_6 rd) (zclr 0 S 17) (zclr 0 L 17) := by
  have hl : (zQ0_5 rd).length = 17 := rfl
  have he : (8 : Int32).toNatClampNeg = 8 := by decide
  have hp : ∀ (S : zS) (L : zL), zputf (zQ0_5 rd ++ [(1, 8, [])]) S L 11 12 20 (.ref 17) = some (zQ0_6 rd, S, L) := fun _ _ => rfl
  rw [s165_49, s165_50, s165_52, hl, he, if_pos ⟨by omega, by decide, by omega⟩, s165_54, hp]
  rfl
theorem b165_0_6 : zgo 165 57 [.ref 11] [] (zQ0_6 rd) S L = zgo 165 65 [.ref 11] [] (zQ0_7 rd) (zclr 0 S 18) (zclr 0 L 18) := by
  have hl : (zQ0_6 rd).length = 18 := rfl
  have he : (8 : Int32).toNatClampNeg = 8 := by decide
  have hp : ∀ (S : zS) (L : zL), zputf (zQ0_6 rd ++ [(1, 8, [])]) S L 11 12 21 (.ref 18) = some (zQ0_7 rd, S, L) := fun _ _ => rfl
  rw [s165_57, s165_58, s165_60, hl, he, if_pos ⟨by omega, by decide, by omega⟩, s165_62, hp]
  rfl
theorem b165_0_7 : zgo 165 65 [.ref 11] [] (zQ0_7 rd) S L = zgo 165 73 [.ref 11] [] (zQ0_8 rd) (zclr 0 S 19) (zclr 0 L 19) := by
  have hl : (zQ0_7 rd).length = 19 := rfl
  have he : (8 : Int32).toNatClampNeg = 8 := by decide
  have hp : ∀ (S : zS) (L : zL), zputf (zQ0_7 rd ++ [(1, 8, [])]) S L 11 12 22 (.ref 19) = some (zQ0_8 rd, S, L) := fun _ _ => rfl
  rw [s165_65, s165_66, s165_68, hl, he, if_pos ⟨by omega, by decide, by omega⟩, s165_70, hp]
  rfl
theorem b165_0_8 : zgo 165 73 [.ref 11] [] (zQ0_8 rd) S L = zgo 165 81 [.ref 11] [] (zQ0_9 rd) (zclr 0 S 20) (zclr 0 L 20) := by
  have hl : (zQ0_8 rd).length = 20 := rfl
  have he : (8 : Int32).toNatClampNeg = 8 := by decide
  have hp : ∀ (S : zS) (L : zL), zputf (zQ0_8 rd ++ [(1, 8, [])]) S L 11 12 23 (.ref 20) = some (zQ0_9 rd, S, L) := fun _ _ => rfl
  rw [s165_73, s165_74, s165_76, hl, he, if_pos ⟨by omega, by decide, by omega⟩, s165_78, hp]
  rfl
theorem b165_0_9 : zgo 165 81 [.ref 11] [] (zQ0_9 rd) S L = zgo 165 89 [.ref 11] [] (zQ0_10 rd) (zclr 0 S 21) (zclr 0 L 21) := by
  have hl : (zQ0_9 rd).length = 21 := rfl
  have he : (8 : Int32).toNatClampNeg = 8 := by decide
  have hp : ∀ (S : zS) (L : zL), zputf (zQ0_9 rd ++ [(1, 8, [])]) S L 11 12 24 (.ref 21) = some (zQ0_10 rd, S, L) := fun _ _ => rfl
  rw [s165_81, s165_82, s165_84, hl, he, if_pos ⟨by omega, by decide, by omega⟩, s165_86, hp]
  rfl
theorem b165_0_10 : zgo 165 89 [.ref 11] [] (zQ0_10 rd) S L = zgo 165 97 [.ref 11] [] (zQ0_11 rd) (zclr 0 S 22) (zclr 0 L 22) := by
  have hl : (zQ0_10 rd).length = 22 := rfl
  have he : (8 : Int32).toNatClampNeg = 8 := by decide
  have hp : ∀ (S : zS) (L : zL), zputf (zQ0_10 rd ++ [(1, 8, [])]) S L 11 12 25 (.ref 22) = some (zQ0_11 rd, S, L) := fun _ _ => rfl
  rw [s165_89, s165_90, s165_92, hl, he, if_pos ⟨by omega, by decide, by omega⟩, s165_94, hp]
  rfl
theorem b165_0_11 : zgo 165 97 [.ref 11] [] (zQ0_11 rd) S L = zgo 165 105 [.ref 11] [] (zQ0_12 rd) (zclr 0 S 23) (zclr 0 L 23) := by
  have hl : (zQ0_11 rd).length = 23 := rfl
  have he : (8 : Int32).toNatClampNeg = 8 := by decide
  have hp : ∀ (S : zS) (L : zL), zputf (zQ0_11 rd ++ [(1, 8, [])]) S L 11 12 26 (.ref 23) = some (zQ0_12 rd, S, L) := fun _ _ => rfl
  rw [s165_97, s165_98, s165_100, hl, he, if_pos ⟨by omega, by decide, by omega⟩, s165_102, hp]
  rfl
theorem b165_0_12 : zgo 165 105 [.ref 11] [] (zQ0_12 rd) S L = zgo 165 113 [.ref 11] [] (zQ0_13 rd) (zclr 0 S 24) (zclr 0 L 24) := by
  have hl : (zQ0_12 rd).length = 24 := rfl
  have he : (6 : Int32).toNatClampNeg = 6 := by decide
  have hp : ∀ (S : zS) (L : zL), zputf (zQ0_12 rd ++ [(1, 6, [])]) S L 11 12 27 (.ref 24) = some (zQ0_13 rd, S, L) := fun _ _ => rfl
  rw [s165_105, s165_106, s165_108, hl, he, if_pos ⟨by omega, by decide, by omega⟩, s165_110, hp]
  rfl
theorem b165_0_13 : zgo 165 113 [.ref 11] [] (zQ0_13 rd) S L = zgo 165 121 [.ref 11] [] (zQ0_14 rd) (zclr 0 S 25) (zclr 0 L 25) := by
  have hl : (zQ0_13 rd).length = 25 := rfl
  have he : (6 : Int32).toNatClampNeg = 6 := by decide
  have hp : ∀ (S : zS) (L : zL), zputf (zQ0_13 rd ++ [(1, 6, [])]) S L 11 12 28 (.ref 25) = some (zQ0_14 rd, S, L) := fun _ _ => rfl
  rw [s165_113, s165_114, s165_116, hl, he, if_pos ⟨by omega, by decide, by omega⟩, s165_118, hp]
  rfl
theorem b165_0_14 : zgo 165 121 [.ref 11] [] (zQ0_14 rd) S L = zgo 165 129 [.ref 11] [] (zQ0_15 rd) (zclr 0 S 26) (zclr 0 L 26) := by
  have hl : (zQ0_14 rd).length = 26 := rfl
  have he : (6 : Int32).toNatClampNeg = 6 := by decide
  have hp : ∀ (S : zS) (L : zL), zputf (zQ0_14 rd ++ [(1, 6, [])]) S L 11 12 29 (.ref 26) = some (zQ0_15 rd, S, L) := fun _ _ => rfl
  rw [s165_121, s165_122, s165_124, hl, he, if_pos ⟨by omega, by decide, by omega⟩, s165_126, hp]
  rfl
theorem b165_0_15 : zgo 165 129 [.ref 11] [] (zQ0_15 rd) S L = zgo 165 137 [.ref 11] [] (zQ0_16 rd) (zclr 0 S 27) (zclr 0 L 27) := by
  have hl : (zQ0_15 rd).length = 27 := rfl
  have he : (6 : Int32).toNatClampNeg = 6 := by decide
  have hp : ∀ (S : zS) (L : zL), zputf (zQ0_15 rd ++ [(1, 6, [])]) S L 11 12 30 (.ref 27) = some (zQ0_16 rd, S, L) := fun _ _ => rfl
  rw [s165_129, s165_130, s165_132, hl, he, if_pos ⟨by omega, by decide, by omega⟩, s165_134, hp]
  rfl
theorem b165_0_16 : zgo 165 137 [.ref 11] [] (zQ0_16 rd) S L = zgo 165 145 [.ref 11] [] (zQ0_17 rd) (zclr 0 S 28) (zclr 0 L 28) := by
  have hl : (zQ0_16 rd).length = 28 := rfl
  have he : (6 : Int32).toNatClampNeg = 6 := by decide
  have hp : ∀ (S : zS) (L : zL), zputf (zQ0_16 rd ++ [(1, 6, [])]) S L 11 12 31 (.ref 28) = some (zQ0_17 rd, S, L) := fun _ _ => rfl
  rw [s165_137, s165_138, s165_140, hl, he, if_pos ⟨by omega, by decide, by omega⟩, s165_142, hp]
  rfl
theorem b165_0_17 : zgo 165 145 [.ref 11] [] (zQ0_17 rd) S L = zgo 165 153 [.ref 11] [] (zQ0_18 rd) (zclr 0 S 29) (zclr 0 L 29) := by
  have hl : (zQ0_17 rd).length = 29 := rfl
  have he : (6 : Int32).toNatClampNeg = 6 := by decide
  have hp : ∀ (S : zS) (L : zL), zputf (zQ0_17 rd ++ [(1, 6, [])]) S L 11 12 32 (.ref 29) = some (zQ0_18 rd, S, L) := fun _ _ => rfl
  rw [s165_145, s165_146, s165_148, hl, he, if_pos ⟨by omega, by decide, by omega⟩, s165_150, hp]
  rfl
theorem b165_0_18 : zgo 165 153 [.ref 11] [] (zQ0_18 rd) S L = zgo 165 161 [.ref 11] [] (zQ0_19 rd) (zclr 0 S 30) (zclr 0 L 30) := by
  have hl : (zQ0_18 rd).length = 30 := rfl
  have he : (6 : Int32).toNatClampNeg = 6 := by decide
  have hp : ∀ (S : zS) (L : zL), zputf (zQ0_18 rd ++ [(1, 6, [])]) S L 11 12 33 (.ref 30) = some (zQ0_19 rd, S, L) := fun _ _ => rfl
  rw [s165_153, s165_154, s165_156, hl, he, if_pos ⟨by omega, by decide, by omega⟩, s165_158, hp]
  rfl
theorem b165_0_19 : zgo 165 161 [.ref 11] [] (zQ0_19 rd) S L = zgo 165 169 [.ref 11] [] (zQ0_20 rd) (zclr 0 S 31) (zclr 0 L 31) := by
  have hl : (zQ0_19 rd).length = 31 := rfl
  have he : (20 : Int32).toNatClampNeg = 20 := by decide
  have hp : ∀ (S : zS) (L : zL), zputf (zQ0_19 rd ++ [(1, 20, [])]) S L 11 12 34 (.ref 31) = some (zQ0_20 rd, S, L) := fun _ _ => rfl
  rw [s165_161, s165_162, s165_164, hl, he, if_pos ⟨by omega, by decide, by omega⟩, s165_166, hp]
  rfl
theorem b165_0_20 : zgo 165 169 [.ref 11] [] (zQ0_20 rd) S L = zgo 165 177 [.ref 11] [] (zQ0_21 rd) (zclr 0 S 32) (zclr 0 L 32) := by
  have hl : (zQ0_20 rd).length = 32 := rfl
  have he : (20 : Int32).toNatClampNeg = 20 := by decide
  have hp : ∀ (S : zS) (L : zL), zputf (zQ0_20 rd ++ [(1, 20, [])]) S L 11 12 35 (.ref 32) = some (zQ0_21 rd, S, L) := fun _ _ => rfl
  rw [s165_169, s165_170, s165_172, hl, he, if_pos ⟨by omega, by decide, by omega⟩, s165_174, hp]
  rfl
theorem b165_0_21 : zgo 165 177 [.ref 11] [] (zQ0_21 rd) S L = zgo 165 185 [.ref 11] [] (zQ0_22 rd) (zclr 0 S 33) (zclr 0 L 33) := by
  have hl : (zQ0_21 rd).length = 33 := rfl
  have he : (20 : Int32).toNatClampNeg = 20 := by decide
  have hp : ∀ (S : zS) (L : zL), zputf (zQ0_21 rd ++ [(1, 20, [])]) S L 11 12 36 (.ref 33) = some (zQ0_22 rd, S, L) := fun _ _ => rfl
  rw [s165_177, s165_178, s165_180, hl, he, if_pos ⟨by omega, by decide, by omega⟩, s165_182, hp]
  rfl
theorem b165_0_22 : zgo 165 185 [.ref 11] [] (zQ0_22 rd) S L = zgo 165 193 [.ref 11] [] (zQ0_23 rd) (zclr 0 S 34) (zclr 0 L 34) := by
  have hl : (zQ0_22 rd).length = 34 := rfl
  have he : (20 : Int32).toNatClampNeg = 20 := by decide
  have hp : ∀ (S : zS) (L : zL), zputf (zQ0_22 rd ++ [(1, 20, [])]) S L 11 12 37 (.ref 34) = some (zQ0_23 rd, S, L) := fun _ _ => rfl
  rw [s165_185, s165_186, s165_188, hl, he, if_pos ⟨by omega, by decide, by omega⟩, s165_190, hp]
  rfl
theorem b165_0_23 : zgo 165 193 [.ref 11] [] (zQ0_23 rd) S L = zgo 165 200 [.ref 11] [] (zQ0_24 rd) (zclr 0 S 35) (zclr 0 L 35) := by
  have hl : (zQ0_23 rd).length = 35 := rfl
  have he : (4 : Int32).toNatClampNeg = 4 := by decide
  have hp : ∀ (S : zS) (L : zL), zputf (zQ0_23 rd ++ [(1, 4, [])]) S L 11 12 38 (.ref 35) = some (zQ0_24 rd, S, L) := fun _ _ => rfl
  rw [s165_193, s165_194, s165_195, hl, he, if_pos ⟨by omega, by decide, by omega⟩, s165_197, hp]
  rfl
theorem b165_0_24 : zgo 165 200 [.ref 11] [] (zQ0_24 rd) S L = zgo 165 207 [.ref 11] [] (zQ0_25 rd) (zclr 0 S 36) (zclr 0 L 36) := by
  have hl : (zQ0_24 rd).length = 36 := rfl
  have he : (4 : Int32).toNatClampNeg = 4 := by decide
  have hp : ∀ (S : zS) (L : zL), zputf (zQ0_24 rd ++ [(1, 4, [])]) S L 11 12 39 (.ref 36) = some (zQ0_25 rd, S, L) := fun _ _ => rfl
  rw [s165_200, s165_201, s165_202, hl, he, if_pos ⟨by omega, by decide, by omega⟩, s165_204, hp]
  rfl
theorem b165_0_25 : zgo 165 207 [.ref 11] [] (zQ0_25 rd) S L = zgo 165 214 [.ref 11] [] (zQ0_26 rd) (zclr 0 S 37) (zclr 0 L 37) := by
  have hl : (zQ0_25 rd).length = 37 := rfl
  have he : (4 : Int32).toNatClampNeg = 4 := by decide
  have hp : ∀ (S : zS) (L : zL), zputf (zQ0_25 rd ++ [(1, 4, [])]) S L 11 12 40 (.ref 37) = some (zQ0_26 rd, S, L) := fun _ _ => rfl
  rw [s165_207, s165_208, s165_209, hl, he, if_pos ⟨by omega, by decide, by omega⟩, s165_211, hp]
  rfl
theorem b165_0_26 : zgo 165 214 [.ref 11] [] (zQ0_26 rd) S L = zgo 165 222 [.ref 11] [] (zQ0_27 rd) (zclr 0 S 38) (zclr 0 L 38) := by
  have hl : (zQ0_26 rd).length = 38 := rfl
  have he : (26 : Int32).toNatClampNeg = 26 := by decide
  have hp : ∀ (S : zS) (L : zL), zputf (zQ0_26 rd ++ [(2, 26, [])]) S L 11 12 41 (.ref 38) = some (zQ0_27 rd, S, L) := fun _ _ => rfl
  rw [s165_214, s165_215, s165_217, hl, he, if_pos ⟨by omega, by decide, by omega⟩, s165_219, hp]
  rfl
theorem b165_0_27 : zgo 165 222 [.ref 11] [] (zQ0_27 rd) S L = zgo 165 230 [.ref 11] [] (zQ0_28 rd) (zclr 0 S 39) (zclr 0 L 39) := by
  have hl : (zQ0_27 rd).length = 39 := rfl
  have he : (26 : Int32).toNatClampNeg = 26 := by decide
  have hp : ∀ (S : zS) (L : zL), zputf (zQ0_27 rd ++ [(1, 26, [])]) S L 11 12 42 (.ref 39) = some (zQ0_28 rd, S, L) := fun _ _ => rfl
  rw [s165_222, s165_223, s165_225, hl, he, if_pos ⟨by omega, by decide, by omega⟩, s165_227, hp]
  rfl
theorem b165_0_28 : zgo 165 230 [.ref 11] [] (zQ0_28 rd) S L = zgo 165 238 [.ref 11] [] (zQ0_29 rd) (zclr 0 S 40) (zclr 0 L 40) := by
  have hl : (zQ0_28 rd).length = 40 := rfl
  have he : (26 : Int32).toNatClampNeg = 26 := by decide
  have hp : ∀ (S : zS) (L : zL), zputf (zQ0_28 rd ++ [(1, 26, [])]) S L 11 12 43 (.ref 40) = some (zQ0_29 rd, S, L) := fun _ _ => rfl
  rw [s165_230, s165_231, s165_233, hl, he, if_pos ⟨by omega, by decide, by omega⟩, s165_235, hp]
  rfl
theorem t165_0 : zcall 165 [.ref 11] (zRm0 rd ++ [(0, 12, zdefs 12)]) S L = some (none, zQ0_29 rd, zclr 0 (zclr 0 (zclr 0 (zclr 0 (zclr 0 (zclr 0 (zclr 0 (zclr 0 (zclr 0 (zclr 0 (zclr 0 (zclr 0 (zclr 0 (zclr 0 (zclr 0 (zclr 0 (zclr 0 (zclr 0 (zclr 0 (zclr 0 (zclr 0 (zclr 0 (zclr 0 (zclr 0 (zclr 0 (zclr 0 (zclr 0 (zclr 0 (zclr 0 (zup S 11 4 (-1)) 12) 13) 14) 15) 16) 17) 18) 19) 20) 21) 22) 23) 24) 25) 26) 27) 28) 29) 30) 31) 32) 33) 34) 35) 36) 37) 38) 39) 40, zclr 0 (zclr 0 (zclr 0 (zclr 0 (zclr 0 (zclr 0 (zclr 0 (zclr 0 (zclr 0 (zclr 0 (zclr 0 (zclr 0 (zclr 0 (zclr 0 (zclr 0 (zclr 0 (zclr 0 (zclr 0 (zclr 0 (zclr 0 (zclr 0 (zclr 0 (zclr 0 (zclr 0 (zclr 0 (zclr 0 (zclr 0 (zclr 0 (zclr 0 (L) 12) 13) 14) 15) 16) 17) 18) 19) 20) 21) 22) 23) 24) 25) 26) 27) 28) 29) 30) 31) 32) 33) 34) 35) 36) 37) 38) 39) 40) := by
  have h0 : zRm0 rd ++ [(0, 12, zdefs 12)] = zQ0_0 rd := rfl
  have hp : zputf (zQ0_0 rd) S L 11 12 4 (.int (-1)) = some (zQ0_0 rd, zup S 11 4 (-1), L) := rfl
  have hs : zcall 165 [.ref 11] (zQ0_0 rd) S L = zgo 165 0 [.ref 11] [] (zQ0_0 rd) S L := rfl
  have h1 : zgo 165 0 [.ref 11] [] (zQ0_0 rd) S L = zgo 165 9 [.ref 11] [] (zQ0_0 rd) (zup S 11 4 (-1)) L := by
    rw [s165_0, s165_1, s165_4, s165_5, s165_6, hp]
    rfl
  rw [h0, hs, h1, b165_0_0, b165_0_1, b165_0_2, b165_0_3, b165_0_4, b165_0_5, b165_0_6, b165_0_7, b165_0_8, b165_0_9, b165_0_10, b165_0_11, b165_0_12, b165_0_13, b165_0_14, b165_0_15, b165_0_16, b165_0_17, b165_0_18, b165_0_19, b165_0_20, b165_0_21, b165_0_22, b165_0_23, b165_0_24, b165_0_25, b165_0_26, b165_0_27, b165_0_28, s165_238]
def zQ1_0 (rd : Value) : List zE := zRm1 rd ++ [(0, 12, [.int 0, .int 0, .int 0, .int 0, .int 0, .int 0, .int 0, .int 0, .int 0, .int 0, .int 0, .int 0, .int 0, .int 0, .int 0, .null, .null, .null, .null, .null, .null, .null, .null, .null, .null, .null, .null, .null, .null, .null, .null, .null, .null, .null, .null, .null, .null, .null, .null, .null, .null, .null, .null, .null])]
def zQ1_1 (rd : Value) : List zE := zRm1 rd ++ [(0, 12, [.int 0, .int 0, .int 0, .int 0, .int 0, .int 0, .int 0, .int 0, .int 0, .int 0, .int 0, .int 0, .int 0, .int 0, .int 0, .ref 42, .null, .null, .null, .null, .null, .null, .null, .null, .null, .null, .null, .null, .null, .null, .null, .null, .null, .null, .null, .null, .null, .null, .null, .null, .null, .null, .null, .null]), (1, 24, [])]
def zQ1_2 (rd : Value) : List zE := zRm1 rd ++ [(0, 12, [.int 0, .int 0, .int 0, .int 0, .int 0, .int 0, .int 0, .int 0, .int 0, .int 0, .int 0, .int 0, .int 0, .int 0, .int 0, .ref 42, .ref 43, .null, .null, .null, .null, .null, .null, .null, .null, .null, .null, .null, .null, .null, .null, .null, .null, .null, .null, .null, .null, .null, .null, .null, .null, .null, .null, .null]), (1, 24, []), (1, 24, [])]
def zQ1_3 (rd : Value) : List zE := zRm1 rd ++ [(0, 12, [.int 0, .int 0, .int 0, .int 0, .int 0, .int 0, .int 0, .int 0, .int 0, .int 0, .int 0, .int 0, .int 0, .int 0, .int 0, .ref 42, .ref 43, .ref 44, .null, .null, .null, .null, .null, .null, .null, .null, .null, .null, .null, .null, .null, .null, .null, .null, .null, .null, .null, .null, .null, .null, .null, .null, .null, .null]), (1, 24, []), (1, 24, []), (1, 8, [])]
def zQ1_4 (rd : Value) : List zE := zRm1 rd ++ [(0, 12, [.int 0, .int 0, .int 0, .int 0, .int 0, .int 0, .int 0, .int 0, .int 0, .int 0, .int 0, .int 0, .int 0, .int 0, .int 0, .ref 42, .ref 43, .ref 44, .ref 45, .null, .null, .null, .null, .null, .null, .null, .null, .null, .null, .null, .null, .null, .null, .null, .null, .null, .null, .null, .null, .null, .null, .null, .null, .null]), (1, 24, []), (1, 24, []), (1, 8, []), (1, 8, [])]
def zQ1_5 (rd : Value) : List zE := zRm1 rd ++ [(0, 12, [.int 0, .int 0, .int 0, .int 0, .int 0, .int 0, .int 0, .int 0, .int 0, .int 0, .int 0, .int 0, .int 0, .int 0, .int 0, .ref 42, .ref 43, .ref 44, .ref 45, .ref 46, .null, .null, .null, .null, .null, .null, .null, .null, .null, .null, .null, .null, .null, .null, .null, .null, .null, .null, .null, .null, .null, .null, .null, .null]), (1, 24, []), (1, 24, []), (1, 8, []), (1, 8, []), (1, 8, [])]
def zQ1_6 (rd : Value) : List zE := zRm1 rd ++ [(0, 12, [.int 0, .int 0, .int 0, .int 0, .int 0, .int 0, .int 0, .int 0, .int 0, .int 0, .int 0, .int 0, .int 0, .int 0, .int 0, .ref 42, .ref 43, .ref 44, .ref 45, .ref 46, .ref 47, .null, .null, .null, .null, .null, .null, .null, .null, .null, .null, .null, .null, .null, .null, .null, .null, .null, .null, .null, .null, .null, .null, .null]), (1, 24, []), (1, 24, []), (1, 8, []), (1, 8, []), (1, 8, []), (1, 8, [])]
def zQ1_7 (rd : Value) : List zE := zRm1 rd ++ [(0, 12, [.int 0, .int 0, .int 0, .int 0, .int 0, .int 0, .int 0, .int 0, .int 0, .int 0, .int 0, .int 0, .int 0, .int 0, .int 0, .ref 42, .ref 43, .ref 44, .ref 45, .ref 46, .ref 47, .ref 48, .null, .null, .null, .null, .null, .null, .null, .null, .null, .null, .null, .null, .null, .null, .null, .null, .null, .null, .null, .null, .null, .null]), (1, 24, []), (1, 24, []), (1, 8, []), (1, 8, []), (1, 8, []), (1, 8, []), (1, 8, [])]
def zQ1_8 (rd : Value) : List zE := zRm1 rd ++ [(0, 12, [.int 0, .int 0, .int 0, .int 0, .int 0, .int 0, .int 0, .int 0, .int 0, .int 0, .int 0, .int 0, .int 0, .int 0, .int 0, .ref 42, .ref 43, .ref 44, .ref 45, .ref 46, .ref 47, .ref 48, .ref 49, .null, .null, .null, .null, .null, .null, .null, .null, .null, .null, .null, .null, .null, .null, .null, .null, .null, .null, .null, .null, .null]), (1, 24, []), (1, 24, []), (1, 8, []), (1, 8, []), (1, 8, []), (1, 8, []), (1, 8, []), (1, 8, [])]
def zQ1_9 (rd : Value) : List zE := zRm1 rd ++ [(0, 12, [.int 0, .int 0, .int 0, .int 0, .int 0, .int 0, .int 0, .int 0, .int 0, .int 0, .int 0, .int 0, .int 0, .int 0, .int 0, .ref 42, .ref 43, .ref 44, .ref 45, .ref 46, .ref 47, .ref 48, .ref 49, .ref 50, .null, .null, .null, .null, .null, .null, .null, .null, .null, .null, .null, .null, .null, .null, .null, .null, .null, .null, .null, .null]), (1, 24, []), (1, 24, []), (1, 8, []), (1, 8, []), (1, 8, []), (1, 8, []), (1, 8, []), (1, 8, []), (1, 8, [])]
def zQ1_10 (rd : Value) : List zE := zRm1 rd ++ [(0, 12, [.int 0, .int 0, .int 0, .int 0, .int 0, .int 0, .int 0, .int 0, .int 0, .int 0, .int 0, .int 0, .int 0, .int 0, .int 0, .ref 42, .ref 43, .ref 44, .ref 45, .ref 46, .ref 47, .ref 48, .ref 49, .ref 50, .ref 51, .null, .null, .null, .null, .null, .null, .null, .null, .null, .null, .null, .null, .null, .null, .null, .null, .null, .null, .null]), (1, 24, []), (1, 24, []), (1, 8, []), (1, 8, []), (1, 8, []), (1, 8, []), (1, 8, []), (1, 8, []), (1, 8, []), (1, 8, [])]
def zQ1_11 (rd : Value) : List zE := zRm1 rd ++ [(0, 12, [.int 0, .int 0, .int 0, .int 0, .int 0, .int 0, .int 0, .int 0, .int 0, .int 0, .int 0, .int 0, .int 0, .int 0, .int 0, .ref 42, .ref 43, .ref 44, .ref 45, .ref 46, .ref 47, .ref 48, .ref 49, .ref 50, .ref 51, .ref 52, .null, .null, .null, .null, .null, .null, .null, .null, .null, .null, .null, .null, .null, .null, .null, .null, .null, .null]), (1, 24, []), (1, 24, []), (1, 8, []), (1, 8, []), (1, 8, []), (1, 8, []), (1, 8, []), (1, 8, []), (1, 8, []), (1, 8, []), (1, 8, [])]
def zQ1_12 (rd : Value) : List zE := zRm1 rd ++ [(0, 12, [.int 0, .int 0, .int 0, .int 0, .int 0, .int 0, .int 0, .int 0, .int 0, .int 0, .int 0, .int 0, .int 0, .int 0, .int 0, .ref 42, .ref 43, .ref 44, .ref 45, .ref 46, .ref 47, .ref 48, .ref 49, .ref 50, .ref 51, .ref 52, .ref 53, .null, .null, .null, .null, .null, .null, .null, .null, .null, .null, .null, .null, .null, .null, .null, .null, .null]), (1, 24, []), (1, 24, []), (1, 8, []), (1, 8, []), (1, 8, []), (1, 8, []), (1, 8, []), (1, 8, []), (1, 8, []), (1, 8, []), (1, 8, []), (1, 8, [])]
def zQ1_13 (rd : Value) : List zE := zRm1 rd ++ [(0, 12, [.int 0, .int 0, .int 0, .int 0, .int 0, .int 0, .int 0, .int 0, .int 0, .int 0, .int 0, .int 0, .int 0, .int 0, .int 0, .ref 42, .ref 43, .ref 44, .ref 45, .ref 46, .ref 47, .ref 48, .ref 49, .ref 50, .ref 51, .ref 52, .ref 53, .ref 54, .null, .null, .null, .null, .null, .null, .null, .null, .null, .null, .null, .null, .null, .null, .null, .null]), (1, 24, []), (1, 24, []), (1, 8, []), (1, 8, []), (1, 8, []), (1, 8, []), (1, 8, []), (1, 8, []), (1, 8, []), (1, 8, []), (1, 8, []), (1, 8, []), (1, 6, [])]
def zQ1_14 (rd : Value) : List zE := zRm1 rd ++ [(0, 12, [.int 0, .int 0, .int 0, .int 0, .int 0, .int 0, .int 0, .int 0, .int 0, .int 0, .int 0, .int 0, .int 0, .int 0, .int 0, .ref 42, .ref 43, .ref 44, .ref 45, .ref 46, .ref 47, .ref 48, .ref 49, .ref 50, .ref 51, .ref 52, .ref 53, .ref 54, .ref 55, .null, .null, .null, .null, .null, .null, .null, .null, .null, .null, .null, .null, .null, .null, .null]), (1, 24, []), (1, 24, []), (1, 8, []), (1, 8, []), (1, 8, []), (1, 8, []), (1, 8, []), (1, 8, []), (1, 8, []), (1, 8, []), (1, 8, []), (1, 8, []), (1, 6, []), (1, 6, [])]
def zQ1_15 (rd : Value) : List zE := zRm1 rd ++ [(0, 12, [.int 0, .int 0, .int 0, .int 0, .int 0, .int 0, .int 0, .int 0, .int 0, .int 0, .int 0, .int 0, .int 0, .int 0, .int 0, .ref 42, .ref 43, .ref 44, .ref 45, .ref 46, .ref 47, .ref 48, .ref 49, .ref 50, .ref 51, .ref 52, .ref 53, .ref 54, .ref 55, .ref 56, .null, .null, .null, .null, .null, .null, .null, .null, .null, .null, .null, .null, .null, .null]), (1, 24, []), (1, 24, []), (1, 8, []), (1, 8, []), (1, 8, []), (1, 8, []), (1, 8, []), (1, 8, []), (1, 8, []), (1, 8, []), (1, 8, []), (1, 8, []), (1, 6, []), (1, 6, []), (1, 6, [])]
def zQ1_16 (rd : Value) : List zE := zRm1 rd ++ [(0, 12, [.int 0, .int 0, .int 0, .int 0, .int 0, .int 0, .int 0, .int 0, .int 0, .int 0, .int 0, .int 0, .int 0, .int 0, .int 0, .ref 42, .ref 43, .ref 44, .ref 45, .ref 46, .ref 47, .ref 48, .ref 49, .ref 50, .ref 51, .ref 52, .ref 53, .ref 54, .ref 55, .ref 56, .ref 57, .null, .null, .null, .null, .null, .null, .null, .null, .null, .null, .null, .null, .null]), (1, 24, []), (1, 24, []), (1, 8, []), (1, 8, []), (1, 8, []), (1, 8, []), (1, 8, []), (1, 8, []), (1, 8, []), (1, 8, []), (1, 8, []), (1, 8, []), (1, 6, []), (1, 6, []), (1, 6, []), (1, 6, [])]
def zQ1_17 (rd : Value) : List zE := zRm1 rd ++ [(0, 12, [.int 0, .int 0, .int 0, .int 0, .int 0, .int 0, .int 0, .int 0, .int 0, .int 0, .int 0, .int 0, .int 0, .int 0, .int 0, .ref 42, .ref 43, .ref 44, .ref 45, .ref 46, .ref 47, .ref 48, .ref 49, .ref 50, .ref 51, .ref 52, .ref 53, .ref 54, .ref 55, .ref 56, .ref 57, .ref 58, .null, .null, .null, .null, .null, .null, .null, .null, .null, .null, .null, .null]), (1, 24, []), (1, 24, []), (1, 8, []), (1, 8, []), (1, 8, []), (1, 8, []), (1, 8, []), (1, 8, []), (1, 8, []), (1, 8, []), (1, 8, []), (1, 8, []), (1, 6, []), (1, 6, []), (1, 6, []), (1, 6, []), (1, 6, [])]
def zQ1_18 (rd : Value) : List zE := zRm1 rd ++ [(0, 12, [.int 0, .int 0, .int 0, .int 0, .int 0, .int 0, .int 0, .int 0, .int 0, .int 0, .int 0, .int 0, .int 0, .int 0, .int 0, .ref 42, .ref 43, .ref 44, .ref 45, .ref 46, .ref 47, .ref 48, .ref 49, .ref 50, .ref 51, .ref 52, .ref 53, .ref 54, .ref 55, .ref 56, .ref 57, .ref 58, .ref 59, .null, .null, .null, .null, .null, .null, .null, .null, .null, .null, .null]), (1, 24, []), (1, 24, []), (1, 8, []), (1, 8, []), (1, 8, []), (1, 8, []), (1, 8, []), (1, 8, []), (1, 8, []), (1, 8, []), (1, 8, []), (1, 8, []), (1, 6, []), (1, 6, []), (1, 6, []), (1, 6, []), (1, 6, []), (1, 6, [])]
def zQ1_19 (rd : Value) : List zE := zRm1 rd ++ [(0, 12, [.int 0, .int 0, .int 0, .int 0, .int 0, .int 0, .int 0, .int 0, .int 0, .int 0, .int 0, .int 0, .int 0, .int 0, .int 0, .ref 42, .ref 43, .ref 44, .ref 45, .ref 46, .ref 47, .ref 48, .ref 49, .ref 50, .ref 51, .ref 52, .ref 53, .ref 54, .ref 55, .ref 56, .ref 57, .ref 58, .ref 59, .ref 60, .null, .null, .null, .null, .null, .null, .null, .null, .null, .null]), (1, 24, []), (1, 24, []), (1, 8, []), (1, 8, []), (1, 8, []), (1, 8, []), (1, 8, []), (1, 8, []), (1, 8, []), (1, 8, []), (1, 8, []), (1, 8, []), (1, 6, []), (1, 6, []), (1, 6, []), (1, 6, []), (1, 6, []), (1, 6, []), (1, 6, [])]
def zQ1_20 (rd : Value) : List zE := zRm1 rd ++ [(0, 12, [.int 0, .int 0, .int 0, .int 0, .int 0, .int 0, .int 0, .int 0, .int 0, .int 0, .int 0, .int 0, .int 0, .int 0, .int 0, .ref 42, .ref 43, .ref 44, .ref 45, .ref 46, .ref 47, .ref 48, .ref 49, .ref 50, .ref 51, .ref 52, .ref 53, .ref 54, .ref 55, .ref 56, .ref 57, .ref 58, .ref 59, .ref 60, .ref 61, .null, .null, .null, .null, .null, .null, .null, .null, .null]), (1, 24, []), (1, 24, []), (1, 8, []), (1, 8, []), (1, 8, []), (1, 8, []), (1, 8, []), (1, 8, []), (1, 8, []), (1, 8, []), (1, 8, []), (1, 8, []), (1, 6, []), (1, 6, []), (1, 6, []), (1, 6, []), (1, 6, []), (1, 6, []), (1, 6, []), (1, 20, [])]
def zQ1_21 (rd : Value) : List zE := zRm1 rd ++ [(0, 12, [.int 0, .int 0, .int 0, .int 0, .int 0, .int 0, .int 0, .int 0, .int 0, .int 0, .int 0, .int 0, .int 0, .int 0, .int 0, .ref 42, .ref 43, .ref 44, .ref 45, .ref 46, .ref 47, .ref 48, .ref 49, .ref 50, .ref 51, .ref 52, .ref 53, .ref 54, .ref 55, .ref 56, .ref 57, .ref 58, .ref 59, .ref 60, .ref 61, .ref 62, .null, .null, .null, .null, .null, .null, .null, .null]), (1, 24, []), (1, 24, []), (1, 8, []), (1, 8, []), (1, 8, []), (1, 8, []), (1, 8, []), (1, 8, []), (1, 8, []), (1, 8, []), (1, 8, []), (1, 8, []), (1, 6, []), (1, 6, []), (1, 6, []), (1, 6, []), (1, 6, []), (1, 6, []), (1, 6, []), (1, 20, []), (1, 20, [])]
def zQ1_22 (rd : Value) : List zE := zRm1 rd ++ [(0, 12, [.int 0, .int 0, .int 0, .int 0, .int 0, .int 0, .int 0, .int 0, .int 0, .int 0, .int 0, .int 0, .int 0, .int 0, .int 0, .ref 42, .ref 43, .ref 44, .ref 45, .ref 46, .ref 47, .ref 48, .ref 49, .ref 50, .ref 51, .ref 52, .ref 53, .ref 54, .ref 55, .ref 56, .ref 57, .ref 58, .ref 59, .ref 60, .ref 61, .ref 62, .ref 63, .null, .null, .null, .null, .null, .null, .null]), (1, 24, []), (1, 24, []), (1, 8, []), (1, 8, []), (1, 8, []), (1, 8, []), (1, 8, []), (1, 8, []), (1, 8, []), (1, 8, []), (1, 8, []), (1, 8, []), (1, 6, []), (1, 6, []), (1, 6, []), (1, 6, []), (1, 6, []), (1, 6, []), (1, 6, []), (1, 20, []), (1, 20, []), (1, 20, [])]
def zQ1_23 (rd : Value) : List zE := zRm1 rd ++ [(0, 12, [.int 0, .int 0, .int 0, .int 0, .int 0, .int 0, .int 0, .int 0, .int 0, .int 0, .int 0, .int 0, .int 0, .int 0, .int 0, .ref 42, .ref 43, .ref 44, .ref 45, .ref 46, .ref 47, .ref 48, .ref 49, .ref 50, .ref 51, .ref 52, .ref 53, .ref 54, .ref 55, .ref 56, .ref 57, .ref 58, .ref 59, .ref 60, .ref 61, .ref 62, .ref 63, .ref 64, .null, .null, .null, .null, .null, .null]), (1, 24, []), (1, 24, []), (1, 8, []), (1, 8, []), (1, 8, []), (1, 8, []), (1, 8, []), (1, 8, []), (1, 8, []), (1, 8, []), (1, 8, []), (1, 8, []), (1, 6, []), (1, 6, []), (1, 6, []), (1, 6, []), (1, 6, []), (1, 6, []), (1, 6, []), (1, 20, []), (1, 20, []), (1, 20, []), (1, 20, [])]
def zQ1_24 (rd : Value) : List zE := zRm1 rd ++ [(0, 12, [.int 0, .int 0, .int 0, .int 0, .int 0, .int 0, .int 0, .int 0, .int 0, .int 0, .int 0, .int 0, .int 0, .int 0, .int 0, .ref 42, .ref 43, .ref 44, .ref 45, .ref 46, .ref 47, .ref 48, .ref 49, .ref 50, .ref 51, .ref 52, .ref 53, .ref 54, .ref 55, .ref 56, .ref 57, .ref 58, .ref 59, .ref 60, .ref 61, .ref 62, .ref 63, .ref 64, .ref 65, .null, .null, .null, .null, .null]), (1, 24, []), (1, 24, []), (1, 8, []), (1, 8, []), (1, 8, []), (1, 8, []), (1, 8, []), (1, 8, []), (1, 8, []), (1, 8, []), (1, 8, []), (1, 8, []), (1, 6, []), (1, 6, []), (1, 6, []), (1, 6, []), (1, 6, []), (1, 6, []), (1, 6, []), (1, 20, []), (1, 20, []), (1, 20, []), (1, 20, []), (1, 4, [])]
def zQ1_25 (rd : Value) : List zE := zRm1 rd ++ [(0, 12, [.int 0, .int 0, .int 0, .int 0, .int 0, .int 0, .int 0, .int 0, .int 0, .int 0, .int 0, .int 0, .int 0, .int 0, .int 0, .ref 42, .ref 43, .ref 44, .ref 45, .ref 46, .ref 47, .ref 48, .ref 49, .ref 50, .ref 51, .ref 52, .ref 53, .ref 54, .ref 55, .ref 56, .ref 57, .ref 58, .ref 59, .ref 60, .ref 61, .ref 62, .ref 63, .ref 64, .ref 65, .ref 66, .null, .null, .null, .null]), (1, 24, []), (1, 24, []), (1, 8, []), (1, 8, []), (1, 8, []), (1, 8, []), (1, 8, []), (1, 8, []), (1, 8, []), (1, 8, []), (1, 8, []), (1, 8, []), (1, 6, []), (1, 6, []), (1, 6, []), (1, 6, []), (1, 6, []), (1, 6, []), (1, 6, []), (1, 20, []), (1, 20, []), (1, 20, []), (1, 20, []), (1, 4, []), (1, 4, [])]
def zQ1_26 (rd : Value) : List zE := zRm1 rd ++ [(0, 12, [.int 0, .int 0, .int 0, .int 0, .int 0, .int 0, .int 0, .int 0, .int 0, .int 0, .int 0, .int 0, .int 0, .int 0, .int 0, .ref 42, .ref 43, .ref 44, .ref 45, .ref 46, .ref 47, .ref 48, .ref 49, .ref 50, .ref 51, .ref 52, .ref 53, .ref 54, .ref 55, .ref 56, .ref 57, .ref 58, .ref 59, .ref 60, .ref 61, .ref 62, .ref 63, .ref 64, .ref 65, .ref 66, .ref 67, .null, .null, .null]), (1, 24, []), (1, 24, []), (1, 8, []), (1, 8, []), (1, 8, []), (1, 8, []), (1, 8, []), (1, 8, []), (1, 8, []), (1, 8, []), (1, 8, []), (1, 8, []), (1, 6, []), (1, 6, []), (1, 6, []), (1, 6, []), (1, 6, []), (1, 6, []), (1, 6, []), (1, 20, []), (1, 20, []), (1, 20, []), (1, 20, []), (1, 4, []), (1, 4, []), (1, 4, [])]
def zQ1_27 (rd : Value) : List zE := zRm1 rd ++ [(0, 12, [.int 0, .int 0, .int 0, .int 0, .int 0, .int 0, .int 0, .int 0, .int 0, .int 0, .int 0, .int 0, .int 0, .int 0, .int 0, .ref 42, .ref 43, .ref 44, .ref 45, .ref 46, .ref 47, .ref 48, .ref 49, .ref 50, .ref 51, .ref 52, .ref 53, .ref 54, .ref 55, .ref 56, .ref 57, .ref 58, .ref 59, .ref 60, .ref 61, .ref 62, .ref 63, .ref 64, .ref 65, .ref 66, .ref 67, .ref 68, .null, .null]), (1, 24, []), (1, 24, []), (1, 8, []), (1, 8, []), (1, 8, []), (1, 8, []), (1, 8, []), (1, 8, []), (1, 8, []), (1, 8, []), (1, 8, []), (1, 8, []), (1, 6, []), (1, 6, []), (1, 6, []), (1, 6, []), (1, 6, []), (1, 6, []), (1, 6, []), (1, 20, []), (1, 20, []), (1, 20, []), (1, 20, []), (1, 4, []), (1, 4, []), (1, 4, []), (2, 26, [])]
def zQ1_28 (rd : Value) : List zE := zRm1 rd ++ [(0, 12, [.int 0, .int 0, .int 0, .int 0, .int 0, .int 0, .int 0, .int 0, .int 0, .int 0, .int 0, .int 0, .int 0, .int 0, .int 0, .ref 42, .ref 43, .ref 44, .ref 45, .ref 46, .ref 47, .ref 48, .ref 49, .ref 50, .ref 51, .ref 52, .ref 53, .ref 54, .ref 55, .ref 56, .ref 57, .ref 58, .ref 59, .ref 60, .ref 61, .ref 62, .ref 63, .ref 64, .ref 65, .ref 66, .ref 67, .ref 68, .ref 69, .null]), (1, 24, []), (1, 24, []), (1, 8, []), (1, 8, []), (1, 8, []), (1, 8, []), (1, 8, []), (1, 8, []), (1, 8, []), (1, 8, []), (1, 8, []), (1, 8, []), (1, 6, []), (1, 6, []), (1, 6, []), (1, 6, []), (1, 6, []), (1, 6, []), (1, 6, []), (1, 20, []), (1, 20, []), (1, 20, []), (1, 20, []), (1, 4, []), (1, 4, []), (1, 4, []), (2, 26, []), (1, 26, [])]
def zQ1_29 (rd : Value) : List zE := zRm1 rd ++ [(0, 12, [.int 0, .int 0, .int 0, .int 0, .int 0, .int 0, .int 0, .int 0, .int 0, .int 0, .int 0, .int 0, .int 0, .int 0, .int 0, .ref 42, .ref 43, .ref 44, .ref 45, .ref 46, .ref 47, .ref 48, .ref 49, .ref 50, .ref 51, .ref 52, .ref 53, .ref 54, .ref 55, .ref 56, .ref 57, .ref 58, .ref 59, .ref 60, .ref 61, .ref 62, .ref 63, .ref 64, .ref 65, .ref 66, .ref 67, .ref 68, .ref 69, .ref 70]), (1, 24, []), (1, 24, []), (1, 8, []), (1, 8, []), (1, 8, []), (1, 8, []), (1, 8, []), (1, 8, []), (1, 8, []), (1, 8, []), (1, 8, []), (1, 8, []), (1, 6, []), (1, 6, []), (1, 6, []), (1, 6, []), (1, 6, []), (1, 6, []), (1, 6, []), (1, 20, []), (1, 20, []), (1, 20, []), (1, 20, []), (1, 4, []), (1, 4, []), (1, 4, []), (2, 26, []), (1, 26, []), (1, 26, [])]
theorem b165_1_0 : zgo 165 9 [.ref 41] [] (zQ1_0 rd) S L = zgo 165 17 [.ref 41] [] (zQ1_1 rd) (zclr 0 S 42) (zclr 0 L 42) := by
  have hl : (zQ1_0 rd).length = 42 := rfl
  have he : (24 : Int32).toNatClampNeg = 24 := by decide
  have hp : ∀ (S : zS) (L : zL), zputf (zQ1_0 rd ++ [(1, 24, [])]) S L 41 12 15 (.ref 42) = some (zQ1_1 rd, S, L) := fun _ _ => rfl
  rw [s165_9, s165_10, s165_12, hl, he, if_pos ⟨by omega, by decide, by omega⟩, s165_14, hp]
  rfl
theorem b165_1_1 : zgo 165 17 [.ref 41] [] (zQ1_1 rd) S L = zgo 165 25 [.ref 41] [] (zQ1_2 rd) (zclr 0 S 43) (zclr 0 L 43) := by
  have hl : (zQ1_1 rd).length = 43 := rfl
  have he : (24 : Int32).toNatClampNeg = 24 := by decide
  have hp : ∀ (S : zS) (L : zL), zputf (zQ1_1 rd ++ [(1, 24, [])]) S L 41 12 16 (.ref 43) = some (zQ1_2 rd, S, L) := fun _ _ => rfl
  rw [s165_17, s165_18, s165_20, hl, he, if_pos ⟨by omega, by decide, by omega⟩, s165_22, hp]
  rfl
theorem b165_1_2 : zgo 165 25 [.ref 41] [] (zQ1_2 rd) S L = zgo 165 33 [.ref 41] [] (zQ1_3 rd) (zclr 0 S 44) (zclr 0 L 44) := by
  have hl : (zQ1_2 rd).length = 44 := rfl
  have he : (8 : Int32).toNatClampNeg = 8 := by decide
  have hp : ∀ (S : zS) (L : zL), zputf (zQ1_2 rd ++ [(1, 8, [])]) S L 41 12 17 (.ref 44) = some (zQ1_3 rd, S, L) := fun _ _ => rfl
  rw [s165_25, s165_26, s165_28, hl, he, if_pos ⟨by omega, by decide, by omega⟩, s165_30, hp]
  rfl
theorem b165_1_3 : zgo 165 33 [.ref 41] [] (zQ1_3 rd) S L = zgo 165 41 [.ref 41] [] (zQ1_4 rd) (zclr 0 S 45) (zclr 0 L 45) := by
  have hl : (zQ1_3 rd).length = 45 := rfl
  have he : (8 : Int32).toNatClampNeg = 8 := by decide
  have hp : ∀ (S : zS) (L : zL), zputf (zQ1_3 rd ++ [(1, 8, [])]) S L 41 12 18 (.ref 45) = some (zQ1_4 rd, S, L) := fun _ _ => rfl
  rw [s165_33, s165_34, s165_36, hl, he, if_pos ⟨by omega, by decide, by omega⟩, s165_38, hp]
  rfl
theorem b165_1_4 : zgo 165 41 [.ref 41] [] (zQ1_4 rd) S L = zgo 165 49 [.ref 41] [] (zQ1_5 rd) (zclr 0 S 46) (zclr 0 L 46) := by
  have hl : (zQ1_4 rd).length = 46 := rfl
  have he : (8 : Int32).toNatClampNeg = 8 := by decide
  have hp : ∀ (S : zS) (L : zL), zputf (zQ1_4 rd ++ [(1, 8, [])]) S L 41 12 19 (.ref 46) = some (zQ1_5 rd, S, L) := fun _ _ => rfl
  rw [s165_41, s165_42, s165_44, hl, he, if_pos ⟨by omega, by decide, by omega⟩, s165_46, hp]
  rfl
theorem b165_1_5 : zgo 165 49 [.ref 41] [] (zQ1_5 rd) S L = zgo 165 57 [.ref 41] [] (zQ1_6 rd) (zclr 0 S 47) (zclr 0 L 47) := by
  have hl : (zQ1_5 rd).length = 47 := rfl
  have he : (8 : Int32).toNatClampNeg = 8 := by decide
  have hp : ∀ (S : zS) (L : zL), zputf (zQ1_5 rd ++ [(1, 8, [])]) S L 41 12 20 (.ref 47) = some (zQ1_6 rd, S, L) := fun _ _ => rfl
  rw [s165_49, s165_50, s165_52, hl, he, if_pos ⟨by omega, by decide, by omega⟩, s165_54, hp]
  rfl
theorem b165_1_6 : zgo 165 57 [.ref 41] [] (zQ1_6 rd) S L = zgo 165 65 [.ref 41] [] (zQ1_7 rd) (zclr 0 S 48) (zclr 0 L 48) := by
  have hl : (zQ1_6 rd).length = 48 := rfl
  have he : (8 : Int32).toNatClampNeg = 8 := by decide
  have hp : ∀ (S : zS) (L : zL), zputf (zQ1_6 rd ++ [(1, 8, [])]) S L 41 12 21 (.ref 48) = some (zQ1_7 rd, S, L) := fun _ _ => rfl
  rw [s165_57, s165_58, s165_60, hl, he, if_pos ⟨by omega, by decide, by omega⟩, s165_62, hp]
  rfl
theorem b165_1_7 : zgo 165 65 [.ref 41] [] (zQ1_7 rd) S L = zgo 165 73 [.ref 41] [] (zQ1_8 rd) (zclr 0 S 49) (zclr 0 L 49) := by
  have hl : (zQ1_7 rd).length = 49 := rfl
  have he : (8 : Int32).toNatClampNeg = 8 := by decide
  have hp : ∀ (S : zS) (L : zL), zputf (zQ1_7 rd ++ [(1, 8, [])]) S L 41 12 22 (.ref 49) = some (zQ1_8 rd, S, L) := fun _ _ => rfl
  rw [s165_65, s165_66, s165_68, hl, he, if_pos ⟨by omega, by decide, by omega⟩, s165_70, hp]
  rfl
theorem b165_1_8 : zgo 165 73 [.ref 41] [] (zQ1_8 rd) S L = zgo 165 81 [.ref 41] [] (zQ1_9 rd) (zclr 0 S 50) (zclr 0 L 50) := by
  have hl : (zQ1_8 rd).length = 50 := rfl
  have he : (8 : Int32).toNatClampNeg = 8 := by decide
  have hp : ∀ (S : zS) (L : zL), zputf (zQ1_8 rd ++ [(1, 8, [])]) S L 41 12 23 (.ref 50) = some (zQ1_9 rd, S, L) := fun _ _ => rfl
  rw [s165_73, s165_74, s165_76, hl, he, if_pos ⟨by omega, by decide, by omega⟩, s165_78, hp]
  rfl
theorem b165_1_9 : zgo 165 81 [.ref 41] [] (zQ1_9 rd) S L = zgo 165 89 [.ref 41] [] (zQ1_10 rd) (zclr 0 S 51) (zclr 0 L 51) := by
  have hl : (zQ1_9 rd).length = 51 := rfl
  have he : (8 : Int32).toNatClampNeg = 8 := by decide
  have hp : ∀ (S : zS) (L : zL), zputf (zQ1_9 rd ++ [(1, 8, [])]) S L 41 12 24 (.ref 51) = some (zQ1_10 rd, S, L) := fun _ _ => rfl
  rw [s165_81, s165_82, s165_84, hl, he, if_pos ⟨by omega, by decide, by omega⟩, s165_86, hp]
  rfl
theorem b165_1_10 : zgo 165 89 [.ref 41] [] (zQ1_10 rd) S L = zgo 165 97 [.ref 41] [] (zQ1_11 rd) (zclr 0 S 52) (zclr 0 L 52) := by
  have hl : (zQ1_10 rd).length = 52 := rfl
  have he : (8 : Int32).toNatClampNeg = 8 := by decide
  have hp : ∀ (S : zS) (L : zL), zputf (zQ1_10 rd ++ [(1, 8, [])]) S L 41 12 25 (.ref 52) = some (zQ1_11 rd, S, L) := fun _ _ => rfl
  rw [s165_89, s165_90, s165_92, hl, he, if_pos ⟨by omega, by decide, by omega⟩, s165_94, hp]
  rfl
theorem b165_1_11 : zgo 165 97 [.ref 41] [] (zQ1_11 rd) S L = zgo 165 105 [.ref 41] [] (zQ1_12 rd) (zclr 0 S 53) (zclr 0 L 53) := by
  have hl : (zQ1_11 rd).length = 53 := rfl
  have he : (8 : Int32).toNatClampNeg = 8 := by decide
  have hp : ∀ (S : zS) (L : zL), zputf (zQ1_11 rd ++ [(1, 8, [])]) S L 41 12 26 (.ref 53) = some (zQ1_12 rd, S, L) := fun _ _ => rfl
  rw [s165_97, s165_98, s165_100, hl, he, if_pos ⟨by omega, by decide, by omega⟩, s165_102, hp]
  rfl
theorem b165_1_12 : zgo 165 105 [.ref 41] [] (zQ1_12 rd) S L = zgo 165 113 [.ref 41] [] (zQ1_13 rd) (zclr 0 S 54) (zclr 0 L 54) := by
  have hl : (zQ1_12 rd).length = 54 := rfl
  have he : (6 : Int32).toNatClampNeg = 6 := by decide
  have hp : ∀ (S : zS) (L : zL), zputf (zQ1_12 rd ++ [(1, 6, [])]) S L 41 12 27 (.ref 54) = some (zQ1_13 rd, S, L) := fun _ _ => rfl
  rw [s165_105, s165_106, s165_108, hl, he, if_pos ⟨by omega, by decide, by omega⟩, s165_110, hp]
  rfl
theorem b165_1_13 : zgo 165 113 [.ref 41] [] (zQ1_13 rd) S L = zgo 165 121 [.ref 41] [] (zQ1_14 rd) (zclr 0 S 55) (zclr 0 L 55) := by
  have hl : (zQ1_13 rd).length = 55 := rfl
  have he : (6 : Int32).toNatClampNeg = 6 := by decide
  have hp : ∀ (S : zS) (L : zL), zputf (zQ1_13 rd ++ [(1, 6, [])]) S L 41 12 28 (.ref 55) = some (zQ1_14 rd, S, L) := fun _ _ => rfl
  rw [s165_113, s165_114, s165_116, hl, he, if_pos ⟨by omega, by decide, by omega⟩, s165_118, hp]
  rfl
theorem b165_1_14 : zgo 165 121 [.ref 41] [] (zQ1_14 rd) S L = zgo 165 129 [.ref 41] [] (zQ1_15 rd) (zclr 0 S 56) (zclr 0 L 56) := by
  have hl : (zQ1_14 rd).length = 56 := rfl
  have he : (6 : Int32).toNatClampNeg = 6 := by decide
  have hp : ∀ (S : zS) (L : zL), zputf (zQ1_14 rd ++ [(1, 6, [])]) S L 41 12 29 (.ref 56) = some (zQ1_15 rd, S, L) := fun _ _ => rfl
  rw [s165_121, s165_122, s165_124, hl, he, if_pos ⟨by omega, by decide, by omega⟩, s165_126, hp]
  rfl
theorem b165_1_15 : zgo 165 129 [.ref 41] [] (zQ1_15 rd) S L = zgo 165 137 [.ref 41] [] (zQ1_16 rd) (zclr 0 S 57) (zclr 0 L 57) := by
  have hl : (zQ1_15 rd).length = 57 := rfl
  have he : (6 : Int32).toNatClampNeg = 6 := by decide
  have hp : ∀ (S : zS) (L : zL), zputf (zQ1_15 rd ++ [(1, 6, [])]) S L 41 12 30 (.ref 57) = some (zQ1_16 rd, S, L) := fun _ _ => rfl
  rw [s165_129, s165_130, s165_132, hl, he, if_pos ⟨by omega, by decide, by omega⟩, s165_134, hp]
  rfl
theorem b165_1_16 : zgo 165 137 [.ref 41] [] (zQ1_16 rd) S L = zgo 165 145 [.ref 41] [] (zQ1_17 rd) (zclr 0 S 58) (zclr 0 L 58) := by
  have hl : (zQ1_16 rd).length = 58 := rfl
  have he : (6 : Int32).toNatClampNeg = 6 := by decide
  have hp : ∀ (S : zS) (L : zL), zputf (zQ1_16 rd ++ [(1, 6, [])]) S L 41 12 31 (.ref 58) = some (zQ1_17 rd, S, L) := fun _ _ => rfl
  rw [s165_137, s165_138, s165_140, hl, he, if_pos ⟨by omega, by decide, by omega⟩, s165_142, hp]
  rfl
theorem b165_1_17 : zgo 165 145 [.ref 41] [] (zQ1_17 rd) S L = zgo 165 153 [.ref 41] [] (zQ1_18 rd) (zclr 0 S 59) (zclr 0 L 59) := by
  have hl : (zQ1_17 rd).length = 59 := rfl
  have he : (6 : Int32).toNatClampNeg = 6 := by decide
  have hp : ∀ (S : zS) (L : zL), zputf (zQ1_17 rd ++ [(1, 6, [])]) S L 41 12 32 (.ref 59) = some (zQ1_18 rd, S, L) := fun _ _ => rfl
  rw [s165_145, s165_146, s165_148, hl, he, if_pos ⟨by omega, by decide, by omega⟩, s165_150, hp]
  rfl
theorem b165_1_18 : zgo 165 153 [.ref 41] [] (zQ1_18 rd) S L = zgo 165 161 [.ref 41] [] (zQ1_19 rd) (zclr 0 S 60) (zclr 0 L 60) := by
  have hl : (zQ1_18 rd).length = 60 := rfl
  have he : (6 : Int32).toNatClampNeg = 6 := by decide
  have hp : ∀ (S : zS) (L : zL), zputf (zQ1_18 rd ++ [(1, 6, [])]) S L 41 12 33 (.ref 60) = some (zQ1_19 rd, S, L) := fun _ _ => rfl
  rw [s165_153, s165_154, s165_156, hl, he, if_pos ⟨by omega, by decide, by omega⟩, s165_158, hp]
  rfl
theorem b165_1_19 : zgo 165 161 [.ref 41] [] (zQ1_19 rd) S L = zgo 165 169 [.ref 41] [] (zQ1_20 rd) (zclr 0 S 61) (zclr 0 L 61) := by
  have hl : (zQ1_19 rd).length = 61 := rfl
  have he : (20 : Int32).toNatClampNeg = 20 := by decide
  have hp : ∀ (S : zS) (L : zL), zputf (zQ1_19 rd ++ [(1, 20, [])]) S L 41 12 34 (.ref 61) = some (zQ1_20 rd, S, L) := fun _ _ => rfl
  rw [s165_161, s165_162, s165_164, hl, he, if_pos ⟨by omega, by decide, by omega⟩, s165_166, hp]
  rfl
theorem b165_1_20 : zgo 165 169 [.ref 41] [] (zQ1_20 rd) S L = zgo 165 177 [.ref 41] [] (zQ1_21 rd) (zclr 0 S 62) (zclr 0 L 62) := by
  have hl : (zQ1_20 rd).length = 62 := rfl
  have he : (20 : Int32).toNatClampNeg = 20 := by decide
  have hp : ∀ (S : zS) (L : zL), zputf (zQ1_20 rd ++ [(1, 20, [])]) S L 41 12 35 (.ref 62) = some (zQ1_21 rd, S, L) := fun _ _ => rfl
  rw [s165_169, s165_170, s165_172, hl, he, if_pos ⟨by omega, by decide, by omega⟩, s165_174, hp]
  rfl
theorem b165_1_21 : zgo 165 177 [.ref 41] [] (zQ1_21 rd) S L = zgo 165 185 [.ref 41] [] (zQ1_22 rd) (zclr 0 S 63) (zclr 0 L 63) := by
  have hl : (zQ1_21 rd).length = 63 := rfl
  have he : (20 : Int32).toNatClampNeg = 20 := by decide
  have hp : ∀ (S : zS) (L : zL), zputf (zQ1_21 rd ++ [(1, 20, [])]) S L 41 12 36 (.ref 63) = some (zQ1_22 rd, S, L) := fun _ _ => rfl
  rw [s165_177, s165_178, s165_180, hl, he, if_pos ⟨by omega, by decide, by omega⟩, s165_182, hp]
  rfl
theorem b165_1_22 : zgo 165 185 [.ref 41] [] (zQ1_22 rd) S L = zgo 165 193 [.ref 41] [] (zQ1_23 rd) (zclr 0 S 64) (zclr 0 L 64) := by
  have hl : (zQ1_22 rd).length = 64 := rfl
  have he : (20 : Int32).toNatClampNeg = 20 := by decide
  have hp : ∀ (S : zS) (L : zL), zputf (zQ1_22 rd ++ [(1, 20, [])]) S L 41 12 37 (.ref 64) = some (zQ1_23 rd, S, L) := fun _ _ => rfl
  rw [s165_185, s165_186, s165_188, hl, he, if_pos ⟨by omega, by decide, by omega⟩, s165_190, hp]
  rfl
theorem b165_1_23 : zgo 165 193 [.ref 41] [] (zQ1_23 rd) S L = zgo 165 200 [.ref 41] [] (zQ1_24 rd) (zclr 0 S 65) (zclr 0 L 65) := by
  have hl : (zQ1_23 rd).length = 65 := rfl
  have he : (4 : Int32).toNatClampNeg = 4 := by decide
  have hp : ∀ (S : zS) (L : zL), zputf (zQ1_23 rd ++ [(1, 4, [])]) S L 41 12 38 (.ref 65) = some (zQ1_24 rd, S, L) := fun _ _ => rfl
  rw [s165_193, s165_194, s165_195, hl, he, if_pos ⟨by omega, by decide, by omega⟩, s165_197, hp]
  rfl
theorem b165_1_24 : zgo 165 200 [.ref 41] [] (zQ1_24 rd) S L = zgo 165 207 [.ref 41] [] (zQ1_25 rd) (zclr 0 S 66) (zclr 0 L 66) := by
  have hl : (zQ1_24 rd).length = 66 := rfl
  have he : (4 : Int32).toNatClampNeg = 4 := by decide
  have hp : ∀ (S : zS) (L : zL), zputf (zQ1_24 rd ++ [(1, 4, [])]) S L 41 12 39 (.ref 66) = some (zQ1_25 rd, S, L) := fun _ _ => rfl
  rw [s165_200, s165_201, s165_202, hl, he, if_pos ⟨by omega, by decide, by omega⟩, s165_204, hp]
  rfl
theorem b165_1_25 : zgo 165 207 [.ref 41] [] (zQ1_25 rd) S L = zgo 165 214 [.ref 41] [] (zQ1_26 rd) (zclr 0 S 67) (zclr 0 L 67) := by
  have hl : (zQ1_25 rd).length = 67 := rfl
  have he : (4 : Int32).toNatClampNeg = 4 := by decide
  have hp : ∀ (S : zS) (L : zL), zputf (zQ1_25 rd ++ [(1, 4, [])]) S L 41 12 40 (.ref 67) = some (zQ1_26 rd, S, L) := fun _ _ => rfl
  rw [s165_207, s165_208, s165_209, hl, he, if_pos ⟨by omega, by decide, by omega⟩, s165_211, hp]
  rfl
theorem b165_1_26 : zgo 165 214 [.ref 41] [] (zQ1_26 rd) S L = zgo 165 222 [.ref 41] [] (zQ1_27 rd) (zclr 0 S 68) (zclr 0 L 68) := by
  have hl : (zQ1_26 rd).length = 68 := rfl
  have he : (26 : Int32).toNatClampNeg = 26 := by decide
  have hp : ∀ (S : zS) (L : zL), zputf (zQ1_26 rd ++ [(2, 26, [])]) S L 41 12 41 (.ref 68) = some (zQ1_27 rd, S, L) := fun _ _ => rfl
  rw [s165_214, s165_215, s165_217, hl, he, if_pos ⟨by omega, by decide, by omega⟩, s165_219, hp]
  rfl
theorem b165_1_27 : zgo 165 222 [.ref 41] [] (zQ1_27 rd) S L = zgo 165 230 [.ref 41] [] (zQ1_28 rd) (zclr 0 S 69) (zclr 0 L 69) := by
  have hl : (zQ1_27 rd).length = 69 := rfl
  have he : (26 : Int32).toNatClampNeg = 26 := by decide
  have hp : ∀ (S : zS) (L : zL), zputf (zQ1_27 rd ++ [(1, 26, [])]) S L 41 12 42 (.ref 69) = some (zQ1_28 rd, S, L) := fun _ _ => rfl
  rw [s165_222, s165_223, s165_225, hl, he, if_pos ⟨by omega, by decide, by omega⟩, s165_227, hp]
  rfl
theorem b165_1_28 : zgo 165 230 [.ref 41] [] (zQ1_28 rd) S L = zgo 165 238 [.ref 41] [] (zQ1_29 rd) (zclr 0 S 70) (zclr 0 L 70) := by
  have hl : (zQ1_28 rd).length = 70 := rfl
  have he : (26 : Int32).toNatClampNeg = 26 := by decide
  have hp : ∀ (S : zS) (L : zL), zputf (zQ1_28 rd ++ [(1, 26, [])]) S L 41 12 43 (.ref 70) = some (zQ1_29 rd, S, L) := fun _ _ => rfl
  rw [s165_230, s165_231, s165_233, hl, he, if_pos ⟨by omega, by decide, by omega⟩, s165_235, hp]
  rfl
theorem t165_1 : zcall 165 [.ref 41] (zRm1 rd ++ [(0, 12, zdefs 12)]) S L = some (none, zQ1_29 rd, zclr 0 (zclr 0 (zclr 0 (zclr 0 (zclr 0 (zclr 0 (zclr 0 (zclr 0 (zclr 0 (zclr 0 (zclr 0 (zclr 0 (zclr 0 (zclr 0 (zclr 0 (zclr 0 (zclr 0 (zclr 0 (zclr 0 (zclr 0 (zclr 0 (zclr 0 (zclr 0 (zclr 0 (zclr 0 (zclr 0 (zclr 0 (zclr 0 (zclr 0 (zup S 41 4 (-1)) 42) 43) 44) 45) 46) 47) 48) 49) 50) 51) 52) 53) 54) 55) 56) 57) 58) 59) 60) 61) 62) 63) 64) 65) 66) 67) 68) 69) 70, zclr 0 (zclr 0 (zclr 0 (zclr 0 (zclr 0 (zclr 0 (zclr 0 (zclr 0 (zclr 0 (zclr 0 (zclr 0 (zclr 0 (zclr 0 (zclr 0 (zclr 0 (zclr 0 (zclr 0 (zclr 0 (zclr 0 (zclr 0 (zclr 0 (zclr 0 (zclr 0 (zclr 0 (zclr 0 (zclr 0 (zclr 0 (zclr 0 (zclr 0 (L) 42) 43) 44) 45) 46) 47) 48) 49) 50) 51) 52) 53) 54) 55) 56) 57) 58) 59) 60) 61) 62) 63) 64) 65) 66) 67) 68) 69) 70) := by
  have h0 : zRm1 rd ++ [(0, 12, zdefs 12)] = zQ1_0 rd := rfl
  have hp : zputf (zQ1_0 rd) S L 41 12 4 (.int (-1)) = some (zQ1_0 rd, zup S 41 4 (-1), L) := rfl
  have hs : zcall 165 [.ref 41] (zQ1_0 rd) S L = zgo 165 0 [.ref 41] [] (zQ1_0 rd) S L := rfl
  have h1 : zgo 165 0 [.ref 41] [] (zQ1_0 rd) S L = zgo 165 9 [.ref 41] [] (zQ1_0 rd) (zup S 41 4 (-1)) L := by
    rw [s165_0, s165_1, s165_4, s165_5, s165_6, hp]
    rfl
  rw [h0, hs, h1, b165_1_0, b165_1_1, b165_1_2, b165_1_3, b165_1_4, b165_1_5, b165_1_6, b165_1_7, b165_1_8, b165_1_9, b165_1_10, b165_1_11, b165_1_12, b165_1_13, b165_1_14, b165_1_15, b165_1_16, b165_1_17, b165_1_18, b165_1_19, b165_1_20, b165_1_21, b165_1_22, b165_1_23, b165_1_24, b165_1_25, b165_1_26, b165_1_27, b165_1_28, s165_238]
end ZPP
