/-! how the two heaps lie, and how they read -/
theorem zputI {R : List zE} {S : zS} {L : zL} {a ci k : Nat} {x o : Int32} {fs : List Value} (h : R[a]? = some (0, ci, fs)) (hk : fs[k]? = some (.int o)) (ht : zty ci k = .int) : zputf R S L a ci k (.int x) = some (R, zup S a k x, L) := by
  simp [zputf, h, hk, ht, fits, narrow]
theorem zputB {R : List zE} {S : zS} {L : zL} {a ci k : Nat} {x o : Int32} {fs : List Value} (h : R[a]? = some (0, ci, fs)) (hk : fs[k]? = some (.int o)) (ht : zty ci k = .boolean) (hx : fits .boolean (.int x) = true) (hn : narrow .boolean (.int x) = .int x) : zputf R S L a ci k (.int x) = some (R, zup S a k x, L) := by
  simp [zputf, h, hk, ht, hx, hn]
theorem zputL {R : List zE} {S : zS} {L : zL} {a ci k : Nat} {x o : Int64} {fs : List Value} (h : R[a]? = some (0, ci, fs)) (hk : fs[k]? = some (.long o)) (ht : zty ci k = .long) : zputf R S L a ci k (.long x) = some (R, S, zup L a k x) := by
  simp [zputf, h, hk, ht, fits, narrow]
def zRc0 : List zE := [(0, 11, [.ref 1, .ref 4, .ref 80, .ref 162, .ref 168, .ref 187, .ref 206, .ref 208, .ref 285, .ref 288, .ref 291, .int 0, .int 0, .int 0, .int 0, .int 0, .int 0]), (0, 9, [.ref 2, .int 0, .int 0, .int 0, .int 0, .int 0]), (0, 6, [.ref 3]), (1, 900, []), (0, 4, [.int 0, .int 0, .int 0, .int 0, .int 0, .int 0, .int 0, .int 0, .ref 5, .ref 12, .ref 25, .ref 38, .ref 51, .ref 64, .ref 73]), (0, 7, [.ref 6, .ref 8, .ref 10, .int 0]), (0, 6, [.ref 7]), (1, 5, []), (0, 6, [.ref 9]), (1, 5, []), (0, 6, [.ref 11]), (1, 5, []), (0, 8, [.int 0, .ref 13, .ref 15, .ref 17, .ref 19, .ref 21, .ref 23, .int 0]), (0, 6, [.ref 14]), (1, 8, []), (0, 6, [.ref 16]), (1, 8, []), (0, 6, [.ref 18]), (1, 8, []), (0, 6, [.ref 20]), (1, 8, []), (0, 6, [.ref 22]), (1, 8, []), (0, 6, [.ref 24]), (1, 8, []), (0, 8, [.int 0, .ref 26, .ref 28, .ref 30, .ref 32, .ref 34, .ref 36, .int 0]), (0, 6, [.ref 27]), (1, 8, []), (0, 6, [.ref 29]), (1, 8, []), (0, 6, [.ref 31]), (1, 8, []), (0, 6, [.ref 33]), (1, 8, []), (0, 6, [.ref 35]), (1, 8, []), (0, 6, [.ref 37]), (1, 8, []), (0, 8, [.int 0, .ref 39, .ref 41, .ref 43, .ref 45, .ref 47, .ref 49, .int 0]), (0, 6, [.ref 40]), (1, 6, []), (0, 6, [.ref 42]), (1, 6, []), (0, 6, [.ref 44]), (1, 6, []), (0, 6, [.ref 46]), (1, 6, []), (0, 6, [.ref 48]), (1, 6, []), (0, 6, [.ref 50]), (1, 6, []), (0, 8, [.int 0, .ref 52, .ref 54, .ref 56, .ref 58, .ref 60, .ref 62, .int 0]), (0, 6, [.ref 53]), (1, 6, []), (0, 6, [.ref 55]), (1, 6, []), (0, 6, [.ref 57]), (1, 6, []), (0, 6, [.ref 59]), (1, 6, [])]
def zRc1 : List zE := [(0, 6, [.ref 61]), (1, 6, []), (0, 6, [.ref 63]), (1, 6, []), (0, 0, [.ref 65, .ref 67, .ref 69, .ref 71, .int 0]), (0, 6, [.ref 66]), (1, 20, []), (0, 6, [.ref 68]), (1, 20, []), (0, 6, [.ref 70]), (1, 20, []), (0, 6, [.ref 72]), (1, 20, []), (0, 3, [.ref 74, .ref 76, .ref 78, .int 0]), (0, 6, [.ref 75]), (1, 4, []), (0, 6, [.ref 77]), (1, 4, []), (0, 6, [.ref 79]), (1, 4, []), (0, 5, [.ref 1, .ref 81, .ref 157, .ref 158, .ref 160, .int 0, .int 0, .int 0]), (0, 4, [.int 0, .int 0, .int 0, .int 0, .int 0, .int 0, .int 0, .int 0, .ref 82, .ref 89, .ref 102, .ref 115, .ref 128, .ref 141, .ref 150]), (0, 7, [.ref 83, .ref 85, .ref 87, .int 0]), (0, 6, [.ref 84]), (1, 5, []), (0, 6, [.ref 86]), (1, 5, []), (0, 6, [.ref 88]), (1, 5, []), (0, 8, [.int 0, .ref 90, .ref 92, .ref 94, .ref 96, .ref 98, .ref 100, .int 0]), (0, 6, [.ref 91]), (1, 8, []), (0, 6, [.ref 93]), (1, 8, []), (0, 6, [.ref 95]), (1, 8, []), (0, 6, [.ref 97]), (1, 8, []), (0, 6, [.ref 99]), (1, 8, []), (0, 6, [.ref 101]), (1, 8, []), (0, 8, [.int 0, .ref 103, .ref 105, .ref 107, .ref 109, .ref 111, .ref 113, .int 0]), (0, 6, [.ref 104]), (1, 8, []), (0, 6, [.ref 106]), (1, 8, []), (0, 6, [.ref 108]), (1, 8, []), (0, 6, [.ref 110]), (1, 8, []), (0, 6, [.ref 112]), (1, 8, []), (0, 6, [.ref 114]), (1, 8, []), (0, 8, [.int 0, .ref 116, .ref 118, .ref 120, .ref 122, .ref 124, .ref 126, .int 0]), (0, 6, [.ref 117]), (1, 6, []), (0, 6, [.ref 119]), (1, 6, [])]
def zRc2 : List zE := [(0, 6, [.ref 121]), (1, 6, []), (0, 6, [.ref 123]), (1, 6, []), (0, 6, [.ref 125]), (1, 6, []), (0, 6, [.ref 127]), (1, 6, []), (0, 8, [.int 0, .ref 129, .ref 131, .ref 133, .ref 135, .ref 137, .ref 139, .int 0]), (0, 6, [.ref 130]), (1, 6, []), (0, 6, [.ref 132]), (1, 6, []), (0, 6, [.ref 134]), (1, 6, []), (0, 6, [.ref 136]), (1, 6, []), (0, 6, [.ref 138]), (1, 6, []), (0, 6, [.ref 140]), (1, 6, []), (0, 0, [.ref 142, .ref 144, .ref 146, .ref 148, .int 0]), (0, 6, [.ref 143]), (1, 20, []), (0, 6, [.ref 145]), (1, 20, []), (0, 6, [.ref 147]), (1, 20, []), (0, 6, [.ref 149]), (1, 20, []), (0, 3, [.ref 151, .ref 153, .ref 155, .int 0]), (0, 6, [.ref 152]), (1, 4, []), (0, 6, [.ref 154]), (1, 4, []), (0, 6, [.ref 156]), (1, 4, []), (2, 26, []), (0, 6, [.ref 159]), (1, 26, []), (0, 6, [.ref 161]), (1, 26, []), (0, 5, [.ref 1, .ref 4, .ref 163, .ref 164, .ref 166, .int 0, .int 0, .int 0]), (2, 26, []), (0, 6, [.ref 165]), (1, 26, []), (0, 6, [.ref 167]), (1, 26, []), (0, 2, [.ref 4, .ref 169, .ref 171, .ref 173, .ref 175, .ref 177, .ref 179, .int 0, .int 0, .int 0, .int 0, .ref 181, .ref 183, .ref 185]), (0, 6, [.ref 170]), (1, 8, []), (0, 6, [.ref 172]), (1, 8, []), (0, 6, [.ref 174]), (1, 8, []), (0, 6, [.ref 176]), (1, 8, []), (0, 6, [.ref 178]), (1, 8, []), (0, 6, [.ref 180])]
def zRc3 : List zE := [(1, 5, []), (0, 6, [.ref 182]), (1, 8, []), (0, 6, [.ref 184]), (1, 8, []), (0, 6, [.ref 186]), (1, 8, []), (0, 2, [.ref 4, .ref 188, .ref 190, .ref 192, .ref 194, .ref 196, .ref 198, .int 0, .int 0, .int 0, .int 0, .ref 200, .ref 202, .ref 204]), (0, 6, [.ref 189]), (1, 8, []), (0, 6, [.ref 191]), (1, 8, []), (0, 6, [.ref 193]), (1, 8, []), (0, 6, [.ref 195]), (1, 8, []), (0, 6, [.ref 197]), (1, 8, []), (0, 6, [.ref 199]), (1, 5, []), (0, 6, [.ref 201]), (1, 8, []), (0, 6, [.ref 203]), (1, 8, []), (0, 6, [.ref 205]), (1, 8, []), (0, 6, [.ref 207]), (1, 3, []), (5, 4, [.ref 209, .ref 228, .ref 247, .ref 266]), (0, 2, [.ref 4, .ref 210, .ref 212, .ref 214, .ref 216, .ref 218, .ref 220, .int 0, .int 0, .int 0, .int 0, .ref 222, .ref 224, .ref 226]), (0, 6, [.ref 211]), (1, 8, []), (0, 6, [.ref 213]), (1, 8, []), (0, 6, [.ref 215]), (1, 8, []), (0, 6, [.ref 217]), (1, 8, []), (0, 6, [.ref 219]), (1, 8, []), (0, 6, [.ref 221]), (1, 5, []), (0, 6, [.ref 223]), (1, 8, []), (0, 6, [.ref 225]), (1, 8, []), (0, 6, [.ref 227]), (1, 8, []), (0, 2, [.ref 4, .ref 229, .ref 231, .ref 233, .ref 235, .ref 237, .ref 239, .int 0, .int 0, .int 0, .int 0, .ref 241, .ref 243, .ref 245]), (0, 6, [.ref 230]), (1, 8, []), (0, 6, [.ref 232]), (1, 8, []), (0, 6, [.ref 234]), (1, 8, []), (0, 6, [.ref 236]), (1, 8, []), (0, 6, [.ref 238]), (1, 8, []), (0, 6, [.ref 240])]
def zRc4 : List zE := [(1, 5, []), (0, 6, [.ref 242]), (1, 8, []), (0, 6, [.ref 244]), (1, 8, []), (0, 6, [.ref 246]), (1, 8, []), (0, 2, [.ref 4, .ref 248, .ref 250, .ref 252, .ref 254, .ref 256, .ref 258, .int 0, .int 0, .int 0, .int 0, .ref 260, .ref 262, .ref 264]), (0, 6, [.ref 249]), (1, 8, []), (0, 6, [.ref 251]), (1, 8, []), (0, 6, [.ref 253]), (1, 8, []), (0, 6, [.ref 255]), (1, 8, []), (0, 6, [.ref 257]), (1, 8, []), (0, 6, [.ref 259]), (1, 5, []), (0, 6, [.ref 261]), (1, 8, []), (0, 6, [.ref 263]), (1, 8, []), (0, 6, [.ref 265]), (1, 8, []), (0, 2, [.ref 4, .ref 267, .ref 269, .ref 271, .ref 273, .ref 275, .ref 277, .int 0, .int 0, .int 0, .int 0, .ref 279, .ref 281, .ref 283]), (0, 6, [.ref 268]), (1, 8, []), (0, 6, [.ref 270]), (1, 8, []), (0, 6, [.ref 272]), (1, 8, []), (0, 6, [.ref 274]), (1, 8, []), (0, 6, [.ref 276]), (1, 8, []), (0, 6, [.ref 278]), (1, 5, []), (0, 6, [.ref 280]), (1, 8, []), (0, 6, [.ref 282]), (1, 8, []), (0, 6, [.ref 284]), (1, 8, []), (0, 1, [.ref 4, .ref 168, .ref 286]), (0, 6, [.ref 287]), (1, 6, []), (0, 10, [.ref 4, .ref 168, .ref 289]), (0, 6, [.ref 290]), (1, 256, []), (0, 6, [.ref 292]), (1, 3, [])]
def zRc : List zE := zRc0 ++ zRc1 ++ zRc2 ++ zRc3 ++ zRc4
theorem lcc_0 : zrc zRc 0 11 = true := rfl
theorem lcf_0_0 {S : zS} {L : zL} : zgetf zRc S L 0 11 0 = some (.ref 1) := rfl
theorem lcf_0_1 {S : zS} {L : zL} : zgetf zRc S L 0 11 1 = some (.ref 4) := rfl
theorem lcf_0_2 {S : zS} {L : zL} : zgetf zRc S L 0 11 2 = some (.ref 80) := rfl
theorem lcf_0_3 {S : zS} {L : zL} : zgetf zRc S L 0 11 3 = some (.ref 162) := rfl
theorem lcf_0_4 {S : zS} {L : zL} : zgetf zRc S L 0 11 4 = some (.ref 168) := rfl
theorem lcf_0_5 {S : zS} {L : zL} : zgetf zRc S L 0 11 5 = some (.ref 187) := rfl
theorem lcf_0_6 {S : zS} {L : zL} : zgetf zRc S L 0 11 6 = some (.ref 206) := rfl
theorem lcf_0_7 {S : zS} {L : zL} : zgetf zRc S L 0 11 7 = some (.ref 208) := rfl
theorem lcf_0_8 {S : zS} {L : zL} : zgetf zRc S L 0 11 8 = some (.ref 285) := rfl
theorem lcf_0_9 {S : zS} {L : zL} : zgetf zRc S L 0 11 9 = some (.ref 288) := rfl
theorem lcf_0_10 {S : zS} {L : zL} : zgetf zRc S L 0 11 10 = some (.ref 291) := rfl
theorem lcf_0_11 {S : zS} {L : zL} : zgetf zRc S L 0 11 11 = some (.int (S 0 11)) := rfl
theorem lcp_0_11 {S : zS} {L : zL} {x : Int32} : zputf zRc S L 0 11 11 (.int x) = some (zRc, zup S 0 11 x, L) := zputI rfl rfl rfl
theorem lcf_0_12 {S : zS} {L : zL} : zgetf zRc S L 0 11 12 = some (.int (S 0 12)) := rfl
theorem lcp_0_12 {S : zS} {L : zL} {x : Int32} : zputf zRc S L 0 11 12 (.int x) = some (zRc, zup S 0 12 x, L) := zputI rfl rfl rfl
theorem lcf_0_13 {S : zS} {L : zL} : zgetf zRc S L 0 11 13 = some (.int (S 0 13)) := rfl
theorem lcp_0_13_0 {S : zS} {L : zL} : zputf zRc S L 0 11 13 (.int 0) = some (zRc, zup S 0 13 0, L) := zputB rfl rfl rfl (by decide) (by decide)
theorem lcp_0_13_1 {S : zS} {L : zL} : zputf zRc S L 0 11 13 (.int 1) = some (zRc, zup S 0 13 1, L) := zputB rfl rfl rfl (by decide) (by decide)
theorem lcf_0_14 {S : zS} {L : zL} : zgetf zRc S L 0 11 14 = some (.int (S 0 14)) := rfl
theorem lcp_0_14 {S : zS} {L : zL} {x : Int32} : zputf zRc S L 0 11 14 (.int x) = some (zRc, zup S 0 14 x, L) := zputI rfl rfl rfl
theorem lcf_0_15 {S : zS} {L : zL} : zgetf zRc S L 0 11 15 = some (.int (S 0 15)) := rfl
theorem lcp_0_15 {S : zS} {L : zL} {x : Int32} : zputf zRc S L 0 11 15 (.int x) = some (zRc, zup S 0 15 x, L) := zputI rfl rfl rfl
theorem lcf_0_16 {S : zS} {L : zL} : zgetf zRc S L 0 11 16 = some (.int (S 0 16)) := rfl
theorem lcp_0_16 {S : zS} {L : zL} {x : Int32} : zputf zRc S L 0 11 16 (.int x) = some (zRc, zup S 0 16 x, L) := zputI rfl rfl rfl
theorem lcc_1 : zrc zRc 1 9 = true := rfl
theorem lcf_1_0 {S : zS} {L : zL} : zgetf zRc S L 1 9 0 = some (.ref 2) := rfl
theorem lcf_1_1 {S : zS} {L : zL} : zgetf zRc S L 1 9 1 = some (.int (S 1 1)) := rfl
theorem lcp_1_1 {S : zS} {L : zL} {x : Int32} : zputf zRc S L 1 9 1 (.int x) = some (zRc, zup S 1 1 x, L) := zputI rfl rfl rfl
theorem lcf_1_2 {S : zS} {L : zL} : zgetf zRc S L 1 9 2 = some (.int (S 1 2)) := rfl
theorem lcp_1_2 {S : zS} {L : zL} {x : Int32} : zputf zRc S L 1 9 2 (.int x) = some (zRc, zup S 1 2 x, L) := zputI rfl rfl rfl
theorem lcf_1_3 {S : zS} {L : zL} : zgetf zRc S L 1 9 3 = some (.int (S 1 3)) := rfl
theorem lcp_1_3 {S : zS} {L : zL} {x : Int32} : zputf zRc S L 1 9 3 (.int x) = some (zRc, zup S 1 3 x, L) := zputI rfl rfl rfl
theorem lcf_1_4 {S : zS} {L : zL} : zgetf zRc S L 1 9 4 = some (.int (S 1 4)) := rfl
theorem lcp_1_4 {S : zS} {L : zL} {x : Int32} : zputf zRc S L 1 9 4 (.int x) = some (zRc, zup S 1 4 x, L) := zputI rfl rfl rfl
theorem lcf_1_5 {S : zS} {L : zL} : zgetf zRc S L 1 9 5 = some (.int (S 1 5)) := rfl
theorem lcp_1_5 {S : zS} {L : zL} {x : Int32} : zputf zRc S L 1 9 5 (.int x) = some (zRc, zup S 1 5 x, L) := zputI rfl rfl rfl
theorem lcc_2 : zrc zRc 2 6 = true := rfl
theorem lcf_2_0 {S : zS} {L : zL} : zgetf zRc S L 2 6 0 = some (.ref 3) := rfl
theorem lcl_3 : zlen zRc 3 1 = some 900 := rfl
theorem lca_3 : zalen zRc 3 = some 900 := rfl
theorem lcc_4 : zrc zRc 4 4 = true := rfl
theorem lcf_4_0 {S : zS} {L : zL} : zgetf zRc S L 4 4 0 = some (.int (S 4 0)) := rfl
theorem lcp_4_0_0 {S : zS} {L : zL} : zputf zRc S L 4 4 0 (.int 0) = some (zRc, zup S 4 0 0, L) := zputB rfl rfl rfl (by decide) (by decide)
theorem lcp_4_0_1 {S : zS} {L : zL} : zputf zRc S L 4 4 0 (.int 1) = some (zRc, zup S 4 0 1, L) := zputB rfl rfl rfl (by decide) (by decide)
theorem lcf_4_1 {S : zS} {L : zL} : zgetf zRc S L 4 4 1 = some (.int (S 4 1)) := rfl
theorem lcp_4_1 {S : zS} {L : zL} {x : Int32} : zputf zRc S L 4 4 1 (.int x) = some (zRc, zup S 4 1 x, L) := zputI rfl rfl rfl
theorem lcf_4_2 {S : zS} {L : zL} : zgetf zRc S L 4 4 2 = some (.int (S 4 2)) := rfl
theorem lcp_4_2 {S : zS} {L : zL} {x : Int32} : zputf zRc S L 4 4 2 (.int x) = some (zRc, zup S 4 2 x, L) := zputI rfl rfl rfl
theorem lcf_4_3 {S : zS} {L : zL} : zgetf zRc S L 4 4 3 = some (.int (S 4 3)) := rfl
theorem lcp_4_3 {S : zS} {L : zL} {x : Int32} : zputf zRc S L 4 4 3 (.int x) = some (zRc, zup S 4 3 x, L) := zputI rfl rfl rfl
theorem lcf_4_4 {S : zS} {L : zL} : zgetf zRc S L 4 4 4 = some (.int (S 4 4)) := rfl
theorem lcp_4_4 {S : zS} {L : zL} {x : Int32} : zputf zRc S L 4 4 4 (.int x) = some (zRc, zup S 4 4 x, L) := zputI rfl rfl rfl
theorem lcf_4_5 {S : zS} {L : zL} : zgetf zRc S L 4 4 5 = some (.int (S 4 5)) := rfl
theorem lcp_4_5_0 {S : zS} {L : zL} : zputf zRc S L 4 4 5 (.int 0) = some (zRc, zup S 4 5 0, L) := zputB rfl rfl rfl (by decide) (by decide)
theorem lcp_4_5_1 {S : zS} {L : zL} : zputf zRc S L 4 4 5 (.int 1) = some (zRc, zup S 4 5 1, L) := zputB rfl rfl rfl (by decide) (by decide)
theorem lcf_4_6 {S : zS} {L : zL} : zgetf zRc S L 4 4 6 = some (.int (S 4 6)) := rfl
theorem lcp_4_6 {S : zS} {L : zL} {x : Int32} : zputf zRc S L 4 4 6 (.int x) = some (zRc, zup S 4 6 x, L) := zputI rfl rfl rfl
theorem lcf_4_7 {S : zS} {L : zL} : zgetf zRc S L 4 4 7 = some (.int (S 4 7)) := rfl
theorem lcp_4_7 {S : zS} {L : zL} {x : Int32} : zputf zRc S L 4 4 7 (.int x) = some (zRc, zup S 4 7 x, L) := zputI rfl rfl rfl
theorem lcf_4_8 {S : zS} {L : zL} : zgetf zRc S L 4 4 8 = some (.ref 5) := rfl
theorem lcf_4_9 {S : zS} {L : zL} : zgetf zRc S L 4 4 9 = some (.ref 12) := rfl
theorem lcf_4_10 {S : zS} {L : zL} : zgetf zRc S L 4 4 10 = some (.ref 25) := rfl
theorem lcf_4_11 {S : zS} {L : zL} : zgetf zRc S L 4 4 11 = some (.ref 38) := rfl
theorem lcf_4_12 {S : zS} {L : zL} : zgetf zRc S L 4 4 12 = some (.ref 51) := rfl
theorem lcf_4_13 {S : zS} {L : zL} : zgetf zRc S L 4 4 13 = some (.ref 64) := rfl
theorem lcf_4_14 {S : zS} {L : zL} : zgetf zRc S L 4 4 14 = some (.ref 73) := rfl
theorem lcc_5 : zrc zRc 5 7 = true := rfl
theorem lcf_5_0 {S : zS} {L : zL} : zgetf zRc S L 5 7 0 = some (.ref 6) := rfl
theorem lcf_5_1 {S : zS} {L : zL} : zgetf zRc S L 5 7 1 = some (.ref 8) := rfl
theorem lcf_5_2 {S : zS} {L : zL} : zgetf zRc S L 5 7 2 = some (.ref 10) := rfl
theorem lcf_5_3 {S : zS} {L : zL} : zgetf zRc S L 5 7 3 = some (.int (S 5 3)) := rfl
theorem lcp_5_3 {S : zS} {L : zL} {x : Int32} : zputf zRc S L 5 7 3 (.int x) = some (zRc, zup S 5 3 x, L) := zputI rfl rfl rfl
theorem lcc_6 : zrc zRc 6 6 = true := rfl
theorem lcf_6_0 {S : zS} {L : zL} : zgetf zRc S L 6 6 0 = some (.ref 7) := rfl
theorem lcl_7 : zlen zRc 7 1 = some 5 := rfl
theorem lca_7 : zalen zRc 7 = some 5 := rfl
theorem lcc_8 : zrc zRc 8 6 = true := rfl
theorem lcf_8_0 {S : zS} {L : zL} : zgetf zRc S L 8 6 0 = some (.ref 9) := rfl
theorem lcl_9 : zlen zRc 9 1 = some 5 := rfl
theorem lca_9 : zalen zRc 9 = some 5 := rfl
theorem lcc_10 : zrc zRc 10 6 = true := rfl
theorem lcf_10_0 {S : zS} {L : zL} : zgetf zRc S L 10 6 0 = some (.ref 11) := rfl
theorem lcl_11 : zlen zRc 11 1 = some 5 := rfl
theorem lca_11 : zalen zRc 11 = some 5 := rfl
theorem lcc_12 : zrc zRc 12 8 = true := rfl
theorem lcf_12_0 {S : zS} {L : zL} : zgetf zRc S L 12 8 0 = some (.int (S 12 0)) := rfl
theorem lcp_12_0 {S : zS} {L : zL} {x : Int32} : zputf zRc S L 12 8 0 (.int x) = some (zRc, zup S 12 0 x, L) := zputI rfl rfl rfl
theorem lcf_12_1 {S : zS} {L : zL} : zgetf zRc S L 12 8 1 = some (.ref 13) := rfl
theorem lcf_12_2 {S : zS} {L : zL} : zgetf zRc S L 12 8 2 = some (.ref 15) := rfl
theorem lcf_12_3 {S : zS} {L : zL} : zgetf zRc S L 12 8 3 = some (.ref 17) := rfl
theorem lcf_12_4 {S : zS} {L : zL} : zgetf zRc S L 12 8 4 = some (.ref 19) := rfl
theorem lcf_12_5 {S : zS} {L : zL} : zgetf zRc S L 12 8 5 = some (.ref 21) := rfl
theorem lcf_12_6 {S : zS} {L : zL} : zgetf zRc S L 12 8 6 = some (.ref 23) := rfl
theorem lcf_12_7 {S : zS} {L : zL} : zgetf zRc S L 12 8 7 = some (.int (S 12 7)) := rfl
theorem lcp_12_7 {S : zS} {L : zL} {x : Int32} : zputf zRc S L 12 8 7 (.int x) = some (zRc, zup S 12 7 x, L) := zputI rfl rfl rfl
theorem lcc_13 : zrc zRc 13 6 = true := rfl
theorem lcf_13_0 {S : zS} {L : zL} : zgetf zRc S L 13 6 0 = some (.ref 14) := rfl
theorem lcl_14 : zlen zRc 14 1 = some 8 := rfl
theorem lca_14 : zalen zRc 14 = some 8 := rfl
theorem lcc_15 : zrc zRc 15 6 = true := rfl
theorem lcf_15_0 {S : zS} {L : zL} : zgetf zRc S L 15 6 0 = some (.ref 16) := rfl
theorem lcl_16 : zlen zRc 16 1 = some 8 := rfl
theorem lca_16 : zalen zRc 16 = some 8 := rfl
theorem lcc_17 : zrc zRc 17 6 = true := rfl
theorem lcf_17_0 {S : zS} {L : zL} : zgetf zRc S L 17 6 0 = some (.ref 18) := rfl
theorem lcl_18 : zlen zRc 18 1 = some 8 := rfl
theorem lca_18 : zalen zRc 18 = some 8 := rfl
theorem lcc_19 : zrc zRc 19 6 = true := rfl
theorem lcf_19_0 {S : zS} {L : zL} : zgetf zRc S L 19 6 0 = some (.ref 20) := rfl
theorem lcl_20 : zlen zRc 20 1 = some 8 := rfl
theorem lca_20 : zalen zRc 20 = some 8 := rfl
theorem lcc_21 : zrc zRc 21 6 = true := rfl
theorem lcf_21_0 {S : zS} {L : zL} : zgetf zRc S L 21 6 0 = some (.ref 22) := rfl
theorem lcl_22 : zlen zRc 22 1 = some 8 := rfl
theorem lca_22 : zalen zRc 22 = some 8 := rfl
theorem lcc_23 : zrc zRc 23 6 = true := rfl
theorem lcf_23_0 {S : zS} {L : zL} : zgetf zRc S L 23 6 0 = some (.ref 24) := rfl
theorem lcl_24 : zlen zRc 24 1 = some 8 := rfl
theorem lca_24 : zalen zRc 24 = some 8 := rfl
theorem lcc_25 : zrc zRc 25 8 = true := rfl
theorem lcf_25_0 {S : zS} {L : zL} : zgetf zRc S L 25 8 0 = some (.int (S 25 0)) := rfl
theorem lcp_25_0 {S : zS} {L : zL} {x : Int32} : zputf zRc S L 25 8 0 (.int x) = some (zRc, zup S 25 0 x, L) := zputI rfl rfl rfl
theorem lcf_25_1 {S : zS} {L : zL} : zgetf zRc S L 25 8 1 = some (.ref 26) := rfl
theorem lcf_25_2 {S : zS} {L : zL} : zgetf zRc S L 25 8 2 = some (.ref 28) := rfl
theorem lcf_25_3 {S : zS} {L : zL} : zgetf zRc S L 25 8 3 = some (.ref 30) := rfl
theorem lcf_25_4 {S : zS} {L : zL} : zgetf zRc S L 25 8 4 = some (.ref 32) := rfl
theorem lcf_25_5 {S : zS} {L : zL} : zgetf zRc S L 25 8 5 = some (.ref 34) := rfl
theorem lcf_25_6 {S : zS} {L : zL} : zgetf zRc S L 25 8 6 = some (.ref 36) := rfl
theorem lcf_25_7 {S : zS} {L : zL} : zgetf zRc S L 25 8 7 = some (.int (S 25 7)) := rfl
theorem lcp_25_7 {S : zS} {L : zL} {x : Int32} : zputf zRc S L 25 8 7 (.int x) = some (zRc, zup S 25 7 x, L) := zputI rfl rfl rfl
theorem lcc_26 : zrc zRc 26 6 = true := rfl
theorem lcf_26_0 {S : zS} {L : zL} : zgetf zRc S L 26 6 0 = some (.ref 27) := rfl
theorem lcl_27 : zlen zRc 27 1 = some 8 := rfl
theorem lca_27 : zalen zRc 27 = some 8 := rfl
theorem lcc_28 : zrc zRc 28 6 = true := rfl
theorem lcf_28_0 {S : zS} {L : zL} : zgetf zRc S L 28 6 0 = some (.ref 29) := rfl
theorem lcl_29 : zlen zRc 29 1 = some 8 := rfl
theorem lca_29 : zalen zRc 29 = some 8 := rfl
theorem lcc_30 : zrc zRc 30 6 = true := rfl
theorem lcf_30_0 {S : zS} {L : zL} : zgetf zRc S L 30 6 0 = some (.ref 31) := rfl
theorem lcl_31 : zlen zRc 31 1 = some 8 := rfl
theorem lca_31 : zalen zRc 31 = some 8 := rfl
theorem lcc_32 : zrc zRc 32 6 = true := rfl
theorem lcf_32_0 {S : zS} {L : zL} : zgetf zRc S L 32 6 0 = some (.ref 33) := rfl
theorem lcl_33 : zlen zRc 33 1 = some 8 := rfl
theorem lca_33 : zalen zRc 33 = some 8 := rfl
theorem lcc_34 : zrc zRc 34 6 = true := rfl
theorem lcf_34_0 {S : zS} {L : zL} : zgetf zRc S L 34 6 0 = some (.ref 35) := rfl
theorem lcl_35 : zlen zRc 35 1 = some 8 := rfl
theorem lca_35 : zalen zRc 35 = some 8 := rfl
theorem lcc_36 : zrc zRc 36 6 = true := rfl
theorem lcf_36_0 {S : zS} {L : zL} : zgetf zRc S L 36 6 0 = some (.ref 37) := rfl
theorem lcl_37 : zlen zRc 37 1 = some 8 := rfl
theorem lca_37 : zalen zRc 37 = some 8 := rfl
theorem lcc_38 : zrc zRc 38 8 = true := rfl
theorem lcf_38_0 {S : zS} {L : zL} : zgetf zRc S L 38 8 0 = some (.int (S 38 0)) := rfl
theorem lcp_38_0 {S : zS} {L : zL} {x : Int32} : zputf zRc S L 38 8 0 (.int x) = some (zRc, zup S 38 0 x, L) := zputI rfl rfl rfl
theorem lcf_38_1 {S : zS} {L : zL} : zgetf zRc S L 38 8 1 = some (.ref 39) := rfl
theorem lcf_38_2 {S : zS} {L : zL} : zgetf zRc S L 38 8 2 = some (.ref 41) := rfl
theorem lcf_38_3 {S : zS} {L : zL} : zgetf zRc S L 38 8 3 = some (.ref 43) := rfl
theorem lcf_38_4 {S : zS} {L : zL} : zgetf zRc S L 38 8 4 = some (.ref 45) := rfl
theorem lcf_38_5 {S : zS} {L : zL} : zgetf zRc S L 38 8 5 = some (.ref 47) := rfl
theorem lcf_38_6 {S : zS} {L : zL} : zgetf zRc S L 38 8 6 = some (.ref 49) := rfl
theorem lcf_38_7 {S : zS} {L : zL} : zgetf zRc S L 38 8 7 = some (.int (S 38 7)) := rfl
theorem lcp_38_7 {S : zS} {L : zL} {x : Int32} : zputf zRc S L 38 8 7 (.int x) = some (zRc, zup S 38 7 x, L) := zputI rfl rfl rfl
theorem lcc_39 : zrc zRc 39 6 = true := rfl
theorem lcf_39_0 {S : zS} {L : zL} : zgetf zRc S L 39 6 0 = some (.ref 40) := rfl
theorem lcl_40 : zlen zRc 40 1 = some 6 := rfl
theorem lca_40 : zalen zRc 40 = some 6 := rfl
theorem lcc_41 : zrc zRc 41 6 = true := rfl
theorem lcf_41_0 {S : zS} {L : zL} : zgetf zRc S L 41 6 0 = some (.ref 42) := rfl
theorem lcl_42 : zlen zRc 42 1 = some 6 := rfl
theorem lca_42 : zalen zRc 42 = some 6 := rfl
theorem lcc_43 : zrc zRc 43 6 = true := rfl
theorem lcf_43_0 {S : zS} {L : zL} : zgetf zRc S L 43 6 0 = some (.ref 44) := rfl
theorem lcl_44 : zlen zRc 44 1 = some 6 := rfl
theorem lca_44 : zalen zRc 44 = some 6 := rfl
theorem lcc_45 : zrc zRc 45 6 = true := rfl
theorem lcf_45_0 {S : zS} {L : zL} : zgetf zRc S L 45 6 0 = some (.ref 46) := rfl
theorem lcl_46 : zlen zRc 46 1 = some 6 := rfl
theorem lca_46 : zalen zRc 46 = some 6 := rfl
theorem lcc_47 : zrc zRc 47 6 = true := rfl
theorem lcf_47_0 {S : zS} {L : zL} : zgetf zRc S L 47 6 0 = some (.ref 48) := rfl
theorem lcl_48 : zlen zRc 48 1 = some 6 := rfl
theorem lca_48 : zalen zRc 48 = some 6 := rfl
theorem lcc_49 : zrc zRc 49 6 = true := rfl
theorem lcf_49_0 {S : zS} {L : zL} : zgetf zRc S L 49 6 0 = some (.ref 50) := rfl
theorem lcl_50 : zlen zRc 50 1 = some 6 := rfl
theorem lca_50 : zalen zRc 50 = some 6 := rfl
theorem lcc_51 : zrc zRc 51 8 = true := rfl
theorem lcf_51_0 {S : zS} {L : zL} : zgetf zRc S L 51 8 0 = some (.int (S 51 0)) := rfl
theorem lcp_51_0 {S : zS} {L : zL} {x : Int32} : zputf zRc S L 51 8 0 (.int x) = some (zRc, zup S 51 0 x, L) := zputI rfl rfl rfl
theorem lcf_51_1 {S : zS} {L : zL} : zgetf zRc S L 51 8 1 = some (.ref 52) := rfl
theorem lcf_51_2 {S : zS} {L : zL} : zgetf zRc S L 51 8 2 = some (.ref 54) := rfl
theorem lcf_51_3 {S : zS} {L : zL} : zgetf zRc S L 51 8 3 = some (.ref 56) := rfl
theorem lcf_51_4 {S : zS} {L : zL} : zgetf zRc S L 51 8 4 = some (.ref 58) := rfl
theorem lcf_51_5 {S : zS} {L : zL} : zgetf zRc S L 51 8 5 = some (.ref 60) := rfl
theorem lcf_51_6 {S : zS} {L : zL} : zgetf zRc S L 51 8 6 = some (.ref 62) := rfl
theorem lcf_51_7 {S : zS} {L : zL} : zgetf zRc S L 51 8 7 = some (.int (S 51 7)) := rfl
theorem lcp_51_7 {S : zS} {L : zL} {x : Int32} : zputf zRc S L 51 8 7 (.int x) = some (zRc, zup S 51 7 x, L) := zputI rfl rfl rfl
theorem lcc_52 : zrc zRc 52 6 = true := rfl
theorem lcf_52_0 {S : zS} {L : zL} : zgetf zRc S L 52 6 0 = some (.ref 53) := rfl
theorem lcl_53 : zlen zRc 53 1 = some 6 := rfl
theorem lca_53 : zalen zRc 53 = some 6 := rfl
theorem lcc_54 : zrc zRc 54 6 = true := rfl
theorem lcf_54_0 {S : zS} {L : zL} : zgetf zRc S L 54 6 0 = some (.ref 55) := rfl
theorem lcl_55 : zlen zRc 55 1 = some 6 := rfl
theorem lca_55 : zalen zRc 55 = some 6 := rfl
theorem lcc_56 : zrc zRc 56 6 = true := rfl
theorem lcf_56_0 {S : zS} {L : zL} : zgetf zRc S L 56 6 0 = some (.ref 57) := rfl
theorem lcl_57 : zlen zRc 57 1 = some 6 := rfl
theorem lca_57 : zalen zRc 57 = some 6 := rfl
theorem lcc_58 : zrc zRc 58 6 = true := rfl
theorem lcf_58_0 {S : zS} {L : zL} : zgetf zRc S L 58 6 0 = some (.ref 59) := rfl
theorem lcl_59 : zlen zRc 59 1 = some 6 := rfl
theorem lca_59 : zalen zRc 59 = some 6 := rfl
theorem lcc_60 : zrc zRc 60 6 = true := rfl
theorem lcf_60_0 {S : zS} {L : zL} : zgetf zRc S L 60 6 0 = some (.ref 61) := rfl
theorem lcl_61 : zlen zRc 61 1 = some 6 := rfl
theorem lca_61 : zalen zRc 61 = some 6 := rfl
theorem lcc_62 : zrc zRc 62 6 = true := rfl
theorem lcf_62_0 {S : zS} {L : zL} : zgetf zRc S L 62 6 0 = some (.ref 63) := rfl
theorem lcl_63 : zlen zRc 63 1 = some 6 := rfl
theorem lca_63 : zalen zRc 63 = some 6 := rfl
theorem lcc_64 : zrc zRc 64 0 = true := rfl
theorem lcf_64_0 {S : zS} {L : zL} : zgetf zRc S L 64 0 0 = some (.ref 65) := rfl
theorem lcf_64_1 {S : zS} {L : zL} : zgetf zRc S L 64 0 1 = some (.ref 67) := rfl
theorem lcf_64_2 {S : zS} {L : zL} : zgetf zRc S L 64 0 2 = some (.ref 69) := rfl
theorem lcf_64_3 {S : zS} {L : zL} : zgetf zRc S L 64 0 3 = some (.ref 71) := rfl
theorem lcf_64_4 {S : zS} {L : zL} : zgetf zRc S L 64 0 4 = some (.int (S 64 4)) := rfl
theorem lcp_64_4 {S : zS} {L : zL} {x : Int32} : zputf zRc S L 64 0 4 (.int x) = some (zRc, zup S 64 4 x, L) := zputI rfl rfl rfl
theorem lcc_65 : zrc zRc 65 6 = true := rfl
theorem lcf_65_0 {S : zS} {L : zL} : zgetf zRc S L 65 6 0 = some (.ref 66) := rfl
theorem lcl_66 : zlen zRc 66 1 = some 20 := rfl
theorem lca_66 : zalen zRc 66 = some 20 := rfl
theorem lcc_67 : zrc zRc 67 6 = true := rfl
theorem lcf_67_0 {S : zS} {L : zL} : zgetf zRc S L 67 6 0 = some (.ref 68) := rfl
theorem lcl_68 : zlen zRc 68 1 = some 20 := rfl
theorem lca_68 : zalen zRc 68 = some 20 := rfl
theorem lcc_69 : zrc zRc 69 6 = true := rfl
theorem lcf_69_0 {S : zS} {L : zL} : zgetf zRc S L 69 6 0 = some (.ref 70) := rfl
theorem lcl_70 : zlen zRc 70 1 = some 20 := rfl
theorem lca_70 : zalen zRc 70 = some 20 := rfl
theorem lcc_71 : zrc zRc 71 6 = true := rfl
theorem lcf_71_0 {S : zS} {L : zL} : zgetf zRc S L 71 6 0 = some (.ref 72) := rfl
theorem lcl_72 : zlen zRc 72 1 = some 20 := rfl
theorem lca_72 : zalen zRc 72 = some 20 := rfl
theorem lcc_73 : zrc zRc 73 3 = true := rfl
theorem lcf_73_0 {S : zS} {L : zL} : zgetf zRc S L 73 3 0 = some (.ref 74) := rfl
theorem lcf_73_1 {S : zS} {L : zL} : zgetf zRc S L 73 3 1 = some (.ref 76) := rfl
theorem lcf_73_2 {S : zS} {L : zL} : zgetf zRc S L 73 3 2 = some (.ref 78) := rfl
theorem lcf_73_3 {S : zS} {L : zL} : zgetf zRc S L 73 3 3 = some (.int (S 73 3)) := rfl
theorem lcp_73_3 {S : zS} {L : zL} {x : Int32} : zputf zRc S L 73 3 3 (.int x) = some (zRc, zup S 73 3 x, L) := zputI rfl rfl rfl
theorem lcc_74 : zrc zRc 74 6 = true := rfl
theorem lcf_74_0 {S : zS} {L : zL} : zgetf zRc S L 74 6 0 = some (.ref 75) := rfl
theorem lcl_75 : zlen zRc 75 1 = some 4 := rfl
theorem lca_75 : zalen zRc 75 = some 4 := rfl
theorem lcc_76 : zrc zRc 76 6 = true := rfl
theorem lcf_76_0 {S : zS} {L : zL} : zgetf zRc S L 76 6 0 = some (.ref 77) := rfl
theorem lcl_77 : zlen zRc 77 1 = some 4 := rfl
theorem lca_77 : zalen zRc 77 = some 4 := rfl
theorem lcc_78 : zrc zRc 78 6 = true := rfl
theorem lcf_78_0 {S : zS} {L : zL} : zgetf zRc S L 78 6 0 = some (.ref 79) := rfl
theorem lcl_79 : zlen zRc 79 1 = some 4 := rfl
theorem lca_79 : zalen zRc 79 = some 4 := rfl
theorem lcc_80 : zrc zRc 80 5 = true := rfl
theorem lcf_80_0 {S : zS} {L : zL} : zgetf zRc S L 80 5 0 = some (.ref 1) := rfl
theorem lcf_80_1 {S : zS} {L : zL} : zgetf zRc S L 80 5 1 = some (.ref 81) := rfl
theorem lcf_80_2 {S : zS} {L : zL} : zgetf zRc S L 80 5 2 = some (.ref 157) := rfl
theorem lcf_80_3 {S : zS} {L : zL} : zgetf zRc S L 80 5 3 = some (.ref 158) := rfl
theorem lcf_80_4 {S : zS} {L : zL} : zgetf zRc S L 80 5 4 = some (.ref 160) := rfl
theorem lcf_80_5 {S : zS} {L : zL} : zgetf zRc S L 80 5 5 = some (.int (S 80 5)) := rfl
theorem lcp_80_5 {S : zS} {L : zL} {x : Int32} : zputf zRc S L 80 5 5 (.int x) = some (zRc, zup S 80 5 x, L) := zputI rfl rfl rfl
theorem lcf_80_6 {S : zS} {L : zL} : zgetf zRc S L 80 5 6 = some (.int (S 80 6)) := rfl
theorem lcp_80_6 {S : zS} {L : zL} {x : Int32} : zputf zRc S L 80 5 6 (.int x) = some (zRc, zup S 80 6 x, L) := zputI rfl rfl rfl
theorem lcf_80_7 {S : zS} {L : zL} : zgetf zRc S L 80 5 7 = some (.int (S 80 7)) := rfl
theorem lcp_80_7 {S : zS} {L : zL} {x : Int32} : zputf zRc S L 80 5 7 (.int x) = some (zRc, zup S 80 7 x, L) := zputI rfl rfl rfl
theorem lcc_81 : zrc zRc 81 4 = true := rfl
theorem lcf_81_0 {S : zS} {L : zL} : zgetf zRc S L 81 4 0 = some (.int (S 81 0)) := rfl
theorem lcp_81_0_0 {S : zS} {L : zL} : zputf zRc S L 81 4 0 (.int 0) = some (zRc, zup S 81 0 0, L) := zputB rfl rfl rfl (by decide) (by decide)
theorem lcp_81_0_1 {S : zS} {L : zL} : zputf zRc S L 81 4 0 (.int 1) = some (zRc, zup S 81 0 1, L) := zputB rfl rfl rfl (by decide) (by decide)
theorem lcf_81_1 {S : zS} {L : zL} : zgetf zRc S L 81 4 1 = some (.int (S 81 1)) := rfl
theorem lcp_81_1 {S : zS} {L : zL} {x : Int32} : zputf zRc S L 81 4 1 (.int x) = some (zRc, zup S 81 1 x, L) := zputI rfl rfl rfl
theorem lcf_81_2 {S : zS} {L : zL} : zgetf zRc S L 81 4 2 = some (.int (S 81 2)) := rfl
theorem lcp_81_2 {S : zS} {L : zL} {x : Int32} : zputf zRc S L 81 4 2 (.int x) = some (zRc, zup S 81 2 x, L) := zputI rfl rfl rfl
theorem lcf_81_3 {S : zS} {L : zL} : zgetf zRc S L 81 4 3 = some (.int (S 81 3)) := rfl
theorem lcp_81_3 {S : zS} {L : zL} {x : Int32} : zputf zRc S L 81 4 3 (.int x) = some (zRc, zup S 81 3 x, L) := zputI rfl rfl rfl
theorem lcf_81_4 {S : zS} {L : zL} : zgetf zRc S L 81 4 4 = some (.int (S 81 4)) := rfl
theorem lcp_81_4 {S : zS} {L : zL} {x : Int32} : zputf zRc S L 81 4 4 (.int x) = some (zRc, zup S 81 4 x, L) := zputI rfl rfl rfl
theorem lcf_81_5 {S : zS} {L : zL} : zgetf zRc S L 81 4 5 = some (.int (S 81 5)) := rfl
theorem lcp_81_5_0 {S : zS} {L : zL} : zputf zRc S L 81 4 5 (.int 0) = some (zRc, zup S 81 5 0, L) := zputB rfl rfl rfl (by decide) (by decide)
theorem lcp_81_5_1 {S : zS} {L : zL} : zputf zRc S L 81 4 5 (.int 1) = some (zRc, zup S 81 5 1, L) := zputB rfl rfl rfl (by decide) (by decide)
theorem lcf_81_6 {S : zS} {L : zL} : zgetf zRc S L 81 4 6 = some (.int (S 81 6)) := rfl
theorem lcp_81_6 {S : zS} {L : zL} {x : Int32} : zputf zRc S L 81 4 6 (.int x) = some (zRc, zup S 81 6 x, L) := zputI rfl rfl rfl
theorem lcf_81_7 {S : zS} {L : zL} : zgetf zRc S L 81 4 7 = some (.int (S 81 7)) := rfl
theorem lcp_81_7 {S : zS} {L : zL} {x : Int32} : zputf zRc S L 81 4 7 (.int x) = some (zRc, zup S 81 7 x, L) := zputI rfl rfl rfl
theorem lcf_81_8 {S : zS} {L : zL} : zgetf zRc S L 81 4 8 = some (.ref 82) := rfl
theorem lcf_81_9 {S : zS} {L : zL} : zgetf zRc S L 81 4 9 = some (.ref 89) := rfl
theorem lcf_81_10 {S : zS} {L : zL} : zgetf zRc S L 81 4 10 = some (.ref 102) := rfl
theorem lcf_81_11 {S : zS} {L : zL} : zgetf zRc S L 81 4 11 = some (.ref 115) := rfl
theorem lcf_81_12 {S : zS} {L : zL} : zgetf zRc S L 81 4 12 = some (.ref 128) := rfl
theorem lcf_81_13 {S : zS} {L : zL} : zgetf zRc S L 81 4 13 = some (.ref 141) := rfl
theorem lcf_81_14 {S : zS} {L : zL} : zgetf zRc S L 81 4 14 = some (.ref 150) := rfl
theorem lcc_82 : zrc zRc 82 7 = true := rfl
theorem lcf_82_0 {S : zS} {L : zL} : zgetf zRc S L 82 7 0 = some (.ref 83) := rfl
theorem lcf_82_1 {S : zS} {L : zL} : zgetf zRc S L 82 7 1 = some (.ref 85) := rfl
theorem lcf_82_2 {S : zS} {L : zL} : zgetf zRc S L 82 7 2 = some (.ref 87) := rfl
theorem lcf_82_3 {S : zS} {L : zL} : zgetf zRc S L 82 7 3 = some (.int (S 82 3)) := rfl
theorem lcp_82_3 {S : zS} {L : zL} {x : Int32} : zputf zRc S L 82 7 3 (.int x) = some (zRc, zup S 82 3 x, L) := zputI rfl rfl rfl
theorem lcc_83 : zrc zRc 83 6 = true := rfl
theorem lcf_83_0 {S : zS} {L : zL} : zgetf zRc S L 83 6 0 = some (.ref 84) := rfl
theorem lcl_84 : zlen zRc 84 1 = some 5 := rfl
theorem lca_84 : zalen zRc 84 = some 5 := rfl
theorem lcc_85 : zrc zRc 85 6 = true := rfl
theorem lcf_85_0 {S : zS} {L : zL} : zgetf zRc S L 85 6 0 = some (.ref 86) := rfl
theorem lcl_86 : zlen zRc 86 1 = some 5 := rfl
theorem lca_86 : zalen zRc 86 = some 5 := rfl
theorem lcc_87 : zrc zRc 87 6 = true := rfl
theorem lcf_87_0 {S : zS} {L : zL} : zgetf zRc S L 87 6 0 = some (.ref 88) := rfl
theorem lcl_88 : zlen zRc 88 1 = some 5 := rfl
theorem lca_88 : zalen zRc 88 = some 5 := rfl
theorem lcc_89 : zrc zRc 89 8 = true := rfl
theorem lcf_89_0 {S : zS} {L : zL} : zgetf zRc S L 89 8 0 = some (.int (S 89 0)) := rfl
theorem lcp_89_0 {S : zS} {L : zL} {x : Int32} : zputf zRc S L 89 8 0 (.int x) = some (zRc, zup S 89 0 x, L) := zputI rfl rfl rfl
theorem lcf_89_1 {S : zS} {L : zL} : zgetf zRc S L 89 8 1 = some (.ref 90) := rfl
theorem lcf_89_2 {S : zS} {L : zL} : zgetf zRc S L 89 8 2 = some (.ref 92) := rfl
theorem lcf_89_3 {S : zS} {L : zL} : zgetf zRc S L 89 8 3 = some (.ref 94) := rfl
theorem lcf_89_4 {S : zS} {L : zL} : zgetf zRc S L 89 8 4 = some (.ref 96) := rfl
theorem lcf_89_5 {S : zS} {L : zL} : zgetf zRc S L 89 8 5 = some (.ref 98) := rfl
theorem lcf_89_6 {S : zS} {L : zL} : zgetf zRc S L 89 8 6 = some (.ref 100) := rfl
theorem lcf_89_7 {S : zS} {L : zL} : zgetf zRc S L 89 8 7 = some (.int (S 89 7)) := rfl
theorem lcp_89_7 {S : zS} {L : zL} {x : Int32} : zputf zRc S L 89 8 7 (.int x) = some (zRc, zup S 89 7 x, L) := zputI rfl rfl rfl
theorem lcc_90 : zrc zRc 90 6 = true := rfl
theorem lcf_90_0 {S : zS} {L : zL} : zgetf zRc S L 90 6 0 = some (.ref 91) := rfl
theorem lcl_91 : zlen zRc 91 1 = some 8 := rfl
theorem lca_91 : zalen zRc 91 = some 8 := rfl
theorem lcc_92 : zrc zRc 92 6 = true := rfl
theorem lcf_92_0 {S : zS} {L : zL} : zgetf zRc S L 92 6 0 = some (.ref 93) := rfl
theorem lcl_93 : zlen zRc 93 1 = some 8 := rfl
theorem lca_93 : zalen zRc 93 = some 8 := rfl
theorem lcc_94 : zrc zRc 94 6 = true := rfl
theorem lcf_94_0 {S : zS} {L : zL} : zgetf zRc S L 94 6 0 = some (.ref 95) := rfl
theorem lcl_95 : zlen zRc 95 1 = some 8 := rfl
theorem lca_95 : zalen zRc 95 = some 8 := rfl
theorem lcc_96 : zrc zRc 96 6 = true := rfl
theorem lcf_96_0 {S : zS} {L : zL} : zgetf zRc S L 96 6 0 = some (.ref 97) := rfl
theorem lcl_97 : zlen zRc 97 1 = some 8 := rfl
theorem lca_97 : zalen zRc 97 = some 8 := rfl
theorem lcc_98 : zrc zRc 98 6 = true := rfl
theorem lcf_98_0 {S : zS} {L : zL} : zgetf zRc S L 98 6 0 = some (.ref 99) := rfl
theorem lcl_99 : zlen zRc 99 1 = some 8 := rfl
theorem lca_99 : zalen zRc 99 = some 8 := rfl
theorem lcc_100 : zrc zRc 100 6 = true := rfl
theorem lcf_100_0 {S : zS} {L : zL} : zgetf zRc S L 100 6 0 = some (.ref 101) := rfl
theorem lcl_101 : zlen zRc 101 1 = some 8 := rfl
theorem lca_101 : zalen zRc 101 = some 8 := rfl
theorem lcc_102 : zrc zRc 102 8 = true := rfl
theorem lcf_102_0 {S : zS} {L : zL} : zgetf zRc S L 102 8 0 = some (.int (S 102 0)) := rfl
theorem lcp_102_0 {S : zS} {L : zL} {x : Int32} : zputf zRc S L 102 8 0 (.int x) = some (zRc, zup S 102 0 x, L) := zputI rfl rfl rfl
theorem lcf_102_1 {S : zS} {L : zL} : zgetf zRc S L 102 8 1 = some (.ref 103) := rfl
theorem lcf_102_2 {S : zS} {L : zL} : zgetf zRc S L 102 8 2 = some (.ref 105) := rfl
theorem lcf_102_3 {S : zS} {L : zL} : zgetf zRc S L 102 8 3 = some (.ref 107) := rfl
theorem lcf_102_4 {S : zS} {L : zL} : zgetf zRc S L 102 8 4 = some (.ref 109) := rfl
theorem lcf_102_5 {S : zS} {L : zL} : zgetf zRc S L 102 8 5 = some (.ref 111) := rfl
theorem lcf_102_6 {S : zS} {L : zL} : zgetf zRc S L 102 8 6 = some (.ref 113) := rfl
theorem lcf_102_7 {S : zS} {L : zL} : zgetf zRc S L 102 8 7 = some (.int (S 102 7)) := rfl
theorem lcp_102_7 {S : zS} {L : zL} {x : Int32} : zputf zRc S L 102 8 7 (.int x) = some (zRc, zup S 102 7 x, L) := zputI rfl rfl rfl
theorem lcc_103 : zrc zRc 103 6 = true := rfl
theorem lcf_103_0 {S : zS} {L : zL} : zgetf zRc S L 103 6 0 = some (.ref 104) := rfl
theorem lcl_104 : zlen zRc 104 1 = some 8 := rfl
theorem lca_104 : zalen zRc 104 = some 8 := rfl
theorem lcc_105 : zrc zRc 105 6 = true := rfl
theorem lcf_105_0 {S : zS} {L : zL} : zgetf zRc S L 105 6 0 = some (.ref 106) := rfl
theorem lcl_106 : zlen zRc 106 1 = some 8 := rfl
theorem lca_106 : zalen zRc 106 = some 8 := rfl
theorem lcc_107 : zrc zRc 107 6 = true := rfl
theorem lcf_107_0 {S : zS} {L : zL} : zgetf zRc S L 107 6 0 = some (.ref 108) := rfl
theorem lcl_108 : zlen zRc 108 1 = some 8 := rfl
theorem lca_108 : zalen zRc 108 = some 8 := rfl
theorem lcc_109 : zrc zRc 109 6 = true := rfl
theorem lcf_109_0 {S : zS} {L : zL} : zgetf zRc S L 109 6 0 = some (.ref 110) := rfl
theorem lcl_110 : zlen zRc 110 1 = some 8 := rfl
theorem lca_110 : zalen zRc 110 = some 8 := rfl
theorem lcc_111 : zrc zRc 111 6 = true := rfl
theorem lcf_111_0 {S : zS} {L : zL} : zgetf zRc S L 111 6 0 = some (.ref 112) := rfl
theorem lcl_112 : zlen zRc 112 1 = some 8 := rfl
theorem lca_112 : zalen zRc 112 = some 8 := rfl
theorem lcc_113 : zrc zRc 113 6 = true := rfl
theorem lcf_113_0 {S : zS} {L : zL} : zgetf zRc S L 113 6 0 = some (.ref 114) := rfl
theorem lcl_114 : zlen zRc 114 1 = some 8 := rfl
theorem lca_114 : zalen zRc 114 = some 8 := rfl
theorem lcc_115 : zrc zRc 115 8 = true := rfl
theorem lcf_115_0 {S : zS} {L : zL} : zgetf zRc S L 115 8 0 = some (.int (S 115 0)) := rfl
theorem lcp_115_0 {S : zS} {L : zL} {x : Int32} : zputf zRc S L 115 8 0 (.int x) = some (zRc, zup S 115 0 x, L) := zputI rfl rfl rfl
theorem lcf_115_1 {S : zS} {L : zL} : zgetf zRc S L 115 8 1 = some (.ref 116) := rfl
theorem lcf_115_2 {S : zS} {L : zL} : zgetf zRc S L 115 8 2 = some (.ref 118) := rfl
theorem lcf_115_3 {S : zS} {L : zL} : zgetf zRc S L 115 8 3 = some (.ref 120) := rfl
theorem lcf_115_4 {S : zS} {L : zL} : zgetf zRc S L 115 8 4 = some (.ref 122) := rfl
theorem lcf_115_5 {S : zS} {L : zL} : zgetf zRc S L 115 8 5 = some (.ref 124) := rfl
theorem lcf_115_6 {S : zS} {L : zL} : zgetf zRc S L 115 8 6 = some (.ref 126) := rfl
theorem lcf_115_7 {S : zS} {L : zL} : zgetf zRc S L 115 8 7 = some (.int (S 115 7)) := rfl
theorem lcp_115_7 {S : zS} {L : zL} {x : Int32} : zputf zRc S L 115 8 7 (.int x) = some (zRc, zup S 115 7 x, L) := zputI rfl rfl rfl
theorem lcc_116 : zrc zRc 116 6 = true := rfl
theorem lcf_116_0 {S : zS} {L : zL} : zgetf zRc S L 116 6 0 = some (.ref 117) := rfl
theorem lcl_117 : zlen zRc 117 1 = some 6 := rfl
theorem lca_117 : zalen zRc 117 = some 6 := rfl
theorem lcc_118 : zrc zRc 118 6 = true := rfl
theorem lcf_118_0 {S : zS} {L : zL} : zgetf zRc S L 118 6 0 = some (.ref 119) := rfl
theorem lcl_119 : zlen zRc 119 1 = some 6 := rfl
theorem lca_119 : zalen zRc 119 = some 6 := rfl
theorem lcc_120 : zrc zRc 120 6 = true := rfl
theorem lcf_120_0 {S : zS} {L : zL} : zgetf zRc S L 120 6 0 = some (.ref 121) := rfl
theorem lcl_121 : zlen zRc 121 1 = some 6 := rfl
theorem lca_121 : zalen zRc 121 = some 6 := rfl
theorem lcc_122 : zrc zRc 122 6 = true := rfl
theorem lcf_122_0 {S : zS} {L : zL} : zgetf zRc S L 122 6 0 = some (.ref 123) := rfl
theorem lcl_123 : zlen zRc 123 1 = some 6 := rfl
theorem lca_123 : zalen zRc 123 = some 6 := rfl
theorem lcc_124 : zrc zRc 124 6 = true := rfl
theorem lcf_124_0 {S : zS} {L : zL} : zgetf zRc S L 124 6 0 = some (.ref 125) := rfl
theorem lcl_125 : zlen zRc 125 1 = some 6 := rfl
theorem lca_125 : zalen zRc 125 = some 6 := rfl
theorem lcc_126 : zrc zRc 126 6 = true := rfl
theorem lcf_126_0 {S : zS} {L : zL} : zgetf zRc S L 126 6 0 = some (.ref 127) := rfl
theorem lcl_127 : zlen zRc 127 1 = some 6 := rfl
theorem lca_127 : zalen zRc 127 = some 6 := rfl
theorem lcc_128 : zrc zRc 128 8 = true := rfl
theorem lcf_128_0 {S : zS} {L : zL} : zgetf zRc S L 128 8 0 = some (.int (S 128 0)) := rfl
theorem lcp_128_0 {S : zS} {L : zL} {x : Int32} : zputf zRc S L 128 8 0 (.int x) = some (zRc, zup S 128 0 x, L) := zputI rfl rfl rfl
theorem lcf_128_1 {S : zS} {L : zL} : zgetf zRc S L 128 8 1 = some (.ref 129) := rfl
theorem lcf_128_2 {S : zS} {L : zL} : zgetf zRc S L 128 8 2 = some (.ref 131) := rfl
theorem lcf_128_3 {S : zS} {L : zL} : zgetf zRc S L 128 8 3 = some (.ref 133) := rfl
theorem lcf_128_4 {S : zS} {L : zL} : zgetf zRc S L 128 8 4 = some (.ref 135) := rfl
theorem lcf_128_5 {S : zS} {L : zL} : zgetf zRc S L 128 8 5 = some (.ref 137) := rfl
theorem lcf_128_6 {S : zS} {L : zL} : zgetf zRc S L 128 8 6 = some (.ref 139) := rfl
theorem lcf_128_7 {S : zS} {L : zL} : zgetf zRc S L 128 8 7 = some (.int (S 128 7)) := rfl
theorem lcp_128_7 {S : zS} {L : zL} {x : Int32} : zputf zRc S L 128 8 7 (.int x) = some (zRc, zup S 128 7 x, L) := zputI rfl rfl rfl
theorem lcc_129 : zrc zRc 129 6 = true := rfl
theorem lcf_129_0 {S : zS} {L : zL} : zgetf zRc S L 129 6 0 = some (.ref 130) := rfl
theorem lcl_130 : zlen zRc 130 1 = some 6 := rfl
theorem lca_130 : zalen zRc 130 = some 6 := rfl
theorem lcc_131 : zrc zRc 131 6 = true := rfl
theorem lcf_131_0 {S : zS} {L : zL} : zgetf zRc S L 131 6 0 = some (.ref 132) := rfl
theorem lcl_132 : zlen zRc 132 1 = some 6 := rfl
theorem lca_132 : zalen zRc 132 = some 6 := rfl
theorem lcc_133 : zrc zRc 133 6 = true := rfl
theorem lcf_133_0 {S : zS} {L : zL} : zgetf zRc S L 133 6 0 = some (.ref 134) := rfl
theorem lcl_134 : zlen zRc 134 1 = some 6 := rfl
theorem lca_134 : zalen zRc 134 = some 6 := rfl
theorem lcc_135 : zrc zRc 135 6 = true := rfl
theorem lcf_135_0 {S : zS} {L : zL} : zgetf zRc S L 135 6 0 = some (.ref 136) := rfl
theorem lcl_136 : zlen zRc 136 1 = some 6 := rfl
theorem lca_136 : zalen zRc 136 = some 6 := rfl
theorem lcc_137 : zrc zRc 137 6 = true := rfl
theorem lcf_137_0 {S : zS} {L : zL} : zgetf zRc S L 137 6 0 = some (.ref 138) := rfl
theorem lcl_138 : zlen zRc 138 1 = some 6 := rfl
theorem lca_138 : zalen zRc 138 = some 6 := rfl
theorem lcc_139 : zrc zRc 139 6 = true := rfl
theorem lcf_139_0 {S : zS} {L : zL} : zgetf zRc S L 139 6 0 = some (.ref 140) := rfl
theorem lcl_140 : zlen zRc 140 1 = some 6 := rfl
theorem lca_140 : zalen zRc 140 = some 6 := rfl
theorem lcc_141 : zrc zRc 141 0 = true := rfl
theorem lcf_141_0 {S : zS} {L : zL} : zgetf zRc S L 141 0 0 = some (.ref 142) := rfl
theorem lcf_141_1 {S : zS} {L : zL} : zgetf zRc S L 141 0 1 = some (.ref 144) := rfl
theorem lcf_141_2 {S : zS} {L : zL} : zgetf zRc S L 141 0 2 = some (.ref 146) := rfl
theorem lcf_141_3 {S : zS} {L : zL} : zgetf zRc S L 141 0 3 = some (.ref 148) := rfl
theorem lcf_141_4 {S : zS} {L : zL} : zgetf zRc S L 141 0 4 = some (.int (S 141 4)) := rfl
theorem lcp_141_4 {S : zS} {L : zL} {x : Int32} : zputf zRc S L 141 0 4 (.int x) = some (zRc, zup S 141 4 x, L) := zputI rfl rfl rfl
theorem lcc_142 : zrc zRc 142 6 = true := rfl
theorem lcf_142_0 {S : zS} {L : zL} : zgetf zRc S L 142 6 0 = some (.ref 143) := rfl
theorem lcl_143 : zlen zRc 143 1 = some 20 := rfl
theorem lca_143 : zalen zRc 143 = some 20 := rfl
theorem lcc_144 : zrc zRc 144 6 = true := rfl
theorem lcf_144_0 {S : zS} {L : zL} : zgetf zRc S L 144 6 0 = some (.ref 145) := rfl
theorem lcl_145 : zlen zRc 145 1 = some 20 := rfl
theorem lca_145 : zalen zRc 145 = some 20 := rfl
theorem lcc_146 : zrc zRc 146 6 = true := rfl
theorem lcf_146_0 {S : zS} {L : zL} : zgetf zRc S L 146 6 0 = some (.ref 147) := rfl
theorem lcl_147 : zlen zRc 147 1 = some 20 := rfl
theorem lca_147 : zalen zRc 147 = some 20 := rfl
theorem lcc_148 : zrc zRc 148 6 = true := rfl
theorem lcf_148_0 {S : zS} {L : zL} : zgetf zRc S L 148 6 0 = some (.ref 149) := rfl
theorem lcl_149 : zlen zRc 149 1 = some 20 := rfl
theorem lca_149 : zalen zRc 149 = some 20 := rfl
theorem lcc_150 : zrc zRc 150 3 = true := rfl
theorem lcf_150_0 {S : zS} {L : zL} : zgetf zRc S L 150 3 0 = some (.ref 151) := rfl
theorem lcf_150_1 {S : zS} {L : zL} : zgetf zRc S L 150 3 1 = some (.ref 153) := rfl
theorem lcf_150_2 {S : zS} {L : zL} : zgetf zRc S L 150 3 2 = some (.ref 155) := rfl
theorem lcf_150_3 {S : zS} {L : zL} : zgetf zRc S L 150 3 3 = some (.int (S 150 3)) := rfl
theorem lcp_150_3 {S : zS} {L : zL} {x : Int32} : zputf zRc S L 150 3 3 (.int x) = some (zRc, zup S 150 3 x, L) := zputI rfl rfl rfl
theorem lcc_151 : zrc zRc 151 6 = true := rfl
theorem lcf_151_0 {S : zS} {L : zL} : zgetf zRc S L 151 6 0 = some (.ref 152) := rfl
theorem lcl_152 : zlen zRc 152 1 = some 4 := rfl
theorem lca_152 : zalen zRc 152 = some 4 := rfl
theorem lcc_153 : zrc zRc 153 6 = true := rfl
theorem lcf_153_0 {S : zS} {L : zL} : zgetf zRc S L 153 6 0 = some (.ref 154) := rfl
theorem lcl_154 : zlen zRc 154 1 = some 4 := rfl
theorem lca_154 : zalen zRc 154 = some 4 := rfl
theorem lcc_155 : zrc zRc 155 6 = true := rfl
theorem lcf_155_0 {S : zS} {L : zL} : zgetf zRc S L 155 6 0 = some (.ref 156) := rfl
theorem lcl_156 : zlen zRc 156 1 = some 4 := rfl
theorem lca_156 : zalen zRc 156 = some 4 := rfl
theorem lcl_157 : zlen zRc 157 2 = some 26 := rfl
theorem lca_157 : zalen zRc 157 = some 26 := rfl
theorem lcc_158 : zrc zRc 158 6 = true := rfl
theorem lcf_158_0 {S : zS} {L : zL} : zgetf zRc S L 158 6 0 = some (.ref 159) := rfl
theorem lcl_159 : zlen zRc 159 1 = some 26 := rfl
theorem lca_159 : zalen zRc 159 = some 26 := rfl
theorem lcc_160 : zrc zRc 160 6 = true := rfl
theorem lcf_160_0 {S : zS} {L : zL} : zgetf zRc S L 160 6 0 = some (.ref 161) := rfl
theorem lcl_161 : zlen zRc 161 1 = some 26 := rfl
theorem lca_161 : zalen zRc 161 = some 26 := rfl
theorem lcc_162 : zrc zRc 162 5 = true := rfl
theorem lcf_162_0 {S : zS} {L : zL} : zgetf zRc S L 162 5 0 = some (.ref 1) := rfl
theorem lcf_162_1 {S : zS} {L : zL} : zgetf zRc S L 162 5 1 = some (.ref 4) := rfl
theorem lcf_162_2 {S : zS} {L : zL} : zgetf zRc S L 162 5 2 = some (.ref 163) := rfl
theorem lcf_162_3 {S : zS} {L : zL} : zgetf zRc S L 162 5 3 = some (.ref 164) := rfl
theorem lcf_162_4 {S : zS} {L : zL} : zgetf zRc S L 162 5 4 = some (.ref 166) := rfl
theorem lcf_162_5 {S : zS} {L : zL} : zgetf zRc S L 162 5 5 = some (.int (S 162 5)) := rfl
theorem lcp_162_5 {S : zS} {L : zL} {x : Int32} : zputf zRc S L 162 5 5 (.int x) = some (zRc, zup S 162 5 x, L) := zputI rfl rfl rfl
theorem lcf_162_6 {S : zS} {L : zL} : zgetf zRc S L 162 5 6 = some (.int (S 162 6)) := rfl
theorem lcp_162_6 {S : zS} {L : zL} {x : Int32} : zputf zRc S L 162 5 6 (.int x) = some (zRc, zup S 162 6 x, L) := zputI rfl rfl rfl
theorem lcf_162_7 {S : zS} {L : zL} : zgetf zRc S L 162 5 7 = some (.int (S 162 7)) := rfl
theorem lcp_162_7 {S : zS} {L : zL} {x : Int32} : zputf zRc S L 162 5 7 (.int x) = some (zRc, zup S 162 7 x, L) := zputI rfl rfl rfl
theorem lcl_163 : zlen zRc 163 2 = some 26 := rfl
theorem lca_163 : zalen zRc 163 = some 26 := rfl
theorem lcc_164 : zrc zRc 164 6 = true := rfl
theorem lcf_164_0 {S : zS} {L : zL} : zgetf zRc S L 164 6 0 = some (.ref 165) := rfl
theorem lcl_165 : zlen zRc 165 1 = some 26 := rfl
theorem lca_165 : zalen zRc 165 = some 26 := rfl
theorem lcc_166 : zrc zRc 166 6 = true := rfl
theorem lcf_166_0 {S : zS} {L : zL} : zgetf zRc S L 166 6 0 = some (.ref 167) := rfl
theorem lcl_167 : zlen zRc 167 1 = some 26 := rfl
theorem lca_167 : zalen zRc 167 = some 26 := rfl
theorem lcc_168 : zrc zRc 168 2 = true := rfl
theorem lcf_168_0 {S : zS} {L : zL} : zgetf zRc S L 168 2 0 = some (.ref 4) := rfl
theorem lcf_168_1 {S : zS} {L : zL} : zgetf zRc S L 168 2 1 = some (.ref 169) := rfl
theorem lcf_168_2 {S : zS} {L : zL} : zgetf zRc S L 168 2 2 = some (.ref 171) := rfl
theorem lcf_168_3 {S : zS} {L : zL} : zgetf zRc S L 168 2 3 = some (.ref 173) := rfl
theorem lcf_168_4 {S : zS} {L : zL} : zgetf zRc S L 168 2 4 = some (.ref 175) := rfl
theorem lcf_168_5 {S : zS} {L : zL} : zgetf zRc S L 168 2 5 = some (.ref 177) := rfl
theorem lcf_168_6 {S : zS} {L : zL} : zgetf zRc S L 168 2 6 = some (.ref 179) := rfl
theorem lcf_168_7 {S : zS} {L : zL} : zgetf zRc S L 168 2 7 = some (.int (S 168 7)) := rfl
theorem lcp_168_7 {S : zS} {L : zL} {x : Int32} : zputf zRc S L 168 2 7 (.int x) = some (zRc, zup S 168 7 x, L) := zputI rfl rfl rfl
theorem lcf_168_8 {S : zS} {L : zL} : zgetf zRc S L 168 2 8 = some (.int (S 168 8)) := rfl
theorem lcp_168_8 {S : zS} {L : zL} {x : Int32} : zputf zRc S L 168 2 8 (.int x) = some (zRc, zup S 168 8 x, L) := zputI rfl rfl rfl
theorem lcf_168_9 {S : zS} {L : zL} : zgetf zRc S L 168 2 9 = some (.int (S 168 9)) := rfl
theorem lcp_168_9 {S : zS} {L : zL} {x : Int32} : zputf zRc S L 168 2 9 (.int x) = some (zRc, zup S 168 9 x, L) := zputI rfl rfl rfl
theorem lcf_168_10 {S : zS} {L : zL} : zgetf zRc S L 168 2 10 = some (.int (S 168 10)) := rfl
theorem lcp_168_10 {S : zS} {L : zL} {x : Int32} : zputf zRc S L 168 2 10 (.int x) = some (zRc, zup S 168 10 x, L) := zputI rfl rfl rfl
theorem lcf_168_11 {S : zS} {L : zL} : zgetf zRc S L 168 2 11 = some (.ref 181) := rfl
theorem lcf_168_12 {S : zS} {L : zL} : zgetf zRc S L 168 2 12 = some (.ref 183) := rfl
theorem lcf_168_13 {S : zS} {L : zL} : zgetf zRc S L 168 2 13 = some (.ref 185) := rfl
theorem lcc_169 : zrc zRc 169 6 = true := rfl
theorem lcf_169_0 {S : zS} {L : zL} : zgetf zRc S L 169 6 0 = some (.ref 170) := rfl
theorem lcl_170 : zlen zRc 170 1 = some 8 := rfl
theorem lca_170 : zalen zRc 170 = some 8 := rfl
theorem lcc_171 : zrc zRc 171 6 = true := rfl
theorem lcf_171_0 {S : zS} {L : zL} : zgetf zRc S L 171 6 0 = some (.ref 172) := rfl
theorem lcl_172 : zlen zRc 172 1 = some 8 := rfl
theorem lca_172 : zalen zRc 172 = some 8 := rfl
theorem lcc_173 : zrc zRc 173 6 = true := rfl
theorem lcf_173_0 {S : zS} {L : zL} : zgetf zRc S L 173 6 0 = some (.ref 174) := rfl
theorem lcl_174 : zlen zRc 174 1 = some 8 := rfl
theorem lca_174 : zalen zRc 174 = some 8 := rfl
theorem lcc_175 : zrc zRc 175 6 = true := rfl
theorem lcf_175_0 {S : zS} {L : zL} : zgetf zRc S L 175 6 0 = some (.ref 176) := rfl
theorem lcl_176 : zlen zRc 176 1 = some 8 := rfl
theorem lca_176 : zalen zRc 176 = some 8 := rfl
theorem lcc_177 : zrc zRc 177 6 = true := rfl
theorem lcf_177_0 {S : zS} {L : zL} : zgetf zRc S L 177 6 0 = some (.ref 178) := rfl
theorem lcl_178 : zlen zRc 178 1 = some 8 := rfl
theorem lca_178 : zalen zRc 178 = some 8 := rfl
theorem lcc_179 : zrc zRc 179 6 = true := rfl
theorem lcf_179_0 {S : zS} {L : zL} : zgetf zRc S L 179 6 0 = some (.ref 180) := rfl
theorem lcl_180 : zlen zRc 180 1 = some 5 := rfl
theorem lca_180 : zalen zRc 180 = some 5 := rfl
theorem lcc_181 : zrc zRc 181 6 = true := rfl
theorem lcf_181_0 {S : zS} {L : zL} : zgetf zRc S L 181 6 0 = some (.ref 182) := rfl
theorem lcl_182 : zlen zRc 182 1 = some 8 := rfl
theorem lca_182 : zalen zRc 182 = some 8 := rfl
theorem lcc_183 : zrc zRc 183 6 = true := rfl
theorem lcf_183_0 {S : zS} {L : zL} : zgetf zRc S L 183 6 0 = some (.ref 184) := rfl
theorem lcl_184 : zlen zRc 184 1 = some 8 := rfl
theorem lca_184 : zalen zRc 184 = some 8 := rfl
theorem lcc_185 : zrc zRc 185 6 = true := rfl
theorem lcf_185_0 {S : zS} {L : zL} : zgetf zRc S L 185 6 0 = some (.ref 186) := rfl
theorem lcl_186 : zlen zRc 186 1 = some 8 := rfl
theorem lca_186 : zalen zRc 186 = some 8 := rfl
theorem lcc_187 : zrc zRc 187 2 = true := rfl
theorem lcf_187_0 {S : zS} {L : zL} : zgetf zRc S L 187 2 0 = some (.ref 4) := rfl
theorem lcf_187_1 {S : zS} {L : zL} : zgetf zRc S L 187 2 1 = some (.ref 188) := rfl
theorem lcf_187_2 {S : zS} {L : zL} : zgetf zRc S L 187 2 2 = some (.ref 190) := rfl
theorem lcf_187_3 {S : zS} {L : zL} : zgetf zRc S L 187 2 3 = some (.ref 192) := rfl
theorem lcf_187_4 {S : zS} {L : zL} : zgetf zRc S L 187 2 4 = some (.ref 194) := rfl
theorem lcf_187_5 {S : zS} {L : zL} : zgetf zRc S L 187 2 5 = some (.ref 196) := rfl
theorem lcf_187_6 {S : zS} {L : zL} : zgetf zRc S L 187 2 6 = some (.ref 198) := rfl
theorem lcf_187_7 {S : zS} {L : zL} : zgetf zRc S L 187 2 7 = some (.int (S 187 7)) := rfl
theorem lcp_187_7 {S : zS} {L : zL} {x : Int32} : zputf zRc S L 187 2 7 (.int x) = some (zRc, zup S 187 7 x, L) := zputI rfl rfl rfl
theorem lcf_187_8 {S : zS} {L : zL} : zgetf zRc S L 187 2 8 = some (.int (S 187 8)) := rfl
theorem lcp_187_8 {S : zS} {L : zL} {x : Int32} : zputf zRc S L 187 2 8 (.int x) = some (zRc, zup S 187 8 x, L) := zputI rfl rfl rfl
theorem lcf_187_9 {S : zS} {L : zL} : zgetf zRc S L 187 2 9 = some (.int (S 187 9)) := rfl
theorem lcp_187_9 {S : zS} {L : zL} {x : Int32} : zputf zRc S L 187 2 9 (.int x) = some (zRc, zup S 187 9 x, L) := zputI rfl rfl rfl
theorem lcf_187_10 {S : zS} {L : zL} : zgetf zRc S L 187 2 10 = some (.int (S 187 10)) := rfl
theorem lcp_187_10 {S : zS} {L : zL} {x : Int32} : zputf zRc S L 187 2 10 (.int x) = some (zRc, zup S 187 10 x, L) := zputI rfl rfl rfl
theorem lcf_187_11 {S : zS} {L : zL} : zgetf zRc S L 187 2 11 = some (.ref 200) := rfl
theorem lcf_187_12 {S : zS} {L : zL} : zgetf zRc S L 187 2 12 = some (.ref 202) := rfl
theorem lcf_187_13 {S : zS} {L : zL} : zgetf zRc S L 187 2 13 = some (.ref 204) := rfl
theorem lcc_188 : zrc zRc 188 6 = true := rfl
theorem lcf_188_0 {S : zS} {L : zL} : zgetf zRc S L 188 6 0 = some (.ref 189) := rfl
theorem lcl_189 : zlen zRc 189 1 = some 8 := rfl
theorem lca_189 : zalen zRc 189 = some 8 := rfl
theorem lcc_190 : zrc zRc 190 6 = true := rfl
theorem lcf_190_0 {S : zS} {L : zL} : zgetf zRc S L 190 6 0 = some (.ref 191) := rfl
theorem lcl_191 : zlen zRc 191 1 = some 8 := rfl
theorem lca_191 : zalen zRc 191 = some 8 := rfl
theorem lcc_192 : zrc zRc 192 6 = true := rfl
theorem lcf_192_0 {S : zS} {L : zL} : zgetf zRc S L 192 6 0 = some (.ref 193) := rfl
theorem lcl_193 : zlen zRc 193 1 = some 8 := rfl
theorem lca_193 : zalen zRc 193 = some 8 := rfl
theorem lcc_194 : zrc zRc 194 6 = true := rfl
theorem lcf_194_0 {S : zS} {L : zL} : zgetf zRc S L 194 6 0 = some (.ref 195) := rfl
theorem lcl_195 : zlen zRc 195 1 = some 8 := rfl
theorem lca_195 : zalen zRc 195 = some 8 := rfl
theorem lcc_196 : zrc zRc 196 6 = true := rfl
theorem lcf_196_0 {S : zS} {L : zL} : zgetf zRc S L 196 6 0 = some (.ref 197) := rfl
theorem lcl_197 : zlen zRc 197 1 = some 8 := rfl
theorem lca_197 : zalen zRc 197 = some 8 := rfl
theorem lcc_198 : zrc zRc 198 6 = true := rfl
theorem lcf_198_0 {S : zS} {L : zL} : zgetf zRc S L 198 6 0 = some (.ref 199) := rfl
theorem lcl_199 : zlen zRc 199 1 = some 5 := rfl
theorem lca_199 : zalen zRc 199 = some 5 := rfl
theorem lcc_200 : zrc zRc 200 6 = true := rfl
theorem lcf_200_0 {S : zS} {L : zL} : zgetf zRc S L 200 6 0 = some (.ref 201) := rfl
theorem lcl_201 : zlen zRc 201 1 = some 8 := rfl
theorem lca_201 : zalen zRc 201 = some 8 := rfl
theorem lcc_202 : zrc zRc 202 6 = true := rfl
theorem lcf_202_0 {S : zS} {L : zL} : zgetf zRc S L 202 6 0 = some (.ref 203) := rfl
theorem lcl_203 : zlen zRc 203 1 = some 8 := rfl
theorem lca_203 : zalen zRc 203 = some 8 := rfl
theorem lcc_204 : zrc zRc 204 6 = true := rfl
theorem lcf_204_0 {S : zS} {L : zL} : zgetf zRc S L 204 6 0 = some (.ref 205) := rfl
theorem lcl_205 : zlen zRc 205 1 = some 8 := rfl
theorem lca_205 : zalen zRc 205 = some 8 := rfl
theorem lcc_206 : zrc zRc 206 6 = true := rfl
theorem lcf_206_0 {S : zS} {L : zL} : zgetf zRc S L 206 6 0 = some (.ref 207) := rfl
theorem lcl_207 : zlen zRc 207 1 = some 3 := rfl
theorem lca_207 : zalen zRc 207 = some 3 := rfl
theorem lca_208 : zalen zRc 208 = some 4 := rfl
theorem lcc_209 : zrc zRc 209 2 = true := rfl
theorem lcf_209_0 {S : zS} {L : zL} : zgetf zRc S L 209 2 0 = some (.ref 4) := rfl
theorem lcf_209_1 {S : zS} {L : zL} : zgetf zRc S L 209 2 1 = some (.ref 210) := rfl
theorem lcf_209_2 {S : zS} {L : zL} : zgetf zRc S L 209 2 2 = some (.ref 212) := rfl
theorem lcf_209_3 {S : zS} {L : zL} : zgetf zRc S L 209 2 3 = some (.ref 214) := rfl
theorem lcf_209_4 {S : zS} {L : zL} : zgetf zRc S L 209 2 4 = some (.ref 216) := rfl
theorem lcf_209_5 {S : zS} {L : zL} : zgetf zRc S L 209 2 5 = some (.ref 218) := rfl
theorem lcf_209_6 {S : zS} {L : zL} : zgetf zRc S L 209 2 6 = some (.ref 220) := rfl
theorem lcf_209_7 {S : zS} {L : zL} : zgetf zRc S L 209 2 7 = some (.int (S 209 7)) := rfl
theorem lcp_209_7 {S : zS} {L : zL} {x : Int32} : zputf zRc S L 209 2 7 (.int x) = some (zRc, zup S 209 7 x, L) := zputI rfl rfl rfl
theorem lcf_209_8 {S : zS} {L : zL} : zgetf zRc S L 209 2 8 = some (.int (S 209 8)) := rfl
theorem lcp_209_8 {S : zS} {L : zL} {x : Int32} : zputf zRc S L 209 2 8 (.int x) = some (zRc, zup S 209 8 x, L) := zputI rfl rfl rfl
theorem lcf_209_9 {S : zS} {L : zL} : zgetf zRc S L 209 2 9 = some (.int (S 209 9)) := rfl
theorem lcp_209_9 {S : zS} {L : zL} {x : Int32} : zputf zRc S L 209 2 9 (.int x) = some (zRc, zup S 209 9 x, L) := zputI rfl rfl rfl
theorem lcf_209_10 {S : zS} {L : zL} : zgetf zRc S L 209 2 10 = some (.int (S 209 10)) := rfl
theorem lcp_209_10 {S : zS} {L : zL} {x : Int32} : zputf zRc S L 209 2 10 (.int x) = some (zRc, zup S 209 10 x, L) := zputI rfl rfl rfl
theorem lcf_209_11 {S : zS} {L : zL} : zgetf zRc S L 209 2 11 = some (.ref 222) := rfl
theorem lcf_209_12 {S : zS} {L : zL} : zgetf zRc S L 209 2 12 = some (.ref 224) := rfl
theorem lcf_209_13 {S : zS} {L : zL} : zgetf zRc S L 209 2 13 = some (.ref 226) := rfl
theorem lcc_210 : zrc zRc 210 6 = true := rfl
theorem lcf_210_0 {S : zS} {L : zL} : zgetf zRc S L 210 6 0 = some (.ref 211) := rfl
theorem lcl_211 : zlen zRc 211 1 = some 8 := rfl
theorem lca_211 : zalen zRc 211 = some 8 := rfl
theorem lcc_212 : zrc zRc 212 6 = true := rfl
theorem lcf_212_0 {S : zS} {L : zL} : zgetf zRc S L 212 6 0 = some (.ref 213) := rfl
theorem lcl_213 : zlen zRc 213 1 = some 8 := rfl
theorem lca_213 : zalen zRc 213 = some 8 := rfl
theorem lcc_214 : zrc zRc 214 6 = true := rfl
theorem lcf_214_0 {S : zS} {L : zL} : zgetf zRc S L 214 6 0 = some (.ref 215) := rfl
theorem lcl_215 : zlen zRc 215 1 = some 8 := rfl
theorem lca_215 : zalen zRc 215 = some 8 := rfl
theorem lcc_216 : zrc zRc 216 6 = true := rfl
theorem lcf_216_0 {S : zS} {L : zL} : zgetf zRc S L 216 6 0 = some (.ref 217) := rfl
theorem lcl_217 : zlen zRc 217 1 = some 8 := rfl
theorem lca_217 : zalen zRc 217 = some 8 := rfl
theorem lcc_218 : zrc zRc 218 6 = true := rfl
theorem lcf_218_0 {S : zS} {L : zL} : zgetf zRc S L 218 6 0 = some (.ref 219) := rfl
theorem lcl_219 : zlen zRc 219 1 = some 8 := rfl
theorem lca_219 : zalen zRc 219 = some 8 := rfl
theorem lcc_220 : zrc zRc 220 6 = true := rfl
theorem lcf_220_0 {S : zS} {L : zL} : zgetf zRc S L 220 6 0 = some (.ref 221) := rfl
theorem lcl_221 : zlen zRc 221 1 = some 5 := rfl
theorem lca_221 : zalen zRc 221 = some 5 := rfl
theorem lcc_222 : zrc zRc 222 6 = true := rfl
theorem lcf_222_0 {S : zS} {L : zL} : zgetf zRc S L 222 6 0 = some (.ref 223) := rfl
theorem lcl_223 : zlen zRc 223 1 = some 8 := rfl
theorem lca_223 : zalen zRc 223 = some 8 := rfl
theorem lcc_224 : zrc zRc 224 6 = true := rfl
theorem lcf_224_0 {S : zS} {L : zL} : zgetf zRc S L 224 6 0 = some (.ref 225) := rfl
theorem lcl_225 : zlen zRc 225 1 = some 8 := rfl
theorem lca_225 : zalen zRc 225 = some 8 := rfl
theorem lcc_226 : zrc zRc 226 6 = true := rfl
theorem lcf_226_0 {S : zS} {L : zL} : zgetf zRc S L 226 6 0 = some (.ref 227) := rfl
theorem lcl_227 : zlen zRc 227 1 = some 8 := rfl
theorem lca_227 : zalen zRc 227 = some 8 := rfl
theorem lcc_228 : zrc zRc 228 2 = true := rfl
theorem lcf_228_0 {S : zS} {L : zL} : zgetf zRc S L 228 2 0 = some (.ref 4) := rfl
theorem lcf_228_1 {S : zS} {L : zL} : zgetf zRc S L 228 2 1 = some (.ref 229) := rfl
theorem lcf_228_2 {S : zS} {L : zL} : zgetf zRc S L 228 2 2 = some (.ref 231) := rfl
theorem lcf_228_3 {S : zS} {L : zL} : zgetf zRc S L 228 2 3 = some (.ref 233) := rfl
theorem lcf_228_4 {S : zS} {L : zL} : zgetf zRc S L 228 2 4 = some (.ref 235) := rfl
theorem lcf_228_5 {S : zS} {L : zL} : zgetf zRc S L 228 2 5 = some (.ref 237) := rfl
theorem lcf_228_6 {S : zS} {L : zL} : zgetf zRc S L 228 2 6 = some (.ref 239) := rfl
theorem lcf_228_7 {S : zS} {L : zL} : zgetf zRc S L 228 2 7 = some (.int (S 228 7)) := rfl
theorem lcp_228_7 {S : zS} {L : zL} {x : Int32} : zputf zRc S L 228 2 7 (.int x) = some (zRc, zup S 228 7 x, L) := zputI rfl rfl rfl
theorem lcf_228_8 {S : zS} {L : zL} : zgetf zRc S L 228 2 8 = some (.int (S 228 8)) := rfl
theorem lcp_228_8 {S : zS} {L : zL} {x : Int32} : zputf zRc S L 228 2 8 (.int x) = some (zRc, zup S 228 8 x, L) := zputI rfl rfl rfl
theorem lcf_228_9 {S : zS} {L : zL} : zgetf zRc S L 228 2 9 = some (.int (S 228 9)) := rfl
theorem lcp_228_9 {S : zS} {L : zL} {x : Int32} : zputf zRc S L 228 2 9 (.int x) = some (zRc, zup S 228 9 x, L) := zputI rfl rfl rfl
theorem lcf_228_10 {S : zS} {L : zL} : zgetf zRc S L 228 2 10 = some (.int (S 228 10)) := rfl
theorem lcp_228_10 {S : zS} {L : zL} {x : Int32} : zputf zRc S L 228 2 10 (.int x) = some (zRc, zup S 228 10 x, L) := zputI rfl rfl rfl
theorem lcf_228_11 {S : zS} {L : zL} : zgetf zRc S L 228 2 11 = some (.ref 241) := rfl
theorem lcf_228_12 {S : zS} {L : zL} : zgetf zRc S L 228 2 12 = some (.ref 243) := rfl
theorem lcf_228_13 {S : zS} {L : zL} : zgetf zRc S L 228 2 13 = some (.ref 245) := rfl
theorem lcc_229 : zrc zRc 229 6 = true := rfl
theorem lcf_229_0 {S : zS} {L : zL} : zgetf zRc S L 229 6 0 = some (.ref 230) := rfl
theorem lcl_230 : zlen zRc 230 1 = some 8 := rfl
theorem lca_230 : zalen zRc 230 = some 8 := rfl
theorem lcc_231 : zrc zRc 231 6 = true := rfl
theorem lcf_231_0 {S : zS} {L : zL} : zgetf zRc S L 231 6 0 = some (.ref 232) := rfl
theorem lcl_232 : zlen zRc 232 1 = some 8 := rfl
theorem lca_232 : zalen zRc 232 = some 8 := rfl
theorem lcc_233 : zrc zRc 233 6 = true := rfl
theorem lcf_233_0 {S : zS} {L : zL} : zgetf zRc S L 233 6 0 = some (.ref 234) := rfl
theorem lcl_234 : zlen zRc 234 1 = some 8 := rfl
theorem lca_234 : zalen zRc 234 = some 8 := rfl
theorem lcc_235 : zrc zRc 235 6 = true := rfl
theorem lcf_235_0 {S : zS} {L : zL} : zgetf zRc S L 235 6 0 = some (.ref 236) := rfl
theorem lcl_236 : zlen zRc 236 1 = some 8 := rfl
theorem lca_236 : zalen zRc 236 = some 8 := rfl
theorem lcc_237 : zrc zRc 237 6 = true := rfl
theorem lcf_237_0 {S : zS} {L : zL} : zgetf zRc S L 237 6 0 = some (.ref 238) := rfl
theorem lcl_238 : zlen zRc 238 1 = some 8 := rfl
theorem lca_238 : zalen zRc 238 = some 8 := rfl
theorem lcc_239 : zrc zRc 239 6 = true := rfl
theorem lcf_239_0 {S : zS} {L : zL} : zgetf zRc S L 239 6 0 = some (.ref 240) := rfl
theorem lcl_240 : zlen zRc 240 1 = some 5 := rfl
theorem lca_240 : zalen zRc 240 = some 5 := rfl
theorem lcc_241 : zrc zRc 241 6 = true := rfl
theorem lcf_241_0 {S : zS} {L : zL} : zgetf zRc S L 241 6 0 = some (.ref 242) := rfl
theorem lcl_242 : zlen zRc 242 1 = some 8 := rfl
theorem lca_242 : zalen zRc 242 = some 8 := rfl
theorem lcc_243 : zrc zRc 243 6 = true := rfl
theorem lcf_243_0 {S : zS} {L : zL} : zgetf zRc S L 243 6 0 = some (.ref 244) := rfl
theorem lcl_244 : zlen zRc 244 1 = some 8 := rfl
theorem lca_244 : zalen zRc 244 = some 8 := rfl
theorem lcc_245 : zrc zRc 245 6 = true := rfl
theorem lcf_245_0 {S : zS} {L : zL} : zgetf zRc S L 245 6 0 = some (.ref 246) := rfl
theorem lcl_246 : zlen zRc 246 1 = some 8 := rfl
theorem lca_246 : zalen zRc 246 = some 8 := rfl
theorem lcc_247 : zrc zRc 247 2 = true := rfl
theorem lcf_247_0 {S : zS} {L : zL} : zgetf zRc S L 247 2 0 = some (.ref 4) := rfl
theorem lcf_247_1 {S : zS} {L : zL} : zgetf zRc S L 247 2 1 = some (.ref 248) := rfl
theorem lcf_247_2 {S : zS} {L : zL} : zgetf zRc S L 247 2 2 = some (.ref 250) := rfl
theorem lcf_247_3 {S : zS} {L : zL} : zgetf zRc S L 247 2 3 = some (.ref 252) := rfl
theorem lcf_247_4 {S : zS} {L : zL} : zgetf zRc S L 247 2 4 = some (.ref 254) := rfl
theorem lcf_247_5 {S : zS} {L : zL} : zgetf zRc S L 247 2 5 = some (.ref 256) := rfl
theorem lcf_247_6 {S : zS} {L : zL} : zgetf zRc S L 247 2 6 = some (.ref 258) := rfl
theorem lcf_247_7 {S : zS} {L : zL} : zgetf zRc S L 247 2 7 = some (.int (S 247 7)) := rfl
theorem lcp_247_7 {S : zS} {L : zL} {x : Int32} : zputf zRc S L 247 2 7 (.int x) = some (zRc, zup S 247 7 x, L) := zputI rfl rfl rfl
theorem lcf_247_8 {S : zS} {L : zL} : zgetf zRc S L 247 2 8 = some (.int (S 247 8)) := rfl
theorem lcp_247_8 {S : zS} {L : zL} {x : Int32} : zputf zRc S L 247 2 8 (.int x) = some (zRc, zup S 247 8 x, L) := zputI rfl rfl rfl
theorem lcf_247_9 {S : zS} {L : zL} : zgetf zRc S L 247 2 9 = some (.int (S 247 9)) := rfl
theorem lcp_247_9 {S : zS} {L : zL} {x : Int32} : zputf zRc S L 247 2 9 (.int x) = some (zRc, zup S 247 9 x, L) := zputI rfl rfl rfl
theorem lcf_247_10 {S : zS} {L : zL} : zgetf zRc S L 247 2 10 = some (.int (S 247 10)) := rfl
theorem lcp_247_10 {S : zS} {L : zL} {x : Int32} : zputf zRc S L 247 2 10 (.int x) = some (zRc, zup S 247 10 x, L) := zputI rfl rfl rfl
theorem lcf_247_11 {S : zS} {L : zL} : zgetf zRc S L 247 2 11 = some (.ref 260) := rfl
theorem lcf_247_12 {S : zS} {L : zL} : zgetf zRc S L 247 2 12 = some (.ref 262) := rfl
theorem lcf_247_13 {S : zS} {L : zL} : zgetf zRc S L 247 2 13 = some (.ref 264) := rfl
theorem lcc_248 : zrc zRc 248 6 = true := rfl
theorem lcf_248_0 {S : zS} {L : zL} : zgetf zRc S L 248 6 0 = some (.ref 249) := rfl
theorem lcl_249 : zlen zRc 249 1 = some 8 := rfl
theorem lca_249 : zalen zRc 249 = some 8 := rfl
theorem lcc_250 : zrc zRc 250 6 = true := rfl
theorem lcf_250_0 {S : zS} {L : zL} : zgetf zRc S L 250 6 0 = some (.ref 251) := rfl
theorem lcl_251 : zlen zRc 251 1 = some 8 := rfl
theorem lca_251 : zalen zRc 251 = some 8 := rfl
theorem lcc_252 : zrc zRc 252 6 = true := rfl
theorem lcf_252_0 {S : zS} {L : zL} : zgetf zRc S L 252 6 0 = some (.ref 253) := rfl
theorem lcl_253 : zlen zRc 253 1 = some 8 := rfl
theorem lca_253 : zalen zRc 253 = some 8 := rfl
theorem lcc_254 : zrc zRc 254 6 = true := rfl
theorem lcf_254_0 {S : zS} {L : zL} : zgetf zRc S L 254 6 0 = some (.ref 255) := rfl
theorem lcl_255 : zlen zRc 255 1 = some 8 := rfl
theorem lca_255 : zalen zRc 255 = some 8 := rfl
theorem lcc_256 : zrc zRc 256 6 = true := rfl
theorem lcf_256_0 {S : zS} {L : zL} : zgetf zRc S L 256 6 0 = some (.ref 257) := rfl
theorem lcl_257 : zlen zRc 257 1 = some 8 := rfl
theorem lca_257 : zalen zRc 257 = some 8 := rfl
theorem lcc_258 : zrc zRc 258 6 = true := rfl
theorem lcf_258_0 {S : zS} {L : zL} : zgetf zRc S L 258 6 0 = some (.ref 259) := rfl
theorem lcl_259 : zlen zRc 259 1 = some 5 := rfl
theorem lca_259 : zalen zRc 259 = some 5 := rfl
theorem lcc_260 : zrc zRc 260 6 = true := rfl
theorem lcf_260_0 {S : zS} {L : zL} : zgetf zRc S L 260 6 0 = some (.ref 261) := rfl
theorem lcl_261 : zlen zRc 261 1 = some 8 := rfl
theorem lca_261 : zalen zRc 261 = some 8 := rfl
theorem lcc_262 : zrc zRc 262 6 = true := rfl
theorem lcf_262_0 {S : zS} {L : zL} : zgetf zRc S L 262 6 0 = some (.ref 263) := rfl
theorem lcl_263 : zlen zRc 263 1 = some 8 := rfl
theorem lca_263 : zalen zRc 263 = some 8 := rfl
theorem lcc_264 : zrc zRc 264 6 = true := rfl
theorem lcf_264_0 {S : zS} {L : zL} : zgetf zRc S L 264 6 0 = some (.ref 265) := rfl
theorem lcl_265 : zlen zRc 265 1 = some 8 := rfl
theorem lca_265 : zalen zRc 265 = some 8 := rfl
theorem lcc_266 : zrc zRc 266 2 = true := rfl
theorem lcf_266_0 {S : zS} {L : zL} : zgetf zRc S L 266 2 0 = some (.ref 4) := rfl
theorem lcf_266_1 {S : zS} {L : zL} : zgetf zRc S L 266 2 1 = some (.ref 267) := rfl
theorem lcf_266_2 {S : zS} {L : zL} : zgetf zRc S L 266 2 2 = some (.ref 269) := rfl
theorem lcf_266_3 {S : zS} {L : zL} : zgetf zRc S L 266 2 3 = some (.ref 271) := rfl
theorem lcf_266_4 {S : zS} {L : zL} : zgetf zRc S L 266 2 4 = some (.ref 273) := rfl
theorem lcf_266_5 {S : zS} {L : zL} : zgetf zRc S L 266 2 5 = some (.ref 275) := rfl
theorem lcf_266_6 {S : zS} {L : zL} : zgetf zRc S L 266 2 6 = some (.ref 277) := rfl
theorem lcf_266_7 {S : zS} {L : zL} : zgetf zRc S L 266 2 7 = some (.int (S 266 7)) := rfl
theorem lcp_266_7 {S : zS} {L : zL} {x : Int32} : zputf zRc S L 266 2 7 (.int x) = some (zRc, zup S 266 7 x, L) := zputI rfl rfl rfl
theorem lcf_266_8 {S : zS} {L : zL} : zgetf zRc S L 266 2 8 = some (.int (S 266 8)) := rfl
theorem lcp_266_8 {S : zS} {L : zL} {x : Int32} : zputf zRc S L 266 2 8 (.int x) = some (zRc, zup S 266 8 x, L) := zputI rfl rfl rfl
theorem lcf_266_9 {S : zS} {L : zL} : zgetf zRc S L 266 2 9 = some (.int (S 266 9)) := rfl
theorem lcp_266_9 {S : zS} {L : zL} {x : Int32} : zputf zRc S L 266 2 9 (.int x) = some (zRc, zup S 266 9 x, L) := zputI rfl rfl rfl
theorem lcf_266_10 {S : zS} {L : zL} : zgetf zRc S L 266 2 10 = some (.int (S 266 10)) := rfl
theorem lcp_266_10 {S : zS} {L : zL} {x : Int32} : zputf zRc S L 266 2 10 (.int x) = some (zRc, zup S 266 10 x, L) := zputI rfl rfl rfl
theorem lcf_266_11 {S : zS} {L : zL} : zgetf zRc S L 266 2 11 = some (.ref 279) := rfl
theorem lcf_266_12 {S : zS} {L : zL} : zgetf zRc S L 266 2 12 = some (.ref 281) := rfl
theorem lcf_266_13 {S : zS} {L : zL} : zgetf zRc S L 266 2 13 = some (.ref 283) := rfl
theorem lcc_267 : zrc zRc 267 6 = true := rfl
theorem lcf_267_0 {S : zS} {L : zL} : zgetf zRc S L 267 6 0 = some (.ref 268) := rfl
theorem lcl_268 : zlen zRc 268 1 = some 8 := rfl
theorem lca_268 : zalen zRc 268 = some 8 := rfl
theorem lcc_269 : zrc zRc 269 6 = true := rfl
theorem lcf_269_0 {S : zS} {L : zL} : zgetf zRc S L 269 6 0 = some (.ref 270) := rfl
theorem lcl_270 : zlen zRc 270 1 = some 8 := rfl
theorem lca_270 : zalen zRc 270 = some 8 := rfl
theorem lcc_271 : zrc zRc 271 6 = true := rfl
theorem lcf_271_0 {S : zS} {L : zL} : zgetf zRc S L 271 6 0 = some (.ref 272) := rfl
theorem lcl_272 : zlen zRc 272 1 = some 8 := rfl
theorem lca_272 : zalen zRc 272 = some 8 := rfl
theorem lcc_273 : zrc zRc 273 6 = true := rfl
theorem lcf_273_0 {S : zS} {L : zL} : zgetf zRc S L 273 6 0 = some (.ref 274) := rfl
theorem lcl_274 : zlen zRc 274 1 = some 8 := rfl
theorem lca_274 : zalen zRc 274 = some 8 := rfl
theorem lcc_275 : zrc zRc 275 6 = true := rfl
theorem lcf_275_0 {S : zS} {L : zL} : zgetf zRc S L 275 6 0 = some (.ref 276) := rfl
theorem lcl_276 : zlen zRc 276 1 = some 8 := rfl
theorem lca_276 : zalen zRc 276 = some 8 := rfl
theorem lcc_277 : zrc zRc 277 6 = true := rfl
theorem lcf_277_0 {S : zS} {L : zL} : zgetf zRc S L 277 6 0 = some (.ref 278) := rfl
theorem lcl_278 : zlen zRc 278 1 = some 5 := rfl
theorem lca_278 : zalen zRc 278 = some 5 := rfl
theorem lcc_279 : zrc zRc 279 6 = true := rfl
theorem lcf_279_0 {S : zS} {L : zL} : zgetf zRc S L 279 6 0 = some (.ref 280) := rfl
theorem lcl_280 : zlen zRc 280 1 = some 8 := rfl
theorem lca_280 : zalen zRc 280 = some 8 := rfl
theorem lcc_281 : zrc zRc 281 6 = true := rfl
theorem lcf_281_0 {S : zS} {L : zL} : zgetf zRc S L 281 6 0 = some (.ref 282) := rfl
theorem lcl_282 : zlen zRc 282 1 = some 8 := rfl
theorem lca_282 : zalen zRc 282 = some 8 := rfl
theorem lcc_283 : zrc zRc 283 6 = true := rfl
theorem lcf_283_0 {S : zS} {L : zL} : zgetf zRc S L 283 6 0 = some (.ref 284) := rfl
theorem lcl_284 : zlen zRc 284 1 = some 8 := rfl
theorem lca_284 : zalen zRc 284 = some 8 := rfl
theorem lcc_285 : zrc zRc 285 1 = true := rfl
theorem lcf_285_0 {S : zS} {L : zL} : zgetf zRc S L 285 1 0 = some (.ref 4) := rfl
theorem lcf_285_1 {S : zS} {L : zL} : zgetf zRc S L 285 1 1 = some (.ref 168) := rfl
theorem lcf_285_2 {S : zS} {L : zL} : zgetf zRc S L 285 1 2 = some (.ref 286) := rfl
theorem lcc_286 : zrc zRc 286 6 = true := rfl
theorem lcf_286_0 {S : zS} {L : zL} : zgetf zRc S L 286 6 0 = some (.ref 287) := rfl
theorem lcl_287 : zlen zRc 287 1 = some 6 := rfl
theorem lca_287 : zalen zRc 287 = some 6 := rfl
theorem lcc_288 : zrc zRc 288 10 = true := rfl
theorem lcf_288_0 {S : zS} {L : zL} : zgetf zRc S L 288 10 0 = some (.ref 4) := rfl
theorem lcf_288_1 {S : zS} {L : zL} : zgetf zRc S L 288 10 1 = some (.ref 168) := rfl
theorem lcf_288_2 {S : zS} {L : zL} : zgetf zRc S L 288 10 2 = some (.ref 289) := rfl
theorem lcc_289 : zrc zRc 289 6 = true := rfl
theorem lcf_289_0 {S : zS} {L : zL} : zgetf zRc S L 289 6 0 = some (.ref 290) := rfl
theorem lcl_290 : zlen zRc 290 1 = some 256 := rfl
theorem lca_290 : zalen zRc 290 = some 256 := rfl
theorem lcc_291 : zrc zRc 291 6 = true := rfl
theorem lcf_291_0 {S : zS} {L : zL} : zgetf zRc S L 291 6 0 = some (.ref 292) := rfl
theorem lcl_292 : zlen zRc 292 1 = some 3 := rfl
theorem lca_292 : zalen zRc 292 = some 3 := rfl
def layC_0 := And.intro @lcc_0 (And.intro @lcf_0_0 (And.intro @lcf_0_1 (And.intro @lcf_0_2 (And.intro @lcf_0_3 (And.intro @lcf_0_4 (And.intro @lcf_0_5 (And.intro @lcf_0_6 (And.intro @lcf_0_7 (And.intro @lcf_0_8 (And.intro @lcf_0_9 (And.intro @lcf_0_10 (And.intro @lcf_0_11 (And.intro @lcp_0_11 (And.intro @lcf_0_12 (And.intro @lcp_0_12 (And.intro @lcf_0_13 (And.intro @lcp_0_13_0 (And.intro @lcp_0_13_1 (And.intro @lcf_0_14 (And.intro @lcp_0_14 (And.intro @lcf_0_15 (And.intro @lcp_0_15 (And.intro @lcf_0_16 (And.intro @lcp_0_16 (And.intro @lcc_1 (And.intro @lcf_1_0 (And.intro @lcf_1_1 (And.intro @lcp_1_1 (And.intro @lcf_1_2 (And.intro @lcp_1_2 (And.intro @lcf_1_3 (And.intro @lcp_1_3 (And.intro @lcf_1_4 (And.intro @lcp_1_4 (And.intro @lcf_1_5 (And.intro @lcp_1_5 (And.intro @lcc_2 (And.intro @lcf_2_0 (And.intro @lcl_3 (And.intro @lca_3 (And.intro @lcc_4 (And.intro @lcf_4_0 (And.intro @lcp_4_0_0 (And.intro @lcp_4_0_1 (And.intro @lcf_4_1 (And.intro @lcp_4_1 (And.intro @lcf_4_2 (And.intro @lcp_4_2 (And.intro @lcf_4_3 (And.intro @lcp_4_3 (And.intro @lcf_4_4 (And.intro @lcp_4_4 (And.intro @lcf_4_5 (And.intro @lcp_4_5_0 (And.intro @lcp_4_5_1 (And.intro @lcf_4_6 (And.intro @lcp_4_6 (And.intro @lcf_4_7 (@lcp_4_7)))))))))))))))))))))))))))))))))))))))))))))))))))))))))))
def layC_1 := And.intro @lcf_4_8 (And.intro @lcf_4_9 (And.intro @lcf_4_10 (And.intro @lcf_4_11 (And.intro @lcf_4_12 (And.intro @lcf_4_13 (And.intro @lcf_4_14 (And.intro @lcc_5 (And.intro @lcf_5_0 (And.intro @lcf_5_1 (And.intro @lcf_5_2 (And.intro @lcf_5_3 (And.intro @lcp_5_3 (And.intro @lcc_6 (And.intro @lcf_6_0 (And.intro @lcl_7 (And.intro @lca_7 (And.intro @lcc_8 (And.intro @lcf_8_0 (And.intro @lcl_9 (And.intro @lca_9 (And.intro @lcc_10 (And.intro @lcf_10_0 (And.intro @lcl_11 (And.intro @lca_11 (And.intro @lcc_12 (And.intro @lcf_12_0 (And.intro @lcp_12_0 (And.intro @lcf_12_1 (And.intro @lcf_12_2 (And.intro @lcf_12_3 (And.intro @lcf_12_4 (And.intro @lcf_12_5 (And.intro @lcf_12_6 (And.intro @lcf_12_7 (And.intro @lcp_12_7 (And.intro @lcc_13 (And.intro @lcf_13_0 (And.intro @lcl_14 (And.intro @lca_14 (And.intro @lcc_15 (And.intro @lcf_15_0 (And.intro @lcl_16 (And.intro @lca_16 (And.intro @lcc_17 (And.intro @lcf_17_0 (And.intro @lcl_18 (And.intro @lca_18 (And.intro @lcc_19 (And.intro @lcf_19_0 (And.intro @lcl_20 (And.intro @lca_20 (And.intro @lcc_21 (And.intro @lcf_21_0 (And.intro @lcl_22 (And.intro @lca_22 (And.intro @lcc_23 (And.intro @lcf_23_0 (And.intro @lcl_24 (@lca_24)))))))))))))))))))))))))))))))))))))))))))))))))))))))))))
def layC_2 := And.intro @lcc_25 (And.intro @lcf_25_0 (And.intro @lcp_25_0 (And.intro @lcf_25_1 (And.intro @lcf_25_2 (And.intro @lcf_25_3 (And.intro @lcf_25_4 (And.intro @lcf_25_5 (And.intro @lcf_25_6 (And.intro @lcf_25_7 (And.intro @lcp_25_7 (And.intro @lcc_26 (And.intro @lcf_26_0 (And.intro @lcl_27 (And.intro @lca_27 (And.intro @lcc_28 (And.intro @lcf_28_0 (And.intro @lcl_29 (And.intro @lca_29 (And.intro @lcc_30 (And.intro @lcf_30_0 (And.intro @lcl_31 (And.intro @lca_31 (And.intro @lcc_32 (And.intro @lcf_32_0 (And.intro @lcl_33 (And.intro @lca_33 (And.intro @lcc_34 (And.intro @lcf_34_0 (And.intro @lcl_35 (And.intro @lca_35 (And.intro @lcc_36 (And.intro @lcf_36_0 (And.intro @lcl_37 (And.intro @lca_37 (And.intro @lcc_38 (And.intro @lcf_38_0 (And.intro @lcp_38_0 (And.intro @lcf_38_1 (And.intro @lcf_38_2 (And.intro @lcf_38_3 (And.intro @lcf_38_4 (And.intro @lcf_38_5 (And.intro @lcf_38_6 (And.intro @lcf_38_7 (And.intro @lcp_38_7 (And.intro @lcc_39 (And.intro @lcf_39_0 (And.intro @lcl_40 (And.intro @lca_40 (And.intro @lcc_41 (And.intro @lcf_41_0 (And.intro @lcl_42 (And.intro @lca_42 (And.intro @lcc_43 (And.intro @lcf_43_0 (And.intro @lcl_44 (And.intro @lca_44 (And.intro @lcc_45 (@lcf_45_0)))))))))))))))))))))))))))))))))))))))))))))))))))))))))))
def layC_3 := And.intro @lcl_46 (And.intro @lca_46 (And.intro @lcc_47 (And.intro @lcf_47_0 (And.intro @lcl_48 (And.intro @lca_48 (And.intro @lcc_49 (And.intro @lcf_49_0 (And.intro @lcl_50 (And.intro @lca_50 (And.intro @lcc_51 (And.intro @lcf_51_0 (And.intro @lcp_51_0 (And.intro @lcf_51_1 (And.intro @lcf_51_2 (And.intro @lcf_51_3 (And.intro @lcf_51_4 (And.intro @lcf_51_5 (And.intro @lcf_51_6 (And.intro @lcf_51_7 (And.intro @lcp_51_7 (And.intro @lcc_52 (And.intro @lcf_52_0 (And.intro @lcl_53 (And.intro @lca_53 (And.intro @lcc_54 (And.intro @lcf_54_0 (And.intro @lcl_55 (And.intro @lca_55 (And.intro @lcc_56 (And.intro @lcf_56_0 (And.intro @lcl_57 (And.intro @lca_57 (And.intro @lcc_58 (And.intro @lcf_58_0 (And.intro @lcl_59 (And.intro @lca_59 (And.intro @lcc_60 (And.intro @lcf_60_0 (And.intro @lcl_61 (And.intro @lca_61 (And.intro @lcc_62 (And.intro @lcf_62_0 (And.intro @lcl_63 (And.intro @lca_63 (And.intro @lcc_64 (And.intro @lcf_64_0 (And.intro @lcf_64_1 (And.intro @lcf_64_2 (And.intro @lcf_64_3 (And.intro @lcf_64_4 (And.intro @lcp_64_4 (And.intro @lcc_65 (And.intro @lcf_65_0 (And.intro @lcl_66 (And.intro @lca_66 (And.intro @lcc_67 (And.intro @lcf_67_0 (And.intro @lcl_68 (@lca_68)))))))))))))))))))))))))))))))))))))))))))))))))))))))))))
def layC_4 := And.intro @lcc_69 (And.intro @lcf_69_0 (And.intro @lcl_70 (And.intro @lca_70 (And.intro @lcc_71 (And.intro @lcf_71_0 (And.intro @lcl_72 (And.intro @lca_72 (And.intro @lcc_73 (And.intro @lcf_73_0 (And.intro @lcf_73_1 (And.intro @lcf_73_2 (And.intro @lcf_73_3 (And.intro @lcp_73_3 (And.intro @lcc_74 (And.intro @lcf_74_0 (And.intro @lcl_75 (And.intro @lca_75 (And.intro @lcc_76 (And.intro @lcf_76_0 (And.intro @lcl_77 (And.intro @lca_77 (And.intro @lcc_78 (And.intro @lcf_78_0 (And.intro @lcl_79 (And.intro @lca_79 (And.intro @lcc_80 (And.intro @lcf_80_0 (And.intro @lcf_80_1 (And.intro @lcf_80_2 (And.intro @lcf_80_3 (And.intro @lcf_80_4 (And.intro @lcf_80_5 (And.intro @lcp_80_5 (And.intro @lcf_80_6 (And.intro @lcp_80_6 (And.intro @lcf_80_7 (And.intro @lcp_80_7 (And.intro @lcc_81 (And.intro @lcf_81_0 (And.intro @lcp_81_0_0 (And.intro @lcp_81_0_1 (And.intro @lcf_81_1 (And.intro @lcp_81_1 (And.intro @lcf_81_2 (And.intro @lcp_81_2 (And.intro @lcf_81_3 (And.intro @lcp_81_3 (And.intro @lcf_81_4 (And.intro @lcp_81_4 (And.intro @lcf_81_5 (And.intro @lcp_81_5_0 (And.intro @lcp_81_5_1 (And.intro @lcf_81_6 (And.intro @lcp_81_6 (And.intro @lcf_81_7 (And.intro @lcp_81_7 (And.intro @lcf_81_8 (And.intro @lcf_81_9 (@lcf_81_10)))))))))))))))))))))))))))))))))))))))))))))))))))))))))))
def layC_5 := And.intro @lcf_81_11 (And.intro @lcf_81_12 (And.intro @lcf_81_13 (And.intro @lcf_81_14 (And.intro @lcc_82 (And.intro @lcf_82_0 (And.intro @lcf_82_1 (And.intro @lcf_82_2 (And.intro @lcf_82_3 (And.intro @lcp_82_3 (And.intro @lcc_83 (And.intro @lcf_83_0 (And.intro @lcl_84 (And.intro @lca_84 (And.intro @lcc_85 (And.intro @lcf_85_0 (And.intro @lcl_86 (And.intro @lca_86 (And.intro @lcc_87 (And.intro @lcf_87_0 (And.intro @lcl_88 (And.intro @lca_88 (And.intro @lcc_89 (And.intro @lcf_89_0 (And.intro @lcp_89_0 (And.intro @lcf_89_1 (And.intro @lcf_89_2 (And.intro @lcf_89_3 (And.intro @lcf_89_4 (And.intro @lcf_89_5 (And.intro @lcf_89_6 (And.intro @lcf_89_7 (And.intro @lcp_89_7 (And.intro @lcc_90 (And.intro @lcf_90_0 (And.intro @lcl_91 (And.intro @lca_91 (And.intro @lcc_92 (And.intro @lcf_92_0 (And.intro @lcl_93 (And.intro @lca_93 (And.intro @lcc_94 (And.intro @lcf_94_0 (And.intro @lcl_95 (And.intro @lca_95 (And.intro @lcc_96 (And.intro @lcf_96_0 (And.intro @lcl_97 (And.intro @lca_97 (And.intro @lcc_98 (And.intro @lcf_98_0 (And.intro @lcl_99 (And.intro @lca_99 (And.intro @lcc_100 (And.intro @lcf_100_0 (And.intro @lcl_101 (And.intro @lca_101 (And.intro @lcc_102 (And.intro @lcf_102_0 (@lcp_102_0)))))))))))))))))))))))))))))))))))))))))))))))))))))))))))
def layC_6 := And.intro @lcf_102_1 (And.intro @lcf_102_2 (And.intro @lcf_102_3 (And.intro @lcf_102_4 (And.intro @lcf_102_5 (And.intro @lcf_102_6 (And.intro @lcf_102_7 (And.intro @lcp_102_7 (And.intro @lcc_103 (And.intro @lcf_103_0 (And.intro @lcl_104 (And.intro @lca_104 (And.intro @lcc_105 (And.intro @lcf_105_0 (And.intro @lcl_106 (And.intro @lca_106 (And.intro @lcc_107 (And.intro @lcf_107_0 (And.intro @lcl_108 (And.intro @lca_108 (And.intro @lcc_109 (And.intro @lcf_109_0 (And.intro @lcl_110 (And.intro @lca_110 (And.intro @lcc_111 (And.intro @lcf_111_0 (And.intro @lcl_112 (And.intro @lca_112 (And.intro @lcc_113 (And.intro @lcf_113_0 (And.intro @lcl_114 (And.intro @lca_114 (And.intro @lcc_115 (And.intro @lcf_115_0 (And.intro @lcp_115_0 (And.intro @lcf_115_1 (And.intro @lcf_115_2 (And.intro @lcf_115_3 (And.intro @lcf_115_4 (And.intro @lcf_115_5 (And.intro @lcf_115_6 (And.intro @lcf_115_7 (And.intro @lcp_115_7 (And.intro @lcc_116 (And.intro @lcf_116_0 (And.intro @lcl_117 (And.intro @lca_117 (And.intro @lcc_118 (And.intro @lcf_118_0 (And.intro @lcl_119 (And.intro @lca_119 (And.intro @lcc_120 (And.intro @lcf_120_0 (And.intro @lcl_121 (And.intro @lca_121 (And.intro @lcc_122 (And.intro @lcf_122_0 (And.intro @lcl_123 (And.intro @lca_123 (@lcc_124)))))))))))))))))))))))))))))))))))))))))))))))))))))))))))
def layC_7 := And.intro @lcf_124_0 (And.intro @lcl_125 (And.intro @lca_125 (And.intro @lcc_126 (And.intro @lcf_126_0 (And.intro @lcl_127 (And.intro @lca_127 (And.intro @lcc_128 (And.intro @lcf_128_0 (And.intro @lcp_128_0 (And.intro @lcf_128_1 (And.intro @lcf_128_2 (And.intro @lcf_128_3 (And.intro @lcf_128_4 (And.intro @lcf_128_5 (And.intro @lcf_128_6 (And.intro @lcf_128_7 (And.intro @lcp_128_7 (And.intro @lcc_129 (And.intro @lcf_129_0 (And.intro @lcl_130 (And.intro @lca_130 (And.intro @lcc_131 (And.intro @lcf_131_0 (And.intro @lcl_132 (And.intro @lca_132 (And.intro @lcc_133 (And.intro @lcf_133_0 (And.intro @lcl_134 (And.intro @lca_134 (And.intro @lcc_135 (And.intro @lcf_135_0 (And.intro @lcl_136 (And.intro @lca_136 (And.intro @lcc_137 (And.intro @lcf_137_0 (And.intro @lcl_138 (And.intro @lca_138 (And.intro @lcc_139 (And.intro @lcf_139_0 (And.intro @lcl_140 (And.intro @lca_140 (And.intro @lcc_141 (And.intro @lcf_141_0 (And.intro @lcf_141_1 (And.intro @lcf_141_2 (And.intro @lcf_141_3 (And.intro @lcf_141_4 (And.intro @lcp_141_4 (And.intro @lcc_142 (And.intro @lcf_142_0 (And.intro @lcl_143 (And.intro @lca_143 (And.intro @lcc_144 (And.intro @lcf_144_0 (And.intro @lcl_145 (And.intro @lca_145 (And.intro @lcc_146 (And.intro @lcf_146_0 (@lcl_147)))))))))))))))))))))))))))))))))))))))))))))))))))))))))))
def layC_8 := And.intro @lca_147 (And.intro @lcc_148 (And.intro @lcf_148_0 (And.intro @lcl_149 (And.intro @lca_149 (And.intro @lcc_150 (And.intro @lcf_150_0 (And.intro @lcf_150_1 (And.intro @lcf_150_2 (And.intro @lcf_150_3 (And.intro @lcp_150_3 (And.intro @lcc_151 (And.intro @lcf_151_0 (And.intro @lcl_152 (And.intro @lca_152 (And.intro @lcc_153 (And.intro @lcf_153_0 (And.intro @lcl_154 (And.intro @lca_154 (And.intro @lcc_155 (And.intro @lcf_155_0 (And.intro @lcl_156 (And.intro @lca_156 (And.intro @lcl_157 (And.intro @lca_157 (And.intro @lcc_158 (And.intro @lcf_158_0 (And.intro @lcl_159 (And.intro @lca_159 (And.intro @lcc_160 (And.intro @lcf_160_0 (And.intro @lcl_161 (And.intro @lca_161 (And.intro @lcc_162 (And.intro @lcf_162_0 (And.intro @lcf_162_1 (And.intro @lcf_162_2 (And.intro @lcf_162_3 (And.intro @lcf_162_4 (And.intro @lcf_162_5 (And.intro @lcp_162_5 (And.intro @lcf_162_6 (And.intro @lcp_162_6 (And.intro @lcf_162_7 (And.intro @lcp_162_7 (And.intro @lcl_163 (And.intro @lca_163 (And.intro @lcc_164 (And.intro @lcf_164_0 (And.intro @lcl_165 (And.intro @lca_165 (And.intro @lcc_166 (And.intro @lcf_166_0 (And.intro @lcl_167 (And.intro @lca_167 (And.intro @lcc_168 (And.intro @lcf_168_0 (And.intro @lcf_168_1 (And.intro @lcf_168_2 (@lcf_168_3)))))))))))))))))))))))))))))))))))))))))))))))))))))))))))
def layC_9 := And.intro @lcf_168_4 (And.intro @lcf_168_5 (And.intro @lcf_168_6 (And.intro @lcf_168_7 (And.intro @lcp_168_7 (And.intro @lcf_168_8 (And.intro @lcp_168_8 (And.intro @lcf_168_9 (And.intro @lcp_168_9 (And.intro @lcf_168_10 (And.intro @lcp_168_10 (And.intro @lcf_168_11 (And.intro @lcf_168_12 (And.intro @lcf_168_13 (And.intro @lcc_169 (And.intro @lcf_169_0 (And.intro @lcl_170 (And.intro @lca_170 (And.intro @lcc_171 (And.intro @lcf_171_0 (And.intro @lcl_172 (And.intro @lca_172 (And.intro @lcc_173 (And.intro @lcf_173_0 (And.intro @lcl_174 (And.intro @lca_174 (And.intro @lcc_175 (And.intro @lcf_175_0 (And.intro @lcl_176 (And.intro @lca_176 (And.intro @lcc_177 (And.intro @lcf_177_0 (And.intro @lcl_178 (And.intro @lca_178 (And.intro @lcc_179 (And.intro @lcf_179_0 (And.intro @lcl_180 (And.intro @lca_180 (And.intro @lcc_181 (And.intro @lcf_181_0 (And.intro @lcl_182 (And.intro @lca_182 (And.intro @lcc_183 (And.intro @lcf_183_0 (And.intro @lcl_184 (And.intro @lca_184 (And.intro @lcc_185 (And.intro @lcf_185_0 (And.intro @lcl_186 (And.intro @lca_186 (And.intro @lcc_187 (And.intro @lcf_187_0 (And.intro @lcf_187_1 (And.intro @lcf_187_2 (And.intro @lcf_187_3 (And.intro @lcf_187_4 (And.intro @lcf_187_5 (And.intro @lcf_187_6 (And.intro @lcf_187_7 (@lcp_187_7)))))))))))))))))))))))))))))))))))))))))))))))))))))))))))
def layC_10 := And.intro @lcf_187_8 (And.intro @lcp_187_8 (And.intro @lcf_187_9 (And.intro @lcp_187_9 (And.intro @lcf_187_10 (And.intro @lcp_187_10 (And.intro @lcf_187_11 (And.intro @lcf_187_12 (And.intro @lcf_187_13 (And.intro @lcc_188 (And.intro @lcf_188_0 (And.intro @lcl_189 (And.intro @lca_189 (And.intro @lcc_190 (And.intro @lcf_190_0 (And.intro @lcl_191 (And.intro @lca_191 (And.intro @lcc_192 (And.intro @lcf_192_0 (And.intro @lcl_193 (And.intro @lca_193 (And.intro @lcc_194 (And.intro @lcf_194_0 (And.intro @lcl_195 (And.intro @lca_195 (And.intro @lcc_196 (And.intro @lcf_196_0 (And.intro @lcl_197 (And.intro @lca_197 (And.intro @lcc_198 (And.intro @lcf_198_0 (And.intro @lcl_199 (And.intro @lca_199 (And.intro @lcc_200 (And.intro @lcf_200_0 (And.intro @lcl_201 (And.intro @lca_201 (And.intro @lcc_202 (And.intro @lcf_202_0 (And.intro @lcl_203 (And.intro @lca_203 (And.intro @lcc_204 (And.intro @lcf_204_0 (And.intro @lcl_205 (And.intro @lca_205 (And.intro @lcc_206 (And.intro @lcf_206_0 (And.intro @lcl_207 (And.intro @lca_207 (And.intro @lca_208 (And.intro @lcc_209 (And.intro @lcf_209_0 (And.intro @lcf_209_1 (And.intro @lcf_209_2 (And.intro @lcf_209_3 (And.intro @lcf_209_4 (And.intro @lcf_209_5 (And.intro @lcf_209_6 (And.intro @lcf_209_7 (@lcp_209_7)))))))))))))))))))))))))))))))))))))))))))))))))))))))))))
def layC_11 := And.intro @lcf_209_8 (And.intro @lcp_209_8 (And.intro @lcf_209_9 (And.intro @lcp_209_9 (And.intro @lcf_209_10 (And.intro @lcp_209_10 (And.intro @lcf_209_11 (And.intro @lcf_209_12 (And.intro @lcf_209_13 (And.intro @lcc_210 (And.intro @lcf_210_0 (And.intro @lcl_211 (And.intro @lca_211 (And.intro @lcc_212 (And.intro @lcf_212_0 (And.intro @lcl_213 (And.intro @lca_213 (And.intro @lcc_214 (And.intro @lcf_214_0 (And.intro @lcl_215 (And.intro @lca_215 (And.intro @lcc_216 (And.intro @lcf_216_0 (And.intro @lcl_217 (And.intro @lca_217 (And.intro @lcc_218 (And.intro @lcf_218_0 (And.intro @lcl_219 (And.intro @lca_219 (And.intro @lcc_220 (And.intro @lcf_220_0 (And.intro @lcl_221 (And.intro @lca_221 (And.intro @lcc_222 (And.intro @lcf_222_0 (And.intro @lcl_223 (And.intro @lca_223 (And.intro @lcc_224 (And.intro @lcf_224_0 (And.intro @lcl_225 (And.intro @lca_225 (And.intro @lcc_226 (And.intro @lcf_226_0 (And.intro @lcl_227 (And.intro @lca_227 (And.intro @lcc_228 (And.intro @lcf_228_0 (And.intro @lcf_228_1 (And.intro @lcf_228_2 (And.intro @lcf_228_3 (And.intro @lcf_228_4 (And.intro @lcf_228_5 (And.intro @lcf_228_6 (And.intro @lcf_228_7 (And.intro @lcp_228_7 (And.intro @lcf_228_8 (And.intro @lcp_228_8 (And.intro @lcf_228_9 (And.intro @lcp_228_9 (@lcf_228_10)))))))))))))))))))))))))))))))))))))))))))))))))))))))))))
def layC_12 := And.intro @lcp_228_10 (And.intro @lcf_228_11 (And.intro @lcf_228_12 (And.intro @lcf_228_13 (And.intro @lcc_229 (And.intro @lcf_229_0 (And.intro @lcl_230 (And.intro @lca_230 (And.intro @lcc_231 (And.intro @lcf_231_0 (And.intro @lcl_232 (And.intro @lca_232 (And.intro @lcc_233 (And.intro @lcf_233_0 (And.intro @lcl_234 (And.intro @lca_234 (And.intro @lcc_235 (And.intro @lcf_235_0 (And.intro @lcl_236 (And.intro @lca_236 (And.intro @lcc_237 (And.intro @lcf_237_0 (And.intro @lcl_238 (And.intro @lca_238 (And.intro @lcc_239 (And.intro @lcf_239_0 (And.intro @lcl_240 (And.intro @lca_240 (And.intro @lcc_241 (And.intro @lcf_241_0 (And.intro @lcl_242 (And.intro @lca_242 (And.intro @lcc_243 (And.intro @lcf_243_0 (And.intro @lcl_244 (And.intro @lca_244 (And.intro @lcc_245 (And.intro @lcf_245_0 (And.intro @lcl_246 (And.intro @lca_246 (And.intro @lcc_247 (And.intro @lcf_247_0 (And.intro @lcf_247_1 (And.intro @lcf_247_2 (And.intro @lcf_247_3 (And.intro @lcf_247_4 (And.intro @lcf_247_5 (And.intro @lcf_247_6 (And.intro @lcf_247_7 (And.intro @lcp_247_7 (And.intro @lcf_247_8 (And.intro @lcp_247_8 (And.intro @lcf_247_9 (And.intro @lcp_247_9 (And.intro @lcf_247_10 (And.intro @lcp_247_10 (And.intro @lcf_247_11 (And.intro @lcf_247_12 (And.intro @lcf_247_13 (@lcc_248)))))))))))))))))))))))))))))))))))))))))))))))))))))))))))
def layC_13 := And.intro @lcf_248_0 (And.intro @lcl_249 (And.intro @lca_249 (And.intro @lcc_250 (And.intro @lcf_250_0 (And.intro @lcl_251 (And.intro @lca_251 (And.intro @lcc_252 (And.intro @lcf_252_0 (And.intro @lcl_253 (And.intro @lca_253 (And.intro @lcc_254 (And.intro @lcf_254_0 (And.intro @lcl_255 (And.intro @lca_255 (And.intro @lcc_256 (And.intro @lcf_256_0 (And.intro @lcl_257 (And.intro @lca_257 (And.intro @lcc_258 (And.intro @lcf_258_0 (And.intro @lcl_259 (And.intro @lca_259 (And.intro @lcc_260 (And.intro @lcf_260_0 (And.intro @lcl_261 (And.intro @lca_261 (And.intro @lcc_262 (And.intro @lcf_262_0 (And.intro @lcl_263 (And.intro @lca_263 (And.intro @lcc_264 (And.intro @lcf_264_0 (And.intro @lcl_265 (And.intro @lca_265 (And.intro @lcc_266 (And.intro @lcf_266_0 (And.intro @lcf_266_1 (And.intro @lcf_266_2 (And.intro @lcf_266_3 (And.intro @lcf_266_4 (And.intro @lcf_266_5 (And.intro @lcf_266_6 (And.intro @lcf_266_7 (And.intro @lcp_266_7 (And.intro @lcf_266_8 (And.intro @lcp_266_8 (And.intro @lcf_266_9 (And.intro @lcp_266_9 (And.intro @lcf_266_10 (And.intro @lcp_266_10 (And.intro @lcf_266_11 (And.intro @lcf_266_12 (And.intro @lcf_266_13 (And.intro @lcc_267 (And.intro @lcf_267_0 (And.intro @lcl_268 (And.intro @lca_268 (And.intro @lcc_269 (@lcf_269_0)))))))))))))))))))))))))))))))))))))))))))))))))))))))))))
def layC_14 := And.intro @lcl_270 (And.intro @lca_270 (And.intro @lcc_271 (And.intro @lcf_271_0 (And.intro @lcl_272 (And.intro @lca_272 (And.intro @lcc_273 (And.intro @lcf_273_0 (And.intro @lcl_274 (And.intro @lca_274 (And.intro @lcc_275 (And.intro @lcf_275_0 (And.intro @lcl_276 (And.intro @lca_276 (And.intro @lcc_277 (And.intro @lcf_277_0 (And.intro @lcl_278 (And.intro @lca_278 (And.intro @lcc_279 (And.intro @lcf_279_0 (And.intro @lcl_280 (And.intro @lca_280 (And.intro @lcc_281 (And.intro @lcf_281_0 (And.intro @lcl_282 (And.intro @lca_282 (And.intro @lcc_283 (And.intro @lcf_283_0 (And.intro @lcl_284 (And.intro @lca_284 (And.intro @lcc_285 (And.intro @lcf_285_0 (And.intro @lcf_285_1 (And.intro @lcf_285_2 (And.intro @lcc_286 (And.intro @lcf_286_0 (And.intro @lcl_287 (And.intro @lca_287 (And.intro @lcc_288 (And.intro @lcf_288_0 (And.intro @lcf_288_1 (And.intro @lcf_288_2 (And.intro @lcc_289 (And.intro @lcf_289_0 (And.intro @lcl_290 (And.intro @lca_290 (And.intro @lcc_291 (And.intro @lcf_291_0 (And.intro @lcl_292 (@lca_292)))))))))))))))))))))))))))))))))))))))))))))))))
def layC := And.intro @layC_0 (And.intro @layC_1 (And.intro @layC_2 (And.intro @layC_3 (And.intro @layC_4 (And.intro @layC_5 (And.intro @layC_6 (And.intro @layC_7 (And.intro @layC_8 (And.intro @layC_9 (And.intro @layC_10 (And.intro @layC_11 (And.intro @layC_12 (And.intro @layC_13 (@layC_14))))))))))))))
