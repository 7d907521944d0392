/-! led: the law's case -/
section ZLL0
variable {S : zS} {L : zL} {R : List zE} {Sm : zS} {Lm : zL}
theorem t168a {rd : Value} : zcall 168 [.ref 0] (zRm0 rd) Sm Lm = some (some (.int (Sm 0 0)), zRm0 rd, Sm, Lm) := by
  unfold zcall
  simp (config := {maxSteps := 1000000}) (disch := omega) only [zEL, zup_ne, zup_eq, zT0, zT1, zT2, if_true, if_false, layM0, tEM0, ze_168, s168_0, s168_1, s168_4]
theorem t168b {rd : Value} : zcall 168 [.ref 0] (zRm1 rd) Sm Lm = some (some (.int (Sm 0 0)), zRm1 rd, Sm, Lm) := by
  unfold zcall
  simp (config := {maxSteps := 1000000}) (disch := omega) only [zEL, zup_ne, zup_eq, zT0, zT1, zT2, if_true, if_false, layM1, tEM1, ze_168, s168_0, s168_1, s168_4]
theorem zpi_145 {x : Int32} (h : zRel S R Sm) : ∃ (w0 wv wM : Int32) (Sm' : zS), ((zcall 145 [.ref 0, .int x] zRc S L = some (some (.int wv), zRc, S, L) ∧ w0 = 0) ∨ ((∃ ls, ztoP 48 145 0 (zentry 145 [.ref 0, .int x]) [] zRc S L (ls, [], zRc, S, L)) ∧ w0 = 1)) ∧ zcall 289 [.ref 0, .int x] R Sm Lm = some (some (.int wM), R, Sm', Lm) ∧ zcall 168 [.ref 0] R Sm' Lm = some (some (.int w0), R, Sm', Lm) ∧ (w0 = 0 → wM = wv) ∧ zRel S R Sm' := by
  obtain ⟨rd, h⟩ := h
  rcases h with ⟨rfl, hrd, h⟩ | ⟨rfl, hrd, c, h⟩
  · obtain ⟨⟨ls, -, h1⟩, Sm', h2, h3, h4⟩ := u_145 (L := L) (Lm := Lm) (rd := rd) (i := x) h
    exact ⟨1, 0, 0, Sm', .inr ⟨⟨ls, h1⟩, rfl⟩, h2, by rw [t168a, h3], fun h => absurd h (by decide), rd, .inl ⟨rfl, hrd, h4⟩⟩
  · rcases m_145 (L := L) (Lm := Lm) (rd := rd) (i := x) h with ⟨w, h1, Sm', h2, h3, h4⟩ | ⟨⟨ls, -, h1⟩, Sm', h2, h3, h4⟩
    · exact ⟨0, w, w, Sm', .inl ⟨h1, rfl⟩, h2, by rw [t168b, h3], fun _ => rfl, rd, .inr ⟨rfl, hrd, c, h4⟩⟩
    · exact ⟨1, 0, 0, Sm', .inr ⟨⟨ls, h1⟩, rfl⟩, h2, by rw [t168b, h3], fun h => absurd h (by decide), rd, .inr ⟨rfl, hrd, c, h4⟩⟩
end ZLL0
section ZLL
variable {p : Program} {l : Launch} {e : Env} {s : State} {m : MethodId} {below : List Frame} {meth : Method} {c : Code} {Q : State → Prop} {D : va_G} {adV : Nat → Nat} {H : Heap} {locs : List Loc} {cells slots : Nat} {lsM : Array Slot} {b Ln i qC qM qO : Nat} {xs : Nat → Int32}
theorem zcase_42 (hfl : l.stackTraces = false) (hT : zTX (zAA s) s s.heap) (X : zLX p s m c b Ln xs) (I : zLI D adV s H locs qC qM qO) (hl : lv_has lsM 7 [(0, .ref b), (1, .ref qC), (2, .ref qM), (3, .ref qO), (4, .int (nI i))]) (hi : i + 6 ≤ Ln) (hLn : Ln ≤ 3072) (hcells : cells + 30 ≤ 601024) (hslots : slots + 1000 ≤ 7293033)
    (kk : ∀ (H1 : Heap) (locs1 : List Loc) (ls1 : Array Slot), lv_has ls1 7 [(0, .ref b), (1, .ref qC), (2, .ref qM), (3, .ref qO), (4, .int (nI i))] → zLI D adV s H1 locs1 qC qM qO → W p l e room_1 s m #[Value.ref b] below meth c H1 locs1 (cells + 30) (slots + 1000) Q (F0 m 1618 ls1 [])) :
    W p l e room_1 s m #[Value.ref b] below meth c H locs cells slots Q (F0 m 1524 lsM []) := by
  have hS := zLI_S I
  obtain ⟨hx, hb, -⟩ := id X
  obtain ⟨S, L, R, Sm, Lm, cO, f, J⟩ := zLJ_of I
  have rel : zRel S R Sm := by
    obtain ⟨_, _, _, _, _, _, -, -, -, -, -, -, -, -, -, -, rel, -⟩ := J
    exact rel
  obtain ⟨w0, wv, wM, Sm', hz, r1, r2, hw, rel'⟩ := zpi_145 (x := xs (i + 1)) (L := L) (Lm := Lm) rel
  refine lv_aload_n hx hb dL_law_1524 rfl (lv_at hl 1 rfl) ?_
  refine zlaw_arg (k := 1) X hS hl hi hLn (by decide) rfl dL_law_1525 dL_law_1526 dL_law_1528 dL_law_1529 dL_law_1530 ?_
  refine lv_aload_n hx hb dL_law_1531 rfl (lv_at hl 3 rfl) ?_
  refine zledgo hfl hT X J hz hl.1 (by omega) (by omega) (fun H1 locs1 f1 hf1 J1 => ?_)
  refine W.widen (k := cells + 30) (n := slots + 1000) (by omega) (by omega) ?_
  refine lv_istore (i := 5) hx hb dL_law_1535 hl (by decide) rfl (fun ls1 hl1 => ?_)
  have hl1' : lv_has ls1 7 [(0, .ref b), (1, .ref qC), (2, .ref qM), (3, .ref qO), (4, .int (nI i))] := lv_sub hl1 [1, 2, 3, 4, 5] rfl
  have hS1 : va_S (zAA s) s.heap H1 locs1 := zLI_S (zLJ_I J1)
  refine lv_aload_n hx hb dL_law_1537 rfl (lv_at hl1' 2 rfl) ?_
  refine zlaw_arg (k := 1) X hS1 hl1' hi hLn (by decide) rfl dL_law_1538 dL_law_1539 dL_law_1541 dL_law_1542 dL_law_1543 ?_
  refine zone (tM := 289) (ixM := 200) (pM := 1544) (as := [.int (xs (i + 1))]) (rest := []) X J1 r1 rel' (zints_ok rfl) (by decide +kernel : zlchk 289 1 = true) (by decide +kernel) wl_200 hl1.1 (Nat.zero_le _) dL_law_1544 hcells hslots (fun H2 locs2 J2 => ?_)
  refine lv_istore (i := 6) hx hb dL_law_1547 hl1 (by decide) rfl (fun ls2 hl2 => ?_)
  have hl2' : lv_has ls2 7 [(0, .ref b), (1, .ref qC), (2, .ref qM), (3, .ref qO), (4, .int (nI i))] := lv_sub hl2 [2, 3, 4, 5, 6] rfl
  refine lv_aload_n hx hb dL_law_1549 rfl (lv_at hl2' 2 rfl) ?_
  refine zone (tM := 168) (ixM := 201) (pM := 1550) (as := []) (rest := []) X J2 r2 rel' (zints_ok rfl) (by decide +kernel : zlchk 168 0 = true) (by decide +kernel) wl_201 hl2.1 (Nat.zero_le _) dL_law_1550 hcells hslots (fun H3 locs3 J3 => ?_)
  have fin : W p l e room_1 s m #[Value.ref b] below meth c H3 locs3 (cells + 30) (slots + 1000) Q (F0 m 1577 ls2 []) := lv_goto (tgt := 1618) hx hb dL_law_1577 (by decide) (kk H3 locs3 ls2 hl2' (zLJ_I J3))
  refine lv_iload hx hb dL_law_1553 (lv_at hl2 1 rfl) ?_
  refine lv_icmp_eq (tgt := 1560) hx hb dL_law_1555 (by decide) (fun _ => ?_) (fun h => absurd rfl h)
  refine lv_iload hx hb dL_law_1560 (lv_at hl2 1 rfl) ?_
  refine lv_if_ne (tgt := 1577) hx hb dL_law_1562 (by decide) (fun _ => fin) (fun h0 => ?_)
  refine lv_aload_n hx hb dL_law_1565 rfl (lv_at hl2' 3 rfl) ?_
  refine lv_iconst (v := 0) hx hb dL_law_1566 rfl ?_
  obtain ⟨_, _, _, _, _, _, -, -, o1, -, o3, -⟩ := J3
  refine va_lald hx hb o3 o1 0 0 rfl rfl (show ¬ ((0 : Int32) < 0 ∨ 1 ≤ (0 : Int32).toNatClampNeg) from by decide) dL_law_1567 ?_
  refine lv_iload hx hb dL_law_1568 (lv_at hl2 0 rfl) ?_
  refine lv_i2l (v := wM.toInt64) hx hb dL_law_1570 rfl ?_
  refine W.lcmp hx hb dL_law_1571 ?_
  refine lv_if_eq (tgt := 1577) hx hb dL_law_1572 (by decide) (fun _ => fin) (fun h => absurd ?_ h)
  have e1 : f1 (0 : Int32).toNatClampNeg = wM.toInt64 := by
    rw [hw h0]
    exact hf1 h0
  rw [e1]
  exact zlg_self _
end ZLL
