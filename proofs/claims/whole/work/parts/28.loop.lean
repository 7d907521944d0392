/-! THE LAW: its loop -/
section ZLM
theorem zgap {n j : Nat} (hn : n ≤ 3072) (hj : j ≤ 3072) (h : ¬ (Int32.ofNat n - 6 < nI j)) : j + 6 ≤ n := by
  have e1 : (Int32.ofNat n).toInt = n := Int32.toInt_ofNat_of_lt (by omega)
  have e2 : (nI j).toInt = j := Int32.toInt_ofNat_of_lt (by omega)
  have e3 : (Int32.ofNat n - 6).toInt = (n : Int) - 6 := by
    rw [Int32.toInt_sub, e1, show (6 : Int32).toInt = 6 by decide]
    exact Int.bmod_eq_of_le (by omega) (by omega)
  rw [Int32.lt_iff_toInt_lt, e2, e3] at h
  omega
variable {p : Program} {l : Launch} {e : Env} {s : State} {m : MethodId} {below : List Frame} {meth : Method} {c : Code} {Q : State → Prop} {D : va_G} {adV : Nat → Nat} {H : Heap} {locs : List Loc} {cells slots : Nat} {lsM : Array Slot} {b Ln i qC qM qO : Nat} {xs : Nat → Int32}
theorem zjump {x : Int32} (hfl : l.stackTraces = false) (hT : zTX (zAA s) s s.heap) (X : zLX p s m c b Ln xs) (I : zLI D adV s H locs qC qM qO) (hl : lv_has lsM 7 [(0, .ref b), (1, .ref qC), (2, .ref qM), (3, .ref qO), (4, .int (nI i))]) (hi : i + 6 ≤ Ln) (hLn : Ln ≤ 3072) (hcells : cells + 30 ≤ 601024) (hslots : slots + 1000 ≤ 7293033)
    (next : ∀ (H1 : Heap) (locs1 : List Loc) (ls1 : Array Slot), lv_has ls1 7 [(0, .ref b), (1, .ref qC), (2, .ref qM), (3, .ref qO), (4, .int (nI i))] → zLI D adV s H1 locs1 qC qM qO → W p l e room_1 s m #[Value.ref b] below meth c H1 locs1 (cells + 30) (slots + 1000) Q (F0 m 1618 ls1 []))
    (h1 : ¬ x.toInt < 0) (h2 : ¬ 44 < x.toInt) : ∀ t : Nat, x.toInt = (t : Int) → t < 45 → W p l e room_1 s m #[Value.ref b] below meth c H locs cells slots Q (F0 m 40 lsM [.int x]) := by
  obtain ⟨hx, hb, -⟩ := id X
  intro t e ht
  match t, e, ht with
  | 0, e, _ => exact lv_tableIn (off := 196) (tgt := 236) hx hb dL_law_40 h1 h2 (by rw [e]; rfl) (by decide) (zcase_0 X I hl hi hLn hcells hslots (fun H1 locs1 I1 => next H1 locs1 lsM hl I1))
  | 1, e, _ => exact lv_tableIn (off := 269) (tgt := 309) hx hb dL_law_40 h1 h2 (by rw [e]; rfl) (by decide) (zcase_1 X I hl hi hLn hcells hslots (fun H1 locs1 I1 => next H1 locs1 lsM hl I1))
  | 2, e, _ => exact lv_tableIn (off := 294) (tgt := 334) hx hb dL_law_40 h1 h2 (by rw [e]; rfl) (by decide) (zcase_2 X I hl hi hLn hcells hslots (fun H1 locs1 I1 => next H1 locs1 lsM hl I1))
  | 3, e, _ => exact lv_tableIn (off := 307) (tgt := 347) hx hb dL_law_40 h1 h2 (by rw [e]; rfl) (by decide) (zcase_3 X I hl hi hLn hcells hslots (fun H1 locs1 I1 => next H1 locs1 lsM hl I1))
  | 4, e, _ => exact lv_tableIn (off := 320) (tgt := 360) hx hb dL_law_40 h1 h2 (by rw [e]; rfl) (by decide) (zcase_4 X I hl hi hLn hcells hslots (fun H1 locs1 I1 => next H1 locs1 lsM hl I1))
  | 5, e, _ => exact lv_tableIn (off := 345) (tgt := 385) hx hb dL_law_40 h1 h2 (by rw [e]; rfl) (by decide) (zcase_5 X I hl hi hLn hcells hslots (fun H1 locs1 I1 => next H1 locs1 lsM hl I1))
  | 6, e, _ => exact lv_tableIn (off := 370) (tgt := 410) hx hb dL_law_40 h1 h2 (by rw [e]; rfl) (by decide) (zcase_6 X I hl hi hLn hcells hslots (fun H1 locs1 I1 => next H1 locs1 lsM hl I1))
  | 7, e, _ => exact lv_tableIn (off := 383) (tgt := 423) hx hb dL_law_40 h1 h2 (by rw [e]; rfl) (by decide) (zcase_7 X I hl hi hLn hcells hslots (fun H1 locs1 I1 => next H1 locs1 lsM hl I1))
  | 8, e, _ => exact lv_tableIn (off := 396) (tgt := 436) hx hb dL_law_40 h1 h2 (by rw [e]; rfl) (by decide) (zcase_8 X I hl hi hLn hcells hslots (fun H1 locs1 I1 => next H1 locs1 lsM hl I1))
  | 9, e, _ => exact lv_tableIn (off := 409) (tgt := 449) hx hb dL_law_40 h1 h2 (by rw [e]; rfl) (by decide) (zcase_9 X I hl hi hLn hcells hslots (fun H1 locs1 I1 => next H1 locs1 lsM hl I1))
  | 10, e, _ => exact lv_tableIn (off := 422) (tgt := 462) hx hb dL_law_40 h1 h2 (by rw [e]; rfl) (by decide) (zcase_10 X I hl hi hLn hcells hslots (fun H1 locs1 I1 => next H1 locs1 lsM hl I1))
  | 11, e, _ => exact lv_tableIn (off := 459) (tgt := 499) hx hb dL_law_40 h1 h2 (by rw [e]; rfl) (by decide) (zcase_11 X I hl hi hLn hcells hslots (fun H1 locs1 I1 => next H1 locs1 lsM hl I1))
  | 12, e, _ => exact lv_tableIn (off := 484) (tgt := 524) hx hb dL_law_40 h1 h2 (by rw [e]; rfl) (by decide) (zcase_12 X I hl hi hLn hcells hslots (fun H1 locs1 I1 => next H1 locs1 lsM hl I1))
  | 13, e, _ => exact lv_tableIn (off := 509) (tgt := 549) hx hb dL_law_40 h1 h2 (by rw [e]; rfl) (by decide) (zcase_13 X I hl hi hLn hcells hslots (fun H1 locs1 I1 => next H1 locs1 lsM hl I1))
  | 14, e, _ => exact lv_tableIn (off := 534) (tgt := 574) hx hb dL_law_40 h1 h2 (by rw [e]; rfl) (by decide) (zcase_14 X I hl hi hLn hcells hslots (fun H1 locs1 I1 => next H1 locs1 lsM hl I1))
  | 15, e, _ => exact lv_tableIn (off := 559) (tgt := 599) hx hb dL_law_40 h1 h2 (by rw [e]; rfl) (by decide) (zcase_15 X I hl hi hLn hcells hslots (fun H1 locs1 I1 => next H1 locs1 lsM hl I1))
  | 16, e, _ => exact lv_tableIn (off := 572) (tgt := 612) hx hb dL_law_40 h1 h2 (by rw [e]; rfl) (by decide) (zcase_16 X I hl hi hLn hcells hslots (fun H1 locs1 I1 => next H1 locs1 lsM hl I1))
  | 17, e, _ => exact lv_tableIn (off := 585) (tgt := 625) hx hb dL_law_40 h1 h2 (by rw [e]; rfl) (by decide) (zcase_17 X I hl hi hLn hcells hslots (fun H1 locs1 I1 => next H1 locs1 lsM hl I1))
  | 18, e, _ => exact lv_tableIn (off := 610) (tgt := 650) hx hb dL_law_40 h1 h2 (by rw [e]; rfl) (by decide) (zcase_18 X I hl hi hLn hcells hslots (fun H1 locs1 I1 => next H1 locs1 lsM hl I1))
  | 19, e, _ => exact lv_tableIn (off := 647) (tgt := 687) hx hb dL_law_40 h1 h2 (by rw [e]; rfl) (by decide) (zcase_19 X I hl hi hLn hcells hslots (fun H1 locs1 I1 => next H1 locs1 lsM hl I1))
  | 20, e, _ => exact lv_tableIn (off := 672) (tgt := 712) hx hb dL_law_40 h1 h2 (by rw [e]; rfl) (by decide) (zcase_20 X I hl hi hLn hcells hslots (fun H1 locs1 I1 => next H1 locs1 lsM hl I1))
  | 21, e, _ => exact lv_tableIn (off := 737) (tgt := 777) hx hb dL_law_40 h1 h2 (by rw [e]; rfl) (by decide) (zcase_21 X I hl hi hLn hcells hslots (fun H1 locs1 I1 => next H1 locs1 lsM hl I1))
  | 22, e, _ => exact lv_tableIn (off := 774) (tgt := 814) hx hb dL_law_40 h1 h2 (by rw [e]; rfl) (by decide) (zcase_22 X I hl hi hLn hcells hslots (fun H1 locs1 I1 => next H1 locs1 lsM hl I1))
  | 23, e, _ => exact lv_tableIn (off := 839) (tgt := 879) hx hb dL_law_40 h1 h2 (by rw [e]; rfl) (by decide) (zcase_23 X I hl hi hLn hcells hslots (fun H1 locs1 I1 => next H1 locs1 lsM hl I1))
  | 24, e, _ => exact lv_tableIn (off := 888) (tgt := 928) hx hb dL_law_40 h1 h2 (by rw [e]; rfl) (by decide) (zcase_24 X I hl hi hLn hcells hslots (fun H1 locs1 I1 => next H1 locs1 lsM hl I1))
  | 25, e, _ => exact lv_tableIn (off := 937) (tgt := 977) hx hb dL_law_40 h1 h2 (by rw [e]; rfl) (by decide) (zcase_25 X I hl hi hLn hcells hslots (fun H1 locs1 I1 => next H1 locs1 lsM hl I1))
  | 26, e, _ => exact lv_tableIn (off := 987) (tgt := 1027) hx hb dL_law_40 h1 h2 (by rw [e]; rfl) (by decide) (zcase_26 X I hl hi hLn hcells hslots (fun H1 locs1 I1 => next H1 locs1 lsM hl I1))
  | 27, e, _ => exact lv_tableIn (off := 1036) (tgt := 1076) hx hb dL_law_40 h1 h2 (by rw [e]; rfl) (by decide) (zcase_27 X I hl hi hLn hcells hslots (fun H1 locs1 I1 => next H1 locs1 lsM hl I1))
  | 28, e, _ => exact lv_tableIn (off := 1061) (tgt := 1101) hx hb dL_law_40 h1 h2 (by rw [e]; rfl) (by decide) (zcase_28 X I hl hi hLn hcells hslots (fun H1 locs1 I1 => next H1 locs1 lsM hl I1))
  | 29, e, _ => exact lv_tableIn (off := 1098) (tgt := 1138) hx hb dL_law_40 h1 h2 (by rw [e]; rfl) (by decide) (zcase_29 X I hl hi hLn hcells hslots (fun H1 locs1 I1 => next H1 locs1 lsM hl I1))
  | 30, e, _ => exact lv_tableIn (off := 1135) (tgt := 1175) hx hb dL_law_40 h1 h2 (by rw [e]; rfl) (by decide) (zcase_30 X I hl hi hLn hcells hslots (fun H1 locs1 I1 => next H1 locs1 lsM hl I1))
  | 31, e, _ => exact lv_tableIn (off := 1172) (tgt := 1212) hx hb dL_law_40 h1 h2 (by rw [e]; rfl) (by decide) (zcase_31 X I hl hi hLn hcells hslots (fun H1 locs1 I1 => next H1 locs1 lsM hl I1))
  | 32, e, _ => exact lv_tableIn (off := 1209) (tgt := 1249) hx hb dL_law_40 h1 h2 (by rw [e]; rfl) (by decide) (zcase_32 X I hl hi hLn hcells hslots (fun H1 locs1 I1 => next H1 locs1 lsM hl I1))
  | 33, e, _ => exact lv_tableIn (off := 1246) (tgt := 1286) hx hb dL_law_40 h1 h2 (by rw [e]; rfl) (by decide) (zcase_33 X I hl hi hLn hcells hslots (fun H1 locs1 I1 => next H1 locs1 lsM hl I1))
  | 34, e, _ => exact lv_tableIn (off := 1283) (tgt := 1323) hx hb dL_law_40 h1 h2 (by rw [e]; rfl) (by decide) (zcase_34 X I hl hi hLn hcells hslots (fun H1 locs1 I1 => next H1 locs1 lsM hl I1))
  | 35, e, _ => exact lv_tableIn (off := 1320) (tgt := 1360) hx hb dL_law_40 h1 h2 (by rw [e]; rfl) (by decide) (zcase_35 X I hl hi hLn hcells hslots (fun H1 locs1 I1 => next H1 locs1 lsM hl I1))
  | 36, e, _ => exact lv_tableIn (off := 1345) (tgt := 1385) hx hb dL_law_40 h1 h2 (by rw [e]; rfl) (by decide) (zcase_36 X I hl hi hLn hcells hslots (fun H1 locs1 I1 => next H1 locs1 lsM hl I1))
  | 37, e, _ => exact lv_tableIn (off := 1370) (tgt := 1410) hx hb dL_law_40 h1 h2 (by rw [e]; rfl) (by decide) (zcase_37 X I hl hi hLn hcells hslots (fun H1 locs1 I1 => next H1 locs1 lsM hl I1))
  | 38, e, _ => exact lv_tableIn (off := 1407) (tgt := 1447) hx hb dL_law_40 h1 h2 (by rw [e]; rfl) (by decide) (zcase_38 X I hl hi hLn hcells hslots (fun H1 locs1 I1 => next H1 locs1 lsM hl I1))
  | 39, e, _ => exact lv_tableIn (off := 1432) (tgt := 1472) hx hb dL_law_40 h1 h2 (by rw [e]; rfl) (by decide) (zcase_39 X I hl hi hLn hcells hslots (fun H1 locs1 I1 => next H1 locs1 lsM hl I1))
  | 40, e, _ => exact lv_tableIn (off := 1458) (tgt := 1498) hx hb dL_law_40 h1 h2 (by rw [e]; rfl) (by decide) (zcase_40 X I hl hi hLn hcells hslots (fun H1 locs1 I1 => next H1 locs1 lsM hl I1))
  | 41, e, _ => exact lv_tableIn (off := 1471) (tgt := 1511) hx hb dL_law_40 h1 h2 (by rw [e]; rfl) (by decide) (zcase_41 X I hl hi hLn hcells hslots (fun H1 locs1 I1 => next H1 locs1 lsM hl I1))
  | 42, e, _ => exact lv_tableIn (off := 1484) (tgt := 1524) hx hb dL_law_40 h1 h2 (by rw [e]; rfl) (by decide) (zcase_42 hfl hT X I hl hi hLn hcells hslots next)
  | 43, e, _ => exact lv_tableIn (off := 1540) (tgt := 1580) hx hb dL_law_40 h1 h2 (by rw [e]; rfl) (by decide) (zcase_43 X I hl hi hLn hcells hslots (fun H1 locs1 I1 => next H1 locs1 lsM hl I1))
  | 44, e, _ => exact lv_tableIn (off := 1565) (tgt := 1605) hx hb dL_law_40 h1 h2 (by rw [e]; rfl) (by decide) (zcase_44 X I hl hi hLn hcells hslots (fun H1 locs1 I1 => next H1 locs1 lsM hl I1))
  | n + 45, _, ht => omega
theorem zloop (hfl : l.stackTraces = false) (hT : zTX (zAA s) s s.heap) (X : zLX p s m c b Ln xs) (hr : meth.sig.returnType = ret) (hlocks : meth.locks = false) (hLn : Ln ≤ 3072) : ∀ (n k : Nat) (H : Heap) (locs : List Loc) (lsM : Array Slot), Ln < 6 * k + n → 6 * k ≤ Ln → zLI D adV s H locs qC qM qO → lv_has lsM 7 [(0, .ref b), (1, .ref qC), (2, .ref qM), (3, .ref qO), (4, .int (nI (6 * k)))] →
    W p l e room_1 s m #[Value.ref b] below meth c H locs (1000 + 30 * k) (20000 + 1000 * k) (lw_Z below #[Value.ref b] s) (F0 m 23 lsM []) := by
  obtain ⟨hx, hb, -, -, -, -, hX, hbl⟩ := id X
  intro n
  induction n with
  | zero =>
    intro k H locs lsM h1 h2
    omega
  | succ n ih =>
    intro k H locs lsM h1 h2 I hl
    have hS := zLI_S I
    refine lv_iload hx hb dL_law_23 (lv_at hl 4 rfl) ?_
    refine lv_aload_n hx hb dL_law_25 rfl (lv_at hl 0 rfl) ?_
    refine va_slen hx hb hX hbl (Nat.not_le.mpr hbl) hS dL_law_26 ?_
    refine lv_bipush (v := 6) hx hb dL_law_27 (by decide) ?_
    refine lv_isub hx hb dL_law_29 ?_
    refine lv_icmp_gt (tgt := 1624) hx hb dL_law_30 (by decide) (fun _ => ?_) (fun hle => ?_)
    · refine lv_iconst (v := 1) hx hb dL_law_1624 rfl ?_
      refine va_forget (fun q hq => hS.2.2 q hq) ?_
      refine W.widen (k := 601024) (n := 7293033) (by omega) (by omega) ?_
      exact lw_ret hx hb hr hlocks dL_law_1625
    · have hi : 6 * k + 6 ≤ Ln := zgap hLn (by omega) hle
      have next : ∀ (H1 : Heap) (locs1 : List Loc) (ls1 : Array Slot), lv_has ls1 7 [(0, .ref b), (1, .ref qC), (2, .ref qM), (3, .ref qO), (4, .int (nI (6 * k)))] → zLI D adV s H1 locs1 qC qM qO → W p l e room_1 s m #[Value.ref b] below meth c H1 locs1 (1000 + 30 * k + 30) (20000 + 1000 * k + 1000) (lw_Z below #[Value.ref b] s) (F0 m 1618 ls1 []) := fun H1 locs1 ls1 hl1 I1 => by
        refine lv_iinc (k := 4) (v := nI (6 * (k + 1))) hx hb dL_law_1618 hl1 rfl (show nI (6 * k) + Int32.ofInt 6 = nI (6 * (k + 1)) from (congrArg (fun z => nI (6 * k) + z) (by decide : Int32.ofInt 6 = nI 6)).trans (zadd_nI.trans (congrArg nI (by omega)))) (by decide) rfl (fun ls2 hl2 => ?_)
        refine lv_goto (tgt := 23) hx hb dL_law_1621 (by decide) ?_
        have := ih (k + 1) H1 locs1 ls2 (by omega) (by omega) I1 (lv_sub hl2 [1, 2, 3, 4, 0] rfl)
        rw [show 1000 + 30 * (k + 1) = 1000 + 30 * k + 30 by omega, show 20000 + 1000 * (k + 1) = 20000 + 1000 * k + 1000 by omega] at this
        exact this
      refine lv_aload_n hx hb dL_law_33 rfl (lv_at hl 0 rfl) ?_
      refine lv_iload hx hb dL_law_34 (lv_at hl 4 rfl) ?_
      refine va_sld hx hb hX hbl (Nat.not_le.mpr hbl) hS (vp_in_nI (by omega) (by omega)) dL_law_36 ?_
      refine lv_bipush (v := 63) hx hb dL_law_37 (by decide) ?_
      refine lv_iand hx hb dL_law_39 ?_
      generalize (xs (nI (6 * k)).toNatClampNeg &&& 63) = x
      by_cases g1 : x.toInt < 0
      · exact lv_tableOut (tgt := 1618) hx hb dL_law_40 (Or.inl g1) (by decide) (W.widen (Nat.le_add_right _ 30) (Nat.le_add_right _ 1000) (next H locs lsM hl I))
      · by_cases g2 : 44 < x.toInt
        · exact lv_tableOut (tgt := 1618) hx hb dL_law_40 (Or.inr g2) (by decide) (W.widen (Nat.le_add_right _ 30) (Nat.le_add_right _ 1000) (next H locs lsM hl I))
        · exact zjump hfl hT X I hl hi hLn (by omega) (by omega) next g1 g2 x.toInt.toNat (by omega) (by omega)
end ZLM
