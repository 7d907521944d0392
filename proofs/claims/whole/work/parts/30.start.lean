/-! THE LAW: from its entry -/
theorem zflags {l : Launch} (h : l.flags = flags0) : l.stackTraces = false := by
  unfold Launch.stackTraces
  rw [h]
  decide +kernel
/-- YOUR PART: from the entry, for every script of at most 3072 ints, the law comes to its end with true ('hflags': the launch's flags, for a law that throws: no stack traces) -/
theorem whole_start {p : Program} {e : Env} {s : State} {m : MethodId} {below : List Frame} {meth : Method} {c : Code} (l : Launch) (hflags : l.flags = flags0) {b L : Nat} {xs : Nat → Int32} (hL : L ≤ 3072) (C0 : lw_At p s m meth c b L xs) : W p l e room_1 s m #[Value.ref b] below meth c s.heap [] 0 0 (lw_Z below #[Value.ref b] s) (entryFrame m ([Value.ref b] : List Value).toArray 7) := by
  obtain ⟨hx, hb, hr, hml, hown, hts0, hX, hbl, hlocks, hgv⟩ := C0
  have hts : ∀ w ∈ zUW, w.before #[Value.ref b] s = true := fun w hw => hts0 w (List.mem_filter.mp hw).1
  have hfl := zflags hflags
  have hN := zstart_n hts0
  obtain ⟨D, hK⟩ := zstart_k hts
  obtain ⟨⟨adT, adV, hXT⟩, hT⟩ := zstart_x hgv hts0
  have X : zLX p s m c b L xs := ⟨hx, hb, hml, hown, hts, hN, hX, hbl⟩
  obtain ⟨S, Lc, rC, iC⟩ := zini_C
  obtain ⟨Sm, Lm, rM, i1, i2, i3, i4⟩ := zini_M
  have hTU := zini_TU iC i1 i2 i3 i4
  have zC : zRc.length = 293 := by decide +kernel
  have zM : (zRm0 .null).length = 11 := rfl
  have zs := zsz_C
  have d11 : (zdefs 11).length ≤ 100 := by decide +kernel
  have d13 : (zdefs 13).length ≤ 100 := by decide +kernel
  have hA : ∀ q, s.heap.size ≤ q → zAA s q := fun _ h => h
  rw [lg_entry_eq]
  have hl9 := lv_entry [Value.ref b] (n := 7) (show 1 ≤ 7 by decide)
  generalize ((lg_sl [Value.ref b] ++ List.replicate (7 - (lg_sl [Value.ref b]).length) Slot.unset).toArray) = lsM at hl9
  have hl9 : lv_has lsM 7 [(0, .ref b)] := hl9
  refine zmake (t := 102) (ci := 11) (ixN := 8) (ixC := 15) (pc := 0) (nc := 300) (ns := 9200) (ws := []) X hK hXT zmk_102 (by decide) (zlnk_in _ (by simp [zlnk])) wl_15 rC (fun k q hk => (nomatch hk)) ⟨fun i j p q hi => (nomatch hi), fun k q hk => (nomatch hk)⟩ va_S.rf hl9.1 (Nat.zero_le _) dL_law_0 dL_law_3 dL_law_4 (by omega) (by omega) (by decide) (by decide) (by decide) (fun q1 H1 locs1 ad1 tys1 ws1 P1 a1 _ _ hS1 => ?_)
  refine lv_astore_n (i := 1) hx hb dL_law_7 rfl hl9 (by decide) rfl (fun ls1 hl1 => ?_)
  refine zmake (t := 167) (ci := 13) (ixN := 16) (ixC := 18) (pc := 8) (nc := 300) (ns := 9200) (ws := ws1) X hK hXT zmk_167 (by decide) (zlnk_in _ (by simp [zlnk])) wl_18 rM P1.2.1 P1.2.2.2.1 hS1 hl1.1 (Nat.zero_le _) dL_law_8 dL_law_11 dL_law_12 (by omega) (by omega) (by decide) (by decide) (by decide) (fun q2 H2 locs2 ad2 tys2 ws2 P2 a2 pw j12 hS2 => ?_)
  refine lv_astore_n (i := 2) hx hb dL_law_15 rfl hl1 (by decide) rfl (fun ls2 hl2 => ?_)
  refine lv_iconst (v := 1) hx hb dL_law_16 rfl ?_
  refine va_newa (atype := .long) (ty := .long) (N' := 1) (a0 := (1, .inr (.inl (fun _ => 0)))) hx hb (hts _ zJ1) rfl hK (zP_app pw P2.2.1) (zD_app P1.2.2.2.1 P2.2.2.2.1 j12) hS2 hA (fun cA => rfl) (by decide) (by decide) (by decide) (by decide) (by decide) dL_law_17 (fun qO cO H3 gk g1 g2 g3 => ?_)
  refine lv_astore_n (i := 3) hx hb dL_law_19 rfl hl2 (by decide) rfl (fun ls3 hl3 => ?_)
  refine lv_iconst (v := 0) hx hb dL_law_20 rfl ?_
  refine lv_istore (i := 4) hx hb dL_law_21 hl3 (by decide) rfl (fun ls4 hl4 => ?_)
  have j3 := zD_j g2
  have hqO : s.heap.size ≤ qO := (zD_r g2).2 0 _ rfl
  have I : zLI D adV s H3 locs2 q1 q2 qO := ⟨S, Lc, ad1, tys1, ws1, zRm0 .null, Sm, Lm, ad2, tys2, ws2, cO, fun _ => 0, ⟨P1.1, zP_l (zP_l g1), P1.2.2.1, P1.2.2.2.1, P1.2.2.2.2⟩, ⟨P2.1, zP_r (zP_l g1), P2.2.2.1, P2.2.2.2.1, P2.2.2.2.2⟩, zP_r g1, hqO, gk, j12, fun i j x y hx hy => j3 i j x y (zapp_l hx) hy, fun i j x y hx hy => j3 _ j x y (zapp_r hx) hy, a1, a2, ⟨.null, .inl ⟨rfl, ⟨.inl rfl, fun k hk => by cases hk⟩, hTU⟩⟩, g3⟩
  refine W.widen (k := 1000 + 30 * 0) (n := 20000 + 1000 * 0) (by decide) (by decide) ?_
  exact zloop hfl hT X hr hlocks hL (L + 1) 0 H3 locs2 ls4 (by omega) (by omega) I (lv_sub hl4 [4, 3, 2, 1, 0] rfl)
