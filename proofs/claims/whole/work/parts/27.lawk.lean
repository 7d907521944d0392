/-! led: in the law -/
section ZLK
variable {p : Program} {l : Launch} {e : Env} {s : State} {m : MethodId} {below : List Frame} {meth : Method} {c : Code} {Q : State → Prop} {D : va_G} {adV : Nat → Nat} {H : Heap} {locs : List Loc} {cells slots : Nat} {lsM : Array Slot} {b Ln i qC qM qO : Nat} {xs : Nat → Int32} {S : zS} {L : zL} {R : List zE} {Sm : zS} {Lm : zL} {cO : ClassId} {f : Nat → Int64}
def zLJ (D : va_G) (adV : Nat → Nat) (s : State) (H : Heap) (locs : List Loc) (qC qM qO : Nat) (S : zS) (L : zL) (R : List zE) (Sm : zS) (Lm : zL) (cO : ClassId) (f : Nat → Int64) : Prop := ∃ (adC : Nat → Nat) (tysC : List (ClassId × FieldType)) (wsC : va_W) (adM : Nat → Nat) (tysM : List (ClassId × FieldType)) (wsM : va_W),
  zPic D adV (zAA s) s H zRc S L adC tysC wsC ∧ zPic D adV (zAA s) s H R Sm Lm adM tysM wsM ∧ va_P D vwCl (zlob qO cO f) H ∧ s.heap.size ≤ qO ∧ va_K D vwCl [(cO, .long)] s ∧ zDj wsC wsM ∧ zDj wsC (zlob qO cO f) ∧ zDj wsM (zlob qO cO f) ∧ adC 0 = qC ∧ adM 0 = qM ∧ zRel S R Sm ∧ va_S (zAA s) s.heap H locs
theorem zLJ_of (I : zLI D adV s H locs qC qM qO) : ∃ S L R Sm Lm cO f, zLJ D adV s H locs qC qM qO S L R Sm Lm cO f := by
  obtain ⟨S, L, adC, tysC, wsC, R, Sm, Lm, adM, tysM, wsM, cO, f, h⟩ := I
  exact ⟨S, L, R, Sm, Lm, cO, f, adC, tysC, wsC, adM, tysM, wsM, h⟩
theorem zLJ_I (I : zLJ D adV s H locs qC qM qO S L R Sm Lm cO f) : zLI D adV s H locs qC qM qO := by
  obtain ⟨adC, tysC, wsC, adM, tysM, wsM, h⟩ := I
  exact ⟨S, L, adC, tysC, wsC, R, Sm, Lm, adM, tysM, wsM, cO, f, h⟩
/-- a method of the reference alone, its world of the same size -/
theorem zone {tM ixM pM : Nat} {as rest : List Value} {w : Int32} {Sm' : zS} (X : zLX p s m c b Ln xs) (I : zLJ D adV s H locs qC qM qO S L R Sm Lm cO f) (rM : zcall tM (.ref 0 :: as) R Sm Lm = some (some (.int w), R, Sm', Lm)) (rel' : zRel S R Sm')
    (has : ∀ v ∈ as, ∃ x, v = .int x) (ckM : zlchk tM as.length = true) (oM : zown tM = 13) (wlM : Cond.methodLink R_law ixM (zy tM) ∈ zUW) (hsz : lsM.size = 7) (hcat : (rest.map fun v => v.category).sum ≤ 8)
    (dM : decode code pM = .ok (.invokevirtual ixM, 3)) (hcells : cells ≤ 601024) (hslots : slots ≤ 7293033)
    (kk : ∀ (H1 : Heap) (locs1 : List Loc), zLJ D adV s H1 locs1 qC qM qO S L R Sm' Lm cO f → W p l e room_1 s m #[Value.ref b] below meth c H1 locs1 cells slots Q (F0 m (pM + 3) lsM (.int w :: rest))) :
    W p l e room_1 s m #[Value.ref b] below meth c H locs cells slots Q (F0 m pM lsM (as.reverse ++ .ref qM :: rest)) := by
  obtain ⟨hx, hb, hml, hown, hts, hN, hX, hbl⟩ := X
  obtain ⟨adC, tysC, wsC, adM, tysM, wsM, ⟨c1, c2, c3, c4, c5⟩, ⟨m1, m2, m3, m4, m5⟩, o1, o2, o3, j1, j2, j3, rfl, rfl, rel, hS⟩ := I
  have hA : ∀ q, s.heap.size ≤ q → zAA s q := fun _ h => h
  obtain ⟨q2, n1, n2, n3, n4, n5, n6, n7, n8, n9, n10⟩ := zlchk_ok ckM
  rw [oM] at n3
  obtain ⟨rok, ⟨fsM, hR0⟩, rl1, rl2⟩ := zRel_ok rel
  have hze : (zargs (.ref 0 :: as)).length = as.length + 1 := by
    rw [zargs_cons, if_neg (by simp [Value.category]), List.length_append, zargs_ints as has]
    simp [Nat.add_comm]
  have eM := zmap_ints (ad := adM) as has
  have st1 := zlaw_callV (l := l) (e := e) (Rm := room_1) (args := #[Value.ref b]) (below := below) (meth := meth) (c := c) (Q := Q) (cells := cells) (slots := slots) (pc := pM) (lsM := lsM) (rest := rest) (As := as) (a := 0) hx hb hml hown hts hN m5 hA n1 n4 (by rw [← n2]; exact wlM) n9 n10 ⟨n5, n6⟩ (by rw [hze]; exact n8) n7 (by rw [← n3]; exact hR0) rM (zok_ints (by omega) has) rok (fun _ _ => rfl) m1 m2 m3 m4 hS hsz hcat dM (by
    rw [Nat.sub_self, Nat.sub_self]
    exact ⟨hcells, hslots⟩)
  rw [eM] at st1
  refine st1 (fun H2 locs2 ad2 tys2 ws2 h1 h2 h3 h4 h5 h6 h7 => ?_)
  rw [Nat.sub_self, Nat.sub_self, Nat.add_zero, Nat.add_zero]
  obtain ⟨pc2, jc2⟩ := h6 wsC c2 (zDj_symm j1)
  obtain ⟨po2, jo2⟩ := h6 _ o1 j3
  exact kk H2 locs2 ⟨adC, tysC, wsC, ad2, tys2, ws2, ⟨c1, pc2, c3, c4, c5⟩, ⟨h2, h3, h4, h5, m5.ad h1⟩, po2, o2, o3, zDj_symm jc2, j2, jo2, rfl, h1 0 (.inl (by omega)), rel', h7⟩
/-- the static -/
theorem zledgo {w0 wv x : Int32} (hl : l.stackTraces = false) (hT : zTX (zAA s) s s.heap) (X : zLX p s m c b Ln xs) (I : zLJ D adV s H locs qC qM qO S L R Sm Lm cO f)
    (hz : (zcall 145 [.ref 0, .int x] zRc S L = some (some (.int wv), zRc, S, L) ∧ w0 = 0) ∨ ((∃ ls, ztoP 48 145 0 (zentry 145 [.ref 0, .int x]) [] zRc S L (ls, [], zRc, S, L)) ∧ w0 = 1)) (hsz : lsM.size = 7)
    (hcells : cells + 1 ≤ 601024) (hslots : slots + 6 ≤ 7293033)
    (kk : ∀ (H1 : Heap) (locs1 : List Loc) (f1 : Nat → Int64), (w0 = 0 → f1 0 = wv.toInt64) → zLJ D adV s H1 locs1 qC qM qO S L R Sm Lm cO f1 → W p l e room_1 s m #[Value.ref b] below meth c H1 locs1 (cells + 1) (slots + 6) Q (F0 m 1535 lsM [.int w0])) :
    W p l e room_1 s m #[Value.ref b] below meth c H locs cells slots Q (F0 m 1532 lsM [.ref qO, .int x, .ref qC]) := by
  obtain ⟨hx, hb, hml, hown, hts, hN, hX, hbl⟩ := X
  obtain ⟨adC, tysC, wsC, adM, tysM, wsM, ⟨c1, c2, c3, c4, c5⟩, ⟨m1, m2, m3, m4, m5⟩, o1, o2, o3, j1, j2, j3, rfl, rfl, rel, hS⟩ := I
  have hM := zmt_led (qO := qO) (cO := cO) (f := f) (sz := H.size) (D := D) (adV := adV) (l := l) hl hz c1
  have hA1 : ∀ q, va_A (wsC ++ zlob qO cO f) H.size q → zAA s q := fun q hq => by
    rcases hq with ⟨k, e, h⟩ | h
    · by_cases hk : k < wsC.length
      · rw [List.getElem?_append_left hk] at h
        exact c4.2 k (q, e) h
      · rw [List.getElem?_append_right (Nat.le_of_not_lt hk)] at h
        have := (zlob_at h).2
        cases this
        exact o2
    · exact Nat.le_trans hS.1 h
  have hpre : ∀ U : State, U.heap = H → s.WarmedH U.vm → zPreL D adC adV tysC wsC qO cO f H.size x ([Value.ref (adC 0), Value.int x, Value.ref qO]).toArray U := by
    intro U hU hW
    refine ⟨rfl, by rw [hU], by rw [hU]; exact c2, by rw [hU]; exact o1, va_K.moved hW.alike c3, va_K.moved hW.alike o3, c4.weaken (fun _ _ _ _ => trivial), j2, hN.warm hW, ?_, ?_⟩
    · rw [hU]
      exact (((c5.kept (fun a ha hna => hS.2.1 a ha hna)).narrow hA1).moved hW)
    · rw [hU]
      exact (((hT.kept (fun a ha hna => hS.2.1 a ha hna)).narrow hA1).warm hW)
  have hr1 := vx_runSX (R := room_1) (e := e) (below := below) (meth := meth) (c := c) (locs := locs) (cells := cells) (slots := slots) (H := H) (g := F0 m 1532 lsM [.ref qO, .int x, .ref (adC 0)]) (rest := []) (As := [Value.ref (adC 0), Value.int x, Value.ref qO]) (hh := [(0, 9, 12, 13)]) ⟨hx, hb, hml, hown, hts⟩ hM (vx_cwSW (index := 195) (own := R_law) (bytes := cL_led) (maxL := 4) (ret := some .int) (ws' := zUW) 3 hts (fun w hw => by
    have hm : w ∈ zUW := by
      unfold va_wsS at hw
      rcases List.mem_append.mp hw with h | h
      · rcases List.mem_cons.mp h with rfl | h
        · exact zledA_in _ (by simp [zledA])
        rcases List.mem_cons.mp h with rfl | h
        · exact zledA_in _ (by simp [zledA])
        rcases List.mem_cons.mp h with rfl | h
        · exact zledA_in (.initialized R_law) (by simp [zledA])
        cases h
      · rcases List.mem_cons.mp h with rfl | h
        · exact zledA_in _ (by simp [zledA])
        · exact h
    exact ⟨hm, good_of_word (List.mem_filter.mp hm).2⟩) rfl rfl rfl (by decide +kernel) (by decide)) ⟨zPreL_blind, fun U hU hW => hpre U hU hW⟩ rfl rfl hsz rfl (lv_room (m := m) (pc := 1532) (ls := lsM) (rest := [.ref qO, .int x, .ref (adC 0)]) (st := []) (Nat.zero_le _)) dL_law_1532 ⟨hcells, hslots⟩
  intro T hT2 X
  rcases hr1 T hT2 X with ⟨v2, st₀, t, T', L9, h0, X', hL, e1, e2, ⟨ho, ad1, tys1, ws1, f1, k1, k2, k3, k4, k5, k6, k7, k8, k9⟩, st⟩ | ⟨q, st₀, t, T', L9, E, ce, h0, X', hL, e1, e2, hF, -⟩
  · cases ho
    have hal : s.vm.Alike t.vm := by rw [← e2]; exact X'.warmed.alike
    have hkk : ∀ q : Nat, q < H.size → ¬ va_A (wsC ++ zlob qO cO f) H.size q → T'.heap[q]? = H[q]? := fun q a b => by
      have := k9.2 q (by rw [h0]; exact a) b
      rw [h0] at this
      rw [e1]; exact this
    have hzz : H.size ≤ T'.heap.size := by
      have := k9.1
      rw [h0] at this
      rw [e1]; exact this
    have hAO : va_A (wsC ++ zlob qO cO f) H.size qO := Or.inl ⟨_, _, zapp_r (w1 := wsC) (k := 0) (rfl : (zlob qO cO f)[0]? = some (qO, _))⟩
    have jCM : zDj (wsC ++ zlob qO cO f) wsM := fun i j x y hx hy => by
      by_cases hk : i < wsC.length
      · rw [List.getElem?_append_left hk] at hx
        exact j1 i j x y hx hy
      · rw [List.getElem?_append_right (Nat.le_of_not_lt hk)] at hx
        exact fun h => j3 j _ y x hy hx h.symm
    obtain ⟨pm, jm⟩ := zrest m2 jCM hkk (zD_app k6 (zD_ld (f := f1) hAO) k7)
    have jm1 : zDj ws1 wsM := fun i j x y hx hy => jm i j x y (zapp_l hx) hy
    have jm2 : zDj (zlob qO cO f1) wsM := fun i j x y hx hy => jm _ j x y (zapp_r hx) hy
    have hS2 : va_S (zAA s) s.heap T'.heap (locs ++ L9) := ⟨Nat.le_trans hS.1 hzz, fun q a b => by rw [hkk q (Nat.lt_of_lt_of_le a hS.1) (fun h => b (hA1 q h))]; exact hS.2.1 q a b, fun q hq => by
      rcases List.mem_append.mp hq with h | h
      · exact hS.2.2 q h
      · exact hA1 _ (hL q h)⟩
    obtain ⟨t2, a1, b1⟩ := kk T'.heap (locs ++ L9) f1 k8 ⟨ad1, tys1, ws1, adM, tysM, wsM, ⟨k2, by rw [e1]; exact k3, va_K.moved hal.symm k5, k6.weaken (fun k q _ h => hA1 q.1 h), c5.ad k1⟩, ⟨m1, pm, m3, m4, m5⟩, by rw [e1]; exact k4, o2, o3, jm1, k7, zDj_symm jm2, k1 0 (.inl (by decide +kernel)), rfl, rel, hS2⟩ T' rfl X'
    exact ⟨t2, st t2 a1, b1⟩
  · exact hF.elim
end ZLK
