/-! THE CLAIM OUT OF ONE WALK OF THE LAW'S BODY. Your part is whole_start (and what it stands on); all else here is the same for every law, but numbers. -/
def R_law : String := "SnowWallsLaw"
def lw_P (b : Addr) (xs : List Int32) (args : Array Value) (s : State) : Prop := args = #[.ref b] ∧ s.IntsAt b xs ∧ xs.length ≤ 3072 ∧ (Jvm.Cond.and given_1 narrow_1).before args s = true
def lw_Q (_ : Array Value) (s : State) (o : Outcome) (t : State) : Prop := o = .returned (some (.int 1)) ∧ Framed s o t [] 601024 7293033
def lw_Z (below : List Frame) (a : Array Value) (s : State) : State → Prop := fun t => ∃ o, t.status = .running ∧ Ended t below o ∧ lw_Q a s o t
/-- the law's own end, with 1 on the stack, nothing written that was there before, its room as the claim has it -/
theorem lw_ret {p : Program} {l : Launch} {e : Env} {s : State} {m : MethodId} {below : List Frame} {meth : Method} {c : Code} {b : Nat} (hx : p.tables.exec = Jvm.exec) (hb : c.code = code) (hr : meth.sig.returnType = ret) (hlocks : meth.locks = false) {pc : Nat} {H : Heap} {ls : Array Slot} (hdg : decode code pc = .ok (.ireturn, 1)) : W p l e room_1 s m #[Value.ref b] below meth c H [] 601024 7293033 (lw_Z below #[Value.ref b] s) (F0 m pc ls [.int 1]) := by
  intro T hT X
  obtain ⟨fs, hret, hrun, hended, hW, hframe⟩ := X.leave (v := some (.int 1)) (hlocks := hlocks) (fun h => by rw [hr] at h; cases h)
  have hmeth' : T.vm.method? m = some meth := X.method'
  refine ⟨T.setFrames fs, ?_, .returned (some (.int 1)), hrun, hended, rfl, ⟨_, rfl⟩, hW, hframe⟩
  jvm_step X.here [X.here.top, hx, hb, hdg, hmeth', hr, ret, narrow_b1]
  (try refine ⟨rfl, ?_⟩); (try refine ⟨rfl, ?_⟩)
  first | (intro acts; rw [hret _ acts rfl rfl rfl]) | rw [hret _ _ rfl rfl rfl]
  exact Steps.refl _
/-- what holds at the law's entry: the machine, the code, the tables' words (any of lw_tbl by 'hts w (by decide +kernel)'), the script of L ints xs at the cell b, what the Statement gives of the start (any of its parts by flat_of_before) -/
def lw_At (p : Program) (s : State) (m : MethodId) (meth : Method) (c : Code) (b L : Nat) (xs : Nat → Int32) : Prop :=
  p.tables.exec = Jvm.exec ∧ c.code = code ∧ meth.sig.returnType = ret ∧ c.maxLocals = 7 ∧ s.vm.findClass R_law = some m.cls ∧ (∀ w ∈ lw_tbl, w.before #[Value.ref b] s = true) ∧ va_X b L xs s s.heap ∧ b < s.heap.size ∧ meth.locks = false ∧ (Jvm.Cond.and given_1 narrow_1).before #[Value.ref b] s = true
/-! THE LAW: what its walk stands on -/
section ZLD2
variable {p : Program} {l : Launch} {e : Env} {s : State} {m : MethodId} {below : List Frame} {meth : Method} {c : Code} {Q : State → Prop} {D : va_G} {adV : Nat → Nat} {H : Heap} {locs : List Loc} {cells slots : Nat} {lsM : Array Slot} {b Ln i qC qM qO : Nat} {xs : Nat → Int32}
def zlchk (t na : Nat) : Bool := match zmeth[t]? with
  | some r => !r.2.2.2.2.2.1 && (decide (r.2.2.2.2.2.2.1 + 1 ≤ 16) && (decide (8 + (r.2.2.1 + 11) + r.2.2.2.2.2.2.2.1 ≤ 602) && (decide (na + 1 = r.2.2.2.2.2.2.2.2) && (decide (na + 1 ≤ r.2.2.1) && (decide (t ∈ zwI) && decide (t ∈ zwV))))))
  | none => false
theorem zlchk_ok {t na : Nat} (h : zlchk t na = true) : ∃ r, zmeth[t]? = some r ∧ zy t = r.1 ∧ zown t = r.2.2.2.2.1 ∧ r.2.2.2.2.2.1 = false ∧ r.2.2.2.2.2.2.1 + 1 ≤ 16 ∧ 8 + (r.2.2.1 + 11) + r.2.2.2.2.2.2.2.1 ≤ 602 ∧ na + 1 = r.2.2.2.2.2.2.2.2 ∧ na + 1 ≤ r.2.2.1 ∧ Cond.instanceMethod r.1 ∈ zUW ∧ Cond.selects r.1.cls r.1 r.1 ∈ zUW := by
  unfold zlchk at h
  split at h
  · rename_i r hr
    simp only [Bool.and_eq_true, Bool.not_eq_true', decide_eq_true_eq] at h
    obtain ⟨h1, h2, h3, h4, h5, h6, h7⟩ := h
    have e : zy t = r.1 := by simp [zy, hr]
    have g1 := zwI_in t h6
    have g2 := zwV_in t h7
    simp only [e] at g1 g2
    exact ⟨r, hr, e, by simp [zown, hr], h1, h2, h3, h4, h5, g1, g2⟩
  · cases h
/-- what holds all the walk long -/
def zLX (p : Program) (s : State) (m : MethodId) (c : Code) (b Ln : Nat) (xs : Nat → Int32) : Prop :=
  p.tables.exec = Jvm.exec ∧ c.code = code ∧ c.maxLocals = 7 ∧ s.vm.findClass R_law = some m.cls ∧ (∀ w ∈ zUW, w.before #[Value.ref b] s = true) ∧ zNok s ∧ va_X b Ln xs s s.heap ∧ b < s.heap.size
abbrev zAA (s : State) : Nat → Prop := fun q => s.heap.size ≤ q
/-- both objects and the row of one number, apart; the two agree -/
def zLI (D : va_G) (adV : Nat → Nat) (s : State) (H : Heap) (locs : List Loc) (qC qM qO : Nat) : Prop := ∃ (S : zS) (L : zL) (adC : Nat → Nat) (tysC : List (ClassId × FieldType)) (wsC : va_W) (R : List zE) (Sm : zS) (Lm : zL) (adM : Nat → Nat) (tysM : List (ClassId × FieldType)) (wsM : va_W) (cO : ClassId) (f : Nat → Int64),
  zPic D adV (zAA s) s H zRc S L adC tysC wsC ∧ zPic D adV (zAA s) s H R Sm Lm adM tysM wsM ∧ va_P D vwCl [(qO, .inl (cO, 1, .inr (.inl f)))] H ∧ s.heap.size ≤ qO ∧ va_K D vwCl [(cO, .long)] s ∧ zDj wsC wsM ∧ zDj wsC [(qO, .inl (cO, 1, .inr (.inl f)))] ∧ zDj wsM [(qO, .inl (cO, 1, .inr (.inl f)))] ∧ adC 0 = qC ∧ adM 0 = qM ∧ zRel S R Sm ∧ va_S (zAA s) s.heap H locs
theorem zLI_S (I : zLI D adV s H locs qC qM qO) : va_S (zAA s) s.heap H locs := by
  obtain ⟨_, _, _, _, _, _, _, _, _, _, _, _, _, -, -, -, -, -, -, -, -, -, -, -, h⟩ := I
  exact h
/-- one number of the script, on the stack -/
theorem zlaw_arg {pc k : Nat} {kn : Int} {st : List Value} (X : zLX p s m c b Ln xs) (hS : va_S (zAA s) s.heap H locs) (hl : lv_has lsM 7 [(0, .ref b), (1, .ref qC), (2, .ref qM), (3, .ref qO), (4, .int (nI i))]) (hi : i + 6 ≤ Ln) (hLn : Ln ≤ 3072) (hk : k ≤ 5) (hkn : Int32.ofInt kn = nI k) (d0 : decode code pc = .ok (.aload_n 0, 1)) (d1 : decode code (pc + 1) = .ok (.iload 4, 2)) (d3 : decode code (pc + 3) = .ok (.iconst kn, 1)) (d4 : decode code (pc + 4) = .ok (.iadd, 1)) (d5 : decode code (pc + 5) = .ok (.iaload, 1))
    (kk : W p l e room_1 s m #[Value.ref b] below meth c H locs cells slots Q (F0 m (pc + 6) lsM (.int (xs (i + k)) :: st))) : W p l e room_1 s m #[Value.ref b] below meth c H locs cells slots Q (F0 m pc lsM st) := by
  obtain ⟨hx, hb, -, -, -, -, hX, hbl⟩ := X
  refine lv_aload_n hx hb d0 rfl (lv_at hl 0 rfl) ?_
  refine lv_iload hx hb d1 (lv_at hl 4 rfl) ?_
  refine lv_iconst (v := nI k) hx hb d3 hkn ?_
  refine lv_iadd hx hb d4 ?_
  rw [zadd_nI]
  have hin : vp_in (nI (i + k)) Ln := vp_in_nI (by omega) (by omega)
  refine va_sld hx hb hX hbl (Nat.not_le.mpr hbl) hS hin d5 ?_
  rw [zcl_nI (by omega)]
  exact kk
theorem zargs_ints : ∀ as : List Value, (∀ v ∈ as, ∃ x, v = .int x) → (zargs as).length = as.length
  | [], _ => rfl
  | v :: as, h => by
    obtain ⟨x, rfl⟩ := h v List.mem_cons_self
    rw [zargs_cons, if_neg (by simp [Value.category]), List.length_append, zargs_ints as (fun u hu => h u (List.mem_cons_of_mem _ hu))]
    simp [Nat.add_comm]
theorem zmap_ints {ad : Nat → Nat} : ∀ as : List Value, (∀ v ∈ as, ∃ x, v = .int x) → as.map (zv ad) = as
  | [], _ => rfl
  | v :: as, h => by
    obtain ⟨x, rfl⟩ := h v List.mem_cons_self
    rw [List.map_cons, zmap_ints as (fun u hu => h u (List.mem_cons_of_mem _ hu))]
    rfl
theorem zok_ints {n a : Nat} {as : List Value} (ha : a < n) (h : ∀ v ∈ as, ∃ x, v = .int x) : ∀ v ∈ (.ref a :: as : List Value), zokv n v := by
  intro v hv
  rcases List.mem_cons.mp hv with rfl | hv
  · exact fun k hk => by cases hk; exact .inl ha
  · obtain ⟨x, rfl⟩ := h v hv
    exact zokv_int
/-- the class's method, then the reference's: what one answers the other answers -/
theorem zpair {tC tM ixC ixM pC pM : Nat} {as : List Value} {mk : Int32 ⊕ Int64 → Value} {P : (Int32 ⊕ Int64) → Prop} (X : zLX p s m c b Ln xs) (I : zLI D adV s H locs qC qM qO)
    (hp : ∀ (S : zS) (L : zL) (R : List zE) (Sm : zS) (Lm : zL), zRel S R Sm → ∃ (w : Int32 ⊕ Int64) (S' : zS) (L' : zL) (R' : List zE) (Sm' : zS) (Lm' : zL), P w ∧ zcall tC (.ref 0 :: as) zRc S L = some (some (mk w), zRc, S', L') ∧ zcall tM (.ref 0 :: as) R Sm Lm = some (some (mk w), R', Sm', Lm') ∧ zFin S' R' Sm' Lm' ∧ R'.length ≤ R.length + 30 ∧ zsz R' ≤ zsz R + 1000)
    (hmk : ∀ w, P w → (∀ ad, zv ad (mk w) = mk w) ∧ (mk w).category ≤ 2)
    (has : ∀ v ∈ as, ∃ x, v = .int x) (ckC : zlchk tC as.length = true) (ckM : zlchk tM as.length = true) (oC : zown tC = 11) (oM : zown tM = 13) (wlC : Cond.methodLink R_law ixC (zy tC) ∈ zUW) (wlM : Cond.methodLink R_law ixM (zy tM) ∈ zUW) (hsz : lsM.size = 7)
    (dC : decode code pC = .ok (.invokevirtual ixC, 3)) (dM : decode code pM = .ok (.invokevirtual ixM, 3)) (hcells : cells + 30 ≤ 601024) (hslots : slots + 1000 ≤ 7293033)
    (hload : ∀ (H1 : Heap) (locs1 : List Loc) (cells1 slots1 : Nat) (v : Value), va_S (zAA s) s.heap H1 locs1 → W p l e room_1 s m #[Value.ref b] below meth c H1 locs1 cells1 slots1 Q (F0 m pM lsM (as.reverse ++ .ref qM :: [v])) → W p l e room_1 s m #[Value.ref b] below meth c H1 locs1 cells1 slots1 Q (F0 m (pC + 3) lsM [v]))
    (kk : ∀ (H1 : Heap) (locs1 : List Loc) (w : Int32 ⊕ Int64), P w → zLI D adV s H1 locs1 qC qM qO → W p l e room_1 s m #[Value.ref b] below meth c H1 locs1 (cells + 30) (slots + 1000) Q (F0 m (pM + 3) lsM [mk w, mk w])) :
    W p l e room_1 s m #[Value.ref b] below meth c H locs cells slots Q (F0 m pC lsM (as.reverse ++ .ref qC :: [])) := by
  obtain ⟨hx, hb, hml, hown, hts, hN, hX, hbl⟩ := X
  obtain ⟨S, L, adC, tysC, wsC, R, Sm, Lm, adM, tysM, wsM, cO, f, ⟨c1, c2, c3, c4, c5⟩, ⟨m1, m2, m3, m4, m5⟩, o1, o2, o3, j1, j2, j3, rfl, rfl, rel, hS⟩ := I
  have hA : ∀ q, s.heap.size ≤ q → zAA s q := fun _ h => h
  obtain ⟨w, S', L', R', Sm', Lm', hw, rC, rM, fin, bl, bz⟩ := hp S L R Sm Lm rel
  obtain ⟨hmk1, hmk2⟩ := hmk w hw
  obtain ⟨q1, g1, g2, g3, g4, g5, g6, g7, g8, g9, g10⟩ := zlchk_ok ckC
  obtain ⟨q2, n1, n2, n3, n4, n5, n6, n7, n8, n9, n10⟩ := zlchk_ok ckM
  rw [oC] at g3
  rw [oM] at n3
  obtain ⟨rok, ⟨fsM, hR0⟩, rl1, rl2⟩ := zRel_ok rel
  have hc0 : ∃ fs, zRc[0]? = some (0, 11, fs) := ⟨_, rfl⟩
  obtain ⟨fsC, hC0⟩ := hc0
  have eC := zmap_ints (ad := adC) as has
  have zC : zRc.length = 293 := by decide +kernel
  have hze : (zargs (.ref 0 :: as)).length = as.length + 1 := by
    rw [zargs_cons, if_neg (by simp [Value.category]), List.length_append, zargs_ints as has]
    simp [Nat.add_comm]
  have st0 := zlaw_callV (l := l) (e := e) (Rm := room_1) (args := #[Value.ref b]) (below := below) (meth := meth) (c := c) (Q := Q) (cells := cells) (slots := slots) (pc := pC) (lsM := lsM) (rest := []) (As := as) (a := 0) hx hb hml hown hts hN c5 hA g1 g4 (by rw [← g2]; exact wlC) g9 g10 ⟨g5, g6⟩ (by rw [hze]; exact g8) g7 (by rw [← g3]; exact hC0) rC (zok_ints (by rw [zC]; decide) has) zRc_ok (fun _ _ => rfl) c1 c2 c3 c4 hS hsz (Nat.zero_le _) dC (by rw [Nat.sub_self, Nat.sub_self]; exact ⟨Nat.le_trans (Nat.le_add_right _ 30) hcells, Nat.le_trans (Nat.le_add_right _ 1000) hslots⟩)
  rw [eC] at st0
  refine st0 (fun H1 locs1 ad1 tys1 ws1 k1 k2 k3 k4 k5 k6 k7 => ?_)
  rw [Nat.sub_self, Nat.sub_self, Nat.add_zero, Nat.add_zero]
  show W p l e room_1 s m #[Value.ref b] below meth c H1 locs1 cells slots Q (F0 m (pC + 3) lsM [zv ad1 (mk w)])
  rw [hmk1]
  obtain ⟨pm, jm⟩ := k6 wsM m2 j1
  obtain ⟨po, jo⟩ := k6 _ o1 j2
  have eM := zmap_ints (ad := adM) as has
  refine hload H1 locs1 cells slots (mk w) k7 ?_
  have st1 := zlaw_callV (l := l) (e := e) (Rm := room_1) (args := #[Value.ref b]) (below := below) (meth := meth) (c := c) (Q := Q) (cells := cells) (slots := slots) (pc := pM) (lsM := lsM) (rest := [mk w]) (As := as) (a := 0) hx hb hml hown hts hN m5 hA n1 n4 (by rw [← n2]; exact wlM) n9 n10 ⟨n5, n6⟩ (by rw [hze]; exact n8) n7 (by rw [← n3]; exact hR0) rM (zok_ints (by omega) has) rok (fun _ _ => rfl) m1 pm m3 m4 k7 hsz (by simp only [List.map_cons, List.map_nil, List.sum_cons, List.sum_nil]; omega) dM (by
    show cells + (R'.length - R.length) ≤ 601024 ∧ slots + (zsz R' - zsz R) ≤ 7293033
    omega)
  rw [eM] at st1
  refine st1 (fun H2 locs2 ad2 tys2 ws2 h1 h2 h3 h4 h5 h6 h7 => ?_)
  refine W.widen (k := cells + 30) (n := slots + 1000) (by omega) (by omega) ?_
  show W p l e room_1 s m #[Value.ref b] below meth c H2 locs2 (cells + 30) (slots + 1000) Q (F0 m (pM + 3) lsM [zv ad2 (mk w), mk w])
  rw [hmk1]
  obtain ⟨pc2, jc2⟩ := h6 ws1 k3 (zDj_symm jm)
  obtain ⟨po2, jo2⟩ := h6 _ po j3
  have hk0 : ad1 0 = adC 0 := k1 0 (.inl (by rw [zC]; decide))
  have hk2 : ad2 0 = adM 0 := h1 0 (.inl (by omega))
  obtain ⟨ad3, ws3, R3, Sm3, Lm3, f1, f2, f3, f4⟩ := fin D adV (zAA s) s H2 ad2 tys2 ws2 ⟨h2, h3, h4, h5, m5.ad h1⟩
  exact kk H2 locs2 w hw ⟨S', L', ad1, tys1, ws1, R3, Sm3, Lm3, ad3, tys2, ws3, cO, f, ⟨k2, pc2, k4, k5, c5.ad k1⟩, f1, po2, o2, o3, zDj_symm (f3 _ jc2), jo, f3 _ jo2, hk0, f2.trans hk2, f4, h7⟩
/-- an int, a long -/
theorem zpair_I {tC tM ixC ixM pC pM : Nat} {as : List Value} (X : zLX p s m c b Ln xs) (I : zLI D adV s H locs qC qM qO) (hp : zPI tC tM as)
    (has : ∀ v ∈ as, ∃ x, v = .int x) (ckC : zlchk tC as.length = true) (ckM : zlchk tM as.length = true) (oC : zown tC = 11) (oM : zown tM = 13) (wlC : Cond.methodLink R_law ixC (zy tC) ∈ zUW) (wlM : Cond.methodLink R_law ixM (zy tM) ∈ zUW) (hsz : lsM.size = 7)
    (dC : decode code pC = .ok (.invokevirtual ixC, 3)) (dM : decode code pM = .ok (.invokevirtual ixM, 3)) (hcells : cells + 30 ≤ 601024) (hslots : slots + 1000 ≤ 7293033)
    (hload : ∀ (H1 : Heap) (locs1 : List Loc) (cells1 slots1 : Nat) (v : Value), va_S (zAA s) s.heap H1 locs1 → W p l e room_1 s m #[Value.ref b] below meth c H1 locs1 cells1 slots1 Q (F0 m pM lsM (as.reverse ++ .ref qM :: [v])) → W p l e room_1 s m #[Value.ref b] below meth c H1 locs1 cells1 slots1 Q (F0 m (pC + 3) lsM [v]))
    (kk : ∀ (H1 : Heap) (locs1 : List Loc) (w : Int32), zLI D adV s H1 locs1 qC qM qO → W p l e room_1 s m #[Value.ref b] below meth c H1 locs1 (cells + 30) (slots + 1000) Q (F0 m (pM + 3) lsM [.int w, .int w])) :
    W p l e room_1 s m #[Value.ref b] below meth c H locs cells slots Q (F0 m pC lsM (as.reverse ++ .ref qC :: [])) :=
  zpair (mk := fun x => x.elim (fun w => .int w) (fun w => .long w)) (P := fun x => ∃ w, x = .inl w) X I (fun S L R Sm Lm h => by
    obtain ⟨w, S', L', R', Sm', Lm', h1, h2, h3, h4⟩ := hp S L R Sm Lm h
    exact ⟨.inl w, S', L', R', Sm', Lm', ⟨w, rfl⟩, h1, h2, h3, h4⟩) (fun x ⟨w, hw⟩ => by subst hw; exact ⟨fun _ => rfl, by show (Value.int w).category ≤ 2; simp [Value.category]⟩) has ckC ckM oC oM wlC wlM hsz dC dM hcells hslots hload (fun H1 locs1 x ⟨w, hw⟩ I => by subst hw; exact kk H1 locs1 w I)
theorem zpair_L {tC tM ixC ixM pC pM : Nat} {as : List Value} (X : zLX p s m c b Ln xs) (I : zLI D adV s H locs qC qM qO) (hp : zPL tC tM as)
    (has : ∀ v ∈ as, ∃ x, v = .int x) (ckC : zlchk tC as.length = true) (ckM : zlchk tM as.length = true) (oC : zown tC = 11) (oM : zown tM = 13) (wlC : Cond.methodLink R_law ixC (zy tC) ∈ zUW) (wlM : Cond.methodLink R_law ixM (zy tM) ∈ zUW) (hsz : lsM.size = 7)
    (dC : decode code pC = .ok (.invokevirtual ixC, 3)) (dM : decode code pM = .ok (.invokevirtual ixM, 3)) (hcells : cells + 30 ≤ 601024) (hslots : slots + 1000 ≤ 7293033)
    (hload : ∀ (H1 : Heap) (locs1 : List Loc) (cells1 slots1 : Nat) (v : Value), va_S (zAA s) s.heap H1 locs1 → W p l e room_1 s m #[Value.ref b] below meth c H1 locs1 cells1 slots1 Q (F0 m pM lsM (as.reverse ++ .ref qM :: [v])) → W p l e room_1 s m #[Value.ref b] below meth c H1 locs1 cells1 slots1 Q (F0 m (pC + 3) lsM [v]))
    (kk : ∀ (H1 : Heap) (locs1 : List Loc) (w : Int64), zLI D adV s H1 locs1 qC qM qO → W p l e room_1 s m #[Value.ref b] below meth c H1 locs1 (cells + 30) (slots + 1000) Q (F0 m (pM + 3) lsM [.long w, .long w])) :
    W p l e room_1 s m #[Value.ref b] below meth c H locs cells slots Q (F0 m pC lsM (as.reverse ++ .ref qC :: [])) :=
  zpair (mk := fun x => x.elim (fun w => .int w) (fun w => .long w)) (P := fun x => ∃ w, x = .inr w) X I (fun S L R Sm Lm h => by
    obtain ⟨w, S', L', R', Sm', Lm', h1, h2, h3, h4⟩ := hp S L R Sm Lm h
    exact ⟨.inr w, S', L', R', Sm', Lm', ⟨w, rfl⟩, h1, h2, h3, h4⟩) (fun x ⟨w, hw⟩ => by subst hw; exact ⟨fun _ => rfl, by show (Value.long w).category ≤ 2; simp [Value.category]⟩) has ckC ckM oC oM wlC wlM hsz dC dM hcells hslots hload (fun H1 locs1 x ⟨w, hw⟩ I => by subst hw; exact kk H1 locs1 w I)
end ZLD2
