/-! led: the static's contract -/
section ZLJ0
variable {D : va_G} {A : Nat → Prop} {H : Heap}
def zlob (qO : Nat) (cO : ClassId) (f : Nat → Int64) : va_W := [(qO, .inl (cO, 1, .inr (.inl f)))]
theorem zlob_at {qO : Nat} {cO : ClassId} {f : Nat → Int64} {k : Nat} {q : Nat × va_E} (h : (zlob qO cO f)[k]? = some q) : k = 0 ∧ q = (qO, .inl (cO, 1, .inr (.inl f))) := by
  cases k with
  | zero => exact ⟨rfl, (Option.some.inj h).symm⟩
  | succ k => cases h
theorem zDj_ld {ws : va_W} {qO : Nat} {cO : ClassId} {f g : Nat → Int64} (h : zDj ws (zlob qO cO f)) : zDj ws (zlob qO cO g) := fun i j x y hx hy => by
  obtain ⟨rfl, rfl⟩ := zlob_at hy
  exact h i 0 x (qO, .inl (cO, 1, .inr (.inl f))) hx rfl
theorem zP_app {w1 w2 : va_W} (h1 : va_P D vwCl w1 H) (h2 : va_P D vwCl w2 H) : va_P D vwCl (w1 ++ w2) H := fun k q hk => by
  by_cases hl : k < w1.length
  · rw [List.getElem?_append_left hl] at hk
    exact h1 k q hk
  · rw [List.getElem?_append_right (Nat.le_of_not_lt hl)] at hk
    exact h2 _ q hk
theorem zD_app {w1 w2 : va_W} (h1 : va_D A w1) (h2 : va_D A w2) (hj : zDj w1 w2) : va_D A (w1 ++ w2) := by
  refine ⟨fun i j p q hi hj2 e => ?_, fun k q hk => ?_⟩
  · by_cases li : i < w1.length <;> by_cases lj : j < w1.length
    · rw [List.getElem?_append_left li] at hi
      rw [List.getElem?_append_left lj] at hj2
      exact h1.1 i j p q hi hj2 e
    · rw [List.getElem?_append_left li] at hi
      rw [List.getElem?_append_right (Nat.le_of_not_lt lj)] at hj2
      exact absurd e (hj i _ p q hi hj2)
    · rw [List.getElem?_append_right (Nat.le_of_not_lt li)] at hi
      rw [List.getElem?_append_left lj] at hj2
      exact absurd e.symm (hj j _ q p hj2 hi)
    · rw [List.getElem?_append_right (Nat.le_of_not_lt li)] at hi
      rw [List.getElem?_append_right (Nat.le_of_not_lt lj)] at hj2
      have := h2.1 _ _ p q hi hj2 e
      omega
  · by_cases hl : k < w1.length
    · rw [List.getElem?_append_left hl] at hk
      exact h1.2 k q hk
    · rw [List.getElem?_append_right (Nat.le_of_not_lt hl)] at hk
      exact h2.2 _ q hk
theorem zK_app {t1 t2 : List (ClassId × FieldType)} {s : State} (h1 : va_K D vwCl t1 s) (h2 : va_K D vwCl t2 s) : va_K D vwCl (t1 ++ t2) s := ⟨h1.1, fun k q hk => by
  by_cases hl : k < t1.length
  · rw [List.getElem?_append_left hl] at hk
    exact h1.2 k q hk
  · rw [List.getElem?_append_right (Nat.le_of_not_lt hl)] at hk
    exact h2.2 _ q hk⟩
theorem zD_ld {qO : Nat} {cO : ClassId} {f : Nat → Int64} (h : A qO) : va_D A (zlob qO cO f) := by
  refine ⟨fun i j p q hi hj _ => ?_, fun k q hk => ?_⟩
  · rw [(zlob_at hi).1, (zlob_at hj).1]
  · rw [(zlob_at hk).2]
    exact h
end ZLJ0
def zr145b : Bool := match zmeth[145]? with
  | some r => decide (r.2.2.2.2.2.2.1 + 1 ≤ 13) && (decide (8 + (r.2.2.1 + 11) + r.2.2.2.2.2.2.2.1 ≤ 430) && decide (8 + (r.2.2.1 + 11) + 400 ≤ 430))
  | none => false
theorem zr145b_t : zr145b = true := by decide +kernel
section ZLJ
variable {S : zS} {L : zL} {D : va_G} {ad adV : Nat → Nat} {tys : List (ClassId × FieldType)} {ws : va_W} {qO sz : Nat} {cO : ClassId} {f : Nat → Int64} {i w0 wv : Int32}
def zPreL (D : va_G) (ad adV : Nat → Nat) (tys : List (ClassId × FieldType)) (ws : va_W) (qO : Nat) (cO : ClassId) (f : Nat → Int64) (sz : Nat) (i : Int32) : Array Value → State → Prop := va_Pc [.ref (ad 0), .int i, .ref qO] fun U => U.heap.size = sz ∧ va_P D vwCl ws U.heap ∧ va_P D vwCl (zlob qO cO f) U.heap ∧ va_K D vwCl tys U ∧ va_K D vwCl [(cO, .long)] U ∧ va_D (fun _ => True) ws ∧ zDj ws (zlob qO cO f) ∧ zNok U ∧ zX ad adV (va_A (ws ++ zlob qO cO f) sz) U U.heap ∧ zTX (va_A (ws ++ zlob qO cO f) sz) U U.heap
theorem zPreL_blind : FrameBlind (zPreL D ad adV tys ws qO cO f sz i) := by
  intro a U g mk q
  obtain ⟨q0, q1, q2, q3, q4, q5, q6, q7, q8, q9, q10⟩ := q
  exact ⟨q0, q1, q2, q3, va_K.moved (u := U) (U := U.calling g mk a) (Vm.Alike.refl U.vm) q4, va_K.moved (u := U) (U := U.calling g mk a) (Vm.Alike.refl U.vm) q5, q6, q7, zNok.same (s := U) (U := U.calling g mk a) rfl q8, zX.same (s := U) (U := U.calling g mk a) rfl q9, zTX.same (s := U) (U := U.calling g mk a) rfl q10⟩
def zPostL (D : va_G) (ad : Nat → Nat) (A : Nat → Prop) (S : zS) (L : zL) (qO : Nat) (cO : ClassId) (w0 wv : Int32) : Array Value → State → Outcome → State → Prop := fun _ st o t => o = .returned (some (.int w0)) ∧ ∃ (ad1 : Nat → Nat) (tys1 : List (ClassId × FieldType)) (ws1 : va_W) (f1 : Nat → Int64), zKeep ad1 ad zRc.length ∧ zRep ad1 tys1 ws1 zRc S L ∧ va_P D vwCl ws1 t.heap ∧ va_P D vwCl (zlob qO cO f1) t.heap ∧ va_K D vwCl tys1 t ∧ va_D A ws1 ∧ zDj ws1 (zlob qO cO f1) ∧ (w0 = 0 → f1 0 = wv.toInt64) ∧ va_F A st t
theorem zmt_led {l : Launch} (hl : l.stackTraces = false) (hz : (zcall 145 [.ref 0, .int i] zRc S L = some (some (.int wv), zRc, S, L) ∧ w0 = 0) ∨ ((∃ ls, ztoP 48 145 0 (zentry 145 [.ref 0, .int i]) [] zRc S L (ls, [], zRc, S, L)) ∧ w0 = 1)) (hrep : zRep ad tys ws zRc S L) :
    vx_Met l yL_led (zledW :: zUW) zrmL (zPreL D ad adV tys ws qO cO f sz i) (zPostL D ad (va_A (ws ++ zlob qO cO f) sz) S L qO cO w0 wv) (fun _ _ _ => False) 1 6 (va_A (ws ++ zlob qO cO f) sz) := by
  refine vx_ofWH (cc := cL_led) (maxL := 4) (ret := some .int) (hh := [(0, 9, 12, 13)]) (by decide +kernel) rfl ?_
  intro p e s m args below meth c s₁ B hml hv
  obtain ⟨rfl, hsz, hP, hPO, hK, hKO, hD0, hj, hN, hX, hTX⟩ := hv
  subst hsz
  have hts : ∀ w ∈ zUW, w.before ([Value.ref (ad 0), Value.int i, Value.ref qO]).toArray s = true := fun w hw => atoms_spec (ws := zledW :: zUW) B.pre w (List.mem_cons_of_mem _ hw)
  have htab : c.exceptionTable.toList = tableOf [(0, 9, 12, 13)] := vx_table (x := yL_led) B (atoms_spec (ws := zledW :: zUW) B.pre _ List.mem_cons_self)
  have hown : s.vm.findClass R_law = some m.cls := findClass_of_methodNamed B.named
  have hx := B.exec
  have hb : c.code = cL_led := B.bytes
  have hA : ∀ q, s.heap.size ≤ q → va_A (ws ++ zlob qO cO f) s.heap.size q := fun q hq => Or.inr hq
  have hAw : ∀ q, va_A ws s.heap.size q → va_A (ws ++ zlob qO cO f) s.heap.size q := fun q hq => by
    rcases hq with ⟨k, e, h⟩ | h
    · exact Or.inl ⟨k, e, zapp_l h⟩
    · exact Or.inr h
  have hAO : va_A (ws ++ zlob qO cO f) s.heap.size qO := Or.inl ⟨_, _, zapp_r (w1 := ws) (k := 0) (rfl : (zlob qO cO f)[0]? = some (qO, _))⟩
  have hD : va_D (va_A (ws ++ zlob qO cO f) s.heap.size) ws := (hD0.self (sz := s.heap.size)).weaken (fun k q _ h => hAw q.1 h)
  obtain ⟨r, hr⟩ : ∃ r, zmeth[145]? = some r := ⟨_, (List.getElem?_eq_getElem (by decide +kernel : 145 < zmeth.length))⟩
  obtain ⟨q1, g1, g2, g3, g4, g5, g6, g7, g8, g9, g10⟩ := zlchk_ok (by decide +kernel : zlchk 145 1 = true)
  cases hr.symm.trans g1
  have g3' : r.2.2.2.2.1 = 11 := by rw [← g3]; decide +kernel
  have hle : (zargs [.ref 0, .int i]).length ≤ r.2.2.1 := g8
  have hle2 := zr145b_t
  unfold zr145b at hle2
  rw [hr] at hle2
  simp only [Bool.and_eq_true, decide_eq_true_eq] at hle2
  obtain ⟨b1, b2, b3⟩ := hle2
  have wl : Cond.methodLink R_law 7 r.1 ∈ zUW := by rw [← g2]; exact zledA_in _ (by simp [zledA])
  have has : ∀ u ∈ ([.ref 0, .int i] : List Value), zokv zRc.length u := zok_ints (as := [.int i]) (by rw [show zRc.length = 293 by decide +kernel]; decide) (zints_ok rfl)
  obtain ⟨fsC, hC0⟩ : ∃ fs, zRc[0]? = some (0, 11, fs) := ⟨_, rfl⟩
  rw [lg_entry_eq]
  have hl9 := lv_entry [Value.ref (ad 0), Value.int i, Value.ref qO] (n := 4) (show 3 ≤ 4 by decide)
  generalize ((lg_sl [Value.ref (ad 0), Value.int i, Value.ref qO] ++ List.replicate (4 - (lg_sl [Value.ref (ad 0), Value.int i, Value.ref qO]).length) Slot.unset).toArray) = lsM at hl9
  have hl9 : lv_has lsM 4 [(0, .ref (ad 0)), (1, .int i), (2, .ref qO)] := hl9
  refine lv_aload_n hx hb dL_led_0 rfl (lv_at hl9 2 rfl) ?_
  refine lv_iconst (v := 0) hx hb dL_led_1 rfl ?_
  refine lv_aload_n hx hb dL_led_2 rfl (lv_at hl9 0 rfl) ?_
  refine lv_iload_n hx hb dL_led_3 rfl (lv_at hl9 1 rfl) ?_
  have hrt : meth.sig.returnType = some .int := B.returns
  rcases hz with ⟨hz, rfl⟩ | ⟨hz, rfl⟩
  · refine zlaw_callV (l := l) (t := 145) (ix := 7) (r := r) (a := 0) (As := [.int i]) (rest := [.int 0, .ref qO]) (pc := 4) hx hb hml hown hts hN hX hA hr g4 wl g9 g10 ⟨b1, b2⟩ hle g7 (by rw [g3']; exact hC0) hz has zRc_ok (fun _ _ => rfl) hrep hP hK hD va_S.rf hl9.1 (show 2 ≤ 8 by decide) dL_led_4 (by rw [Nat.sub_self, Nat.sub_self]; decide) (fun H1 locs1 ad1 tys1 ws1 k1 k2 k3 k4 k5 k6 k7 => ?_)
    rw [Nat.sub_self, Nat.sub_self]
    obtain ⟨po, jo⟩ := k6 _ hPO hj
    show W p l e (headSpec (zledW :: zUW) zrmL).room s m _ below meth c H1 locs1 0 0 _ (F0 m 7 lsM [.int wv, .int 0, .ref qO])
    refine lv_i2l (v := wv.toInt64) hx hb dL_led_7 rfl ?_
    have hq0 : (ws1 ++ zlob qO cO f)[ws1.length]? = some (qO, .inl (cO, 1, .inr (.inl f))) := zapp_r (k := 0) rfl
    have ht0 : (tys1 ++ [(cO, FieldType.long)])[tys1.length]? = some (cO, FieldType.long) := by
      rw [List.getElem?_append_right (Nat.le_refl _), Nat.sub_self]
      rfl
    refine va_last hx hb (zK_app k4 hKO) (zP_app k3 po) (zD_app k5 (zD_ld hAO) jo) k7 ws1.length tys1.length hq0 ht0 (show ¬ ((0 : Int32) < 0 ∨ 1 ≤ (0 : Int32).toNatClampNeg) from by decide) dL_led_8 (fun H2 locs2 p2 d2 s2 => ?_)
    have eset : (ws1 ++ zlob qO cO f).set ws1.length (qO, .inl (cO, 1, .inr (.inl (vp_updL f (0 : Int32).toNatClampNeg wv.toInt64)))) = ws1 ++ zlob qO cO (vp_updL f 0 wv.toInt64) := by
      rw [List.set_append_right _ _ (Nat.le_refl _), Nat.sub_self]
      rfl
    rw [eset] at p2 d2
    refine lv_goto (tgt := 15) hx hb dL_led_9 (by decide) ?_
    refine lv_iconst (v := 0) hx hb dL_led_15 rfl ?_
    refine vx_ret (W.widen (k := 1) (n := 6) (by decide) (by decide) ?_)
    exact W.zret (ty := .int) hx hb hrt rfl (fun t ht hW => ⟨rfl, ad1, tys1, ws1, vp_updL f 0 wv.toInt64, k1, k2, by rw [ht]; exact zP_l p2, by rw [ht]; exact zP_r p2, va_K.moved hW.alike k4, k5, zDj_ld jo, fun _ => if_pos rfl, s2.F ht⟩) s2.2.2 dL_led_16
  · have hM := zmt_145 hl hz hr hle has D ad adV tys ws s.heap.size hrep
    obtain ⟨c1, c2, c3, c4, c5, c6, wc, c7⟩ := zmeth_at hr
    obtain ⟨u, hu, rfl⟩ := hrep.at hC0
    have hcls := zcls_at c7
    have hcls1 : zcn r.2.2.2.2.1 = wc.1 := hcls.1
    have hrecv : ∃ cellB : Cell, s.heap[ad 0]? = some cellB ∧ cellB.vm.isStatics = false ∧ s.vm.findClass r.1.cls = some cellB.cls := by
      rw [c2, hcls1]
      rw [g3'] at c7
      exact va_recv hK hP c7 hu
    have hpre : ∀ U : State, U.heap = s.heap → s.WarmedH U.vm → zPreT D ad adV tys ws s.heap.size [.ref 0, .int i] (([.ref 0, .int i] : List Value).map (zv ad)).toArray U := by
      intro U hU hW
      refine ⟨⟨rfl, by rw [hU], by rw [hU]; exact hP, va_K.moved hW.alike hK, hD0, hN.warm hW, ?_⟩, ?_⟩
      · rw [hU]
        exact (hX.narrow hAw).moved hW
      · rw [hU]
        exact (hTX.narrow hAw).warm hW
    have hr1 := vx_runV (l := l) (e := e) (below := below) (meth := meth) (c := c) (R := (headSpec (zledW :: zUW) zrmL).room) (locs := []) (cells := 0) (slots := 0) (g := F0 m 4 lsM [.int i, .ref (ad 0), .int 0, .ref qO]) (rest := [.int 0, .ref qO]) (H := s.heap) (C := r.1.cls) (b := ad 0) (As := [.int i]) (n := 1) (ws := zUWc r.1 r.2.1 r.2.2.1 r.2.2.2.1) ⟨hx, hb, hml, hown, hts⟩ hM ⟨callB_of 1 hts (zUWc_good c1) rfl rfl rfl (hts _ c6) (hts _ wl) ⟨c4.1, c4.2, by
      cases hp : parseMethodDescriptor r.1.desc with
      | none => exact absurd hp (zdesc_some hr)
      | some sig =>
        have := c5 sig hp
        rw [g4] at this
        simp at this
        simp
        omega⟩ ⟨by decide, b3⟩, hts _ g9, hts _ g10⟩ ⟨zPreT_blind, hrecv, fun U hU hW => hpre U hU hW⟩ rfl rfl hl9.1 rfl (lv_room (m := m) (pc := 4) (ls := lsM) (rest := [.int i, .ref (ad 0), .int 0, .ref qO]) (st := [.int 0, .ref qO]) (show 2 ≤ 8 by decide)) dL_led_4 ⟨by decide, by decide⟩
    intro T hT X
    rcases hr1 T hT X with ⟨v2, st₀, t, T', L9, h0, X', hL, e1, e2, hF, -⟩ | ⟨q, st₀, t, T', L9, E, ce, h0, X', hL, e1, e2, ⟨rfl, ad1, tys1, ws1, k1, k2, k3, k4, k5, k6⟩, hce, hcv, hcl, st⟩
    · exact hF.elim
    · have hal : s.vm.Alike t.vm := by rw [← e2]; exact X'.warmed.alike
      have hkk : ∀ q : Nat, q < s.heap.size → ¬ va_A ws s.heap.size q → T'.heap[q]? = s.heap[q]? := fun q a b => by
        have := k6.2 q (by rw [h0]; exact a) b
        rw [h0] at this
        rw [e1]; exact this
      have hzz : s.heap.size ≤ T'.heap.size := by
        have := k6.1
        rw [h0] at this
        rw [e1]; exact this
      obtain ⟨po, jo⟩ := zrest hPO hj hkk k5
      have s2 : va_S (va_A (ws ++ zlob qO cO f) s.heap.size) s.heap T'.heap ([] ++ L9) := ⟨hzz, fun q a b => hkk q a (fun h => b (hAw q h)), fun q hq => hAw _ (hL q (by simpa using hq))⟩
      obtain ⟨t2, a1, b1⟩ := (vx_catch (p := p) (l := l) (e := e) (R := (headSpec (zledW :: zUW) zrmL).room) (below := below) (meth := meth) (pc := 4) (ls := lsM) (rest := [.int 0, .ref qO]) (locs := [] ++ L9) (cells := 0 + 1) (slots := 0 + 6) (H := T'.heap) (Q := vx_MQ below (zPostL D ad (va_A (ws ++ zlob qO cO f) s.heap.size) S L qO cO 1 wv) (fun _ _ _ => False) ([Value.ref (ad 0), Value.int i, Value.ref qO]).toArray s 1 6 (va_A (ws ++ zlob qO cO f) s.heap.size)) (name := zthX) hown [] ⟨0, 9, 12, 13⟩ [] htab (fun z hz => nomatch hz) (by decide) (by decide) (hts _ (zledA_in _ (by simp [zledA]))) (va_Nw.use rfl (hTX.1 _ (by simp [zthB]))) (by rw [e1]; exact hce) hcv hcl (by
        refine lv_astore_n hx hb dL_led_12 rfl hl9 (by decide) rfl (fun ls' hl' => ?_)
        refine lv_iconst (v := 1) hx hb dL_led_13 rfl ?_
        refine vx_ret ?_
        exact W.zret (ty := .int) hx hb hrt rfl (fun t3 ht hW => ⟨rfl, ad1, tys1, ws1, f, k1, k2, by rw [ht, e1]; exact k3, by rw [ht]; exact po, va_K.moved (hal.symm.trans hW.alike) k4, k5.weaken (fun k q _ h => hAw q.1 h), jo, fun h => absurd h (by decide), s2.F ht⟩) s2.2.2 dL_led_14)) T' rfl X'
      exact ⟨t2, st.trans a1, b1⟩
end ZLJ
