/-! THE LAW: calls out of runs of the small machine -/
section ZLA
variable {p : Program} {l : Launch} {e : Env} {Rm : Room} {s : State} {m : MethodId} {args : Array Value} {below : List Frame} {meth : Method} {c : Code} {Q : State → Prop} {D : va_G} {A : Nat → Prop} {H : Heap} {locs : List Loc} {cells slots : Nat} {cc : ByteArray} {nL pc : Nat} {own : String} {lsM : Array Slot} {rest : List Value}
/-- two worlds apart -/
def zDj (ws wr : va_W) : Prop := ∀ (i j : Nat) (p q : Nat × va_E), ws[i]? = some p → wr[j]? = some q → p.1 ≠ q.1
theorem zDj_symm {ws wr : va_W} (h : zDj ws wr) : zDj wr ws := fun i j p q h1 h2 h3 => h j i q p h2 h1 h3.symm
theorem zP_l {w1 w2 : va_W} (h : va_P D vwCl (w1 ++ w2) H) : va_P D vwCl w1 H := fun k q hk => h k q (by rw [List.getElem?_append_left (List.getElem?_eq_some_iff.mp hk).1]; exact hk)
theorem zapp_r {w1 w2 : va_W} {k : Nat} {q : Nat × va_E} (hk : w2[k]? = some q) : (w1 ++ w2)[w1.length + k]? = some q := by
  rw [List.getElem?_append_right (Nat.le_add_right _ _), Nat.add_sub_cancel_left]
  exact hk
theorem zP_r {w1 w2 : va_W} (h : va_P D vwCl (w1 ++ w2) H) : va_P D vwCl w2 H := fun k q hk => h (w1.length + k) q (zapp_r hk)
theorem zapp_l {w1 w2 : va_W} {k : Nat} {q : Nat × va_E} (hk : w1[k]? = some q) : (w1 ++ w2)[k]? = some q := by
  rw [List.getElem?_append_left (List.getElem?_eq_some_iff.mp hk).1]
  exact hk
theorem zD_l {w1 w2 : va_W} (h : va_D A (w1 ++ w2)) : va_D A w1 := ⟨fun i j p q hi hj => h.1 i j p q (zapp_l hi) (zapp_l hj), fun k q hk => h.2 k q (zapp_l hk)⟩
theorem zD_r {w1 w2 : va_W} (h : va_D A (w1 ++ w2)) : va_D A w2 := ⟨fun i j p q hi hj e => by have := h.1 _ _ p q (zapp_r hi) (zapp_r hj) e; omega, fun k q hk => h.2 _ q (zapp_r hk)⟩
theorem zD_j {w1 w2 : va_W} (h : va_D A (w1 ++ w2)) : zDj w1 w2 := fun i j p q hi hj e => by
  have h1 := h.1 _ _ p q (zapp_l hi) (zapp_r hj) e
  have h2 := (List.getElem?_eq_some_iff.mp hi).1
  omega
theorem zrest {ws ws1 wr : va_W} {H1 : Heap} (hP : va_P D vwCl wr H) (hj : zDj ws wr) (hk : ∀ q : Nat, q < H.size → ¬ va_A ws H.size q → H1[q]? = H[q]?) (hD1 : va_D (va_A ws H.size) ws1) : va_P D vwCl wr H1 ∧ zDj ws1 wr := by
  have apart : ∀ (k : Nat) (q : Nat × va_E), wr[k]? = some q → q.1 < H.size ∧ ¬ va_A ws H.size q.1 := fun k q hq => by
    have hl := (hP k q hq).lt
    refine ⟨hl, fun h => ?_⟩
    rcases h with ⟨k2, e, h⟩ | h
    · exact hj k2 k (q.1, e) q h hq rfl
    · omega
  exact ⟨hP.kept fun k q hq => hk q.1 (apart k q hq).1 (apart k q hq).2, fun i j x y hx hy hxy => (apart j y hy).2 (by rw [← hxy]; exact hD1.2 i x hx)⟩
/-- behind a call -/
theorem zlaw_go {ad : Nat → Nat} {ws : va_W} {n : Nat} {v : Option Value} {R' : List zE} {S' : zS} {L' : zL} {mc ms : Nat} {g : JFrame} {a : Array Value}
    (hr : va_Run p l e Rm s m args below meth c H locs cells slots mc ms g rest (zPost D ad (va_A ws H.size) n v R' S' L' a) (va_A ws H.size)) (hS : va_S A s.heap H locs) (hA : ∀ q, va_A ws H.size q → A q)
    (kk : ∀ (H1 : Heap) (locs1 : List Loc) (ad1 : Nat → Nat) (tys1 : List (ClassId × FieldType)) (ws1 : va_W), zKeep ad1 ad n → zRep ad1 tys1 ws1 R' S' L' → va_P D vwCl ws1 H1 → va_K D vwCl tys1 s → va_D (va_A ws H.size) ws1 → (∀ q : Nat, q < H.size → ¬ va_A ws H.size q → H1[q]? = H[q]?) → va_S A s.heap H1 locs1 → W p l e Rm s m args below meth c H1 locs1 (cells + mc) (slots + ms) Q { g with pc := g.pc + 3, stack := (v.map (zv ad1)).toList ++ rest }) : W p l e Rm s m args below meth c H locs cells slots Q g := by
  intro T hT X
  obtain ⟨v2, st₀, t, T', L9, h0, X', hL, e1, e2, ⟨ad1, tys1, ws1, hv, hk, hrep, hP, hK, hD, hz, hF⟩, st⟩ := hr T hT X
  cases hv
  rw [h0] at hz hF
  have hal : s.vm.Alike t.vm := by rw [← e2]; exact X'.warmed.alike
  obtain ⟨t2, a1, b1⟩ := kk T'.heap (locs ++ L9) ad1 tys1 ws1 hk hrep (by rw [e1]; exact hP) (va_K.moved hal.symm hK) hD (fun q h1 h2 => by rw [e1]; exact hF q h1 h2)
    ⟨Nat.le_trans hS.1 (by rw [e1]; exact hz), fun q h1 h2 => by rw [e1, hF q (Nat.lt_of_lt_of_le h1 hS.1) (fun z => h2 (hA q z))]; exact hS.2.1 q h1 h2, fun q hq => by
      rcases List.mem_append.mp hq with h | h
      · exact hS.2.2 q h
      · exact hA _ (hL q h)⟩ T' rfl X'
  exact ⟨t2, st t2 a1, b1⟩
/-- a public method of one of the two -/
theorem zlaw_callV {t ix : Nat} {r : zM} {a : Nat} {As fs : List Value} {v : Option Value} {R R1 : List zE} {S S1 : zS} {L L1 : zL} {ad adT adV : Nat → Nat} {tys : List (ClassId × FieldType)} {ws : va_W}
    (hx : p.tables.exec = Jvm.exec) (hb : c.code = cc) (hml : c.maxLocals = nL) (hown : s.vm.findClass own = some m.cls) (hts : ∀ w ∈ zUW, w.before args s = true) (hN : zNok s) (hX : zX adT adV A s s.heap) (hA : ∀ q, s.heap.size ≤ q → A q)
    (hr : zmeth[t]? = some r) (hst : r.2.2.2.2.2.1 = false) (wl : Cond.methodLink own ix r.1 ∈ zUW) (wI : Cond.instanceMethod r.1 ∈ zUW) (wV : Cond.selects r.1.cls r.1 r.1 ∈ zUW)
    (hrm : r.2.2.2.2.2.2.1 + 1 ≤ Rm.frames ∧ 8 + (r.2.2.1 + 11) + r.2.2.2.2.2.2.2.1 ≤ Rm.locals)
    (hle : (zargs (.ref a :: As)).length ≤ r.2.2.1) (hna : As.length + 1 = r.2.2.2.2.2.2.2.2) (hR : R[a]? = some (0, r.2.2.2.2.1, fs))
    (hrun : zcall t (.ref a :: As) R S L = some (v, R1, S1, L1)) (hI : ∀ u ∈ (.ref a :: As : List Value), zokv R.length u) (hRi : ∀ e ∈ R, ∀ u ∈ e.2.2, zokv R.length u)
    (hk : zKeep ad adT 0) (hrep : zRep ad tys ws R S L) (hP : va_P D vwCl ws H) (hK : va_K D vwCl tys s) (hD : va_D A ws) (hS : va_S A s.heap H locs)
    (hsz : lsM.size = nL) (hcat : (rest.map fun v => v.category).sum ≤ 8) (hdg : decode cc pc = .ok (.invokevirtual ix, 3))
    (hf : cells + (R1.length - R.length) ≤ Rm.cells ∧ slots + (zsz R1 - zsz R) ≤ Rm.slots)
    (kk : ∀ (H1 : Heap) (locs1 : List Loc) (ad1 : Nat → Nat) (tys1 : List (ClassId × FieldType)) (ws1 : va_W), zKeep ad1 ad R.length → zRep ad1 tys1 ws1 R1 S1 L1 → va_P D vwCl ws1 H1 → va_K D vwCl tys1 s → va_D A ws1 → (∀ wr, va_P D vwCl wr H → zDj ws wr → va_P D vwCl wr H1 ∧ zDj ws1 wr) → va_S A s.heap H1 locs1 → W p l e Rm s m args below meth c H1 locs1 (cells + (R1.length - R.length)) (slots + (zsz R1 - zsz R)) Q (F0 m (pc + 3) lsM ((v.map (zv ad1)).toList ++ rest))) :
    W p l e Rm s m args below meth c H locs cells slots Q (F0 m pc lsM ((As.map (zv ad)).reverse ++ .ref (ad a) :: rest)) := by
  obtain ⟨n, hz⟩ := zgo_iff.mp hrun
  have hM := zmet (zsound n) hz hr hle hI hRi l D ad adV tys ws H.size hrep
  have hblind := zPre_blind (D := D) (ad := ad) (adV := adV) (tys := tys) (ws := ws) (sz := H.size) (as := .ref a :: As)
  have hA1 : ∀ q, va_A ws H.size q → A q := zown_in hD hS hA
  have hpre : ∀ U : State, U.heap = H → s.WarmedH U.vm → zPre D ad adV tys ws H.size (.ref a :: As) (((.ref a :: As : List Value)).map (zv ad)).toArray U := by
    intro U hU hW
    refine ⟨rfl, by rw [hU], by rw [hU]; exact hP, va_K.moved hW.alike hK, hD.weaken (fun _ _ _ _ => trivial), hN.warm hW, ?_⟩
    rw [hU]
    exact (((hX.kept (fun a ha hna => hS.2.1 a ha hna)).narrow hA1).moved hW).ad hk
  obtain ⟨c1, c2, c3, c4, c5, c6, wc, c7⟩ := zmeth_at hr
  obtain ⟨u, hu, rfl⟩ := hrep.at hR
  have hcls := zcls_at c7
  have hcls1 : zcn r.2.2.2.2.1 = wc.1 := hcls.1
  have hrecv : ∃ cellB : Cell, H[ad a]? = some cellB ∧ cellB.vm.isStatics = false ∧ s.vm.findClass r.1.cls = some cellB.cls := by
    rw [c2, hcls1]
    exact va_recv hK hP c7 hu
  have hW8 := lv_room (m := m) (pc := pc) (ls := lsM) (rest := (As.map (zv ad)).reverse ++ .ref (ad a) :: rest) (st := rest) hcat
  refine zlaw_go (va_runV (C := r.1.cls) (b := ad a) (As := As.map (zv ad)) (n := As.length) (ws := zUWc r.1 r.2.1 r.2.2.1 r.2.2.2.1) ⟨hx, hb, hml, hown, hts⟩ hM ⟨callB_of As.length hts (zUWc_good c1) rfl rfl rfl (hts _ c6) (hts _ wl) ⟨c4.1, c4.2, ?_⟩ hrm, hts _ wI, hts _ wV⟩ ⟨hblind, hrecv, fun U hU hW => hpre U hU hW⟩ rfl (by simp) hsz rfl hW8 hdg hf) hS hA1 (fun H1 locs1 ad1 tys1 ws1 g1 g2 g3 g4 g5 g6 g7 => kk H1 locs1 ad1 tys1 ws1 g1 g2 g3 g4 (g5.weaken (fun k q _ h => hA1 q.1 h)) (fun wr h1 h2 => zrest h1 h2 g6 g5) g7)
  cases hp : parseMethodDescriptor r.1.desc with
  | none => exact absurd hp (zdesc_some hr)
  | some sig =>
    have := c5 sig hp
    rw [hst] at this
    simp at this
    simp
    omega
/-- a constructor of one of the two -/
theorem zlaw_callI {t ix : Nat} {r : zM} {a : Nat} {As : List Value} {R R1 : List zE} {S S1 : zS} {L L1 : zL} {ad adT adV : Nat → Nat} {tys : List (ClassId × FieldType)} {ws : va_W}
    (hx : p.tables.exec = Jvm.exec) (hb : c.code = cc) (hml : c.maxLocals = nL) (hown : s.vm.findClass own = some m.cls) (hts : ∀ w ∈ zUW, w.before args s = true) (hN : zNok s) (hX : zX adT adV A s s.heap) (hA : ∀ q, s.heap.size ≤ q → A q)
    (hr : zmeth[t]? = some r) (hst : r.2.2.2.2.2.1 = false) (hrt : r.2.2.2.1 = none) (hnm : r.1.name = "<init>") (wl : Cond.methodLink own ix r.1 ∈ zUW) (wI : Cond.instanceMethod r.1 ∈ zUW)
    (hrm : r.2.2.2.2.2.2.1 + 1 ≤ Rm.frames ∧ 8 + (r.2.2.1 + 11) + r.2.2.2.2.2.2.2.1 ≤ Rm.locals)
    (hle : (zargs (.ref a :: As)).length ≤ r.2.2.1) (hna : As.length + 1 = r.2.2.2.2.2.2.2.2)
    (hrun : zcall t (.ref a :: As) R S L = some (none, R1, S1, L1)) (hI : ∀ u ∈ (.ref a :: As : List Value), zokv R.length u) (hRi : ∀ e ∈ R, ∀ u ∈ e.2.2, zokv R.length u)
    (hk : zKeep ad adT 0) (hrep : zRep ad tys ws R S L) (hP : va_P D vwCl ws H) (hK : va_K D vwCl tys s) (hD : va_D A ws) (hS : va_S A s.heap H locs)
    (hsz : lsM.size = nL) (hcat : (rest.map fun v => v.category).sum ≤ 8) (hdg : decode cc pc = .ok (.invokespecial ix, 3))
    (hf : cells + (R1.length - R.length) ≤ Rm.cells ∧ slots + (zsz R1 - zsz R) ≤ Rm.slots)
    (kk : ∀ (H1 : Heap) (locs1 : List Loc) (ad1 : Nat → Nat) (tys1 : List (ClassId × FieldType)) (ws1 : va_W), zKeep ad1 ad R.length → zRep ad1 tys1 ws1 R1 S1 L1 → va_P D vwCl ws1 H1 → va_K D vwCl tys1 s → va_D A ws1 → (∀ wr, va_P D vwCl wr H → zDj ws wr → va_P D vwCl wr H1 ∧ zDj ws1 wr) → va_S A s.heap H1 locs1 → W p l e Rm s m args below meth c H1 locs1 (cells + (R1.length - R.length)) (slots + (zsz R1 - zsz R)) Q (F0 m (pc + 3) lsM rest)) :
    W p l e Rm s m args below meth c H locs cells slots Q (F0 m pc lsM ((As.map (zv ad)).reverse ++ .ref (ad a) :: rest)) := by
  obtain ⟨n, hz⟩ := zgo_iff.mp hrun
  have hM := zmet (zsound n) hz hr hle hI hRi l D ad adV tys ws H.size hrep
  have hblind := zPre_blind (D := D) (ad := ad) (adV := adV) (tys := tys) (ws := ws) (sz := H.size) (as := .ref a :: As)
  have hA1 : ∀ q, va_A ws H.size q → A q := zown_in hD hS hA
  have hpre : ∀ U : State, U.heap = H → s.WarmedH U.vm → zPre D ad adV tys ws H.size (.ref a :: As) (((.ref a :: As : List Value)).map (zv ad)).toArray U := by
    intro U hU hW
    refine ⟨rfl, by rw [hU], by rw [hU]; exact hP, va_K.moved hW.alike hK, hD.weaken (fun _ _ _ _ => trivial), hN.warm hW, ?_⟩
    rw [hU]
    exact (((hX.kept (fun a ha hna => hS.2.1 a ha hna)).narrow hA1).moved hW).ad hk
  obtain ⟨c1, c2, c3, c4, c5, c6, wc, c7⟩ := zmeth_at hr
  have hW8 := lv_room (m := m) (pc := pc) (ls := lsM) (rest := (As.map (zv ad)).reverse ++ .ref (ad a) :: rest) (st := rest) hcat
  rw [hrt] at hM c1
  refine zlaw_go (va_runI (b := ad a) (As := As.map (zv ad)) (n := As.length) (ws := zUWc r.1 r.2.1 r.2.2.1 none) ⟨hx, hb, hml, hown, hts⟩ hM ⟨callB_of As.length hts (zUWc_good c1) rfl rfl rfl (hts _ c6) (hts _ wl) ⟨c4.1, c4.2, ?_⟩ hrm, hnm, hts _ wI⟩ ⟨hblind, fun U hU hW => hpre U hU hW⟩ rfl (by simp) hsz rfl hW8 hdg hf) hS hA1 (fun H1 locs1 ad1 tys1 ws1 g1 g2 g3 g4 g5 g6 g7 => kk H1 locs1 ad1 tys1 ws1 g1 g2 g3 g4 (g5.weaken (fun k q _ h => hA1 q.1 h)) (fun wr h1 h2 => zrest h1 h2 g6 g5) g7)
  cases hp : parseMethodDescriptor r.1.desc with
  | none => exact absurd hp (zdesc_some hr)
  | some sig =>
    have := c5 sig hp
    rw [hst] at this
    simp at this
    simp
    omega
end ZLA
