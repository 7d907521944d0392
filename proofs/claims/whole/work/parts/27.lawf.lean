/-! led: thrown by the class -/
section ZLF
def zthX : String := "java/util/NoSuchElementException"
def zthR : ByteArray := prog_28_method_4_code
theorem zthR_0 : decode zthR 0 = .ok (.aload_n 0, 1) := by decide +kernel
theorem zthR_1 : decode zthR 1 = .ok (.aload_n 1, 1) := by decide +kernel
theorem zthR_2 : decode zthR 2 = .ok (.invokespecial 13, 3) := by decide +kernel
theorem zthR_5 : decode zthR 5 = .ok (.return_, 1) := by decide +kernel
def zthT (own : String) (ic : Nat) : List Cond :=
  [.methodLink own ic (Bundle.initS zthX), .instantiable zthX 6, .castable zthX zthX, .selects zthX Bundle.tFill0 Bundle.tFill0, .selects zthX Bundle.tFill Bundle.tFill,
   .lays zthX Bundle.tN "cause" "Ljava/lang/Throwable;", .lays zthX Bundle.tN "stackTrace" Bundle.steD, .lays zthX Bundle.tN "suppressedExceptions" Bundle.listD, .lays zthX Bundle.tN "detailMessage" "Ljava/lang/String;",
   .isRef (.static Bundle.tN "UNASSIGNED_STACK" Bundle.steD), .isRef (.static Bundle.tN "SUPPRESSED_SENTINEL" Bundle.listD),
   .fieldLink Bundle.tN 198 Bundle.tN "backtrace" "Ljava/lang/Object;", .lays Bundle.tN Bundle.tN "backtrace" "Ljava/lang/Object;", .lays zthX Bundle.tN "backtrace" "Ljava/lang/Object;"]
/-- her words: the chain with the class's own link -/
def zthA (own : String) (ic : Nat) : List Cond :=
  Bundle.throwableAtoms ++ (Bundle.throwableSAtoms ++ (Bundle.passSAtoms zthX "java/lang/RuntimeException" 13 zthR ++ (Bundle.chainSAtoms "java/lang/RuntimeException" ["java/lang/Exception"] ++ zthT own ic)))
def zthW : List Cond := .classLink "SnowWalls" 336 zthX :: .initialized zthX :: (zthA "SnowWalls" 340).filter vx_no
def zthB : List Cond := [.declares (Bundle.initS "java/lang/RuntimeException"), .declares (Bundle.initS "java/lang/Exception"), .declares (Bundle.initS Bundle.tN), .castable zthX zthX]
set_option maxRecDepth 100000 in
theorem zth_ot : zthW.all vx_ot = true := by decide +kernel
set_option maxRecDepth 100000 in
theorem zth_in : zthW.all (fun w => decide (w ∈ lw_tbl)) = true := by decide +kernel
set_option maxRecDepth 100000 in
theorem zth_bad : zthW.all (fun w => goodWord w || decide (w ∈ zthB)) = true := by decide +kernel
set_option maxRecDepth 100000 in
theorem zthB_in : zthB.all (fun w => decide (w ∈ lw_tbl) && w.onTables) = true := by decide +kernel
theorem zth_fit : Bundle.fit zthX = true ∧ Bundle.fit "java/lang/RuntimeException" = true ∧ Bundle.fit "java/lang/Exception" = true := by decide +kernel
/-- the words of hers that are no good ones -/
def zDC (U : State) : Prop := ∀ w ∈ zthB, va_Nw w U
theorem zDC.same {s U : State} (hv : s.vm = U.vm) (h : zDC s) : zDC U := fun w hw => va_Nw.same (by have := List.all_eq_true.mp zthB_in w hw; rw [Bool.and_eq_true] at this; exact this.2) hv (h w hw)
theorem zDC.warm {s U : State} (hW : s.WarmedH U.vm) (h : zDC s) : zDC U := by
  intro w hw
  have h1 := h w hw
  have hw1 : w ∈ ([.declares (Bundle.initS "java/lang/RuntimeException"), .declares (Bundle.initS "java/lang/Exception"), .declares (Bundle.initS Bundle.tN), .castable zthX zthX] : List Cond) := hw
  rcases List.mem_cons.mp hw1 with rfl | hw1
  · exact va_Nw.warmD hW h1
  rcases List.mem_cons.mp hw1 with rfl | hw1
  · exact va_Nw.warmD hW h1
  rcases List.mem_cons.mp hw1 with rfl | hw1
  · exact va_Nw.warmD hW h1
  rcases List.mem_cons.mp hw1 with rfl | hw1
  · exact va_Nw.warmC hW h1
  cases hw1
theorem zDC_of {args : Array Value} {s : State} (h : ∀ w ∈ lw_tbl, w.before args s = true) : zDC s := fun w hw => by
  have := List.all_eq_true.mp zthB_in w hw
  rw [Bool.and_eq_true, decide_eq_true_eq] at this
  exact va_Nw.of this.2 (h w this.1)
theorem zth_words {args : Array Value} {s : State} (hts : ∀ w ∈ zUW, w.before args s = true) (h : zDC s) : ∀ w ∈ zthW, w.before args s = true := by
  intro w hw
  have h1 := List.all_eq_true.mp zth_bad w hw
  have h2 := of_decide_eq_true (List.all_eq_true.mp zth_in w hw)
  rw [Bool.or_eq_true, decide_eq_true_eq] at h1
  rcases h1 with h1 | h1
  · exact hts w (List.mem_filter.mpr ⟨h2, h1⟩)
  · have := List.all_eq_true.mp zthB_in w h1
    rw [Bool.and_eq_true] at this
    exact va_Nw.use this.2 (h w h1)
/-- what a throw asks of a heap -/
def zTX (A : Nat → Prop) (U : State) (H : Heap) : Prop := zDC U ∧ vx_Zq Bundle.tN "UNASSIGNED_STACK" Bundle.steD A U H ∧ vx_Zq Bundle.tN "SUPPRESSED_SENTINEL" Bundle.listD A U H
theorem zTX.warm {A : Nat → Prop} {s U : State} {H : Heap} (hW : s.WarmedH U.vm) (h : zTX A s H) : zTX A U H := ⟨h.1.warm hW, vx_Zq.moved hW.alike h.2.1, vx_Zq.moved hW.alike h.2.2⟩
theorem zTX.same {A : Nat → Prop} {s U : State} {H : Heap} (hv : s.vm = U.vm) (h : zTX A s H) : zTX A U H := by
  have ha : s.vm.Alike U.vm := by rw [hv]; exact Vm.Alike.refl _
  exact ⟨h.1.same hv, vx_Zq.moved ha h.2.1, vx_Zq.moved ha h.2.2⟩
theorem zTX.kept {A : Nat → Prop} {s : State} {H H1 : Heap} (h : zTX A s H) (hq : ∀ a : Nat, a < H.size → ¬ A a → H1[a]? = H[a]?) : zTX A s H1 := ⟨h.1, h.2.1.kept hq, h.2.2.kept hq⟩
theorem zTX.narrow {A B : Nat → Prop} {s : State} {H : Heap} (h : zTX A s H) (hAB : ∀ q, B q → A q) : zTX B s H := ⟨h.1, h.2.1.narrow hAB, h.2.2.narrow hAB⟩
section ZLF1
variable {p : Program} {l : Launch} {e : Env} {R : Room} {s : State} {m₀ : MethodId} {args : Array Value} {below : List Frame} {meth : Method} {c : Code} {W : State} {locs : List Loc} {cells slots : Nat}
set_option maxHeartbeats 1000000 in
theorem zth_ctor (X : Stand p l e R s m₀ args below meth c W locs cells slots) (hexec : p.tables.exec = Jvm.exec) (htr : e.platform.stackTraces = false) {own : String} {ic : Nat}
    (hown : s.vm.findClass own = some m₀.cls) (h : ∀ a ∈ zthA own ic, a.before args s = true)
    (hlocs : ∀ x ∈ locs, ∀ cell, s.heap[x.base]? = some cell → cell.vm.isStatics = false)
    {a : Addr} {cX : ClassId} {kX : Class} (hfoundX : s.vm.findClass zthX = some cX) (hkX : s.vm.classes[cX]? = some kX) (hcell : W.heap[a]? = some (freshCell cX kX)) (hnew : s.heap.size ≤ a)
    {msg : Value} (hmsg : msg.isRef = true)
    {g : JFrame} (hg : g.method = m₀) (hsize : g.locals.size = c.maxLocals) (hlocked : g.locked = none) (hentered : g.entered = []) {rest : List Value} (hstack : g.stack = msg :: .ref a :: .ref a :: rest)
    (hd6 : decode c.code g.pc = .ok (.invokespecial ic, 3)) (hd9 : decode c.code (g.pc + 3) = .ok (.athrow, 1)) (hout : ∀ x ∈ c.exceptionTable.toList, covers x (g.pc + 3) = false)
    (hRframes : 5 < R.frames) (hRlocals : 2 * g.monitorRoom + ((Value.ref a :: rest).map fun v => v.category).sum + (13 * (2 + 1) + 42) ≤ R.locals) (hlocks : meth.locks = false) :
    ∃ U : State, Steps p.tables e below (W.setTop g) U ∧ U.status = .running ∧ Ended U below (.threw a) ∧ s.WarmedH U.vm ∧ s.sameButNew ({ U with vm := s.vm } : State) locs cells slots ∧
      ∃ ce, U.heap[a]? = some ce ∧ s.vm.findClass zthX = some ce.cls ∧ ce.vm = .none := by
  have howns : e.platform.frameOwnsMonitors = true := by rw [X.admits.platform]
  have hfin : e.platform.finalization = false := by rw [X.admits.platform]
  have hpl : e.platform.magicAccessors = ({} : Platform).magicAccessors := by rw [X.admits.platform]
  have h0 : ∀ x ∈ Bundle.throwableAtoms, x.before args s = true := fun x hx => h x (List.mem_append_left _ hx)
  have h1 : ∀ x ∈ Bundle.throwableSAtoms, x.before args s = true := fun x hx => h x (List.mem_append_right _ (List.mem_append_left _ hx))
  have h2 : ∀ x ∈ Bundle.passSAtoms zthX "java/lang/RuntimeException" 13 zthR, x.before args s = true := fun x hx => h x (List.mem_append_right _ (List.mem_append_right _ (List.mem_append_left _ hx)))
  have h3 : ∀ x ∈ Bundle.chainSAtoms "java/lang/RuntimeException" ["java/lang/Exception"], x.before args s = true := fun x hx => h x (List.mem_append_right _ (List.mem_append_right _ (List.mem_append_right _ (List.mem_append_left _ hx))))
  have a' : ∀ x, x ∈ zthT own ic → x.holds args s none s [] = true := fun x hx => h x (List.mem_append_right _ (List.mem_append_right _ (List.mem_append_right _ (List.mem_append_right _ hx))))
  obtain ⟨T, Z0, L, -, Y⟩ := ThrowableC.of_atoms (args := args) howns hfin hpl h0
  obtain ⟨Z, M, LZ, LM, hnZ⟩ := Init0T.ofS_atoms (args := args) hpl L Y h1
  obtain ⟨P1, L1, hP1m, hs1⟩ := PassC.ofS_atoms (args := args) (s := s) hpl (X := zthX) (Y := "java/lang/RuntimeException") (Bundle.fit_spec zth_fit.1).1 (Bundle.fit_spec zth_fit.2.1).2 zthR_0 zthR_1 zthR_2 zthR_5 h2
  obtain ⟨P2, Ps, hlen, L2, hL, hP2m, hsup, hpass⟩ := Bundle.chainS (args := args) hpl hnZ ["java/lang/Exception"] "java/lang/RuntimeException" zth_fit.2.1 (fun n hn => by rw [List.mem_singleton.mp hn]; exact zth_fit.2.2) h3
  have hlink1 : P1.sup = P2.m := Option.some.inj (hs1.symm.trans hP2m)
  have hfound : s.vm.findClass zthX = some P1.m.cls := findClass_of_methodNamed hP1m
  cases Option.some.inj (hfoundX.symm.trans hfound)
  obtain ⟨c1, kX', hc1, hk, hord, -, -, hn6⟩ := Cond.instantiable_spec (a' (.instantiable zthX 6) (by simp [zthT]))
  cases Option.some.inj (hc1.symm.trans hfound)
  cases Option.some.inj (hkX.symm.trans hk)
  have hsel0 : selectMethod e.platform s.vm P1.m.cls T.fill0 = .method T.fill0 := by
    obtain ⟨c2, r2, m2, q1, q2, q3, q4, -⟩ := Cond.selects_spec (a' (.selects zthX Bundle.tFill0 Bundle.tFill0) (by simp [zthT]))
    cases Option.some.inj (q1.symm.trans hfound)
    cases Option.some.inj (q2.symm.trans (State.methodFound?_of_named Y.fill0 (by decide)))
    cases Option.some.inj (q3.symm.trans Y.fill0)
    rw [Launch.admits_selectMethod X.admits]; exact q4
  have hselF : selectMethod e.platform s.vm P1.m.cls T.fill = .method T.fill := by
    obtain ⟨c2, r2, m2, q1, q2, q3, q4, -⟩ := Cond.selects_spec (a' (.selects zthX Bundle.tFill Bundle.tFill) (by simp [zthT]))
    cases Option.some.inj (q1.symm.trans hfound)
    cases Option.some.inj (q2.symm.trans (State.methodFound?_of_named Y.fill (by decide)))
    cases Option.some.inj (q3.symm.trans Y.fill)
    rw [Launch.admits_selectMethod X.admits]; exact q4
  obtain ⟨cellS0, hcS0, hiss⟩ := Y.statics
  obtain ⟨u0, hu0⟩ := Cond.staticRefV Y.unassigned L.unassignedStatic L.statics hcS0 hiss (a' (.isRef (.static Bundle.tN "UNASSIGNED_STACK" Bundle.steD)) (by simp [zthT]))
  obtain ⟨sen, hsen⟩ := Cond.staticRefV Y.sentinel L.sentinelStatic L.statics hcS0 hiss (a' (.isRef (.static Bundle.tN "SUPPRESSED_SENTINEL" Bundle.listD)) (by simp [zthT]))
  obtain ⟨ci198, i198, fB, hk198, hg198, ha198, hsB, -, hnB, htB, hffB⟩ := Cond.ownField (t := .object "java/lang/Object") Y.found L.cls (by decide +kernel) (a' (.fieldLink Bundle.tN 198 Bundle.tN "backtrace" "Ljava/lang/Object;") (by simp [zthT])) (a' (.lays Bundle.tN Bundle.tN "backtrace" "Ljava/lang/Object;") (by simp [zthT])) e.platform hpl
  obtain ⟨cellS, hcS', heS, -, hkeep⟩ := X.same.2.2.2.2.2 T.aS cellS0 hcS0
  have hcellS : W.heap[T.aS]? = some cellS := hcS'
  have hout' : ∀ i, (⟨T.aS, i⟩ : Loc) ∉ locs := fun i hmem => by
    have := hlocs _ hmem cellS0 hcS0
    rw [hiss] at this; cases this
  have hknownS : cellS.vm ≠ .unknown := by
    rw [heS]; intro hu
    rw [show cellS0.vm = .unknown from hu] at hiss
    cases hiss
  have hneS : T.aS ≠ a := Nat.ne_of_lt (Nat.lt_of_lt_of_le (Array.getElem?_eq_some_iff.mp hcS0).1 hnew)
  obtain ⟨iM, hffM⟩ := Y.msg
  obtain ⟨tyC, dC, hdC, hdnC⟩ := Cond.laysAt hfound hk Y.cause (a' (.lays zthX Bundle.tN "cause" "Ljava/lang/Throwable;") (by simp [zthT]))
  obtain ⟨tyS, dS, hdS, hdnS⟩ := Cond.laysAt hfound hk Y.stack (a' (.lays zthX Bundle.tN "stackTrace" Bundle.steD) (by simp [zthT]))
  obtain ⟨tyP, dP, hdP, hdnP⟩ := Cond.laysAt hfound hk Y.supp (a' (.lays zthX Bundle.tN "suppressedExceptions" Bundle.listD) (by simp [zthT]))
  obtain ⟨tyM, dM, hdM, hdnM⟩ := Cond.laysAt hfound hk hffM (a' (.lays zthX Bundle.tN "detailMessage" "Ljava/lang/String;") (by simp [zthT]))
  obtain ⟨tyB, dB, hdB, hdnB⟩ := Cond.laysAt hfound hk hffB (a' (.lays zthX Bundle.tN "backtrace" "Ljava/lang/Object;") (by simp [zthT]))
  have bC := Cond.laysApart hdB hdC hdnB hdnC (by rw [hnB, Y.causeName]; decide)
  have bS := Cond.laysApart hdB hdS hdnB hdnS (by rw [hnB, Y.stackName]; decide)
  have bP := Cond.laysApart hdB hdP hdnB hdnP (by rw [hnB, Y.suppName]; decide)
  have hskip : SkipFacts T e.platform s (fun u => u) u0 ((preparedCellV T.toThrowableT (freshCell P1.m.cls kX) a u0 sen).withEntry W.cur) :=
    ⟨{ ci198 := ci198, i198 := i198, fBack := fB }, ⟨hk198, hg198, ha198, hsB⟩, by
      have := fresh_default (c := P1.m.cls) tyB
      rw [htB] at this
      simpa [preparedCellV, Cell.setSlot, Cell.withEntry, Array.getElem?_setIfInBounds, bC, bS, bP, bC.symm, bS.symm, bP.symm, defaultValue] using this, fun _ _ => rfl⟩
  obtain ⟨tm, methC, cdC, kC, vm₁, hnC, -, -, -, -, -, -, -, hW₁, st1⟩ := Steps.initColdS (tb := p.tables) (e := e) (below := below) (s := s) (U := W) X.here hexec X.warmed hpl hown (t := Bundle.initS zthX) rfl rfl (Bundle.fit_spec zth_fit.1).2
    (a' (.methodLink own ic (Bundle.initS zthX)) (by simp [zthT])) (h2 (.instanceMethod (Bundle.initS zthX)) (by simp [Bundle.passSAtoms])) (bytes := zthR) (maxL := 2) (h2 (.code (Bundle.initS zthX) zthR 2 none) (by simp [Bundle.passSAtoms]))
    (f := g) hg (a := a) (msg := msg) (rest := .ref a :: rest) hstack hd6
  cases Option.some.inj (hnC.symm.trans hP1m)
  have X₁ := X.noted hW₁
  have hlen2 : Ps.length = 1 := hlen
  obtain ⟨vm₂, X₂, st2⟩ := X₁.ctorMessageOffV hexec (g := { g with stack := .ref a :: rest }) hg hsize T L Z LZ M LM (P1 :: P2 :: Ps)
    (fun P hP => by
      rcases List.mem_cons.mp hP with rfl | hP
      · exact L1
      · rcases List.mem_cons.mp hP with rfl | hP
        · exact L2
        · exact hL P hP) ⟨hlink1, hsup, hpass⟩ (u0 := u0) (sen := sen) (self := a) hmsg (cell := freshCell P1.m.cls kX) (cellS := cellS)
    hcell (fun _ => by simp) (by simp) rfl rfl hsel0 hselF hcellS hneS hknownS (by rw [hkeep _ (hout' _)]; exact hu0) (by rw [hkeep _ (hout' _)]; exact hsen)
    (Takes.of_laid hk hord tyC (by rw [Y.causeType]; rfl)) (Takes.of_laid hk hord tyS (by rw [Y.stackType]; exact fits_refV_array _ u0)) (Takes.of_laid hk hord tyP (by rw [Y.suppType]; exact fits_refV_object _ sen))
    (Takes.of_laid hk hord tyM (by rw [Y.msgType]; exact fits_refV_object _ ⟨msg, hmsg⟩)) Y.objLocals hskip htr [] hd6
    (by simp only [List.length_cons, hlen2]; omega) (by simp only [List.length_cons, hlen2]; exact hRlocals)
  obtain ⟨hwalk, hrun, hended, hWU, hsame⟩ := X₂.athrowLeaves hexec (g := { g with stack := .ref a :: rest, pc := g.pc + 3 }) hg hlocked hentered hout (a := a) (rest := rest) rfl hd9
  have hlt : a < ((W.setVm vm₁).setVm vm₂).heap.size := (Array.getElem?_eq_some_iff.mp hcell).1
  have hU := heapAt_setCell_self (s := (W.setVm vm₁).setVm vm₂) (plainBareV T.toThrowableT (freshCell P1.m.cls kX) a u0 sen msg) hlt
  refine ⟨_, st1 _ (fun acts => ?_), hrun, hended, hWU, hsame.weaken (fun y hy hlt' => ?_) (Nat.le_refl _) (Nat.le_refl _), _, hU, hfound, rfl⟩
  · rw [doInvoke_state]
    exact st2 _ hwalk
  · rcases List.mem_append.mp hy with h1 | h1
    · exact h1
    · exfalso
      have hb : y.base = a := by
        simp only [List.mem_cons, List.not_mem_nil, or_false] at h1
        rcases h1 with rfl | rfl | rfl | rfl | rfl <;> rfl
      rw [hb] at hlt'
      exact Nat.not_lt.mpr hnew hlt'
end ZLF1
end ZLF
