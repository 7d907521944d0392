/-! one instruction of the small machine, whichever: the JVM does it -/
/-- what a method's run stands on -/
def zCx (mi : Nat) (p : Program) (l : Launch) (Rm : Room) (s : State) (m : MethodId) (args : Array Value) (meth : Method) (c : Code) (A : Nat → Prop) (ad0 adV : Nat → Nat) (nL : Nat) (q : zM) : Prop :=
  zmeth[mi]? = some q ∧ p.tables.exec = Jvm.exec ∧ c.code = q.2.1 ∧ c.maxLocals = nL ∧ s.vm.findClass (zcn (zown mi)) = some m.cls ∧ (∀ w ∈ zUW, w.before args s = true) ∧ zNok s ∧ (zinit mi = true → meth.name = "<init>") ∧ (∀ q, s.heap.size ≤ q → A q) ∧ zX ad0 adV A s s.heap ∧ q.2.2.2.2.2.2.1 ≤ Rm.frames ∧ q.2.2.2.2.2.2.2.1 ≤ Rm.locals ∧ meth.sig.returnType = q.2.2.2.1 ∧ meth.locks = false
theorem zcal_mem {own ix k t : Nat} (h : zcal own ix = some (k, t)) : (own, ix, k, t) ∈ zct := by
  unfold zcal at h
  split at h
  · rename_i e he
    have h1 := List.mem_of_find?_eq_some he
    have h2 := List.find?_some he
    simp only [Bool.and_eq_true, beq_iff_eq] at h2
    obtain ⟨a, b, q⟩ := e
    cases h
    obtain ⟨rfl, rfl⟩ := h2
    exact h1
  · cases h
theorem zctN_all : zctN.all (fun e => decide (e.2.2.1 = 3)) = true := by decide +kernel
theorem zctA_all : zctA.all (fun e => !decide (e.2.2.1 = 3)) = true := by decide +kernel
theorem zcal_w {own ix k t : Nat} (h : zcal own ix = some (k, t)) (hk : k ≠ 3) : Cond.methodLink (zcn own) ix (zyt k t) ∈ zUW := by
  rcases List.mem_append.mp (show _ ∈ zctA ++ zctN from zcal_mem h) with h1 | h1
  · have := zctA_in _ h1
    simpa [zwdC, hk] using this
  · exact absurd (of_decide_eq_true (List.all_eq_true.mp zctN_all _ h1)) hk
theorem zcal_n {own ix t : Nat} (h : zcal own ix = some (3, t)) : (own, ix, 3, t) ∈ zctN := by
  rcases List.mem_append.mp (show _ ∈ zctA ++ zctN from zcal_mem h) with h1 | h1
  · have := List.all_eq_true.mp zctA_all _ h1
    simp at this
  · exact h1
theorem zstr_all : zstr.all (fun q => decide (q.2.2.2.length < 100) && q.2.2.2.all (fun b => decide (((b &&& 255).toUInt32 % 65536).toInt32 = b) && decide (narrow .char (.int b) = .int b))) = true := by decide +kernel
theorem ztext_ok {r : Nat} {t : List Int32} (h : ztext r = some t) : ∃ (i : Nat) (q : Nat × Nat × String × List Int32), r = 1000000 + i ∧ zstr[i]? = some q ∧ q.2.2.2 = t ∧ t.length < 2 ^ 31 ∧ ∀ b ∈ t, ((b &&& 255).toUInt32 % 65536).toInt32 = b ∧ narrow .char (.int b) = .int b := by
  unfold ztext at h
  split at h
  · cases h
  · rename_i hr
    split at h
    · rename_i q hq
      cases h
      have h1 := List.all_eq_true.mp zstr_all _ (List.mem_of_getElem? hq)
      simp only [Bool.and_eq_true, decide_eq_true_eq, List.all_eq_true] at h1
      exact ⟨r - 1000000, q, by omega, hq, rfl, by omega, h1.2⟩
    · cases h
section ZM
variable {p : Program} {l : Launch} {e : Env} {Rm : Room} {s : State} {m : MethodId} {args : Array Value} {below : List Frame} {meth : Method} {c : Code} {Q : State → Prop} {D : va_G} {A : Nat → Prop} {ad0 adV : Nat → Nat} {r0 z0 nL : Nat}
variable {pc pc' len n mi : Nat} {ls st ls' st' : List Value} {R R' : List zE} {S S' : zS} {L L' : zL} {q : zM}
theorem zX.text {H : Heap} {locs : List Loc} (hX : zX ad0 adV A s s.heap) (hS : va_S A s.heap H locs) {i : Nat} {q : Nat × Nat × String × List Int32} (h : zstr[i]? = some q) {U : State} (hU : U.heap = H) (hW : s.WarmedH U.vm) : zsX (ad0 (1000000 + i)) (adV i) q.2.2.2 (fun _ => False) U U.heap := by
  obtain ⟨h1, h2, h3⟩ := hX
  obtain ⟨-, g2, g3, g4, g5⟩ := h1 i q h
  rw [hU]
  exact ((zsX.kept (a := ad0 (1000000 + i)) (v := adV i) (t := q.2.2.2) ⟨g2, g3, g4, g5, h2, h3⟩ (fun a ha hna => hS.2.1 a ha hna)).narrow (fun _ h => h.elim)).moved hW.alike
theorem zfl_room (hq : zmeth[mi]? = some q) {k : Nat} (h : zfl mi k = true) (hf : q.2.2.2.2.2.2.1 ≤ Rm.frames) (hl : q.2.2.2.2.2.2.2.1 ≤ Rm.locals) : 1 ≤ Rm.frames ∧ 40 ≤ Rm.locals ∧ (14 ≤ k → 6 ≤ Rm.frames ∧ 120 ≤ Rm.locals) := by
  unfold zfl at h
  rw [hq] at h
  dsimp only at h
  split at h
  · simp only [Bool.and_eq_true, decide_eq_true_eq] at h
    exact ⟨by omega, by omega, fun hk => by omega⟩
  · simp only [Bool.and_eq_true, decide_eq_true_eq] at h
    exact ⟨by omega, by omega, fun hk => ⟨by omega, by omega⟩⟩
theorem zlibI_sim (C : zCx mi p l Rm s m args meth c A ad0 adV nL q) {ix k t : Nat} (hc : zcal (zown mi) ix = some (k, t)) (hfl : zfl mi k = true) (hdg : decode q.2.1 pc = .ok (.invokespecial ix, 3)) (hs : zlibI k (pc + 3) ls st R S L = some (pc', ls', st', R', S', L')) (kk : zGo p l e Rm s m args below meth c Q D A ad0 r0 z0 nL pc' ls' st' R' S' L') : zGo p l e Rm s m args below meth c Q D A ad0 r0 z0 nL pc ls st R S L := by
  obtain ⟨hq, hx, hb, hml, hown, hts, hN, hini, hA, hX, hfr, hlo, hr, hlocks⟩ := C
  intro H locs cells slots lsM ad tys ws I
  unfold zlibI at hs
  split at hs
  · rename_i a st1
    split at hs
    · rename_i hk
      cases hs
      obtain ⟨rfl, hcat⟩ := hk
      have hw := hts _ (zcal_w hc (by decide))
      have rm := zfl_room hq hfl hfr hlo
      have kk := kk H locs cells slots lsM ad tys ws I
      rw [List.map_cons]
      refine W.objInit (a := ad a) hx hb hown hw (hts _ zJ4) (hts _ zJc0) rfl (by rw [hml]; exact I.2.2.2.2.2.2.2.2.1) rfl hdg rm.1 ?_ kk
      have h8 := lv_room (m := m) (pc := pc) (ls := lsM) (rest := zv ad (.ref a) :: st'.map (zv ad)) (st := st'.map (zv ad)) (by rw [zv_cats]; exact hcat)
      have := rm.2.1
      dsimp only [zv] at h8 ⊢
      omega
    · cases hs
  · cases hs
theorem zlibS_sim (C : zCx mi p l Rm s m args meth c A ad0 adV nL q) (hc0 : R.length ≤ Rm.cells + r0) (hz0 : zsz R ≤ Rm.slots + z0) {ix k t : Nat} (hc : zcal (zown mi) ix = some (k, t)) (hfl : zfl mi k = true) (hdg : decode q.2.1 pc = .ok (.invokestatic ix, 3)) (hs : zlibS k (pc + 3) ls st R S L = some (pc', ls', st', R', S', L')) (kk : zGo p l e Rm s m args below meth c Q D A ad0 r0 z0 nL pc' ls' st' R' S' L') : zGo p l e Rm s m args below meth c Q D A ad0 r0 z0 nL pc ls st R S L := by
  obtain ⟨hq, hx, hb, hml, hown, hts, hN, hini, hA, hX, hfr, hlo, hr, hlocks⟩ := C
  intro H locs cells slots lsM ad tys ws I
  unfold zlibS at hs
  split at hs
  · rename_i y x st1
    split at hs
    · rename_i hcat
      have rm := zfl_room hq hfl hfr hlo
      have kk := kk H locs cells slots lsM ad tys ws
      have hsz : c.maxLocals = lsM.size := by rw [hml]; exact I.2.2.2.2.2.2.2.2.1.symm
      have h8 : ((st1.map (zv ad)).map fun v => v.category).sum ≤ 8 := by rw [zv_cats]; exact hcat
      have g1 := I.1
      have g2 := I.2.1
      rw [List.map_cons, List.map_cons]
      split at hs
      · rename_i hk
        subst hk
        cases hs
        exact va_mmax hx hb hsz hown (hts _ (zcal_w hc (by decide))) (hts _ zJ6) (hts _ zJ5) (hts _ zJc1) rm.1 (by omega) (by omega) (by omega) hdg (kk I)
      · split at hs
        · rename_i hk
          subst hk
          cases hs
          exact va_mmin hx hb hsz hown (hts _ (zcal_w hc (by decide))) (hts _ zJ7) (hts _ zJ5) (hts _ zJc2) rm.1 (by omega) (by omega) (by omega) hdg (kk I)
        · cases hs
    · cases hs
  · cases hs
theorem zlibA_sim (C : zCx mi p l Rm s m args meth c A ad0 adV nL q) (hc0 : R.length ≤ Rm.cells + r0) (hz0 : zsz R ≤ Rm.slots + z0) {ix k t : Nat} (hc : zcal (zown mi) ix = some (k, t)) (hfl : zfl mi k = true) (hdg : decode q.2.1 pc = .ok (.invokestatic ix, 3)) (hs : zlibA k (pc + 3) ls st R S L = some (pc', ls', st', R', S', L')) (kk : zGo p l e Rm s m args below meth c Q D A ad0 r0 z0 nL pc' ls' st' R' S' L') : zGo p l e Rm s m args below meth c Q D A ad0 r0 z0 nL pc ls st R S L := by
  obtain ⟨hq, hx, hb, hml, hown, hts, hN, hini, hA, hX, hfr, hlo, hr, hlocks⟩ := C
  intro H locs cells slots lsM ad tys ws I
  unfold zlibA at hs
  split at hs
  · rename_i x st1
    split at hs
    · rename_i hcat
      obtain ⟨rfl, hcat⟩ := hcat
      have rm := zfl_room hq hfl hfr hlo
      have kk := kk H locs cells slots lsM ad tys ws
      have hsz : c.maxLocals = lsM.size := by rw [hml]; exact I.2.2.2.2.2.2.2.2.1.symm
      have h8 : ((st1.map (zv ad)).map fun v => v.category).sum ≤ 8 := by rw [zv_cats]; exact hcat
      have g1 := I.1
      have g2 := I.2.1
      rw [List.map_cons]
      cases hs
      exact va_mabs hx hb hsz hown (hts _ (zcal_w hc (by decide))) (hts _ zJ8) (hts _ zJ5) (hts _ zJc3) rm.1 (by omega) (by omega) (by omega) hdg (kk I)
    · cases hs
  · cases hs
theorem zlibL_sim (C : zCx mi p l Rm s m args meth c A ad0 adV nL q) (hc0 : R.length ≤ Rm.cells + r0) (hz0 : zsz R ≤ Rm.slots + z0) {ix k t : Nat} (hc : zcal (zown mi) ix = some (k, t)) (hfl : zfl mi k = true) (hdg : decode q.2.1 pc = .ok (.invokevirtual ix, 3)) (hs : zlibL k (pc + 3) ls st R S L = some (pc', ls', st', R', S', L')) (kk : zGo p l e Rm s m args below meth c Q D A ad0 r0 z0 nL pc' ls' st' R' S' L') : zGo p l e Rm s m args below meth c Q D A ad0 r0 z0 nL pc ls st R S L := by
  obtain ⟨hq, hx, hb, hml, hown, hts, hN, hini, hA, hX, hfr, hlo, hr, hlocks⟩ := C
  intro H locs cells slots lsM ad tys ws I
  have kk := kk H locs cells slots lsM ad tys ws
  unfold zlibL at hs
  split at hs
  · rename_i r st1
    split at hs
    · rename_i tx htx
      split at hs
      · rename_i hcat
        cases hs
        obtain ⟨rfl, hcat⟩ := hcat
        obtain ⟨i, qs, rfl, hi, rfl, hlen, -⟩ := ztext_ok htx
        have had : ad (1000000 + i) = ad0 (1000000 + i) := I.2.2.1 _ (Or.inr (by omega))
        have rm := (zfl_room hq hfl hfr hlo).2.2 (Nat.le_refl _)
        have hS := I.2.2.2.2.2.2.2.1
        have hT := fun {U : State} (hU : U.heap = H) (hW : s.WarmedH U.vm) => hX.text hS hi hU hW
        obtain ⟨cell, k1, k2, k3, k4⟩ := (hX.1 i qs hi).2.1
        have hlt : ad0 (1000000 + i) < s.heap.size := (Array.getElem?_eq_some_iff.mp k1).1
        have g1 := I.1
        have g2 := I.2.1
        rw [List.map_cons, show zv ad (.ref (1000000 + i)) = .ref (ad0 (1000000 + i)) by simp [zv, had]]
        exact W.callR (g := F0 m pc lsM (.ref (ad0 (1000000 + i)) :: st1.map (zv ad))) (W.runV (As := []) (rest := st1.map (zv ad)) ⟨hx, hb, hml, hown, hts⟩ (zc_length l (ad0 (1000000 + i)) (adV i) qs.2.2.2 hlen) (cwV 0 hts (zgV (zcal_w hc (by decide)) zJ9 zJ12 zJ11 zK_clen) rfl rfl rfl ⟨rfl, by decide, by decide, by decide⟩ ⟨by show 1 + 1 ≤ _; omega, by show 8 + (1 + 11) + 30 ≤ _; omega⟩) ⟨zJP_blind, ⟨cell, by rw [hS.2.1 _ hlt k4]; exact k1, k2, k3⟩, fun U hU hW => ⟨rfl, hT hU hW⟩⟩ rfl rfl (by exact I.2.2.2.2.2.2.2.2.1) (by rfl) (lv_room (by rw [zv_cats]; exact hcat)) hdg ⟨by omega, by omega⟩) (kk I)
      · cases hs
    · cases hs
  · cases hs
theorem zlibC_sim (C : zCx mi p l Rm s m args meth c A ad0 adV nL q) (hc0 : R.length ≤ Rm.cells + r0) (hz0 : zsz R ≤ Rm.slots + z0) {ix k t : Nat} (hc : zcal (zown mi) ix = some (k, t)) (hfl : zfl mi k = true) (hdg : decode q.2.1 pc = .ok (.invokevirtual ix, 3)) (hs : zlibC k (pc + 3) ls st R S L = some (pc', ls', st', R', S', L')) (kk : zGo p l e Rm s m args below meth c Q D A ad0 r0 z0 nL pc' ls' st' R' S' L') : zGo p l e Rm s m args below meth c Q D A ad0 r0 z0 nL pc ls st R S L := by
  obtain ⟨hq, hx, hb, hml, hown, hts, hN, hini, hA, hX, hfr, hlo, hr, hlocks⟩ := C
  intro H locs cells slots lsM ad tys ws I
  have kk := kk H locs cells slots lsM ad tys ws
  unfold zlibC at hs
  split at hs
  · rename_i j r st1
    split at hs
    · rename_i tx htx
      split at hs
      · rename_i hcat
        cases hs
        obtain ⟨rfl, hj, hcat⟩ := hcat
        obtain ⟨i, qs, rfl, hi, rfl, hlen, hb8⟩ := ztext_ok htx
        have had : ad (1000000 + i) = ad0 (1000000 + i) := I.2.2.1 _ (Or.inr (by omega))
        have rm := (zfl_room hq hfl hfr hlo).2.2 (by decide)
        have hS := I.2.2.2.2.2.2.2.1
        have hT := fun {U : State} (hU : U.heap = H) (hW : s.WarmedH U.vm) => hX.text hS hi hU hW
        obtain ⟨cell, k1, k2, k3, k4⟩ := (hX.1 i qs hi).2.1
        have hlt : ad0 (1000000 + i) < s.heap.size := (Array.getElem?_eq_some_iff.mp k1).1
        have g1 := I.1
        have g2 := I.2.1
        rw [List.map_cons, List.map_cons, show zv ad (.ref (1000000 + i)) = .ref (ad0 (1000000 + i)) by simp [zv, had]]
        exact W.callR (g := F0 m pc lsM (.int j :: .ref (ad0 (1000000 + i)) :: st1.map (zv ad))) (W.runV (As := [.int j]) (rest := st1.map (zv ad)) ⟨hx, hb, hml, hown, hts⟩ (zc_charAt l (ad0 (1000000 + i)) (adV i) qs.2.2.2 j (fun h => hj (Or.inl h)) (Nat.lt_of_not_le fun h => hj (Or.inr h)) hlen hb8) (cwV 1 hts (zgV (zcal_w hc (by decide)) zJ10 zJ13 zJ11 zK_cchr) rfl rfl rfl ⟨rfl, by decide, by decide, by decide⟩ ⟨by show 3 + 1 ≤ _; omega, by show 8 + (2 + 11) + 85 ≤ _; omega⟩) ⟨zJP_blind, ⟨cell, by rw [hS.2.1 _ hlt k4]; exact k1, k2, k3⟩, fun U hU hW => ⟨rfl, hT hU hW⟩⟩ rfl rfl (by exact I.2.2.2.2.2.2.2.2.1) (by rfl) (lv_room (by rw [zv_cats]; exact hcat)) hdg ⟨by omega, by omega⟩) (kk I)
      · cases hs
    · cases hs
  · cases hs
end ZM
