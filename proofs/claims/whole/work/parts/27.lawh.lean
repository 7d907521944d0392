/-! led: the contract of the class's method where it throws, and of the law's own static around it -/
section ZLH
variable {S : zS} {L : zL}
def zrmT : Room := { frames := 12, cells := 1, slots := 6, locals := 400 }
def zrmL : Room := { frames := 13, cells := 1, slots := 6, locals := 430 }
theorem zmt_145 {l : Launch} (hl : l.stackTraces = false) {as : List Value} (hz : ∃ ls, ztoP 48 145 0 (zentry 145 as) [] zRc S L (ls, [], zRc, S, L)) {r : zM} (hr : zmeth[145]? = some r) (hle : (zargs as).length ≤ r.2.2.1) (ha : ∀ v ∈ as, zokv zRc.length v)
    (D : va_G) (ad adV : Nat → Nat) (tys : List (ClassId × FieldType)) (ws : va_W) (sz : Nat) (hrep : zRep ad tys ws zRc S L) :
    vx_Met l r.1 (zUWc r.1 r.2.1 r.2.2.1 r.2.2.2.1) zrmT (zPreT D ad adV tys ws sz as) (fun _ _ _ _ => False) (zXC D ad (va_A ws sz) S L) 1 6 (va_A ws sz) := by
  obtain ⟨c1, c2, c3, c4, c5, c6, wc, c7⟩ := zmeth_at hr
  have hI := zentry_inv (mi := 145) ha zRc_ok
  refine vx_ofW (cc := r.2.1) (maxL := r.2.2.1) (ret := r.2.2.2.1) c3 rfl ?_
  intro p e s m args below meth c s₁ B hml htab hv
  obtain ⟨⟨rfl, hsz, hP, hK, hD0, hN, hX⟩, hDC, hUS, hSS⟩ := hv
  subst hsz
  have hD := hD0.self (sz := s.heap.size)
  have hlc := zentry_loc (ad := ad) hr hle
  have hown : s.vm.findClass (zcn (zown 145)) = some m.cls := by
    have h1 := findClass_of_methodNamed B.named
    rw [c2] at h1
    have h2 : zown 145 = r.2.2.2.2.1 := by simp [zown, hr]
    rw [h2]; exact h1
  have hle2 := zr145_le
  unfold zr145 at hle2
  rw [hr] at hle2
  have hts : ∀ w ∈ zUW, w.before (as.map (zv ad)).toArray s = true := fun w hw => atoms_spec (ws := zUWc r.1 r.2.1 r.2.2.1 r.2.2.2.1) B.pre w (List.mem_cons_of_mem _ hw)
  have C : zCx 145 p l zrmT s m (as.map (zv ad)).toArray meth c (va_A ws s.heap.size) ad adV r.2.2.1 r := by
    refine ⟨hr, B.exec, B.bytes, hml, hown, hts, hN, fun hi => ?_, fun q hq => Or.inr hq, hX, hle2.1, hle2.2, B.returns, B.notSynchronized⟩
    have h1 := (name_of_methodNamed B.named B.method).1
    rw [h1]
    simpa [zinit, hr] using hi
  obtain ⟨ls, n, hzt⟩ := hz
  have own9 : zcn (zown 145) = "SnowWalls" := by decide +kernel
  rw [own9] at hown
  have hW := zth_words hts hDC
  have dec : ∀ {pc len : Nat} {ins : Instr}, zfetch 145 pc = some (ins, len) → decode r.2.1 pc = .ok (ins, len) := fun hf => by
    obtain ⟨q', hq', hdg, -⟩ := zfetch_at hf
    cases hr.symm.trans hq'
    exact hdg
  have K := zto_sound n 48 145 0 (zentry 145 as) [] zRc S L ls [] zRc S L hzt p l e zrmT s m (as.map (zv ad)).toArray below meth c (vx_MQ below (fun _ _ _ _ => False) (zXC D ad (va_A ws s.heap.size) S L) (as.map (zv ad)).toArray s 1 6 (va_A ws s.heap.size)) D (va_A ws s.heap.size) ad adV zRc.length (zsz zRc) r.2.2.1 r C hI (by omega) (by omega) (fun H locs cells slots lsM ad1 tys1 ws1 I => by
    obtain ⟨i1, i2, i3, i4, i5, i6, i7, i8, i9⟩ := I
    have e1 : cells = 0 := by omega
    have e2 : slots = 0 := by omega
    subst e1; subst e2
    have hx1 := (hX.1 0 (11, 338, "no such player is out", [110, 111, 32, 115, 117, 99, 104, 32, 112, 108, 97, 121, 101, 114, 32, 105, 115, 32, 111, 117, 116]) rfl).1
    have own10 : zcn 11 = "SnowWalls" := by decide +kernel
    have hx1 : vk_R (zcn 11) 338 "no such player is out" (ad (1000000 + 0)) s := hx1
    rw [own10] at hx1
    exact zth_throw (text := "no such player is out") (sa := ad (1000000 + 0)) (ik := 336) (is := 338) (ic := 340) (A := va_A ws s.heap.size) B.exec B.bytes hl hown (hW _ List.mem_cons_self) (hW _ (List.mem_cons_of_mem _ List.mem_cons_self)) hx1 (fun w hw => hW w (List.mem_cons_of_mem _ (List.mem_cons_of_mem _ hw))) (fun w hw => List.all_eq_true.mp zth_ot w hw)
      hUS hSS i8 (i9.1.trans hml.symm) (dec (by decide +kernel : zfetch 145 48 = some (.new 336, 3))) (dec (by decide +kernel : zfetch 145 51 = some (.dup, 1))) (dec (by decide +kernel : zfetch 145 52 = some (.ldc_w 338, 3))) (dec (by decide +kernel : zfetch 145 55 = some (.invokespecial 340, 3))) (dec (by decide +kernel : zfetch 145 58 = some (.athrow, 1)))
      (fun x hx => (htab x hx).elim) (by decide) (show 0 + (13 * (2 + 1) + 43) ≤ 400 by decide) (by decide) (by decide) B.notSynchronized
      (fun t hal h1 h2 => ⟨rfl, ad1, tys1, ws1, i3, i4, i5.kept (fun k q hq => h2 q.1 (i5 k q hq).lt), va_K.moved hal i6, i7, Nat.le_trans i8.1 h1, fun q a b => (h2 q (Nat.lt_of_lt_of_le a i8.1)).trans (i8.2.1 q a b)⟩)
      i8.2.2 (by decide) (by decide))
  have := K s.heap [] 0 0 _ ad tys ws ⟨Nat.zero_add _, Nat.zero_add _, fun _ _ => rfl, hrep, hP, hK, hD, va_S.rf, hlc⟩
  rw [lg_entry_eq]
  exact this
end ZLH
