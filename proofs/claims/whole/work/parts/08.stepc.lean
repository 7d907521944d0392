section ZC
variable {p : Program} {l : Launch} {e : Env} {Rm : Room} {s : State} {m : MethodId} {args : Array Value} {below : List Frame} {meth : Method} {c : Code} {Q : State → Prop} {cc : ByteArray} {D : va_G} {A : Nat → Prop} {ad0 adV : Nat → Nat} {r0 z0 nL : Nat}
variable {pc pc' n mi : Nat} {ls st ls' st' : List Value} {R R' : List zE} {S S' : zS} {L L' : zL}
theorem zald_sim {tag : Nat} (hs : zaldI tag (pc + 1) ls st R S L = some (pc', ls', st', R', S', L'))
    (rule : ∀ (H : Heap) (locs : List Loc) (cells slots : Nat) (lsM : Array Slot) (rest : List Value) (tys : List (ClassId × FieldType)) (ws : va_W) (a x n : Nat) (i : Int32) (ad : Nat → Nat) (u : va_E) (fs : List Value), va_K D vwCl tys s → va_P D vwCl ws H → ws[a]? = some (x, u) → zent ad tys S L a (tag, n, fs) u → vp_in i n → W p l e Rm s m args below meth c H locs cells slots Q (F0 m (pc + 1) lsM (.int (S a i.toNatClampNeg) :: rest)) → W p l e Rm s m args below meth c H locs cells slots Q (F0 m pc lsM (.int i :: .ref x :: rest)))
    (k : zGo p l e Rm s m args below meth c Q D A ad0 r0 z0 nL pc' ls' st' R' S' L') : zGo p l e Rm s m args below meth c Q D A ad0 r0 z0 nL pc ls st R S L := by
  intro H locs cells slots lsM ad tys ws I
  unfold zaldI at hs
  split at hs
  · rename_i i a st1
    split at hs
    · rename_i m1 hm
      split at hs
      · cases hs
      · rename_i hin
        cases hs
        obtain ⟨fs, hR⟩ := zlen_at hm
        obtain ⟨u, hu, he⟩ := I.2.2.2.1.at hR
        exact rule H locs cells slots lsM _ tys ws a (ad a) m1 i ad u fs I.2.2.2.2.2.1 I.2.2.2.2.1 hu he hin (k H locs cells slots lsM ad tys ws I)
    · cases hs
  · cases hs
theorem zast_sim {tag : Nat} {f : Int32 → Int32} (hs : zastI tag (pc + 1) f ls st R S L = some (pc', ls', st', R', S', L'))
    (rule : ∀ (H : Heap) (locs : List Loc) (cells slots : Nat) (lsM : Array Slot) (rest : List Value) (tys : List (ClassId × FieldType)) (ws : va_W) (a x n : Nat) (i v : Int32) (ad : Nat → Nat) (u : va_E) (fs : List Value), va_K D vwCl tys s → va_P D vwCl ws H → va_D A ws → va_S A s.heap H locs → ws[a]? = some (x, u) → zent ad tys S L a (tag, n, fs) u → vp_in i n →
      (∀ (u' : va_E) (H1 : Heap) (locs1 : List Loc), zent ad tys (zup S a i.toNatClampNeg (f v)) L a (tag, n, fs) u' → va_P D vwCl (ws.set a (x, u')) H1 → va_D A (ws.set a (x, u')) → va_S A s.heap H1 locs1 → W p l e Rm s m args below meth c H1 locs1 cells slots Q (F0 m (pc + 1) lsM rest)) → W p l e Rm s m args below meth c H locs cells slots Q (F0 m pc lsM (.int v :: .int i :: .ref x :: rest)))
    (k : zGo p l e Rm s m args below meth c Q D A ad0 r0 z0 nL pc' ls' st' R' S' L') : zGo p l e Rm s m args below meth c Q D A ad0 r0 z0 nL pc ls st R S L := by
  intro H locs cells slots lsM ad tys ws I
  obtain ⟨h1, h2, h3, h4, h5, h6, h7, h8, h9⟩ := I
  unfold zastI at hs
  split at hs
  · rename_i v i a st1
    split at hs
    · rename_i m1 hm
      split at hs
      · cases hs
      · rename_i hin
        cases hs
        obtain ⟨fs, hR⟩ := zlen_at hm
        obtain ⟨u, hu, he⟩ := h4.at hR
        refine rule H locs cells slots lsM _ tys ws a (ad a) m1 i v ad u fs h6 h5 h7 h8 hu he hin (fun u' H1 locs1 q0 q1 q2 q3 => ?_)
        have := h4.upd hR q0 (fun j hj => ⟨zup_other hj, rfl⟩)
        rw [zset_self hR] at this
        exact k H1 locs1 cells slots lsM ad tys _ ⟨h1, h2, h3, this, q1, h6, q2, q3, h9⟩
    · cases hs
  · cases hs
/-- making a place: what stands behind it -/
theorem zIn.new {H H1 : Heap} {locs : List Loc} {cells slots : Nat} {lsM : Array Slot} {ad : Nat → Nat} {tys tys' : List (ClassId × FieldType)} {ws : va_W} {e1 : zE} {q : Nat} {u : va_E} (hI : zinv R ls st) (hlt : R.length < 500000) (I : zIn D A s H locs cells slots r0 z0 nL ad0 ls R S L lsM ad tys ws) (hz : zesz e1 = n)
    (hu : zent (zad ad R.length q) tys' (zclr 0 S R.length) (zclr 0 L R.length) R.length e1 u) (ht : ∀ (i : Nat) (x : ClassId × FieldType), tys[i]? = some x → tys'[i]? = some x) (hK : va_K D vwCl tys' s) (hP : va_P D vwCl (ws ++ [(q, u)]) H1) (hD : va_D A (ws ++ [(q, u)])) (hS : va_S A s.heap H1 locs) :
    zIn D A s H1 locs (cells + 1) (slots + n) r0 z0 nL ad0 ls (R ++ [e1]) (zclr 0 S R.length) (zclr 0 L R.length) lsM (zad ad R.length q) tys' (ws ++ [(q, u)]) := by
  obtain ⟨h1, h2, h3, h4, h5, h6, h7, h8, h9⟩ := I
  refine ⟨by rw [List.length_append, ← h1]; simp; omega, by rw [zsz_app, hz, ← h2]; omega, ((zad_keep hlt).le (by rw [← h1]; omega)).trans h3, h4.new hlt hI.2.2 (fun k hk => ⟨zclr_other hk, zclr_other hk⟩) ht hu, hP, hK, hD, hS, h9.keep (zad_keep hlt) hI.1⟩
theorem zfs_zero {ad : Nat → Nat} {k ci : Nat} : zfs ad (zclr 0 S k) (zclr 0 L k) k (zdefs ci) = zdefs ci := by
  unfold zfs
  apply List.ext_getElem?
  intro j
  rw [List.getElem?_mapIdx]
  cases hj : (zdefs ci)[j]? with
  | none => rfl
  | some v =>
    rcases zdefs_ok v (List.mem_of_getElem? hj) with rfl | rfl | rfl <;> simp [zfv, zv, zclr]
theorem znt_mem {own ix ci : Nat} (h : znew own ix = some ci) : (own, ix, ci) ∈ znt := by
  unfold znew at h
  split at h
  · rename_i e he
    have h1 := List.mem_of_find?_eq_some he
    have h2 := List.find?_some he
    simp only [Bool.and_eq_true, beq_iff_eq] at h2
    obtain ⟨a, b, q⟩ := e
    cases h
    obtain ⟨rfl, rfl⟩ := h2
    exact h1
  · cases h
theorem znt_all : znt.all (fun e => decide (e.2.2 ∈ zwN) && decide (e.2.2 ∈ zwB) && decide (e.2.2 < 14)) = true := by decide +kernel
theorem znew_sim (hx : p.tables.exec = Jvm.exec) (hb : c.code = cc) (hown : s.vm.findClass (zcn (zown mi)) = some m.cls) (hts : ∀ w ∈ zUW, w.before args s = true) (hA : ∀ q, s.heap.size ≤ q → A q) (hI : zinv R ls st) {ix ci : Nat} (hn : znew (zown mi) ix = some ci) (hlt : R.length < 500000) (hc : R.length + 1 ≤ Rm.cells + r0) (hz : zsz R + (zdefs ci).length ≤ Rm.slots + z0) (hdg : decode cc pc = .ok (.new ix, 3))
    (kk : zGo p l e Rm s m args below meth c Q D A ad0 r0 z0 nL (pc + 3) ls (.ref R.length :: st) (R ++ [(0, ci, zdefs ci)]) (zclr 0 S R.length) (zclr 0 L R.length)) : zGo p l e Rm s m args below meth c Q D A ad0 r0 z0 nL pc ls st R S L := by
  intro H locs cells slots lsM ad tys ws I
  have hI' := I
  obtain ⟨h1, h2, h3, h4, h5, h6, h7, h8, h9⟩ := I
  have hm := znt_mem hn
  have h99 := List.all_eq_true.mp znt_all _ hm
  simp only [Bool.and_eq_true, decide_eq_true_eq] at h99
  obtain ⟨⟨C, T, N⟩, hq⟩ := zcls_ex h99.2
  obtain ⟨q1, q2, q3, q4, q5, q6⟩ := zcls_at hq
  have w1 := hts _ (znt_in _ hm)
  have w2 := hts _ (zwB_in _ h99.1.2)
  have w3 := hts _ (zwN_in _ h99.1.1)
  have hN : (zdefs ci).length = N := zdefs_len hq
  simp only [q1, hN] at w1 w2 w3
  rw [hN] at hz
  refine va_new (D := D) (C := C) (T := T) (N := N) (ci := ci) (fs := zdefs ci) hx hb hts q3 (zty ci) q4 hown w1 w2 w3 h6 h5 h7 h8 hA hq (fun j hj => ?_) (by omega) (by omega) hdg (fun q H1 g1 g2 g3 => ?_)
  · rw [q6 j hj, q2]
    simp [vp_V, hj]
  · have := kk H1 locs (cells + 1) (slots + N) lsM (zad ad R.length q) tys (ws ++ [(q, .inr (ci, zdefs ci))]) (zIn.new hI hlt hI' (by simp [zesz, hN]) (by show _ = _; rw [zfs_zero]) (fun _ _ h => h) h6 g1 g2 g3)
    rw [List.map_cons, (zad_keep hlt).map hI.2.1] at this
    have e : zv (zad ad R.length q) (.ref R.length) = .ref q := by simp [zv, zad]
    rw [e] at this
    exact this
theorem zarr_new {ad : Nat → Nat} {tys : List (ClassId × FieldType)} {cA : ClassId} {ty : FieldType} : (tys ++ [(cA, ty)])[tys.length]? = some (cA, ty) := by
  rw [List.getElem?_append_right (Nat.le_refl _), Nat.sub_self]; rfl
theorem zclr_row {α : Type} {z : α} {S : Nat → Nat → α} {k : Nat} : zclr z S k k = fun _ => z := by
  funext j; simp [zclr]
theorem znewa_sim (hx : p.tables.exec = Jvm.exec) (hb : c.code = cc) (hts : ∀ w ∈ zUW, w.before args s = true) (hA : ∀ q, s.heap.size ≤ q → A q) {t : ArrayType} {tag : Nat} {k : Int32} (hI : zinv R ls (.int k :: st)) (htag : zatag t = some tag) (hlt : R.length < 500000) (hk : ¬ k < 0) (hk2 : k.toNatClampNeg ≤ 65536) (hc : R.length + 1 ≤ Rm.cells + r0) (hz : zsz R + k.toNatClampNeg ≤ Rm.slots + z0) (hdg : decode cc pc = .ok (.newarray t, 2))
    (kk : zGo p l e Rm s m args below meth c Q D A ad0 r0 z0 nL (pc + 2) ls (.ref R.length :: st) (R ++ [(tag, k.toNatClampNeg, [])]) (zclr 0 S R.length) (zclr 0 L R.length)) : zGo p l e Rm s m args below meth c Q D A ad0 r0 z0 nL pc ls (.int k :: st) R S L := by
  intro H locs cells slots lsM ad tys ws I
  have hI' := I
  obtain ⟨h1, h2, h3, h4, h5, h6, h7, h8, h9⟩ := I
  have fin : ∀ (q : Nat) (cA : ClassId) (H1 : Heap) (ty : FieldType) (u : vp_A), zesz (tag, k.toNatClampNeg, []) = k.toNatClampNeg → zent (zad ad R.length q) (tys ++ [(cA, ty)]) (zclr 0 S R.length) (zclr 0 L R.length) R.length (tag, k.toNatClampNeg, []) (.inl (cA, u)) → va_K D vwCl (tys ++ [(cA, ty)]) s → va_P D vwCl (ws ++ [(q, .inl (cA, u))]) H1 → va_D A (ws ++ [(q, .inl (cA, u))]) → va_S A s.heap H1 locs → W p l e Rm s m args below meth c H1 locs (cells + 1) (slots + k.toNatClampNeg) Q (F0 m (pc + 2) lsM (.ref q :: st.map (zv ad))) := by
    intro q cA H1 ty u hz1 hu gk g1 g2 g3
    have := kk H1 locs (cells + 1) (slots + k.toNatClampNeg) lsM (zad ad R.length q) (tys ++ [(cA, ty)]) (ws ++ [(q, .inl (cA, u))]) (zIn.new hI hlt hI' hz1 hu (fun i x h => by rw [List.getElem?_append_left (List.getElem?_eq_some_iff.mp h).1]; exact h) gk g1 g2 g3)
    rw [List.map_cons, (zad_keep hlt).map hI.pop.2.1] at this
    have e : zv (zad ad R.length q) (.ref R.length) = .ref q := by simp [zv, zad]
    rw [e] at this
    exact this
  rw [List.map_cons]
  cases t <;> simp only [zatag] at htag <;> cases htag
  · exact va_newa (atype := .boolean) (ty := .boolean) (a0 := (k.toNatClampNeg, .inl (fun _ => 0))) hx hb (hts _ zJ3) rfl h6 h5 h7 h8 hA (fun cA => rfl) hk rfl (by show k.toNatClampNeg * 1 ≤ _; omega) (by omega) (by omega) hdg (fun q cA H1 gk g1 g2 g3 => fin q cA H1 _ _ (by simp [zesz]) ⟨cA, tys.length, zarr_new (ad := ad), by rw [zclr_row]⟩ gk g1 g2 g3)
  · exact va_newa (atype := .byte) (ty := .byte) (a0 := (k.toNatClampNeg, .inl (fun _ => 0))) hx hb (hts _ zJ2) rfl h6 h5 h7 h8 hA (fun cA => rfl) hk rfl (by show k.toNatClampNeg * 1 ≤ _; omega) (by omega) (by omega) hdg (fun q cA H1 gk g1 g2 g3 => fin q cA H1 _ _ (by simp [zesz]) ⟨cA, tys.length, zarr_new (ad := ad), by rw [zclr_row]⟩ gk g1 g2 g3)
  · exact va_newa (atype := .int) (ty := .int) (a0 := (k.toNatClampNeg, .inl (fun _ => 0))) hx hb (hts _ zJ0) rfl h6 h5 h7 h8 hA (fun cA => rfl) hk rfl (by show k.toNatClampNeg * 4 ≤ _; omega) (by omega) (by omega) hdg (fun q cA H1 gk g1 g2 g3 => fin q cA H1 _ _ (by simp [zesz]) ⟨cA, tys.length, zarr_new (ad := ad), by rw [zclr_row]⟩ gk g1 g2 g3)
  · exact va_newa (atype := .long) (ty := .long) (a0 := (k.toNatClampNeg, .inr (.inl (fun _ => 0)))) hx hb (hts _ zJ1) rfl h6 h5 h7 h8 hA (fun cA => rfl) hk rfl (by show k.toNatClampNeg * 8 ≤ _; omega) (by omega) (by omega) hdg (fun q cA H1 gk g1 g2 g3 => fin q cA H1 _ _ (by simp [zesz]) ⟨cA, tys.length, zarr_new (ad := ad), by rw [zclr_row]⟩ gk g1 g2 g3)
theorem zat_mem {own ix : Nat} (h : zaar own ix = true) : (own, ix) ∈ zat := by
  unfold zaar at h
  obtain ⟨x, h1, h2⟩ := List.any_eq_true.mp h
  simp only [Bool.and_eq_true, beq_iff_eq] at h2
  obtain ⟨a, b⟩ := x
  obtain ⟨rfl, rfl⟩ := h2
  exact h1
theorem znewq_sim (hx : p.tables.exec = Jvm.exec) (hb : c.code = cc) (hown : s.vm.findClass (zcn (zown mi)) = some m.cls) (hts : ∀ w ∈ zUW, w.before args s = true) (hN : zNok s) (hA : ∀ q, s.heap.size ≤ q → A q) {ix : Nat} {k : Int32} (hI : zinv R ls (.int k :: st)) (har : zaar (zown mi) ix = true) (hlt : R.length < 500000) (hk : ¬ k < 0) (hk2 : k.toNatClampNeg ≤ 65536) (hc : R.length + 1 ≤ Rm.cells + r0) (hz : zsz R + k.toNatClampNeg ≤ Rm.slots + z0) (hdg : decode cc pc = .ok (.anewarray ix, 3))
    (kk : zGo p l e Rm s m args below meth c Q D A ad0 r0 z0 nL (pc + 3) ls (.ref R.length :: st) (R ++ [(5, k.toNatClampNeg, List.replicate k.toNatClampNeg .null)]) (zclr 0 S R.length) (zclr 0 L R.length)) : zGo p l e Rm s m args below meth c Q D A ad0 r0 z0 nL pc ls (.int k :: st) R S L := by
  intro H locs cells slots lsM ad tys ws I
  have hI' := I
  obtain ⟨h1, h2, h3, h4, h5, h6, h7, h8, h9⟩ := I
  rw [List.map_cons]
  have w1 := hts _ (zat_in _ (zat_mem har))
  refine va_newq (C := RX2) hx hb hown w1 hN.2.2 h6 h5 h7 h8 hA hk rfl (by omega) (by omega) (by omega) hdg (fun q cA H1 gk g1 g2 g3 => ?_)
  have := kk H1 locs (cells + 1) (slots + k.toNatClampNeg) lsM (zad ad R.length q) (tys ++ [(cA, .object RX2)]) (ws ++ [(q, .inl (cA, _))]) (zIn.new hI hlt hI' (by simp [zesz]) ⟨by simp, cA, tys.length, zarr_new (ad := ad), by
    congr 7
    funext j
    by_cases hj : j < k.toNatClampNeg <;> simp [zrf, List.getElem?_replicate, hj]⟩ (fun i x h => by rw [List.getElem?_append_left (List.getElem?_eq_some_iff.mp h).1]; exact h) gk g1 g2 g3)
  rw [List.map_cons, (zad_keep hlt).map hI.pop.2.1] at this
  have e : zv (zad ad R.length q) (.ref R.length) = .ref q := by simp [zv, zad]
  rw [e] at this
  exact this
end ZC
