/-! fields, arrays, objects: the JVM's rows over the small machine's places -/
theorem zfld_mem {own ix ci k : Nat} {ne : Bool} (h : zfld own ix = some (ci, k, ne)) : (own, ix, ci, k, ne) ∈ zft := by
  unfold zfld at h
  split at h
  · rename_i e he
    have h1 := List.mem_of_find?_eq_some he
    have h2 := List.find?_some he
    simp only [Bool.and_eq_true, beq_iff_eq] at h2
    obtain ⟨a, b, q⟩ := e
    cases h
    obtain ⟨rfl, rfl⟩ := h2
    exact h1
  · cases h
theorem zftN_all : zftN.all (fun e => e.2.2.2.2 && decide (e.2.2.2.1 < (zdefs e.2.2.1).length)) = true := by decide +kernel
theorem zftA_all : zftA.all (fun e => !e.2.2.2.2 && decide (e.2.2.2.1 < (zdefs e.2.2.1).length)) = true := by decide +kernel
set_option maxRecDepth 100000 in
theorem zcls_all : ((List.range 14).all fun ci => match vwCl[ci]? with
  | some q => decide (zcn ci = q.1) && decide (zdefs ci = (List.range q.2.2).map fun k => zdef (zty ci k)) && (List.range q.2.2).all (fun k => decide ((ci, k) ∈ zwL) && decide (ci ∈ zwN) && decide (ci ∈ zwB) && decide (parseFieldDescriptor (q.2.1 k).2.2.1 = some (zty ci k)) && decide (defaultValue (zty ci k) = zdef (zty ci k)) && (List.range q.2.2).all (fun j => j == k || !((q.2.1 k).2.1 == (q.2.1 j).2.1)))
  | none => false) = true := by decide +kernel
theorem zcls_ex {ci : Nat} (h : ci < 14) : ∃ q, vwCl[ci]? = some q := by
  cases hq : vwCl[ci]? with
  | some q => exact ⟨q, rfl⟩
  | none => exact absurd (List.getElem?_eq_none_iff.mp hq) (by show ¬ 14 ≤ ci; omega)
theorem zcls_at {ci : Nat} {q : vw_C} (h : vwCl[ci]? = some q) : zcn ci = q.1 ∧ zdefs ci = ((List.range q.2.2).map fun k => zdef (zty ci k)) ∧ (∀ w ∈ u_ws q.1 q.2.1 q.2.2, w ∈ zUW) ∧ (∀ k, k < q.2.2 → parseFieldDescriptor (q.2.1 k).2.2.1 = some (zty ci k)) ∧ (∀ a, a < q.2.2 → ∀ b, b < q.2.2 → a ≠ b → (q.2.1 a).2.1 ≠ (q.2.1 b).2.1) ∧ ∀ k, k < q.2.2 → defaultValue (zty ci k) = zdef (zty ci k) := by
  have hlt : ci < 14 := (List.getElem?_eq_some_iff.mp h).1
  have h1 := List.all_eq_true.mp zcls_all ci (List.mem_range.mpr hlt)
  rw [h] at h1
  simp only [Bool.and_eq_true, List.all_eq_true, List.mem_range, decide_eq_true_eq] at h1
  refine ⟨h1.1.1, h1.1.2, fun w hw => ?_, fun k hk => (h1.2 k hk).1.1.2, fun a ha b hb hab he => ?_, fun k hk => (h1.2 k hk).1.2⟩
  · obtain ⟨k, hk, rfl⟩ := List.mem_map.mp hw
    have h2 : u_lay (zcn ci) (fun k => zF ci k) k ∈ zUW := zwL_in (ci, k) (h1.2 k (List.mem_range.mp hk)).1.1.1.1.1
    have h3 : (fun k => zF ci k) = q.2.1 := by funext j; simp [zF, h]
    rw [h1.1.1, h3] at h2
    exact h2
  · have := (h1.2 a ha).2 b hb
    rw [he] at this
    simp at this
    exact hab this.symm
theorem zdefs_len {ci : Nat} {q : vw_C} (h : vwCl[ci]? = some q) : (zdefs ci).length = q.2.2 := by rw [(zcls_at h).2.1]; simp
theorem zdefs_lt {ci k : Nat} (h : k < (zdefs ci).length) : ∃ q, vwCl[ci]? = some q ∧ k < q.2.2 := by
  cases hq : vwCl[ci]? with
  | none => simp [zdefs, hq] at h
  | some q => exact ⟨q, rfl, by rw [← zdefs_len hq]; exact h⟩
/-- the words of the nest, and that of the one array of objects -/
def zNok (s : State) : Prop := (∀ e ∈ zftN, va_Nw (zwdF e) s) ∧ (∀ e ∈ zctN, va_Nw (zwdC e) s) ∧ va_AO RX2 s
theorem zF_decl_all : ((List.range 14).all fun ci => (List.range (zdefs ci).length).all fun k => decide ((zF ci k).1 = zcn ci)) = true := by decide +kernel
theorem zF_decl (ci k : Nat) (h : k < (zdefs ci).length) : (zF ci k).1 = zcn ci := by
  obtain ⟨q, hq, -⟩ := zdefs_lt h
  have := List.all_eq_true.mp zF_decl_all ci (List.mem_range.mpr (List.getElem?_eq_some_iff.mp hq).1)
  exact of_decide_eq_true (List.all_eq_true.mp this k (List.mem_range.mpr h))
section ZB
variable {p : Program} {l : Launch} {e : Env} {Rm : Room} {s : State} {m : MethodId} {args : Array Value} {below : List Frame} {meth : Method} {c : Code} {Q : State → Prop} {cc : ByteArray} {D : va_G} {A : Nat → Prop} {ad0 adV : Nat → Nat} {r0 z0 nL : Nat}
variable {pc pc' n mi : Nat} {ls st ls' st' : List Value} {R R' : List zE} {S S' : zS} {L L' : zL}
theorem zget_sim (hx : p.tables.exec = Jvm.exec) (hb : c.code = cc) (hown : s.vm.findClass (zcn (zown mi)) = some m.cls) (hts : ∀ w ∈ zUW, w.before args s = true) (hN : zNok s) {ix ci k a : Nat} {ne : Bool} {v : Value} {st1 : List Value} (hf : zfld (zown mi) ix = some (ci, k, ne)) (hv : zgetf R S L a ci k = some v) (hdg : decode cc pc = .ok (.getfield ix, 3))
    (kk : zGo p l e Rm s m args below meth c Q D A ad0 r0 z0 nL (pc + 3) ls (v :: st1) R S L) : zGo p l e Rm s m args below meth c Q D A ad0 r0 z0 nL pc ls (.ref a :: st1) R S L := by
  intro H locs cells slots lsM ad tys ws I
  have kk := kk H locs cells slots lsM ad tys ws I
  obtain ⟨h1, h2, h3, h4, h5, h6, h7, h8, h9⟩ := I
  unfold zgetf at hv
  split at hv
  · rename_i cj fs hR
    split at hv
    · rename_i hcj
      subst hcj
      obtain ⟨u, hu, rfl⟩ := h4.at hR
      have hval : ∃ w, fs[k]? = some w ∧ zv ad v = zfv ad S L a k w := by
        split at hv
        · rename_i hk; cases hv; exact ⟨_, hk, rfl⟩
        · rename_i hk; cases hv; exact ⟨_, hk, rfl⟩
        · rename_i hk; cases hv; exact ⟨_, hk, rfl⟩
        · rename_i hk; cases hv; exact ⟨_, hk, rfl⟩
        · cases hv
      obtain ⟨w, hw, hvw⟩ := hval
      have hm := List.mem_append.mp (show _ ∈ zftA ++ zftN from zfld_mem hf)
      have hk9 : k < (zdefs cj).length ∧ (ne = true → (zown mi, ix, cj, k, ne) ∈ zftN) ∧ (ne = false → (zown mi, ix, cj, k, ne) ∈ zftA) := by
        rcases hm with hm | hm
        · have := List.all_eq_true.mp zftA_all _ hm
          simp only [Bool.and_eq_true, decide_eq_true_eq, Bool.not_eq_true'] at this
          exact ⟨this.2, (fun h => by rw [this.1] at h; cases h), fun _ => hm⟩
        · have := List.all_eq_true.mp zftN_all _ hm
          simp only [Bool.and_eq_true, decide_eq_true_eq] at this
          exact ⟨this.2, fun _ => hm, (fun h => by rw [this.1] at h; cases h)⟩
      obtain ⟨⟨C, T, N⟩, hq, hkN⟩ := zdefs_lt hk9.1
      obtain ⟨q1, -, q3, -, -, -⟩ := zcls_at hq
      have hF : zF cj k = T k := by simp [zF, hq]
      rw [List.map_cons] at kk ⊢
      rw [hvw] at kk
      cases ne with
      | true =>
        have hw2 := hN.1 _ (hk9.2.1 rfl)
        simp only [zwdF, hF, if_true] at hw2
        exact va_getN (D := D) (C := C) (T := T) (N := N) (host := "SnowWallsModel") hx hb hts q3 hown h6 h5 a hu hq k hkN (va_Nw.use rfl hw2) (fun _ h => h) (zfs_at hw) hdg kk
      | false =>
        have hw2 := hts _ (zftA_in _ (hk9.2.2 rfl))
        simp only [zwdF, hF] at hw2
        exact va_get (D := D) (C := C) (T := T) (N := N) hx hb hts q3 hown h6 h5 a hu hq k hkN hw2 (fun _ h => h) (zfs_at hw) hdg kk
    · cases hv
  · cases hv
theorem zv_fits {ad : Nat → Nat} {ty : FieldType} {v : Value} : fits ty (zv ad v) = fits ty v := by
  cases v <;> cases ty <;> rfl
theorem zv_narrow {ad : Nat → Nat} {ty : FieldType} {v : Value} (h : narrow ty v = v) : narrow ty (zv ad v) = zv ad v := by
  cases v
  case ref r => cases ty <;> rfl
  all_goals exact h
theorem zput_pic {ad : Nat → Nat} {tys : List (ClassId × FieldType)} {ws : va_W} {a cj k : Nat} {fs : List Value} (h4 : zRep ad tys ws R S L) (hR : R[a]? = some (0, cj, fs)) (hl : k < fs.length) (w : Value) (hw : ∀ (S : zS) (L : zL) (a k : Nat), zfv ad S L a k w = zv ad w) : zRep ad tys (ws.set a (ad a, .inr (cj, (zfs ad S L a fs).set k (zv ad w)))) (R.set a (0, cj, fs.set k w)) S L := by
  refine h4.upd (S' := S) (L' := L) hR (e' := (0, cj, fs.set k w)) ?_ (fun j hj => ⟨rfl, rfl⟩)
  show _ = _
  rw [zfs_put (S' := S) (L' := L) (fs' := fs.set k w) hl (fun j hj => by rw [List.getElem?_set_ne (Ne.symm hj)]) (by simp) ⟨w, List.getElem?_set_self hl, hw S L a k⟩ (fun j _ => rfl) (fun j _ => rfl)]
theorem zput_sim (hx : p.tables.exec = Jvm.exec) (hb : c.code = cc) (hown : s.vm.findClass (zcn (zown mi)) = some m.cls) (hts : ∀ w ∈ zUW, w.before args s = true) (hN : zNok s) (hini : zinit mi = true → meth.name = "<init>") {ix ci k a : Nat} {ne : Bool} {v : Value} (hf : zfld (zown mi) ix = some (ci, k, ne)) (hfin : ¬ (zfin ci k = true ∧ ¬ (zinit mi = true ∧ ci = zown mi ∧ ne = false))) (hv : zputf R S L a ci k v = some (R', S', L')) (hdg : decode cc pc = .ok (.putfield ix, 3))
    (kk : zGo p l e Rm s m args below meth c Q D A ad0 r0 z0 nL (pc + 3) ls st R' S' L') : zGo p l e Rm s m args below meth c Q D A ad0 r0 z0 nL pc ls (v :: .ref a :: st) R S L := by
  intro H locs cells slots lsM ad tys ws I
  obtain ⟨h1, h2, h3, h4, h5, h6, h7, h8, h9⟩ := I
  unfold zputf at hv
  split at hv
  · rename_i cj fs hR
    split at hv
    · rename_i hcj
      obtain ⟨rfl, hfit, hnar⟩ := hcj
      obtain ⟨u, hu, rfl⟩ := h4.at hR
      have hm := List.mem_append.mp (show _ ∈ zftA ++ zftN from zfld_mem hf)
      have hk9 : k < (zdefs cj).length ∧ (ne = true → (zown mi, ix, cj, k, ne) ∈ zftN) ∧ (ne = false → (zown mi, ix, cj, k, ne) ∈ zftA) := by
        rcases hm with hm | hm
        · have := List.all_eq_true.mp zftA_all _ hm
          simp only [Bool.and_eq_true, decide_eq_true_eq, Bool.not_eq_true'] at this
          exact ⟨this.2, (fun h => by rw [this.1] at h; cases h), fun _ => hm⟩
        · have := List.all_eq_true.mp zftN_all _ hm
          simp only [Bool.and_eq_true, decide_eq_true_eq] at this
          exact ⟨this.2, fun _ => hm, (fun h => by rw [this.1] at h; cases h)⟩
      obtain ⟨⟨C, T, N⟩, hq, hkN⟩ := zdefs_lt hk9.1
      obtain ⟨q1, -, q3, q4, q5, -⟩ := zcls_at hq
      have hF : zF cj k = T k := by simp [zF, hq]
      have hfT : zfin cj k = (T k).2.2.2 := by simp [zfin, hq]
      -- the picture behind it
      have hpic : k < fs.length ∧ R'.length = R.length ∧ zsz R' = zsz R ∧ zRep ad tys (ws.set a (ad a, .inr (cj, (zfs ad S L a fs).set k (zv ad v)))) R' S' L' := by
        split at hv
        · rename_i o x hk
          cases hv
          have hl := (List.getElem?_eq_some_iff.mp hk).1
          refine ⟨hl, rfl, rfl, ?_⟩
          have := h4.upd (S' := zup S a k x) (L' := L) hR (e' := (0, cj, fs)) (u' := .inr (cj, (zfs ad S L a fs).set k (.int x))) (by
            show _ = _
            rw [zfs_put (S' := zup S a k x) (L' := L) hl (fun _ _ => rfl) rfl ⟨_, hk, by simp [zfv, zup]⟩ (fun j hj => by simp [zup, hj]) (fun j _ => rfl)]) (fun j hj => ⟨zup_other hj, rfl⟩)
          rw [zset_self hR] at this
          exact this
        · rename_i o x hk
          cases hv
          have hl := (List.getElem?_eq_some_iff.mp hk).1
          refine ⟨hl, rfl, rfl, ?_⟩
          have := h4.upd (S' := S) (L' := zup L a k x) hR (e' := (0, cj, fs)) (u' := .inr (cj, (zfs ad S L a fs).set k (.long x))) (by
            show _ = _
            rw [zfs_put (S' := S) (L' := zup L a k x) hl (fun _ _ => rfl) rfl ⟨_, hk, by simp [zfv, zup]⟩ (fun j _ => rfl) (fun j hj => by simp [zup, hj])]) (fun j hj => ⟨rfl, zup_other hj⟩)
          rw [zset_self hR] at this
          exact this
        · rename_i hk; cases hv; have hl := (List.getElem?_eq_some_iff.mp hk).1; exact ⟨hl, by simp, zsz_set hR (by simp [zesz]), zput_pic h4 hR hl _ (fun _ _ _ _ => rfl)⟩
        · rename_i hk; cases hv; have hl := (List.getElem?_eq_some_iff.mp hk).1; exact ⟨hl, by simp, zsz_set hR (by simp [zesz]), zput_pic h4 hR hl _ (fun _ _ _ _ => rfl)⟩
        · rename_i hk; cases hv; have hl := (List.getElem?_eq_some_iff.mp hk).1; exact ⟨hl, by simp, zsz_set hR (by simp [zesz]), zput_pic h4 hR hl _ (fun _ _ _ _ => rfl)⟩
        · rename_i hk; cases hv; have hl := (List.getElem?_eq_some_iff.mp hk).1; exact ⟨hl, by simp, zsz_set hR (by simp [zesz]), zput_pic h4 hR hl _ (fun _ _ _ _ => rfl)⟩
        · cases hv
      obtain ⟨hl, e1, e2, hrep⟩ := hpic
      have kk2 : ∀ (H1 : Heap) (locs1 : List Loc), va_P D vwCl (ws.set a (ad a, .inr (cj, (zfs ad S L a fs).set k (zv ad v)))) H1 → va_D A (ws.set a (ad a, .inr (cj, (zfs ad S L a fs).set k (zv ad v)))) → va_S A s.heap H1 locs1 → W p l e Rm s m args below meth c H1 locs1 cells slots Q (F0 m (pc + 3) lsM (st.map (zv ad))) :=
        fun H1 locs1 g1 g2 g3 => kk H1 locs1 cells slots lsM ad tys _ ⟨by rw [e1]; exact h1, by rw [e2]; exact h2, h3, hrep, g1, h6, g2, g3, h9⟩
      rw [List.map_cons, List.map_cons]
      have hlz : k < (zfs ad S L a fs).length := by rw [zfs_len]; exact hl
      cases hfb : (T k).2.2.2 with
      | false =>
        cases ne with
        | true =>
          have hw2 := hN.1 _ (hk9.2.1 rfl)
          simp only [zwdF, hF, if_true] at hw2
          exact va_putN (D := D) (C := C) (T := T) (N := N) (host := "SnowWallsModel") hx hb hts q3 (zty cj) q4 q5 hown h6 h5 h7 h8 a hu hq k hkN (va_Nw.use rfl hw2) (fun _ h => h) hfb (q4 k hkN) (zv_narrow hnar) (by rw [zv_fits]; exact hfit) hlz hdg kk2
        | false =>
          have hw2 := hts _ (zftA_in _ (hk9.2.2 rfl))
          simp only [zwdF, hF] at hw2
          exact va_put (D := D) (C := C) (T := T) (N := N) hx hb hts q3 (zty cj) q4 q5 hown h6 h5 h7 h8 a hu hq k hkN hw2 (fun _ h => h) hfb (q4 k hkN) (zv_narrow hnar) (by rw [zv_fits]; exact hfit) hlz hdg kk2
      | true =>
        have h99 : zinit mi = true ∧ cj = zown mi ∧ ne = false := Classical.byContradiction fun h => hfin ⟨by rw [hfT]; exact hfb, h⟩
        obtain ⟨i1, i2, rfl⟩ := h99
        have hw2 := hts _ (zftA_in _ (hk9.2.2 rfl))
        simp only [zwdF, hF] at hw2
        have hdecl : (T k).1 = zcn (zown mi) := by
          have := zF_decl cj k (by rw [zdefs_len hq]; exact hkN)
          rw [hF] at this
          rw [this, i2]
        exact va_putF (D := D) (C := C) (T := T) (N := N) hx hb hts q3 (zty cj) q4 q5 hown h6 h5 h7 h8 a hu hq k hkN hw2 (fun _ h => h) hfb (hini i1) hdecl (q4 k hkN) (zv_narrow hnar) (by rw [zv_fits]; exact hfit) hlz hdg kk2
    · cases hv
  · cases hv
end ZB
