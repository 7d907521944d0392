/-! the heap's picture: reading, writing, making -/
theorem zRep.at {ad : Nat → Nat} {tys : List (ClassId × FieldType)} {ws : va_W} {R : List zE} {S : zS} {L : zL} (h : zRep ad tys ws R S L) {k : Nat} {e : zE} (hk : R[k]? = some e) : ∃ u, ws[k]? = some (ad k, u) ∧ zent ad tys S L k e u := h.2 k e hk
theorem zent_congr {ad ad' : Nat → Nat} {tys tys' : List (ClassId × FieldType)} {S S' : zS} {L L' : zL} {k : Nat} {e : zE} {u : va_E} (hS : S' k = S k) (hL : L' k = L k) (had : ∀ v ∈ e.2.2, zv ad' v = zv ad v) (ht : ∀ (i : Nat) (q : ClassId × FieldType), tys[i]? = some q → tys'[i]? = some q) (h : zent ad tys S L k e u) : zent ad' tys' S' L' k e u := by
  obtain ⟨t, n, fs⟩ := e
  have hfs : zfs ad' S' L' k fs = zfs ad S L k fs := by
    unfold zfs
    apply List.ext_getElem?
    intro j
    rw [List.getElem?_mapIdx, List.getElem?_mapIdx]
    cases hj : fs[j]? with
    | none => rfl
    | some v =>
      have hv := had v (List.mem_of_getElem? hj)
      show some _ = some _
      congr 1
      cases v <;> simp_all [zfv]
  have hrf : (fun j : Nat => zrf ad' fs[j]?) = (fun j : Nat => zrf ad fs[j]?) := by
    funext j
    cases hj : fs[j]? with
    | none => rfl
    | some v =>
      have hv := had v (List.mem_of_getElem? hj)
      cases v <;> simp_all [zrf, zv]
  match t, h with
  | 0, h => exact (show u = _ from h).trans (by rw [hfs])
  | 1, h => obtain ⟨cA, t0, h1, h2⟩ := h; exact ⟨cA, t0, ht _ _ h1, by rw [hS]; exact h2⟩
  | 2, h => obtain ⟨cA, t0, h1, h2⟩ := h; exact ⟨cA, t0, ht _ _ h1, by rw [hL]; exact h2⟩
  | 3, h => obtain ⟨cA, t0, h1, h2⟩ := h; exact ⟨cA, t0, ht _ _ h1, by rw [hS]; exact h2⟩
  | 4, h => obtain ⟨cA, t0, h1, h2⟩ := h; exact ⟨cA, t0, ht _ _ h1, by rw [hS]; exact h2⟩
  | 5, h => obtain ⟨h0, cA, t0, h1, h2⟩ := h; exact ⟨h0, cA, t0, ht _ _ h1, by rw [h2]; exact congrArg (fun f => Sum.inl (cA, n, Sum.inr (Sum.inr (Sum.inr (Sum.inr f))))) hrf.symm⟩
  | _ + 6, h => exact h.elim
theorem zRep.upd {ad : Nat → Nat} {tys : List (ClassId × FieldType)} {ws : va_W} {R : List zE} {S S' : zS} {L L' : zL} (h : zRep ad tys ws R S L) {a : Nat} {e e' : zE} {u' : va_E} (ha : R[a]? = some e) (hu : zent ad tys S' L' a e' u') (hS : ∀ k, k ≠ a → S' k = S k ∧ L' k = L k) : zRep ad tys (ws.set a (ad a, u')) (R.set a e') S' L' := by
  refine ⟨by rw [List.length_set, List.length_set]; exact h.1, fun k x hk => ?_⟩
  rw [List.getElem?_set] at hk
  split at hk
  · rename_i hak
    subst hak
    split at hk
    · rename_i hl
      cases hk
      exact ⟨u', by rw [List.getElem?_set_self (by rw [h.1]; exact hl)], hu⟩
    · cases hk
  · rename_i hak
    obtain ⟨u, h1, h2⟩ := h.2 k x hk
    exact ⟨u, by rw [List.getElem?_set_ne hak]; exact h1, zent_congr (hS k (Ne.symm hak)).1 (hS k (Ne.symm hak)).2 (fun _ _ => rfl) (fun _ _ q => q) h2⟩
theorem zset_self {α : Type} {R : List α} {a : Nat} {e : α} (h : R[a]? = some e) : R.set a e = R := by
  apply List.ext_getElem?
  intro k
  rw [List.getElem?_set]
  split
  · rename_i hak
    subst hak
    split
    · exact h.symm
    · rename_i hl; simp at hl; rw [List.getElem?_eq_none hl]
  · rfl
theorem zup_other {α : Type} {S : Nat → Nat → α} {a i k : Nat} {v : α} (h : k ≠ a) : zup S a i v k = S k := by
  funext j
  simp [zup, h]
theorem zclr_other {α : Type} {S : Nat → Nat → α} {a k : Nat} {v : α} (h : k ≠ a) : zclr v S a k = S k := by
  funext j
  simp [zclr, h]
theorem zup_upd {S : zS} {a i : Nat} {v : Int32} : zup S a i v a = upd (S a) i v := by
  funext j
  simp [zup, upd]
theorem zup_updL {L : zL} {a i : Nat} {v : Int64} : zup L a i v a = vp_updL (L a) i v := by
  funext j
  simp [zup, vp_updL]
theorem zfs_len {ad : Nat → Nat} {S : zS} {L : zL} {k : Nat} {fs : List Value} : (zfs ad S L k fs).length = fs.length := by simp [zfs]
theorem zfs_at {ad : Nat → Nat} {S : zS} {L : zL} {k j : Nat} {fs : List Value} {v : Value} (h : fs[j]? = some v) : (zfs ad S L k fs)[j]? = some (zfv ad S L k j v) := by
  unfold zfs
  rw [List.getElem?_mapIdx, h]
  rfl
/-- one field written: the picture of the object -/
theorem zfs_put {ad : Nat → Nat} {S S' : zS} {L L' : zL} {a k : Nat} {fs fs' : List Value} {v : Value} (hl : k < fs.length) (hfs' : ∀ j, j ≠ k → fs'[j]? = fs[j]?) (hlen : fs'.length = fs.length) (hk : ∃ w, fs'[k]? = some w ∧ zfv ad S' L' a k w = v) (hS : ∀ j, j ≠ k → S' a j = S a j) (hL : ∀ j, j ≠ k → L' a j = L a j) : (zfs ad S L a fs).set k v = zfs ad S' L' a fs' := by
  apply List.ext_getElem?
  intro j
  rw [List.getElem?_set]
  split
  · rename_i hkj
    subst hkj
    obtain ⟨w, h1, h2⟩ := hk
    rw [zfs_at h1, h2, if_pos (by rw [zfs_len]; exact hl)]
  · rename_i hkj
    unfold zfs
    rw [List.getElem?_mapIdx, List.getElem?_mapIdx, hfs' j (Ne.symm hkj)]
    cases hj : fs[j]? with
    | none => rfl
    | some w => cases w <;> simp [zfv, hS j (Ne.symm hkj), hL j (Ne.symm hkj)]
theorem zKeep.le {ad ad0 : Nat → Nat} {r0 r1 : Nat} (h : zKeep ad ad0 r1) (hr : r0 ≤ r1) : zKeep ad ad0 r0 := fun k hk => h k (hk.elim (fun h => Or.inl (Nat.lt_of_lt_of_le h hr)) Or.inr)
theorem zKeep.trans {ad ad1 ad0 : Nat → Nat} {r : Nat} (h : zKeep ad ad1 r) (h1 : zKeep ad1 ad0 r) : zKeep ad ad0 r := fun k hk => (h k hk).trans (h1 k hk)
theorem zKeep.v {ad ad0 : Nat → Nat} {r : Nat} {v : Value} (h : zKeep ad ad0 r) (hv : zokv r v) : zv ad v = zv ad0 v := by
  cases v <;> simp only [zv]
  rename_i k
  rw [h k (hv k rfl)]
theorem zKeep.map {ad ad0 : Nat → Nat} {r : Nat} {st : List Value} (h : zKeep ad ad0 r) (hv : ∀ v ∈ st, zokv r v) : st.map (zv ad) = st.map (zv ad0) := List.map_congr_left fun v q => h.v (hv v q)
/-- the addresses with a new place -/
def zad (ad : Nat → Nat) (n q : Nat) : Nat → Nat := fun k => if k = n then q else ad k
theorem zad_keep {ad : Nat → Nat} {n q : Nat} (hn : n < 500000) : zKeep (zad ad n q) ad n := by
  intro k hk
  unfold zad
  rw [if_neg]
  rintro rfl
  rcases hk with h | h <;> omega
theorem zad_new {ad : Nat → Nat} {n q : Nat} : zad ad n q n = q := by simp [zad]
theorem zRep.new {ad : Nat → Nat} {tys tys' : List (ClassId × FieldType)} {ws : va_W} {R : List zE} {S S' : zS} {L L' : zL} (h : zRep ad tys ws R S L) {e : zE} {q : Nat} {u : va_E} (hn : R.length < 500000) (hR : ∀ e ∈ R, ∀ v ∈ e.2.2, zokv R.length v) (hS : ∀ k, k ≠ R.length → S' k = S k ∧ L' k = L k) (ht : ∀ (i : Nat) (q : ClassId × FieldType), tys[i]? = some q → tys'[i]? = some q) (hu : zent (zad ad R.length q) tys' S' L' R.length e u) : zRep (zad ad R.length q) tys' (ws ++ [(q, u)]) (R ++ [e]) S' L' := by
  refine ⟨by simp [h.1], fun k x hk => ?_⟩
  rcases Nat.lt_or_ge k R.length with hl | hl
  · rw [List.getElem?_append_left hl] at hk
    obtain ⟨u1, h1, h2⟩ := h.2 k x hk
    refine ⟨u1, ?_, zent_congr (hS k (by omega)).1 (hS k (by omega)).2 (fun v hv => (zad_keep hn).v (hR x (List.mem_of_getElem? hk) v hv)) ht h2⟩
    rw [List.getElem?_append_left (by rw [h.1]; exact hl), h1, zad_keep hn k (Or.inl hl)]
  · have hk2 : k = R.length := by
      have := (List.getElem?_eq_some_iff.mp hk).1
      simp at this
      omega
    subst hk2
    rw [List.getElem?_append_right (Nat.le_refl _), Nat.sub_self] at hk
    cases hk
    refine ⟨u, ?_, hu⟩
    rw [List.getElem?_append_right (by rw [h.1]; exact Nat.le_refl _), h.1, Nat.sub_self, zad_new]
    rfl
theorem zloc.keep {ad ad' : Nat → Nat} {ls : List Value} {lsM : Array Slot} {nL r : Nat} (h : zloc ad ls lsM nL) (hk : zKeep ad' ad r) (hv : ∀ v ∈ ls, zokv r v) : zloc ad' ls lsM nL :=
  ⟨h.1, h.2.1, h.2.2.1, fun i v hi hn => by rw [hk.v (hv v (List.mem_of_getElem? hi))]; exact h.2.2.2 i v hi hn⟩
theorem zlen_at {R : List zE} {a tag m : Nat} (h : zlen R a tag = some m) : ∃ fs, R[a]? = some (tag, m, fs) := by
  unfold zlen at h
  split at h
  · rename_i t n fs hR
    split at h
    · rename_i ht
      cases h
      exact ⟨fs, by rw [hR, ht]⟩
    · cases h
  · cases h
