/-! THE JVM DOES WHAT THE SMALL MACHINE DOES: one instruction -/
/-- a value of the small machine as the JVM has it -/
def zv (ad : Nat → Nat) : Value → Value
  | .ref r => .ref (ad r)
  | v => v
theorem zv_cat (ad : Nat → Nat) (v : Value) : (zv ad v).category = v.category := by cases v <;> rfl
theorem zv_cats (ad : Nat → Nat) (l : List Value) : ((l.map (zv ad)).map fun v => v.category) = l.map fun v => v.category := by
  rw [List.map_map]
  exact List.map_congr_left fun v _ => zv_cat ad v
def zfv (ad : Nat → Nat) (S : zS) (L : zL) (k j : Nat) (v : Value) : Value := match v with
  | .int _ => .int (S k j)
  | .long _ => .long (L k j)
  | v => zv ad v
def zfs (ad : Nat → Nat) (S : zS) (L : zL) (k : Nat) (fs : List Value) : List Value := fs.mapIdx fun j v => zfv ad S L k j v
def zrf (ad : Nat → Nat) (v : Option Value) : Option Nat := match v with
  | some (.ref r) => some (ad r)
  | _ => none
def zent (ad : Nat → Nat) (tys : List (ClassId × FieldType)) (S : zS) (L : zL) (k : Nat) (e : zE) (u : va_E) : Prop := match e with
  | (0, ci, fs) => u = .inr (ci, zfs ad S L k fs)
  | (1, n, _) => ∃ (cA : ClassId) (t0 : Nat), tys[t0]? = some (cA, .int) ∧ u = .inl (cA, n, .inl (S k))
  | (2, n, _) => ∃ (cA : ClassId) (t0 : Nat), tys[t0]? = some (cA, .long) ∧ u = .inl (cA, n, .inr (.inl (L k)))
  | (3, n, _) => ∃ (cA : ClassId) (t0 : Nat), tys[t0]? = some (cA, .byte) ∧ u = .inl (cA, n, .inl (S k))
  | (4, n, _) => ∃ (cA : ClassId) (t0 : Nat), tys[t0]? = some (cA, .boolean) ∧ u = .inl (cA, n, .inl (S k))
  | (5, n, fs) => fs.length = n ∧ ∃ (cA : ClassId) (t0 : Nat), tys[t0]? = some (cA, .object RX2) ∧ u = .inl (cA, n, .inr (.inr (.inr (.inr (fun j => zrf ad fs[j]?)))))
  | _ => False
def zRep (ad : Nat → Nat) (tys : List (ClassId × FieldType)) (ws : va_W) (R : List zE) (S : zS) (L : zL) : Prop := ws.length = R.length ∧ ∀ (k : Nat) (e : zE), R[k]? = some e → ∃ u, ws[k]? = some (ad k, u) ∧ zent ad tys S L k e u
def zloc (ad : Nat → Nat) (ls : List Value) (lsM : Array Slot) (nL : Nat) : Prop := lsM.size = nL ∧ lv_wf lsM ∧ ls.length = nL ∧ ∀ (i : Nat) (v : Value), ls[i]? = some v → (∀ k, v ≠ .retAddr k) → lsM[i]? = some (.val (zv ad v))
def zKeep (ad ad0 : Nat → Nat) (r0 : Nat) : Prop := ∀ k : Nat, (k < r0 ∨ 500000 ≤ k) → ad k = ad0 k
/-- the texts and the statics that the library's own methods read: outside of what may be written -/
def zX (ad0 adV : Nat → Nat) (A : Nat → Prop) (s : State) (H : Heap) : Prop :=
  (∀ (i : Nat) (q : Nat × Nat × String × List Int32), zstr[i]? = some q → vk_R (zcn q.1) q.2.1 q.2.2.1 (ad0 (1000000 + i)) s ∧ va_O "java/lang/String" (ad0 (1000000 + i)) A s H ∧ va_OF "java/lang/String" "coder" "B" (.int 0) (ad0 (1000000 + i)) A s H ∧ va_OF "java/lang/String" "value" "[B" (.ref (adV i)) (ad0 (1000000 + i)) A s H ∧ va_T .byte (adV i) q.2.2.2.length (fun j => .int (q.2.2.2.getD j 0)) A s H) ∧
  va_Z "java/lang/String" "COMPACT_STRINGS" "Z" (.int 1) A s H ∧ va_Zq "jdk/internal/util/Preconditions" "SIOOBE_FORMATTER" "Ljava/util/function/BiFunction;" A s H
def zIn (D : va_G) (A : Nat → Prop) (s : State) (H : Heap) (locs : List Loc) (cells slots r0 z0 nL : Nat) (ad0 : Nat → Nat) (ls : List Value) (R : List zE) (S : zS) (L : zL) (lsM : Array Slot) (ad : Nat → Nat) (tys : List (ClassId × FieldType)) (ws : va_W) : Prop :=
  cells + r0 = R.length ∧ slots + z0 = zsz R ∧ zKeep ad ad0 r0 ∧ zRep ad tys ws R S L ∧ va_P D vwCl ws H ∧ va_K D vwCl tys s ∧ va_D A ws ∧ va_S A s.heap H locs ∧ zloc ad ls lsM nL
def zGo (p : Program) (l : Launch) (e : Env) (Rm : Room) (s : State) (m : MethodId) (args : Array Value) (below : List Frame) (meth : Method) (c : Code) (Q : State → Prop) (D : va_G) (A : Nat → Prop) (ad0 : Nat → Nat) (r0 z0 nL : Nat) (pc : Nat) (ls st : List Value) (R : List zE) (S : zS) (L : zL) : Prop :=
  ∀ (H : Heap) (locs : List Loc) (cells slots : Nat) (lsM : Array Slot) (ad : Nat → Nat) (tys : List (ClassId × FieldType)) (ws : va_W), zIn D A s H locs cells slots r0 z0 nL ad0 ls R S L lsM ad tys ws → W p l e Rm s m args below meth c H locs cells slots Q (F0 m pc lsM (st.map (zv ad)))
theorem zloc.at {ad : Nat → Nat} {ls : List Value} {lsM : Array Slot} {nL i : Nat} {v : Value} (h : zloc ad ls lsM nL) (hv : ls[i]? = some v) (hn : ∀ k, v ≠ .retAddr k) : lsM[i]? = some (.val (zv ad v)) := h.2.2.2 i v hv hn
/-- all that the JVM's locals hold -/
def zall (lsM : Array Slot) : List (Nat × Value) := (List.range lsM.size).filterMap fun j => match lsM[j]? with
  | some (Slot.val w) => some (j, w)
  | _ => none
theorem zall_mem {lsM : Array Slot} {j : Nat} {w : Value} : (j, w) ∈ zall lsM ↔ lsM[j]? = some (.val w) := by
  unfold zall
  rw [List.mem_filterMap]
  constructor
  · rintro ⟨i, -, h⟩
    split at h
    · rename_i h1; cases h; exact h1
    · cases h
  · intro h
    refine ⟨j, List.mem_range.mpr (Array.getElem?_eq_some_iff.mp h).1, ?_⟩
    rw [h]
theorem zall_has {ad : Nat → Nat} {ls : List Value} {lsM : Array Slot} {nL : Nat} (h : zloc ad ls lsM nL) : lv_has lsM nL (zall lsM) := ⟨h.1, h.2.1, fun q hq => zall_mem.mp hq⟩
theorem zkl_len : ∀ (l : List Value) (i : Nat), (zkl l i).length = l.length
  | l, 0 => by rw [zkl]
  | [], i+1 => by simp [zkl]
  | a :: l, 1 => by simp [zkl]
  | a :: l, (i+2) => by simp [zkl, zkl_len l (i+1)]
theorem zkl_at : ∀ (l : List Value) (i j : Nat), (zkl l i)[j]? = if j + 1 = i then l[j]?.map zk else l[j]?
  | l, 0, j => by rw [zkl]; simp
  | [], i+1, j => by simp [zkl]
  | a :: l, 1, j => by cases j <;> simp [zkl]
  | a :: l, (i+2), j => by
    cases j with
    | zero => simp [zkl]
    | succ j =>
      simp only [zkl, List.getElem?_cons_succ]
      rw [zkl_at l (i+1) j]
      simp
theorem zk_cat {v : Value} (h : ∀ k, zk v ≠ .retAddr k) : zk v = v ∧ ¬ v.category = 2 := by
  cases v <;> simp [zk, Value.category] at h ⊢
theorem zloc.st1 {ad : Nat → Nat} {ls : List Value} {lsM ls' : Array Slot} {nL i : Nat} {w : Value} (h : zloc ad ls lsM nL) (h' : lv_has ls' nL ((i, zv ad w) :: (zall lsM).filter (fun q => !(q.1 == i) && !(q.1 + 1 == i && q.2.category == 2)))) : zloc ad (zst1 ls i w) ls' nL := by
  refine ⟨h'.1, h'.2.1, by rw [zst1, List.length_set, zkl_len]; exact h.2.2.1, fun j v hj hn => ?_⟩
  unfold zst1 at hj
  rw [List.getElem?_set] at hj
  split at hj
  · rename_i hij
    subst hij
    split at hj
    · cases hj; exact h'.2.2 _ List.mem_cons_self
    · cases hj
  · rename_i hij
    rw [zkl_at] at hj
    refine h'.2.2 (j, zv ad v) (List.mem_cons_of_mem _ (List.mem_filter.mpr ?_))
    split at hj
    · rename_i hji
      obtain ⟨u, hu, rfl⟩ := Option.map_eq_some_iff.mp hj
      obtain ⟨e1, e2⟩ := zk_cat hn
      rw [e1] at hn ⊢
      refine ⟨zall_mem.mpr (h.at hu hn), ?_⟩
      have := zv_cat ad u
      simp [this, e2, Ne.symm hij]
    · rename_i hji
      exact ⟨zall_mem.mpr (h.at hj hn), by simp [hji, Ne.symm hij]⟩
theorem zloc.st2 {ad : Nat → Nat} {ls : List Value} {lsM ls' : Array Slot} {nL i : Nat} {w : Value} (h : zloc ad ls lsM nL) (h' : lv_has ls' nL ((i, zv ad w) :: (zall lsM).filter (fun q => !(q.1 == i) && (!(q.1 == i + 1) && !(q.1 + 1 == i && q.2.category == 2))))) : zloc ad (zst2 ls i w) ls' nL := by
  refine ⟨h'.1, h'.2.1, by rw [zst2, List.length_set, List.length_set, zkl_len]; exact h.2.2.1, fun j v hj hn => ?_⟩
  unfold zst2 at hj
  rw [List.getElem?_set] at hj
  split at hj
  · split at hj
    · cases hj; exact absurd rfl (hn 0)
    · cases hj
  · rename_i hij1
    rw [List.getElem?_set] at hj
    split at hj
    · rename_i hij
      subst hij
      split at hj
      · cases hj; exact h'.2.2 _ List.mem_cons_self
      · cases hj
    · rename_i hij
      rw [zkl_at] at hj
      refine h'.2.2 (j, zv ad v) (List.mem_cons_of_mem _ (List.mem_filter.mpr ?_))
      split at hj
      · rename_i hji
        obtain ⟨u, hu, rfl⟩ := Option.map_eq_some_iff.mp hj
        obtain ⟨e1, e2⟩ := zk_cat hn
        rw [e1] at hn ⊢
        refine ⟨zall_mem.mpr (h.at hu hn), ?_⟩
        have := zv_cat ad u
        simp [this, e2, Ne.symm hij, Ne.symm hij1]
      · rename_i hji
        exact ⟨zall_mem.mpr (h.at hj hn), by simp [hji, Ne.symm hij, Ne.symm hij1]⟩
