/-! calls, and whole runs: what the small machine answers, the JVM answers -/
set_option maxRecDepth 100000 in
theorem zmeth_all : ((List.range zmeth.length).all fun mi => match zmeth[mi]? with
  | some q => decide (mi ∈ zwC) && decide (q.1.cls = zcn q.2.2.2.2.1) && plainName q.1.cls && decide (q.1.cls ≠ "java/lang/invoke/MethodHandle") && decide (q.1.cls ≠ "java/lang/invoke/VarHandle") && decide ((parseMethodDescriptor q.1.desc).map (fun d => d.parameters.length + (if q.2.2.2.2.2.1 = true then 0 else 1)) = some q.2.2.2.2.2.2.2.2) && decide (q.2.2.2.2.1 ∈ zwN) && decide (vwCl[q.2.2.2.2.1]?.isSome = true)
  | none => false) = true := by decide +kernel
set_option maxRecDepth 100000 in
theorem zct_all : (zct.all fun e => if e.2.2.1 < 10 then (match zmeth[e.2.2.2]? with
  | some q => if e.2.2.1 = 0 then decide (e.2.2.2 ∈ zwI) && decide (e.2.2.2 ∈ zwV) && !q.2.2.2.2.2.1 else if e.2.2.1 = 1 then decide (e.2.2.2 ∈ zwS) && q.2.2.2.2.2.1 else decide (e.2.2.2 ∈ zwI) && decide (q.1.name = "<init>") && decide (q.2.2.2.1 = none) && !q.2.2.2.2.2.1
  | none => false) else true) = true := by decide +kernel
theorem zmeth_at {mi : Nat} {q : zM} (h : zmeth[mi]? = some q) : Cond.code q.1 q.2.1 q.2.2.1 q.2.2.2.1 ∈ zUW ∧ q.1.cls = zcn q.2.2.2.2.1 ∧ plainName q.1.cls = true ∧ (q.1.cls ≠ "java/lang/invoke/MethodHandle" ∧ q.1.cls ≠ "java/lang/invoke/VarHandle") ∧ (∀ sig, parseMethodDescriptor q.1.desc = some sig → sig.parameters.length + (if q.2.2.2.2.2.1 = true then 0 else 1) = q.2.2.2.2.2.2.2.2) ∧ Cond.initialized q.1.cls ∈ zUW ∧ ∃ w, vwCl[q.2.2.2.2.1]? = some w := by
  have h1 := List.all_eq_true.mp zmeth_all mi (List.mem_range.mpr (List.getElem?_eq_some_iff.mp h).1)
  rw [h] at h1
  simp only [Bool.and_eq_true, decide_eq_true_eq] at h1
  obtain ⟨⟨⟨⟨⟨⟨⟨a1, a2⟩, a3⟩, a4⟩, a5⟩, a6⟩, a7⟩, a8⟩ := h1
  have hc := zwC_in mi a1
  simp only [zwdM, h] at hc
  have hi : Cond.initialized (zcn q.2.2.2.2.1) ∈ zUW := zwN_in _ a7
  refine ⟨hc, a2, a3, ⟨a4, a5⟩, fun sig hs => ?_, by rw [a2]; exact hi, Option.isSome_iff_exists.mp a8⟩
  rw [hs] at a6
  exact Option.some.inj a6
theorem zargs_cons {v : Value} {as : List Value} : zargs (v :: as) = (if v.category = 2 then [v, .retAddr 0] else [v]) ++ zargs as := by simp [zargs]
theorem lg_sl_cons {v : Value} {as : List Value} : lg_sl (v :: as) = (if v.category = 2 then [.val v, .second] else [.val v]) ++ lg_sl as := by simp [lg_sl]
theorem zargs_len {ad : Nat → Nat} : ∀ (as : List Value), (lg_sl (as.map (zv ad))).length = (zargs as).length
  | [] => rfl
  | v :: as => by
    rw [List.map_cons, zargs_cons, lg_sl_cons, List.length_append, List.length_append, zargs_len as, zv_cat]
    split <;> rfl
theorem zargs_at {ad : Nat → Nat} : ∀ (as : List Value) (i : Nat) (v : Value), (zargs as)[i]? = some v → (∀ k, v ≠ .retAddr k) → (lg_sl (as.map (zv ad)))[i]? = some (.val (zv ad v))
  | [], i, v, h, _ => by simp [zargs] at h
  | w :: as, i, v, h, hn => by
    rw [zargs_cons] at h
    rw [List.map_cons, lg_sl_cons, zv_cat]
    split at h
    · rename_i hw
      rw [if_pos hw]
      match i, h with
      | 0, h => simp at h; subst h; rfl
      | 1, h => simp at h; exact absurd h.symm (hn 0)
      | i + 2, h => simp at h; simpa using zargs_at as i v h hn
    · rename_i hw
      rw [if_neg hw]
      match i, h with
      | 0, h => simp at h; subst h; rfl
      | i + 1, h => simp at h; simpa using zargs_at as i v h hn
theorem zentry_loc {ad : Nat → Nat} {mi : Nat} {q : zM} {as : List Value} (hq : zmeth[mi]? = some q) (hle : (zargs as).length ≤ q.2.2.1) : zloc ad (zentry mi as) (lg_sl (as.map (zv ad)) ++ List.replicate (q.2.2.1 - (lg_sl (as.map (zv ad))).length) Slot.unset).toArray q.2.2.1 := by
  have h1 := lv_entry (as.map (zv ad)) (n := q.2.2.1) (by rw [zargs_len]; exact hle)
  refine ⟨h1.1, h1.2.1, ?_, fun i v hi hn => ?_⟩
  · unfold zentry
    rw [hq]
    simp
    omega
  · unfold zentry at hi
    rw [hq] at hi
    dsimp only at hi
    rw [List.getElem?_toArray]
    rcases Nat.lt_or_ge i (zargs as).length with h | h
    · rw [List.getElem?_append_left h] at hi
      rw [List.getElem?_append_left (by rw [zargs_len]; exact h)]
      exact zargs_at as i v hi hn
    · rw [List.getElem?_append_right h] at hi
      have := List.eq_of_mem_replicate (List.mem_of_getElem? hi)
      exact absurd this (hn 0)
theorem zargs_ok {n : Nat} : ∀ (as : List Value), (∀ v ∈ as, zokv n v) → ∀ v ∈ zargs as, zokv n v
  | [], _ => fun v hv => by simp [zargs] at hv
  | w :: as, h => by
    intro v hv
    rw [zargs_cons] at hv
    rcases List.mem_append.mp hv with hv | hv
    · split at hv
      · simp only [List.mem_cons, List.not_mem_nil, or_false] at hv
        rcases hv with rfl | rfl
        · exact h v List.mem_cons_self
        · exact zokv_ra
      · simp only [List.mem_singleton] at hv
        subst hv
        exact h v List.mem_cons_self
    · exact zargs_ok as (fun u hu => h u (List.mem_cons_of_mem _ hu)) v hv
theorem zentry_inv {R : List zE} {mi : Nat} {as : List Value} (ha : ∀ v ∈ as, zokv R.length v) (hR : ∀ e ∈ R, ∀ v ∈ e.2.2, zokv R.length v) : zinv R (zentry mi as) [] := by
  refine ⟨fun v hv => ?_, fun v hv => (List.not_mem_nil hv).elim, hR⟩
  unfold zentry at hv
  split at hv
  · rcases List.mem_append.mp hv with h | h
    · exact zargs_ok as ha v h
    · rw [List.eq_of_mem_replicate h]; exact zokv_ra
  · exact (List.not_mem_nil hv).elim
/-- what a run keeps -/
theorem zrun_inv : ∀ (n mi pc : Nat) (ls st : List Value) (R : List zE) (S : zS) (L : zL) (v : Option Value) (R' : List zE) (S' : zS) (L' : zL), zrun n mi pc ls st R S L = some (v, R', S', L') → zinv R ls st → (∀ e ∈ R', ∀ v ∈ e.2.2, zokv R'.length v) ∧ R.length ≤ R'.length ∧ zsz R ≤ zsz R' ∧ ∀ w, v = some w → zokv R'.length w
  | 0, _, _, _, _, _, _, _, _, _, _, _, h, _ => by simp [zrun] at h
  | n + 1, mi, pc, ls, st, R, S, L, v, R', S', L', h, hI => by
    unfold zrun at h
    split at h
    · cases h
    · split at h
      · rename_i w hw
        cases h
        refine ⟨hI.2.2, Nat.le_refl _, Nat.le_refl _, fun u hu => ?_⟩
        subst hu
        unfold zend at hw
        split at hw
        · split at hw
          · cases hw; exact zokv_int
          · cases hw
        · cases hw; exact zokv_long
        · cases hw
        · cases hw
      · split at h
        · rename_i k t hcl
          split at h
          · split at h
            · rename_i v1 R1 S1 L1 h1
              have hst : ∀ u ∈ (st.take (znarg t)).reverse, zokv R.length u := fun u hu => hI.2.1 u (List.mem_of_mem_take (List.mem_reverse.mp hu))
              obtain ⟨a1, a2, a3, a4⟩ := zrun_inv n _ _ _ _ _ _ _ _ _ _ _ h1 (zentry_inv hst hI.2.2)
              have hI1 : zinv R1 ls (v1.toList ++ st.drop (znarg t)) := ⟨fun u hu => (hI.1 u hu).le a2, fun u hu => by
                rcases List.mem_append.mp hu with hu | hu
                · cases v1 with
                  | none => simp at hu
                  | some w => simp at hu; subst hu; exact a4 u rfl
                · exact (hI.2.1 u (List.mem_of_mem_drop hu)).le a2, a1⟩
              obtain ⟨b1, b2, b3, b4⟩ := zrun_inv n _ _ _ _ _ _ _ _ _ _ _ h hI1
              exact ⟨b1, Nat.le_trans a2 b2, Nat.le_trans a3 b3, b4⟩
            · cases h
          · cases h
        · split at h
          · rename_i hs
            obtain ⟨a1, a2, a3⟩ := zstep_good _ hs hI
            obtain ⟨b1, b2, b3, b4⟩ := zrun_inv n _ _ _ _ _ _ _ _ _ _ _ h a1
            exact ⟨b1, Nat.le_trans a2 b2, Nat.le_trans a3 b3, b4⟩
          · cases h
theorem zNok.same {s U : State} (hv : s.vm = U.vm) (h : zNok s) : zNok U := by
  refine ⟨fun e he => va_Nw.same ?_ hv (h.1 e he), fun e he => va_Nw.same ?_ hv (h.2.1 e he), h.2.2.moved (by rw [hv]; exact Vm.Alike.refl _)⟩
  · unfold zwdF; split <;> rfl
  · unfold zwdC; split <;> rfl
theorem zNok.warm {s U : State} (hW : s.WarmedH U.vm) (h : zNok s) : zNok U := by
  refine ⟨fun e he => ?_, fun e he => ?_, ?_⟩
  · have h1 := List.all_eq_true.mp zftN_all _ he
    simp only [Bool.and_eq_true] at h1
    have h2 := h.1 e he
    unfold zwdF at h2 ⊢
    rw [if_pos h1.1] at h2 ⊢
    exact va_Nw.warmF hW h2
  · have h1 := of_decide_eq_true (List.all_eq_true.mp zctN_all _ he)
    have h2 := h.2.1 e he
    unfold zwdC at h2 ⊢
    rw [if_pos h1] at h2 ⊢
    exact va_Nw.warmM hW h2
  · exact h.2.2.moved hW.alike
theorem zX.moved {ad0 adV : Nat → Nat} {A : Nat → Prop} {s U : State} {H : Heap} (hW : s.WarmedH U.vm) (h : zX ad0 adV A s H) : zX ad0 adV A U H := by
  obtain ⟨h1, h2, h3⟩ := h
  refine ⟨fun i q hq => ?_, h2.moved hW.alike, h3.moved hW.alike⟩
  obtain ⟨g1, g2, g3, g4, g5⟩ := h1 i q hq
  exact ⟨g1.warm hW, g2.moved hW.alike, g3.moved hW.alike, g4.moved hW.alike, g5.moved hW.alike⟩
theorem zX.same {ad0 adV : Nat → Nat} {A : Nat → Prop} {s U : State} {H : Heap} (hv : U.vm = s.vm) (h : zX ad0 adV A s H) : zX ad0 adV A U H := by
  obtain ⟨h1, h2, h3⟩ := h
  have ha : s.vm.Alike U.vm := by rw [hv]; exact Vm.Alike.refl _
  refine ⟨fun i q hq => ?_, h2.moved ha, h3.moved ha⟩
  obtain ⟨g1, g2, g3, g4, g5⟩ := h1 i q hq
  exact ⟨g1.same hv, g2.moved ha, g3.moved ha, g4.moved ha, g5.moved ha⟩
theorem zX.narrow {ad0 adV : Nat → Nat} {A B : Nat → Prop} {s : State} {H : Heap} (h : zX ad0 adV A s H) (hAB : ∀ q, B q → A q) : zX ad0 adV B s H := by
  obtain ⟨h1, h2, h3⟩ := h
  refine ⟨fun i q hq => ?_, h2.narrow hAB, h3.narrow hAB⟩
  obtain ⟨g1, g2, g3, g4, g5⟩ := h1 i q hq
  exact ⟨g1, g2.narrow hAB, g3.narrow hAB, g4.narrow hAB, g5.narrow hAB⟩
theorem zX.kept {ad0 adV : Nat → Nat} {A : Nat → Prop} {s : State} {H H1 : Heap} (h : zX ad0 adV A s H) (hq : ∀ a : Nat, a < H.size → ¬ A a → H1[a]? = H[a]?) : zX ad0 adV A s H1 := by
  obtain ⟨h1, h2, h3⟩ := h
  refine ⟨fun i q hi => ?_, h2.kept hq, h3.kept hq⟩
  obtain ⟨g1, g2, g3, g4, g5⟩ := h1 i q hi
  exact ⟨g1, g2.kept hq, g3.kept hq, g4.kept hq, g5.kept hq⟩
theorem zX.ad {ad0 ad1 adV : Nat → Nat} {A : Nat → Prop} {s : State} {H : Heap} {r : Nat} (h : zX ad0 adV A s H) (hk : zKeep ad1 ad0 r) : zX ad1 adV A s H := by
  obtain ⟨h1, h2, h3⟩ := h
  refine ⟨fun i q hi => ?_, h2, h3⟩
  rw [hk (1000000 + i) (Or.inr (by omega))]
  exact h1 i q hi
/-- a contract's start: the whole world of the small machine -/
def zPre (D : va_G) (ad adV : Nat → Nat) (tys : List (ClassId × FieldType)) (ws : va_W) (sz : Nat) (as : List Value) : Array Value → State → Prop := va_Pc (as.map (zv ad)) fun U => U.heap.size = sz ∧ va_P D vwCl ws U.heap ∧ va_K D vwCl tys U ∧ va_D (fun _ => True) ws ∧ zNok U ∧ zX ad adV (va_A ws sz) U U.heap
/-- its end -/
def zPost (D : va_G) (ad : Nat → Nat) (A : Nat → Prop) (r0 : Nat) (v : Option Value) (R' : List zE) (S' : zS) (L' : zL) : Array Value → State → Outcome → State → Prop := fun _ st o t => ∃ (ad1 : Nat → Nat) (tys1 : List (ClassId × FieldType)) (ws1 : va_W), o = .returned (v.map (zv ad1)) ∧ zKeep ad1 ad r0 ∧ zRep ad1 tys1 ws1 R' S' L' ∧ va_P D vwCl ws1 t.heap ∧ va_K D vwCl tys1 t ∧ va_D A ws1 ∧ va_F A st t
theorem zPre_blind {D : va_G} {ad adV : Nat → Nat} {tys : List (ClassId × FieldType)} {ws : va_W} {sz : Nat} {as : List Value} : FrameBlind (zPre D ad adV tys ws sz as) := by
  intro a U g mk q
  obtain ⟨q0, q1, q2, q3, q4, q5, q6⟩ := q
  exact ⟨q0, q1, q2, va_K.moved (u := U) (U := U.calling g mk a) (Vm.Alike.refl U.vm) q3, q4, zNok.same (s := U) (U := U.calling g mk a) rfl q5, zX.same (s := U) (U := U.calling g mk a) rfl q6⟩
def zrmq (q : zM) (mc ms : Nat) : Room := { frames := q.2.2.2.2.2.2.1, cells := mc, slots := ms, locals := q.2.2.2.2.2.2.2.1 }
