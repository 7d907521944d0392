/-! what the small machine's steps keep: references stay within the heap (or far beyond: texts, and what nobody reads), the heap grows -/
def zokv (n : Nat) (v : Value) : Prop := ∀ k : Nat, v = .ref k → k < n ∨ 500000 ≤ k
def zinv (R : List zE) (ls st : List Value) : Prop := (∀ v ∈ ls, zokv R.length v) ∧ (∀ v ∈ st, zokv R.length v) ∧ ∀ e ∈ R, ∀ v ∈ e.2.2, zokv R.length v
def zGood (R : List zE) (ls st : List Value) (o : Option zC) : Prop := ∀ q, o = some q → zinv R ls st → zinv q.2.2.2.1 q.2.1 q.2.2.1 ∧ R.length ≤ q.2.2.2.1.length ∧ zsz R ≤ zsz q.2.2.2.1
theorem zokv_int {n : Nat} {x : Int32} : zokv n (.int x) := fun k h => by cases h
theorem zokv_long {n : Nat} {x : Int64} : zokv n (.long x) := fun k h => by cases h
theorem zokv_null {n : Nat} : zokv n .null := fun k h => by cases h
theorem zokv_ra {n k : Nat} : zokv n (.retAddr k) := fun k h => by cases h
theorem zokv.le {n m : Nat} {v : Value} (h : zokv n v) (hm : n ≤ m) : zokv m v := fun k hk => (h k hk).elim (fun h => Or.inl (Nat.lt_of_lt_of_le h hm)) Or.inr
theorem zinv.push {R : List zE} {ls st : List Value} {v : Value} (I : zinv R ls st) (h : zokv R.length v) : zinv R ls (v :: st) :=
  ⟨I.1, fun w hw => (List.mem_cons.mp hw).elim (fun e => e ▸ h) (I.2.1 w), I.2.2⟩
theorem zinv.pop {R : List zE} {ls st : List Value} {v : Value} (I : zinv R ls (v :: st)) : zinv R ls st :=
  ⟨I.1, fun w hw => I.2.1 w (List.mem_cons_of_mem _ hw), I.2.2⟩
theorem zinv.top {R : List zE} {ls st : List Value} {v : Value} (I : zinv R ls (v :: st)) : zokv R.length v := I.2.1 v List.mem_cons_self
theorem zGood.same {R : List zE} {ls st ls' st' : List Value} {n : Nat} {S : zS} {L : zL} (h : zinv R ls st → zinv R ls' st') : zGood R ls st (some (n, ls', st', R, S, L)) := by
  intro q hq I
  cases hq
  exact ⟨h I, Nat.le_refl _, Nat.le_refl _⟩
theorem zGood.none {R : List zE} {ls st : List Value} : zGood R ls st none := fun q h => by cases h
theorem zk_ok {n : Nat} {v : Value} (h : zokv n v) : zokv n (zk v) := by
  intro k hk
  cases v <;> simp [zk] at hk
  exact h k (by rw [hk])
theorem zkl_ok {n : Nat} : ∀ (ls : List Value) (i : Nat), (∀ v ∈ ls, zokv n v) → ∀ v ∈ zkl ls i, zokv n v
  | l, 0, h => by intro v hv; rw [zkl] at hv; exact h v hv
  | [], i+1, h => by intro v hv; simp [zkl] at hv
  | a :: l, 1, h => by
    intro v hv
    simp only [zkl, List.mem_cons] at hv
    rcases hv with rfl | hv
    · exact zk_ok (h a List.mem_cons_self)
    · exact h v (List.mem_cons_of_mem _ hv)
  | a :: l, (i+2), h => by
    intro v hv
    simp only [zkl, List.mem_cons] at hv
    rcases hv with rfl | hv
    · exact h v List.mem_cons_self
    · exact zkl_ok l (i+1) (fun w hw => h w (List.mem_cons_of_mem _ hw)) v hv
theorem zset_ok {n : Nat} {ls : List Value} {i : Nat} {w : Value} (h : ∀ v ∈ ls, zokv n v) (hw : zokv n w) : ∀ v ∈ ls.set i w, zokv n v := by
  intro v hv
  rcases List.mem_or_eq_of_mem_set hv with h1 | rfl
  · exact h v h1
  · exact hw
theorem zld_good {i n : Nat} {f : Value → Bool} {ls st : List Value} {R : List zE} {S : zS} {L : zL} : zGood R ls st (zld i n f ls st R S L) := by
  unfold zld
  split
  · rename_i v hv
    split
    · exact .same fun I => I.push (I.1 v (List.mem_of_getElem? hv))
    · exact .none
  · exact .none
theorem zsto_good {i n : Nat} {f : Value → Bool} {ls st : List Value} {R : List zE} {S : zS} {L : zL} : zGood R ls st (zsto i n f ls st R S L) := by
  unfold zsto
  split
  · split
    · exact .same fun I => ⟨zset_ok (zkl_ok _ _ I.1) I.top, I.pop.2.1, I.2.2⟩
    · exact .none
  · exact .none
theorem zstoL_good {i n : Nat} {ls st : List Value} {R : List zE} {S : zS} {L : zL} : zGood R ls st (zstoL i n ls st R S L) := by
  unfold zstoL
  split
  · split
    · exact .same fun I => ⟨zset_ok (zset_ok (zkl_ok _ _ I.1) I.top) zokv_ra, I.pop.2.1, I.2.2⟩
    · exact .none
  · exact .none
theorem zop2_good {n : Nat} {f : Int32 → Int32 → Int32} {ok : Int32 → Bool} {ls st : List Value} {R : List zE} {S : zS} {L : zL} : zGood R ls st (zop2 n f ok ls st R S L) := by
  unfold zop2
  split
  · split
    · exact .same fun I => I.pop.pop.push zokv_int
    · exact .none
  · exact .none
theorem zop2L_good {n : Nat} {f : Int64 → Int64 → Int64} {ok : Int64 → Bool} {ls st : List Value} {R : List zE} {S : zS} {L : zL} : zGood R ls st (zop2L n f ok ls st R S L) := by
  unfold zop2L
  split
  · split
    · exact .same fun I => I.pop.pop.push zokv_long
    · exact .none
  · exact .none
theorem zaldI_good {tag n : Nat} {ls st : List Value} {R : List zE} {S : zS} {L : zL} : zGood R ls st (zaldI tag n ls st R S L) := by
  unfold zaldI
  split
  · split
    · split
      · exact .none
      · exact .same fun I => I.pop.pop.push zokv_int
    · exact .none
  · exact .none
theorem zastI_good {tag n : Nat} {f : Int32 → Int32} {ls st : List Value} {R : List zE} {S : zS} {L : zL} : zGood R ls st (zastI tag n f ls st R S L) := by
  unfold zastI
  split
  · split
    · split
      · exact .none
      · exact .same fun I => I.pop.pop.pop
    · exact .none
  · exact .none
theorem zbr_good {b : Bool} {pc len : Nat} {off : Int} {ls st st0 : List Value} {R : List zE} {S : zS} {L : zL} (h : zinv R ls st0 → zinv R ls st) : zGood R ls st0 (zbr b pc len off ls st R S L) := by
  unfold zbr
  split
  · exact .same h
  · exact .none
theorem zlibI_good {k n : Nat} {ls st : List Value} {R : List zE} {S : zS} {L : zL} : zGood R ls st (zlibI k n ls st R S L) := by
  unfold zlibI
  repeat' split
  all_goals first
    | exact .none
    | exact .same fun I => I.pop
theorem zlibS_good {k n : Nat} {ls st : List Value} {R : List zE} {S : zS} {L : zL} : zGood R ls st (zlibS k n ls st R S L) := by
  unfold zlibS
  split
  · split
    · split
      · exact .same fun I => I.pop.pop.push zokv_int
      · split
        · exact .same fun I => I.pop.pop.push zokv_int
        · exact .none
    · exact .none
  · exact .none
theorem zlibA_good {k n : Nat} {ls st : List Value} {R : List zE} {S : zS} {L : zL} : zGood R ls st (zlibA k n ls st R S L) := by
  unfold zlibA
  split
  · split
    · exact .same fun I => I.pop.push zokv_int
    · exact .none
  · exact .none
theorem zlibL_good {k n : Nat} {ls st : List Value} {R : List zE} {S : zS} {L : zL} : zGood R ls st (zlibL k n ls st R S L) := by
  unfold zlibL
  split
  · split
    · split
      · exact .same fun I => I.pop.push zokv_int
      · exact .none
    · exact .none
  · exact .none
theorem zlibC_good {k n : Nat} {ls st : List Value} {R : List zE} {S : zS} {L : zL} : zGood R ls st (zlibC k n ls st R S L) := by
  unfold zlibC
  split
  · split
    · split
      · exact .same fun I => I.pop.pop.push zokv_int
      · exact .none
    · exact .none
  · exact .none
theorem zcst_tab : zkt.all (fun e => match e.2.2 with
    | .ref r => decide (500000 ≤ r)
    | _ => true) = true := by decide +kernel
theorem zcst_ok {own ix n : Nat} {v : Value} (h : zcst own ix = some v) : zokv n v := by
  unfold zcst at h
  split at h
  · rename_i e he
    have h1 := List.all_eq_true.mp zcst_tab e (List.mem_of_find?_eq_some he)
    have h2 := Option.some.inj h
    intro k hk
    rw [h2] at h1
    subst hk
    exact Or.inr (of_decide_eq_true h1)
  · cases h
theorem zsz_set {R : List zE} {a : Nat} {e e' : zE} (h : R[a]? = some e) (he : zesz e' = zesz e) : zsz (R.set a e') = zsz R := by
  unfold zsz
  induction R generalizing a with
  | nil => rfl
  | cons x R ih =>
    cases a with
    | zero => simp at h; subst h; simp [he]
    | succ a =>
      simp at h
      show zesz x + ((R.set a e').map zesz).sum = zesz x + (R.map zesz).sum
      rw [ih h]
theorem zsz_app {R : List zE} {e : zE} : zsz (R ++ [e]) = zsz R + zesz e := by simp [zsz]
theorem zinv_set {R : List zE} {ls st : List Value} {a : Nat} {e' : zE} (I : zinv R ls st) (h : ∀ v ∈ e'.2.2, zokv R.length v) : zinv (R.set a e') ls st := by
  refine ⟨by rw [List.length_set]; exact I.1, by rw [List.length_set]; exact I.2.1, ?_⟩
  rw [List.length_set]
  intro e he v hv
  rcases List.mem_or_eq_of_mem_set he with h1 | rfl
  · exact I.2.2 e h1 v hv
  · exact h v hv
theorem zputf_good {R R' : List zE} {S S' : zS} {L L' : zL} {a ci k n : Nat} {v : Value} {ls st : List Value} (h : zputf R S L a ci k v = some (R', S', L')) : zGood R ls (v :: .ref a :: st) (some (n, ls, st, R', S', L')) := by
  intro q hq I
  cases hq
  dsimp only
  unfold zputf at h
  split at h
  · rename_i c fs hR
    have hI := I.pop.pop
    have hm := List.mem_of_getElem? hR
    split at h
    · split at h
      all_goals first
        | (cases h; exact ⟨hI, Nat.le_refl _, Nat.le_refl _⟩)
        | (cases h
           refine ⟨zinv_set hI (zset_ok (I.2.2 _ hm) (by first | exact I.top | exact zokv_null)), by rw [List.length_set]; exact Nat.le_refl _, ?_⟩
           rw [zsz_set hR (by simp [zesz])]
           exact Nat.le_refl _)
        | cases h
    · cases h
  · cases h
theorem zinv_app {R : List zE} {ls st : List Value} {e : zE} (I : zinv R ls st) (h : ∀ v ∈ e.2.2, zokv (R.length + 1) v) : zinv (R ++ [e]) ls (.ref R.length :: st) := by
  have hl : (R ++ [e]).length = R.length + 1 := by simp
  refine ⟨fun v hv => ?_, fun v hv => ?_, fun x hx v hv => ?_⟩
  · rw [hl]; exact (I.1 v hv).le (Nat.le_succ _)
  · rw [hl]
    rcases List.mem_cons.mp hv with rfl | hv
    · intro k hk; cases hk; exact Or.inl (Nat.lt_succ_self _)
    · exact (I.2.1 v hv).le (Nat.le_succ _)
  · rw [hl]
    rcases List.mem_append.mp hx with hx | hx
    · exact (I.2.2 x hx v hv).le (Nat.le_succ _)
    · rw [List.mem_singleton.mp hx] at hv
      exact h v hv
theorem zGood.new {R : List zE} {ls st st' : List Value} {e : zE} {n : Nat} {S : zS} {L : zL} (hI : zinv R ls st → zinv R ls st') (h : ∀ v ∈ e.2.2, v = .null ∨ v = .int 0 ∨ v = .long 0) : zGood R ls st (some (n, ls, .ref R.length :: st', R ++ [e], S, L)) := by
  intro q hq I
  cases hq
  refine ⟨zinv_app (hI I) (fun v hv => ?_), by simp, by rw [zsz_app]; exact Nat.le_add_right _ _⟩
  rcases h v hv with rfl | rfl | rfl
  · exact zokv_null
  · exact zokv_int
  · exact zokv_long
theorem zdefs_ok {ci : Nat} : ∀ v ∈ zdefs ci, v = .null ∨ v = .int 0 ∨ v = .long 0 := by
  intro v hv
  unfold zdefs at hv
  split at hv
  · obtain ⟨k, -, rfl⟩ := List.mem_map.mp hv
    unfold zdef
    split <;> simp
  · simp at hv
set_option maxHeartbeats 4000000 in
theorem zstep_good {mi : Nat} {ins : Instr} {len pc : Nat} {ls st : List Value} {R : List zE} {S : zS} {L : zL} : zGood R ls st (zstep mi ins len pc ls st R S L) := by
  unfold zstep
  split
  all_goals first
    | exact zld_good
    | exact zsto_good
    | exact zstoL_good
    | exact zop2_good
    | exact zop2L_good
    | exact zaldI_good
    | exact zastI_good
    | exact zbr_good id
    | exact .none
    | exact .same fun I => I.push zokv_int
    | exact .same fun I => I.push zokv_long
    | skip
  -- iinc
  · split
    · exact .same fun I => ⟨zset_ok (zkl_ok _ _ I.1) zokv_int, I.2⟩
    · exact .none
  -- ldc, ldc_w, ldc2_w
  · split
    · exact .same fun I => I.push zokv_int
    · rename_i h; exact .same fun I => I.push (zcst_ok h)
    · exact .none
  · split
    · exact .same fun I => I.push zokv_int
    · rename_i h; exact .same fun I => I.push (zcst_ok h)
    · exact .none
  · split
    · exact .same fun I => I.push zokv_long
    · exact .none
  -- dup, dup2, pop
  · split
    · split
      · exact .same fun I => I.push I.top
      · exact .none
    · exact .none
  · split
    · split
      · exact .same fun I => (I.push I.pop.top).push I.top
      · exact .none
    · exact .none
  · split
    · split
      · exact .same fun I => I.pop
      · exact .none
    · exact .none
  -- lcmp, i2l, l2i, i2b
  · split
    · exact .same fun I => I.pop.pop.push zokv_int
    · exact .none
  · split
    · exact .same fun I => I.pop.push zokv_long
    · exact .none
  · split
    · exact .same fun I => I.pop.push zokv_int
    · exact .none
  · split
    · exact .same fun I => I.pop.push zokv_int
    · exact .none
  -- ifCond, if_icmp, ifnull, ifnonnull, tableswitch
  · split
    · exact zbr_good fun I => I.pop
    · exact .none
  · split
    · exact zbr_good fun I => I.pop.pop
    · exact .none
  · split
    · exact zbr_good fun I => I.pop
    · exact zbr_good fun I => I.pop
    · exact .none
  · split
    · exact zbr_good fun I => I.pop
    · exact zbr_good fun I => I.pop
    · exact .none
  · split
    · split
      · exact zbr_good fun I => I.pop
      · split
        · exact zbr_good fun I => I.pop
        · exact .none
    · exact .none
  -- getfield, putfield
  · split
    · split
      · rename_i v h
        refine .same fun I => I.pop.push ?_
        unfold zgetf at h
        split at h
        · rename_i hR
          split at h
          · split at h
            · cases h; exact zokv_int
            · cases h; exact zokv_long
            · rename_i hf; cases h; exact I.2.2 _ (List.mem_of_getElem? hR) _ (List.mem_of_getElem? hf)
            · cases h; exact zokv_null
            · cases h
          · cases h
        · cases h
      · exact .none
    · exact .none
  · split
    · split
      · exact .none
      · split
        · rename_i h; exact zputf_good h
        · exact .none
    · exact .none
  -- baload, bastore
  · split
    · split
      · exact zaldI_good
      · exact zaldI_good
    · exact .none
  · split
    · split
      · exact zastI_good
      · exact zastI_good
    · exact .none
  -- laload, lastore
  · split
    · split
      · split
        · exact .none
        · exact .same fun I => I.pop.pop.push zokv_long
      · exact .none
    · exact .none
  · split
    · split
      · split
        · exact .none
        · exact .same fun I => I.pop.pop.pop
      · exact .none
    · exact .none
  -- aaload, aastore
  · split
    · split
      · rename_i hR
        split
        · exact .none
        · split
          · rename_i hf; exact .same fun I => I.pop.pop.push (I.2.2 _ (List.mem_of_getElem? hR) _ (List.mem_of_getElem? hf))
          · exact .same fun I => I.pop.pop.push zokv_null
          · exact .none
      · exact .none
    · exact .none
  · split
    · split
      · rename_i hR _
        split
        · exact .none
        · intro q hq I
          cases hq
          refine ⟨zinv_set I.pop.pop.pop (zset_ok (I.2.2 _ (List.mem_of_getElem? hR)) I.top), by rw [List.length_set]; exact Nat.le_refl _, ?_⟩
          rw [zsz_set hR (by simp [zesz])]
          exact Nat.le_refl _
      · exact .none
    · exact .none
  -- arraylength
  · split
    · split
      · exact .none
      · exact .same fun I => I.pop.push zokv_int
      · exact .none
    · exact .none
  -- new, newarray, anewarray
  · split
    · split
      · exact .new id zdefs_ok
      · exact .none
    · exact .none
  · split
    · split
      · exact .new (fun I => I.pop) (fun v hv => by simp at hv)
      · exact .none
    · exact .none
  · split
    · split
      · exact .new (fun I => I.pop) (fun v hv => Or.inl (List.eq_of_mem_replicate hv))
      · exact .none
    · exact .none
  -- calls
  · split
    · split
      · exact zlibI_good
      · exact .none
    · exact .none
  · split
    · split
      · split
        · exact zlibA_good
        · exact zlibS_good
      · exact .none
    · exact .none
  · split
    · split
      · split
        · exact zlibL_good
        · exact zlibC_good
      · exact .none
    · exact .none
