/-! THE SMALL MACHINE WITHOUT FUEL, and its equations -/
theorem zrun_succ : ∀ (n mi pc : Nat) (ls st : List Value) (R : List zE) (S : zS) (L : zL) (r : Option Value × List zE × zS × zL), zrun n mi pc ls st R S L = some r → zrun (n + 1) mi pc ls st R S L = some r
  | 0, _, _, _, _, _, _, _, _, h => by simp [zrun] at h
  | n + 1, mi, pc, ls, st, R, S, L, r, h => by
    rw [zrun] at h ⊢
    split at h
    · cases h
    · split at h
      · exact h
      · split at h
        · split at h
          · rename_i hm
            split at h
            · rename_i h1
              rw [if_pos hm, zrun_succ n _ _ _ _ _ _ _ _ h1]
              exact zrun_succ n _ _ _ _ _ _ _ _ h
            · cases h
          · cases h
        · split at h
          · exact zrun_succ n _ _ _ _ _ _ _ _ h
          · cases h
theorem zrun_le {n m mi pc : Nat} {ls st : List Value} {R : List zE} {S : zS} {L : zL} {r : Option Value × List zE × zS × zL} (h : zrun n mi pc ls st R S L = some r) (hm : n ≤ m) : zrun m mi pc ls st R S L = some r := by
  induction hm with
  | refl => exact h
  | step _ ih => exact zrun_succ _ _ _ _ _ _ _ _ _ ih
noncomputable def zgo (mi pc : Nat) (ls st : List Value) (R : List zE) (S : zS) (L : zL) : Option (Option Value × List zE × zS × zL) :=
  @dite _ (∃ r, ∃ n, zrun n mi pc ls st R S L = some r) (Classical.propDecidable _) (fun h => some (Classical.choose h)) (fun _ => none)
theorem zgo_iff {mi pc : Nat} {ls st : List Value} {R : List zE} {S : zS} {L : zL} {r : Option Value × List zE × zS × zL} : zgo mi pc ls st R S L = some r ↔ ∃ n, zrun n mi pc ls st R S L = some r := by
  unfold zgo
  constructor
  · intro h
    split at h
    · rename_i h1
      cases h
      exact Classical.choose_spec h1
    · cases h
  · intro ⟨n, hn⟩
    have h1 : ∃ r, ∃ n, zrun n mi pc ls st R S L = some r := ⟨r, n, hn⟩
    rw [dif_pos h1]
    obtain ⟨m, hm⟩ := Classical.choose_spec h1
    have e1 := zrun_le hn (Nat.le_max_left n m)
    have e2 := zrun_le hm (Nat.le_max_right n m)
    rw [e1] at e2
    exact e2.symm
theorem zgo_ext {mi pc mi' pc' : Nat} {ls st ls' st' : List Value} {R R' : List zE} {S S' : zS} {L L' : zL} (h : ∀ r, zgo mi pc ls st R S L = some r ↔ zgo mi' pc' ls' st' R' S' L' = some r) : zgo mi pc ls st R S L = zgo mi' pc' ls' st' R' S' L' := Option.ext fun r => h r
noncomputable def zcall (t : Nat) (as : List Value) (R : List zE) (S : zS) (L : zL) : Option (Option Value × List zE × zS × zL) := zgo t 0 (zentry t as) [] R S L
section ZQ
variable {mi pc pc' len : Nat} {ls st ls' st' : List Value} {R R' : List zE} {S S' : zS} {L L' : zL} {ins : Instr}
theorem zg_step (hf : zfetch mi pc = some (ins, len)) (he : zend (zrt mi) ins st = none) (hc : zcl mi ins = none) (hs : zstep mi ins len pc ls st R S L = some (pc', ls', st', R', S', L')) : zgo mi pc ls st R S L = zgo mi pc' ls' st' R' S' L' := by
  apply zgo_ext
  intro r
  rw [zgo_iff, zgo_iff]
  constructor
  · rintro ⟨n, h⟩
    cases n with
    | zero => simp [zrun] at h
    | succ n =>
      rw [zrun, hf] at h
      simp only [he, hc, hs] at h
      exact ⟨n, h⟩
  · rintro ⟨n, h⟩
    refine ⟨n + 1, ?_⟩
    rw [zrun, hf]
    simp only [he, hc, hs]
    exact h
theorem zg_stuck (hf : zfetch mi pc = some (ins, len)) (he : zend (zrt mi) ins st = none) (hc : zcl mi ins = none) (hs : zstep mi ins len pc ls st R S L = none) : zgo mi pc ls st R S L = none := by
  cases h : zgo mi pc ls st R S L with
  | none => rfl
  | some r =>
    obtain ⟨n, h⟩ := zgo_iff.mp h
    cases n with
    | zero => simp [zrun] at h
    | succ n =>
      rw [zrun, hf] at h
      simp only [he, hc, hs] at h
      cases h
theorem zg_end {v : Option Value} (hf : zfetch mi pc = some (ins, len)) (he : zend (zrt mi) ins st = some v) : zgo mi pc ls st R S L = some (v, R, S, L) := by
  refine zgo_iff.mpr ⟨1, ?_⟩
  rw [zrun, hf]
  simp only [he]
theorem zg_call {k t : Nat} (hf : zfetch mi pc = some (ins, len)) (he : zend (zrt mi) ins st = none) (hc : zcl mi ins = some (k, t)) : zgo mi pc ls st R S L = if zmay mi k t (st.take (znarg t)).reverse (st.drop (znarg t)) R = true then (zcall t (st.take (znarg t)).reverse R S L).bind fun q => zgo mi (pc + 3) ls (q.1.toList ++ st.drop (znarg t)) q.2.1 q.2.2.1 q.2.2.2 else none := by
  apply Option.ext
  intro r
  rw [zgo_iff]
  constructor
  · rintro ⟨n, h⟩
    cases n with
    | zero => simp [zrun] at h
    | succ n =>
      rw [zrun, hf] at h
      simp only [he, hc] at h
      split at h
      · rename_i hm
        rw [if_pos hm]
        split at h
        · rename_i v1 R1 S1 L1 h1
          rw [show zcall t (st.take (znarg t)).reverse R S L = some (v1, R1, S1, L1) from zgo_iff.mpr ⟨n, h1⟩]
          exact zgo_iff.mpr ⟨n, h⟩
        · cases h
      · cases h
  · intro h
    split at h
    · rename_i hm
      cases h1 : zcall t (st.take (znarg t)).reverse R S L with
      | none => rw [h1] at h; cases h
      | some q =>
        rw [h1] at h
        obtain ⟨v1, R1, S1, L1⟩ := q
        obtain ⟨n1, h1⟩ := zgo_iff.mp h1
        obtain ⟨n2, h2⟩ := zgo_iff.mp h
        refine ⟨max n1 n2 + 1, ?_⟩
        rw [zrun, hf]
        simp only [he, hc, hm, if_true]
        rw [zrun_le h1 (Nat.le_max_left n1 n2)]
        exact zrun_le h2 (Nat.le_max_right n1 n2)
    · cases h
end ZQ
/-- the closed part of a call's conditions -/
def zmayN (mi t la na rs : Nat) : Bool := match zmeth[mi]?, zmeth[t]? with
  | some q, some r => decide (la ≤ r.2.2.1) && decide (na = r.2.2.2.2.2.2.2.2) && decide (rs ≤ 8) && decide (r.2.2.2.2.2.2.1 + 1 ≤ q.2.2.2.2.2.2.1) && decide (8 + (r.2.2.1 + 11) + r.2.2.2.2.2.2.2.1 ≤ q.2.2.2.2.2.2.2.1)
  | _, _ => false
/-- is there an object of this class at the place -/
def zrc (R : List zE) (a c : Nat) : Bool := match R[a]? with
  | some (0, c', _) => decide (c' = c)
  | _ => false
theorem zmay0 {mi t la na rs c a : Nat} {as rest : List Value} {R : List zE} (h : zmayN mi t la na rs = true) (h1 : (zargs (.ref a :: as)).length = la) (h2 : (.ref a :: as : List Value).length = na) (h3 : (rest.map fun v => v.category).sum = rs) (hc : zown t = c) : zmay mi 0 t (.ref a :: as) rest R = zrc R a c := by
  unfold zmay zmayN zrc at *
  cases hq : zmeth[mi]? with
  | none => rw [hq] at h; cases h
  | some q =>
  cases hr : zmeth[t]? with
  | none => rw [hq, hr] at h; cases h
  | some r =>
  rw [hq, hr] at h
  simp only [Bool.and_eq_true, decide_eq_true_eq] at h
  have hc2 : r.2.2.2.2.1 = c := by rw [← hc]; simp [zown, hr]
  simp only [h1, h2, h3, h, hc2, decide_true, Bool.true_and]
  cases R[a]? with
  | none => rfl
  | some x =>
    obtain ⟨t1, c1, f1⟩ := x
    cases t1 <;> rfl
theorem zmay1 {mi t la na rs : Nat} {as rest : List Value} {R : List zE} (h : zmayN mi t la na rs = true) (h1 : (zargs as).length = la) (h2 : as.length = na) (h3 : (rest.map fun v => v.category).sum = rs) : zmay mi 1 t as rest R = true := by
  unfold zmay zmayN at *
  cases hq : zmeth[mi]? with
  | none => rw [hq] at h; cases h
  | some q =>
  cases hr : zmeth[t]? with
  | none => rw [hq, hr] at h; cases h
  | some r =>
  rw [hq, hr] at h
  simp only [Bool.and_eq_true, decide_eq_true_eq] at h
  simp only [h1, h2, h3, h, decide_true, Bool.true_and]
theorem zmay2 {mi k t la na rs a : Nat} {as rest : List Value} {R : List zE} (hk : k = 2 ∨ k = 3) (h : zmayN mi t la na rs = true) (h1 : (zargs (.ref a :: as)).length = la) (h2 : (.ref a :: as : List Value).length = na) (h3 : (rest.map fun v => v.category).sum = rs) : zmay mi k t (.ref a :: as) rest R = true := by
  unfold zmay zmayN at *
  cases hq : zmeth[mi]? with
  | none => rw [hq] at h; cases h
  | some q =>
  cases hr : zmeth[t]? with
  | none => rw [hq, hr] at h; cases h
  | some r =>
  rw [hq, hr] at h
  simp only [Bool.and_eq_true, decide_eq_true_eq] at h
  rcases hk with rfl | rfl <;> simp only [h1, h2, h3, h, decide_true, Bool.true_and]
