/-! Both constructors, by a run of the small machine -/
section ZCT
def zvq : Value → Value → Bool
  | .int x, .int y => decide (x = y)
  | .long x, .long y => decide (x = y)
  | .ref a, .ref b => decide (a = b)
  | .null, .null => true
  | _, _ => false
theorem zvq_eq {a b : Value} (h : zvq a b = true) : a = b := by
  unfold zvq at h
  split at h
  · rw [of_decide_eq_true h]
  · rw [of_decide_eq_true h]
  · rw [of_decide_eq_true h]
  · rfl
  · cases h
def zlq : List Value → List Value → Bool
  | [], [] => true
  | a :: as, b :: bs => zvq a b && zlq as bs
  | _, _ => false
theorem zlq_eq : ∀ (as bs : List Value), zlq as bs = true → as = bs
  | [], [], _ => rfl
  | a :: as, b :: bs, h => by
    unfold zlq at h
    rw [Bool.and_eq_true] at h
    rw [zvq_eq h.1, zlq_eq as bs h.2]
  | [], _ :: _, h => by cases h
  | _ :: _, [], h => by cases h
def zRq : List zE → List zE → Bool
  | [], [] => true
  | a :: as, b :: bs => decide (a.1 = b.1) && (decide (a.2.1 = b.2.1) && (zlq a.2.2 b.2.2 && zRq as bs))
  | _, _ => false
theorem zRq_eq : ∀ (as bs : List zE), zRq as bs = true → as = bs
  | [], [], _ => rfl
  | (a, b, c) :: as, (a', b', c') :: bs, h => by
    unfold zRq at h
    rw [Bool.and_eq_true, Bool.and_eq_true, Bool.and_eq_true] at h
    have h1 : a = a' := of_decide_eq_true h.1
    have h2 : b = b' := of_decide_eq_true h.2.1
    rw [h1, h2, zlq_eq c c' h.2.2.1, zRq_eq as bs h.2.2.2]
  | [], _ :: _, h => by cases h
  | _ :: _, [], h => by cases h
def zchkM : Bool := match zrun 400 167 0 (zentry 167 [.ref 0]) [] [(0, 13, zdefs 13)] (fun _ _ => 0) (fun _ _ => 0) with
  | some (none, R, S, _) => zRq R (zRm0 .null) && decide (S 0 1 = 0 ∧ S 0 2 = -1 ∧ S 0 6 = 0 ∧ S 0 13 = 0)
  | _ => false
set_option maxRecDepth 1000000 in
theorem zchkM_ok : zchkM = true := by decide +kernel
/-- the class's: what no MATCH says -/
def zc0 (S : zS) : Bool := decide (S 0 14 = 0 ∧ S 0 15 = 0 ∧ S 1 1 = 0 ∧ S 0 13 = 0 ∧ S 0 11 = 0 ∧ S 0 12 = 0) && (decide (S 12 7 = 0 ∧ S 25 7 = 0 ∧ S 38 7 = 0 ∧ S 51 7 = 0 ∧ S 64 4 = 0 ∧ S 5 3 = 0 ∧ S 73 3 = 0) && (decide (S 168 7 = 0 ∧ S 168 8 = 0 ∧ S 168 9 = 0 ∧ S 7 0 = 0) && decide (S 12 0 = 8 ∧ S 25 0 = 8 ∧ S 38 0 = 6 ∧ S 51 0 = 6 ∧ S 89 0 = 8 ∧ S 102 0 = 8 ∧ S 115 0 = 6 ∧ S 128 0 = 6)))
def zchkC : Bool := match zrun 600 102 0 (zentry 102 [.ref 0]) [] [(0, 11, zdefs 11)] (fun _ _ => 0) (fun _ _ => 0) with
  | some (none, R, S, _) => zRq R zRc && zc0 S
  | _ => false
set_option maxRecDepth 1000000 in
theorem zchkC_ok : zchkC = true := by decide +kernel
theorem zini_C : ∃ S L, zcall 102 [.ref 0] [(0, 11, zdefs 11)] (fun _ _ => 0) (fun _ _ => 0) = some (none, zRc, S, L) ∧ zc0 S = true := by
  have h := zchkC_ok
  unfold zchkC at h
  split at h
  · rename_i R S L e
    rw [Bool.and_eq_true] at h
    rw [zRq_eq _ _ h.1] at e
    exact ⟨S, L, zgo_iff.mpr ⟨_, e⟩, h.2⟩
  · cases h
theorem zini_M : ∃ S L, zcall 167 [.ref 0] [(0, 13, zdefs 13)] (fun _ _ => 0) (fun _ _ => 0) = some (none, zRm0 .null, S, L) ∧ S 0 1 = 0 ∧ S 0 2 = -1 ∧ S 0 6 = 0 ∧ S 0 13 = 0 := by
  have h := zchkM_ok
  unfold zchkM at h
  split at h
  · rename_i R S L e
    rw [Bool.and_eq_true] at h
    rw [zRq_eq _ _ h.1] at e
    exact ⟨S, L, zgo_iff.mpr ⟨_, e⟩, of_decide_eq_true h.2⟩
  · cases h
theorem zini_TU {S Sm : zS} (h : zc0 S = true) (h1 : Sm 0 1 = 0) (h2 : Sm 0 2 = -1) (h3 : Sm 0 6 = 0) (h4 : Sm 0 13 = 0) : zTU S Sm := by
  unfold zc0 at h
  rw [Bool.and_eq_true, Bool.and_eq_true, Bool.and_eq_true] at h
  obtain ⟨a, b, d, e⟩ := h
  have a := of_decide_eq_true a
  have b := of_decide_eq_true b
  have d := of_decide_eq_true d
  have e := of_decide_eq_true e
  refine ⟨⟨a.1.trans h1.symm, ?_, a.2.1.trans h4.symm, 0, by decide, a.2.2.1, h3, fun i hi => absurd hi (Nat.not_lt_zero i)⟩, a.2.2.2.1, b, d, a.2.2.2.2.1, a.2.2.2.2.2, e⟩
  rw [a.1, if_neg (by decide), h2]
end ZCT
