/-! Row: its methods -/
theorem zbind {α β : Type} {a : α} {f : α → Option β} : (some a).bind f = f a := rfl
theorem ztl0 {α : Type} : (none : Option α).toList = [] := rfl
theorem ztl1 {α : Type} {a : α} : (some a).toList = [a] := rfl
theorem zapp0 {α : Type} {l : List α} : [] ++ l = l := rfl
theorem zapp1 {α : Type} {a : α} {l m : List α} : (a :: l) ++ m = a :: (l ++ m) := rfl
theorem zle_nat {i : Int32} {n : Nat} (h0 : ¬ i < 0) (hn : n < 2147483648) : Int32.ofNat n ≤ i ↔ n ≤ i.toNatClampNeg := by
  rw [Int32.le_iff_toInt_le, Int32.toInt_ofNat_of_lt hn]
  rw [Int32.lt_iff_toInt_lt] at h0
  have : i.toNatClampNeg = i.toInt.toNat := rfl
  simp at h0
  omega
theorem zint_nI {n : Nat} (h : n < 2147483648) : (nI n).toInt = n := Int32.toInt_ofNat_of_lt h
theorem zcl_nI {n : Nat} (h : n < 2147483648) : (nI n).toNatClampNeg = n := by
  show (nI n).toInt.toNat = n
  rw [zint_nI h]
  simp
theorem znI_lt {a b : Nat} (ha : a < 2147483648) (hb : b < 2147483648) : nI a < nI b ↔ a < b := by
  rw [Int32.lt_iff_toInt_lt, zint_nI ha, zint_nI hb]
  omega
theorem znI_le {a b : Nat} (ha : a < 2147483648) (hb : b < 2147483648) : nI a ≤ nI b ↔ a ≤ b := by
  rw [Int32.le_iff_toInt_le, zint_nI ha, zint_nI hb]
  omega
theorem znI_0 : (0 : Int32) = nI 0 := rfl
theorem znI_neg {a : Nat} (ha : a < 2147483648) : ¬ nI a < 0 := by
  rw [znI_0, znI_lt ha (by omega)]
  omega
theorem znI_s (a : Nat) : nI a + 1 = nI (a + 1) := by
  show Int32.ofNat a + Int32.ofNat 1 = Int32.ofNat (a + 1)
  rw [Int32.ofNat_add]
theorem znI_inj {a b : Nat} (ha : a < 2147483648) (hb : b < 2147483648) : nI a = nI b ↔ a = b := by
  constructor
  · intro h
    have := congrArg Int32.toInt h
    rw [zint_nI ha, zint_nI hb] at this
    omega
  · rintro rfl; rfl
theorem znI_f {n : Nat} : Int32.ofNat n = nI n := rfl
/-- a cell of a row, 0 beyond it -/
def zrd (S : zS) (c n : Nat) (i : Int32) : Int32 := if i < 0 ∨ n ≤ i.toNatClampNeg then 0 else S c i.toNatClampNeg
def zput (S : zS) (c n : Nat) (i v : Int32) : zS := if i < 0 ∨ n ≤ i.toNatClampNeg then S else zup S c i.toNatClampNeg v
def zadd (S : zS) (c n : Nat) (i v : Int32) : zS := if i < 0 ∨ n ≤ i.toNatClampNeg then S else zup S c i.toNatClampNeg (S c i.toNatClampNeg + v)
def zclear (S : zS) (c n : Nat) : zS := fun k j => if k = c ∧ j < n then 0 else S k j
def zcopy (S : zS) (c n c' n' : Nat) : zS := fun k j => if k = c ∧ j < n then (if j < n' then S c' j else 0) else S k j
theorem zrd_nI {S : zS} {c n j : Nat} (h : j < n) (hn : n < 2147483648) : zrd S c n (nI j) = S c j := by
  unfold zrd
  rw [zcl_nI (by omega), if_neg]
  intro h1
  rcases h1 with h1 | h1
  · exact znI_neg (by omega) h1
  · omega
section ZROW
variable {R : List zE} {S : zS} {L : zL} {k c n : Nat} {i v : Int32}
theorem m69 (h1 : ∀ S L, zgetf R S L k 6 0 = some (.ref c)) (h2 : zlen R c 1 = some n) (h3 : zalen R c = some n) (hn : n < 2147483648) : zcall 69 [.ref k, .int i] R S L = some (some (.int (zrd S c n i)), R, S, L) := by
  unfold zcall zrd
  simp only [S69, h1, h2, h3, zbind]
  by_cases h : i < 0
  · simp only [h, if_true, true_or]
  · simp only [h, if_false, false_or, zle_nat h hn]
    split <;> rfl
theorem m70 (h1 : ∀ S L, zgetf R S L k 6 0 = some (.ref c)) (h2 : zlen R c 1 = some n) (h3 : zalen R c = some n) (hn : n < 2147483648) : zcall 70 [.ref k, .int i, .int v] R S L = some (none, R, zput S c n i v, L) := by
  unfold zcall zput
  simp only [S70, h1, h2, h3, zbind]
  by_cases h : i < 0
  · simp only [h, if_true, true_or]
  · simp only [h, if_false, false_or, zle_nat h hn]
    split <;> rfl
theorem m71 (h1 : ∀ S L, zgetf R S L k 6 0 = some (.ref c)) (h2 : zlen R c 1 = some n) (h3 : zalen R c = some n) (hn : n < 2147483648) : zcall 71 [.ref k, .int i, .int v] R S L = some (none, R, zadd S c n i v, L) := by
  unfold zcall zadd
  simp only [S71, h1, h2, h3, zbind]
  by_cases h : i < 0
  · simp only [h, if_true, true_or]
  · simp only [h, if_false, false_or, zle_nat h hn]
    split <;> rfl
theorem zup_clear {S : zS} {c j : Nat} : zup (zclear S c j) c j 0 = zclear S c (j + 1) := by
  funext a b
  unfold zup zclear
  by_cases ha : a = c
  · by_cases hb : b = j
    · simp [ha, hb]
    · have : b < j + 1 ↔ b < j := by omega
      simp [ha, hb, this]
  · simp [ha]
theorem zclear0 {S : zS} {c : Nat} : zclear S c 0 = S := by
  funext a b
  simp [zclear]
theorem m72 (h1 : ∀ S L, zgetf R S L k 6 0 = some (.ref c)) (h2 : zlen R c 1 = some n) (h3 : zalen R c = some n) (hn : n < 2147483648) : zcall 72 [.ref k] R S L = some (none, R, zclear S c n, L) := by
  have key : ∀ d j, j + d = n → zgo 72 2 [.ref k, .int (nI j)] [] R (zclear S c j) L = some (none, R, zclear S c n, L) := by
    intro d
    induction d with
    | zero =>
      intro j hj
      have hj : j = n := by omega
      subst hj
      rw [s72_2]
      simp only [S72, h1, h3, zbind, znI_f]
      rw [if_pos (Int32.le_refl _)]
    | succ d ih =>
      intro j hj
      rw [s72_2]
      simp only [S72, h1, h2, h3, zbind, znI_f]
      rw [if_neg (show ¬ nI n ≤ nI j by rw [znI_le hn (by omega)]; omega), if_neg (by
        intro h
        rcases h with h | h
        · exact znI_neg (by omega) h
        · rw [zcl_nI (by omega)] at h; omega), zcl_nI (by omega), znI_s, zup_clear, zk_ref]
      exact ih (j + 1) (by omega)
  have := key n 0 (by omega)
  unfold zcall
  simp only [S72]
  rw [zclear0] at this
  exact this
theorem zup_copy {S : zS} {c n c' n' j : Nat} (hc : c ≠ c') : zup (zcopy S c j c' n') c j (if j < n' then S c' j else 0) = zcopy S c (j + 1) c' n' := by
  funext a b
  unfold zup zcopy
  by_cases ha : a = c
  · by_cases hb : b = j
    · simp [ha, hb]
    · have : b < j + 1 ↔ b < j := by omega
      simp [ha, hb, this]
  · simp [ha]
theorem zcopy0 {S : zS} {c c' n' : Nat} : zcopy S c 0 c' n' = S := by
  funext a b
  simp [zcopy]
theorem m73 {k' c' n' : Nat} (h1 : ∀ S L, zgetf R S L k 6 0 = some (.ref c)) (h2 : zlen R c 1 = some n) (h3 : zalen R c = some n) (hn : n < 2147483648) (h4 : zrc R k' 6 = true) (g1 : ∀ S L, zgetf R S L k' 6 0 = some (.ref c')) (g2 : zlen R c' 1 = some n') (g3 : zalen R c' = some n') (gn : n' < 2147483648) (hc : c ≠ c') : zcall 73 [.ref k, .ref k'] R S L = some (none, R, zcopy S c n c' n', L) := by
  have key : ∀ d j, j + d = n → zgo 73 2 [.ref k, .ref k', .int (nI j)] [] R (zcopy S c j c' n') L = some (none, R, zcopy S c n c' n', L) := by
    intro d
    induction d with
    | zero =>
      intro j hj
      have hj : j = n := by omega
      subst hj
      rw [s73_2]
      simp only [S73, h1, h3, zbind, znI_f]
      rw [if_pos (Int32.le_refl _)]
    | succ d ih =>
      intro j hj
      rw [s73_2]
      simp only [S73, h1, h2, h3, h4, znI_f, if_true, zbind, m69 g1 g2 g3 gn, ztl1, zapp1, zapp0]
      rw [if_neg (show ¬ nI n ≤ nI j by rw [znI_le hn (by omega)]; omega), if_neg (by
        intro h
        rcases h with h | h
        · exact znI_neg (by omega) h
        · rw [zcl_nI (by omega)] at h; omega), zcl_nI (by omega), znI_s]
      have e1 : zrd (zcopy S c j c' n') c' n' (nI j) = if j < n' then S c' j else 0 := by
        unfold zrd zcopy
        rw [zcl_nI (by omega)]
        by_cases h : j < n'
        · rw [if_neg (by
            intro h9
            rcases h9 with h9 | h9
            · exact znI_neg (by omega) h9
            · omega), if_pos h, if_neg (by rintro ⟨h8, -⟩; exact hc h8.symm)]
        · rw [if_pos (Or.inr (by omega)), if_neg h]
      rw [e1, zup_copy (n := n) hc, zk_ref]
      exact ih (j + 1) (by omega)
  have := key n 0 (by omega)
  unfold zcall
  simp only [S73]
  rw [zcopy0] at this
  exact this
end ZROW
