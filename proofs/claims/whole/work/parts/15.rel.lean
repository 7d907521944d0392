/-! the two states: the class's (S, L over zRc) and the reference's (Sm, Lm over zRm1) -/
/-- a number of a row that lies between: as Int32 -/
def zbt (v lo hi : Int32) : Prop := lo ≤ v ∧ v ≤ hi
/-- what is told. c: how many players, blocks, sites, prints, acts, snows, guesses -/
def zMD (c : Nat → Nat) (S Sm : zS) : Prop :=
  (1 ≤ c 0 ∧ c 0 ≤ 8 ∧ c 1 ≤ 8 ∧ c 2 ≤ 6 ∧ c 3 ≤ 6 ∧ c 4 ≤ 20 ∧ 1 ≤ c 5 ∧ c 5 ≤ 5 ∧ c 6 ≤ 4) ∧
  (S 12 7 = nI (c 0) ∧ S 25 7 = nI (c 1) ∧ S 38 7 = nI (c 2) ∧ S 51 7 = nI (c 3) ∧ S 64 4 = nI (c 4) ∧ S 5 3 = nI (c 5) ∧ S 73 3 = nI (c 6)) ∧
  (Sm 11 8 = nI (c 0) ∧ Sm 11 7 = nI (c 1) ∧ Sm 11 9 = nI (c 2) ∧ Sm 11 10 = nI (c 3) ∧ Sm 11 11 = nI (c 4) ∧ Sm 11 6 = nI (c 5) ∧ Sm 11 12 = nI (c 6)) ∧
  (S 4 1 = Sm 11 0 ∧ S 4 2 = Sm 11 1 ∧ S 4 3 = Sm 11 2 ∧ S 4 4 = Sm 11 3 ∧ zbt (S 4 1) 1 9 ∧ zbt (S 4 2) 0 10 ∧ zbt (S 4 3) 1 99 ∧ zbt (S 4 4) 0 20) ∧
  ((S 4 5 = 0 ∧ Sm 11 4 = -1) ∨ (S 4 5 = 1 ∧ S 4 6 = Sm 11 4 ∧ S 4 7 = Sm 11 5 ∧ zbt (S 4 6) 0 19 ∧ zbt (S 4 7) 0 9)) ∧
  (∀ p, p < c 0 → S 14 p = Sm 18 p ∧ S 16 p = Sm 19 p ∧ S 18 p = Sm 20 p ∧ S 20 p = Sm 23 p ∧ S 22 p = Sm 21 p ∧ S 24 p = Sm 22 p ∧ (S 14 p = 0 ∨ S 14 p = 1) ∧ zbt (S 16 p) 0 4 ∧ zbt (S 18 p) 0 19 ∧ zbt (S 20 p) 0 9 ∧ zbt (S 22 p) 0 9 ∧ zbt (S 24 p) 0 9) ∧
  (∀ b, b < c 1 → S 27 b = Sm 14 b ∧ S 29 b = Sm 15 b ∧ S 31 b = Sm 16 b ∧ S 33 b = Sm 17 b ∧ (S 27 b = 0 ∨ S 27 b = 1) ∧ zbt (S 29 b) 0 4 ∧ zbt (S 31 b) 0 19 ∧ zbt (S 33 b) 1 9) ∧
  (∀ k, k < c 2 → S 40 k = Sm 24 k ∧ S 42 k = Sm 25 k ∧ S 44 k = Sm 26 k ∧ S 46 k = Sm 27 k ∧ (S 40 k = 0 ∨ S 40 k = 1) ∧ zbt (S 42 k) 0 4 ∧ zbt (S 44 k) 0 19 ∧ zbt (S 46 k) 1 30) ∧
  (∀ k, k < c 3 → S 53 k = Sm 28 k ∧ S 55 k = Sm 29 k ∧ S 57 k = Sm 30 k ∧ (S 53 k = 0 ∨ S 53 k = 1) ∧ zbt (S 55 k) 0 4 ∧ zbt (S 57 k) 0 19) ∧
  (∀ k, k < c 4 → S 66 k = Sm 31 k ∧ zbt (S 66 k) 0 98 ∧ (∃ p, p < c 0 ∧ S 68 k = nI p ∧ Sm 32 k = nI p) ∧ S 70 k = Sm 33 k ∧ zbt (S 70 k) 0 5 ∧ (S 70 k ≤ 2 → ∃ p, p < c 0 ∧ S 72 k = nI p ∧ Sm 34 k = nI p)) ∧
  (∀ k, k < c 6 → S 75 k = Sm 35 k ∧ S 77 k = Sm 36 k ∧ S 79 k = Sm 37 k ∧ zbt (S 75 k) 1 99 ∧ zbt (S 77 k) 0 10 ∧ zbt (S 79 k) 0 10 ∧ S 77 k + S 79 k ≤ 10) ∧
  (∀ i, i < c 5 → (∃ h, h < 24 ∧ S 7 i = nI h) ∧ zbt (S 9 i) 0 9 ∧ zbt (S 11 i) 0 9) ∧
  (∀ h, h < 24 → (Sm 12 h = 0 ∧ ∀ i, i < c 5 → S 7 i ≠ nI h) ∨ (∃ i, i < c 5 ∧ S 7 i = nI h ∧ (∀ j, i < j → j < c 5 → S 7 j ≠ nI h) ∧ Sm 12 h = S 9 i + 1 ∧ Sm 13 h = S 11 i)) ∧
  Sm 11 14 = S 7 0
/-- a GAME of the class at place g (its rows' cells at g+2, ..) and the reference's -/
def zGD (g : Nat) (c : Nat → Nat) (S Sm : zS) : Prop :=
  (∀ p, p < c 0 → S (g + 2) p = Sm 2 (9 + p) ∧ S (g + 4) p = Sm 2 (17 + p) ∧ S (g + 6) p = Sm 2 (25 + p) ∧ S (g + 8) p = Sm 2 (33 + p) ∧ zbt (S (g + 2) p) 0 19 ∧ zbt (S (g + 4) p) 0 9 ∧ (S (g + 8) p = 0 ∨ S (g + 8) p = 1)) ∧
  (∀ b, b < c 1 → S (g + 10) b = Sm 2 (41 + b) ∧ zbt (S (g + 10) b) 0 9) ∧
  (∀ k, k < 5 → S (g + 12) k = Sm 2 (4 + k)) ∧
  (S g 7 = Sm 2 2 ∧ zbt (S g 7) 0 99) ∧ (S g 8 = Sm 2 1 ∧ zbt (S g 8) 0 65536) ∧ (S g 10 = Sm 2 3 ∧ zbt (S g 10) (-1) 1) ∧
  (∃ i h, i < c 5 ∧ h < 24 ∧ S g 9 = nI i ∧ S 7 i = nI h ∧ Sm 2 0 = nI h ∧ (∀ j, i < j → j < c 5 → S 7 j ≠ nI h))
