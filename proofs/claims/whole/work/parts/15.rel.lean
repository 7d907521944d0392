/-! the two states: the class's (S, L over zRc) and the reference's (Sm, Lm over zRm1) -/
/-- a number 0 to m -/
def zin (v : Int32) (m : Nat) : Prop := ∃ n : Nat, n ≤ m ∧ v = nI n
/-- a number 1 to m -/
def zin1 (v : Int32) (m : Nat) : Prop := ∃ n : Nat, 1 ≤ n ∧ n ≤ m ∧ v = nI n
/-- what is told. c: how many players, blocks, sites, prints, acts, snows, guesses -/
def zMD (c : Nat → Nat) (S Sm : zS) : Prop :=
  (1 ≤ c 0 ∧ c 0 ≤ 8 ∧ c 1 ≤ 8 ∧ c 2 ≤ 6 ∧ c 3 ≤ 6 ∧ c 4 ≤ 20 ∧ 1 ≤ c 5 ∧ c 5 ≤ 5 ∧ c 6 ≤ 4) ∧
  (S 12 7 = nI (c 0) ∧ S 25 7 = nI (c 1) ∧ S 38 7 = nI (c 2) ∧ S 51 7 = nI (c 3) ∧ S 64 4 = nI (c 4) ∧ S 5 3 = nI (c 5) ∧ S 73 3 = nI (c 6)) ∧
  (Sm 11 8 = nI (c 0) ∧ Sm 11 7 = nI (c 1) ∧ Sm 11 9 = nI (c 2) ∧ Sm 11 10 = nI (c 3) ∧ Sm 11 11 = nI (c 4) ∧ Sm 11 6 = nI (c 5) ∧ Sm 11 12 = nI (c 6)) ∧
  (S 4 1 = Sm 11 0 ∧ S 4 2 = Sm 11 1 ∧ S 4 3 = Sm 11 2 ∧ S 4 4 = Sm 11 3 ∧ zin1 (Sm 11 0) 9 ∧ zin (Sm 11 1) 10 ∧ zin1 (Sm 11 2) 99 ∧ zin (Sm 11 3) 20) ∧
  ((S 4 5 = 0 ∧ Sm 11 4 = -1) ∨ (S 4 5 = 1 ∧ S 4 6 = Sm 11 4 ∧ S 4 7 = Sm 11 5 ∧ zin (Sm 11 4) 19 ∧ zin (Sm 11 5) 9)) ∧
  (∀ p, p < c 0 → S 14 p = Sm 18 p ∧ S 16 p = Sm 19 p ∧ S 18 p = Sm 20 p ∧ S 20 p = Sm 23 p ∧ S 22 p = Sm 21 p ∧ S 24 p = Sm 22 p ∧ zin (Sm 18 p) 1 ∧ zin (Sm 19 p) 4 ∧ zin (Sm 20 p) 19 ∧ zin (Sm 23 p) 9 ∧ zin (Sm 21 p) 9 ∧ zin (Sm 22 p) 9) ∧
  (∀ b, b < c 1 → S 27 b = Sm 14 b ∧ S 29 b = Sm 15 b ∧ S 31 b = Sm 16 b ∧ S 33 b = Sm 17 b ∧ zin (Sm 14 b) 1 ∧ zin (Sm 15 b) 4 ∧ zin (Sm 16 b) 19 ∧ zin (Sm 17 b) 9) ∧
  (∀ k, k < c 2 → S 40 k = Sm 24 k ∧ S 42 k = Sm 25 k ∧ S 44 k = Sm 26 k ∧ S 46 k = Sm 27 k ∧ zin (Sm 24 k) 1 ∧ zin (Sm 25 k) 4 ∧ zin (Sm 26 k) 19 ∧ zin1 (Sm 27 k) 30) ∧
  (∀ k, k < c 3 → S 53 k = Sm 28 k ∧ S 55 k = Sm 29 k ∧ S 57 k = Sm 30 k ∧ zin (Sm 28 k) 1 ∧ zin (Sm 29 k) 4 ∧ zin (Sm 30 k) 19) ∧
  (∀ k, k < c 4 → S 66 k = Sm 31 k ∧ zin (Sm 31 k) 98 ∧ (∃ p, p < c 0 ∧ S 68 k = nI p ∧ Sm 32 k = nI p) ∧ S 70 k = Sm 33 k ∧ ((zin (Sm 33 k) 2 ∧ ∃ p, p < c 0 ∧ S 72 k = nI p ∧ Sm 34 k = nI p) ∨ Sm 33 k = 3 ∨ Sm 33 k = 4 ∨ Sm 33 k = 5)) ∧
  (∀ k, k < c 6 → S 75 k = Sm 35 k ∧ S 77 k = Sm 36 k ∧ S 79 k = Sm 37 k ∧ ∃ w f h : Nat, 1 ≤ w ∧ w ≤ 99 ∧ f + h ≤ 10 ∧ Sm 35 k = nI w ∧ Sm 36 k = nI f ∧ Sm 37 k = nI h) ∧
  (∀ i, i < c 5 → (∃ h, h < 24 ∧ S 7 i = nI h) ∧ zin (S 9 i) 9 ∧ zin (S 11 i) 9) ∧
  (∀ h, h < 24 → (Sm 12 h = 0 ∧ ∀ i, i < c 5 → S 7 i ≠ nI h) ∨ (∃ i, i < c 5 ∧ S 7 i = nI h ∧ (∀ j, i < j → j < c 5 → S 7 j ≠ nI h) ∧ Sm 12 h = S 9 i + 1 ∧ Sm 13 h = S 11 i)) ∧
  Sm 11 14 = S 7 0
/-- a GAME of the class at place g (its rows' cells at g+2, ..) and one of the reference's: f, of 49 numbers -/
def zGD (g : Nat) (c : Nat → Nat) (S : zS) (f : Nat → Int32) : Prop :=
  (∀ p, p < c 0 → S (g + 2) p = f (9 + p) ∧ S (g + 4) p = f (17 + p) ∧ S (g + 6) p = f (25 + p) ∧ S (g + 8) p = f (33 + p) ∧ zin (f (9 + p)) 19 ∧ zin (f (17 + p)) 9 ∧ zin (f (33 + p)) 1) ∧
  (∀ b, b < c 1 → S (g + 10) b = f (41 + b) ∧ zin (f (41 + b)) 9) ∧
  (∀ k, k < 5 → S (g + 12) k = f (4 + k)) ∧
  (S g 7 = f 2 ∧ zin (f 2) 99) ∧ (S g 8 = f 1 ∧ zin (f 1) 65536) ∧ (S g 10 = f 3 ∧ (f 3 = -1 ∨ f 3 = 0 ∨ f 3 = 1)) ∧
  (∃ i h, i < c 5 ∧ h < 24 ∧ S g 9 = nI i ∧ S 7 i = nI h ∧ f 0 = nI h ∧ (∀ j, i < j → j < c 5 → S 7 j ≠ nI h))
/-! literals apart -/
theorem zel_m1_m1 : ((-1 : Int32) = -1) = True := by decide
theorem zel_m1_0 : ((-1 : Int32) = 0) = False := by decide
theorem zel_m1_1 : ((-1 : Int32) = 1) = False := by decide
theorem zel_m1_2 : ((-1 : Int32) = 2) = False := by decide
theorem zel_m1_3 : ((-1 : Int32) = 3) = False := by decide
theorem zel_m1_4 : ((-1 : Int32) = 4) = False := by decide
theorem zel_m1_5 : ((-1 : Int32) = 5) = False := by decide
theorem zel_0_m1 : ((0 : Int32) = -1) = False := by decide
theorem zel_0_0 : ((0 : Int32) = 0) = True := by decide
theorem zel_0_1 : ((0 : Int32) = 1) = False := by decide
theorem zel_0_2 : ((0 : Int32) = 2) = False := by decide
theorem zel_0_3 : ((0 : Int32) = 3) = False := by decide
theorem zel_0_4 : ((0 : Int32) = 4) = False := by decide
theorem zel_0_5 : ((0 : Int32) = 5) = False := by decide
theorem zel_1_m1 : ((1 : Int32) = -1) = False := by decide
theorem zel_1_0 : ((1 : Int32) = 0) = False := by decide
theorem zel_1_1 : ((1 : Int32) = 1) = True := by decide
theorem zel_1_2 : ((1 : Int32) = 2) = False := by decide
theorem zel_1_3 : ((1 : Int32) = 3) = False := by decide
theorem zel_1_4 : ((1 : Int32) = 4) = False := by decide
theorem zel_1_5 : ((1 : Int32) = 5) = False := by decide
theorem zel_2_m1 : ((2 : Int32) = -1) = False := by decide
theorem zel_2_0 : ((2 : Int32) = 0) = False := by decide
theorem zel_2_1 : ((2 : Int32) = 1) = False := by decide
theorem zel_2_2 : ((2 : Int32) = 2) = True := by decide
theorem zel_2_3 : ((2 : Int32) = 3) = False := by decide
theorem zel_2_4 : ((2 : Int32) = 4) = False := by decide
theorem zel_2_5 : ((2 : Int32) = 5) = False := by decide
theorem zel_3_m1 : ((3 : Int32) = -1) = False := by decide
theorem zel_3_0 : ((3 : Int32) = 0) = False := by decide
theorem zel_3_1 : ((3 : Int32) = 1) = False := by decide
theorem zel_3_2 : ((3 : Int32) = 2) = False := by decide
theorem zel_3_3 : ((3 : Int32) = 3) = True := by decide
theorem zel_3_4 : ((3 : Int32) = 4) = False := by decide
theorem zel_3_5 : ((3 : Int32) = 5) = False := by decide
theorem zel_4_m1 : ((4 : Int32) = -1) = False := by decide
theorem zel_4_0 : ((4 : Int32) = 0) = False := by decide
theorem zel_4_1 : ((4 : Int32) = 1) = False := by decide
theorem zel_4_2 : ((4 : Int32) = 2) = False := by decide
theorem zel_4_3 : ((4 : Int32) = 3) = False := by decide
theorem zel_4_4 : ((4 : Int32) = 4) = True := by decide
theorem zel_4_5 : ((4 : Int32) = 5) = False := by decide
theorem zel_5_m1 : ((5 : Int32) = -1) = False := by decide
theorem zel_5_0 : ((5 : Int32) = 0) = False := by decide
theorem zel_5_1 : ((5 : Int32) = 1) = False := by decide
theorem zel_5_2 : ((5 : Int32) = 2) = False := by decide
theorem zel_5_3 : ((5 : Int32) = 3) = False := by decide
theorem zel_5_4 : ((5 : Int32) = 4) = False := by decide
theorem zel_5_5 : ((5 : Int32) = 5) = True := by decide
def zEL := (And.intro @zel_m1_m1 (And.intro @zel_m1_0 (And.intro @zel_m1_1 (And.intro @zel_m1_2 (And.intro @zel_m1_3 (And.intro @zel_m1_4 (And.intro @zel_m1_5 (And.intro @zel_0_m1 (And.intro @zel_0_0 (And.intro @zel_0_1 (And.intro @zel_0_2 (And.intro @zel_0_3 (And.intro @zel_0_4 (And.intro @zel_0_5 (And.intro @zel_1_m1 (And.intro @zel_1_0 (And.intro @zel_1_1 (And.intro @zel_1_2 (And.intro @zel_1_3 (And.intro @zel_1_4 (And.intro @zel_1_5 (And.intro @zel_2_m1 (And.intro @zel_2_0 (And.intro @zel_2_1 (And.intro @zel_2_2 (And.intro @zel_2_3 (And.intro @zel_2_4 (And.intro @zel_2_5 (And.intro @zel_3_m1 (And.intro @zel_3_0 (And.intro @zel_3_1 (And.intro @zel_3_2 (And.intro @zel_3_3 (And.intro @zel_3_4 (And.intro @zel_3_5 (And.intro @zel_4_m1 (And.intro @zel_4_0 (And.intro @zel_4_1 (And.intro @zel_4_2 (And.intro @zel_4_3 (And.intro @zel_4_4 (And.intro @zel_4_5 (And.intro @zel_5_m1 (And.intro @zel_5_0 (And.intro @zel_5_1 (And.intro @zel_5_2 (And.intro @zel_5_3 (And.intro @zel_5_4 (And.intro @zel_5_5 trivial)))))))))))))))))))))))))))))))))))))))))))))))))
theorem zup_ne {α : Type} {S : Nat → Nat → α} {a k a' k' : Nat} {v : α} (h : a' ≠ a ∨ k' ≠ k) : zup S a k v a' k' = S a' k' := by
  unfold zup
  rw [if_neg]
  intro ⟨h1, h2⟩
  rcases h with h | h <;> exact h (by assumption)
theorem zup_eq {α : Type} {S : Nat → Nat → α} {a k a' k' : Nat} {v : α} (h1 : a' = a) (h2 : k' = k) : zup S a k v a' k' = v := if_pos ⟨h1, h2⟩
/-- a game and what stands still: from (S0, Sm0) on only the game's own places changed -/
def zGJ (g : Nat) (c : Nat → Nat) (S0 Sm0 S Sm : zS) : Prop :=
  zMD c S Sm ∧ zGD g c S (Sm 2) ∧ (∀ j k, (j < g ∨ g + 12 < j ∨ (j = g ∧ (k = 7 ∨ k = 9))) → S j k = S0 j k) ∧ (∀ j k, j ≠ 2 → Sm j k = Sm0 j k)
def zGI (g : Nat) (c : Nat → Nat) (S0 Sm0 S Sm : zS) : Prop :=
  zMD c S Sm ∧ zGD g c S (Sm 2) ∧ (∀ j k, (j < g ∨ g + 18 < j ∨ (j = g ∧ k = 9)) → S j k = S0 j k) ∧ (∀ j k, j ≠ 2 → j ≠ 5 → j ≠ 6 → Sm j k = Sm0 j k)
theorem zMD_fr {c : Nat → Nat} {S Sm S' Sm' : zS} (h : zMD c S Sm) (h1 : ∀ j k, j < 80 → S' j k = S j k) (h2 : ∀ j k, 11 ≤ j → Sm' j k = Sm j k) : zMD c S' Sm' := by
  unfold zMD at h ⊢
  have e1 : ∀ j, j < 80 → S' j = S j := fun j hj => funext fun k => h1 j k hj
  have e2 : ∀ j, 11 ≤ j → Sm' j = Sm j := fun j hj => funext fun k => h2 j k hj
  simp (disch := omega) only [e1, e2]
  exact h
/-! literals beside nI -/
theorem zkl1_0 {a : Nat} (h : a < 2147483648) : ((0 : Int32) < nI a) = (0 < a) := propext (znI_lt (a := 0) (by omega) h)
theorem zkl2_0 {a : Nat} (h : a < 2147483648) : (nI a < (0 : Int32)) = (a < 0) := propext (znI_lt (b := 0) h (by omega))
theorem zkl3_0 {a : Nat} (h : a < 2147483648) : ((0 : Int32) ≤ nI a) = (0 ≤ a) := propext (znI_le (a := 0) (by omega) h)
theorem zkl4_0 {a : Nat} (h : a < 2147483648) : (nI a ≤ (0 : Int32)) = (a ≤ 0) := propext (znI_le (b := 0) h (by omega))
theorem zkl5_0 {a : Nat} (h : a < 2147483648) : (nI a = (0 : Int32)) = (a = 0) := propext (znI_inj (b := 0) h (by omega))
theorem zkl6_0 {a : Nat} (h : a < 2147483648) : ((0 : Int32) = nI a) = (0 = a) := propext (znI_inj (a := 0) (by omega) h)
theorem zkl1_1 {a : Nat} (h : a < 2147483648) : ((1 : Int32) < nI a) = (1 < a) := propext (znI_lt (a := 1) (by omega) h)
theorem zkl2_1 {a : Nat} (h : a < 2147483648) : (nI a < (1 : Int32)) = (a < 1) := propext (znI_lt (b := 1) h (by omega))
theorem zkl3_1 {a : Nat} (h : a < 2147483648) : ((1 : Int32) ≤ nI a) = (1 ≤ a) := propext (znI_le (a := 1) (by omega) h)
theorem zkl4_1 {a : Nat} (h : a < 2147483648) : (nI a ≤ (1 : Int32)) = (a ≤ 1) := propext (znI_le (b := 1) h (by omega))
theorem zkl5_1 {a : Nat} (h : a < 2147483648) : (nI a = (1 : Int32)) = (a = 1) := propext (znI_inj (b := 1) h (by omega))
theorem zkl6_1 {a : Nat} (h : a < 2147483648) : ((1 : Int32) = nI a) = (1 = a) := propext (znI_inj (a := 1) (by omega) h)
theorem zkl1_2 {a : Nat} (h : a < 2147483648) : ((2 : Int32) < nI a) = (2 < a) := propext (znI_lt (a := 2) (by omega) h)
theorem zkl2_2 {a : Nat} (h : a < 2147483648) : (nI a < (2 : Int32)) = (a < 2) := propext (znI_lt (b := 2) h (by omega))
theorem zkl3_2 {a : Nat} (h : a < 2147483648) : ((2 : Int32) ≤ nI a) = (2 ≤ a) := propext (znI_le (a := 2) (by omega) h)
theorem zkl4_2 {a : Nat} (h : a < 2147483648) : (nI a ≤ (2 : Int32)) = (a ≤ 2) := propext (znI_le (b := 2) h (by omega))
theorem zkl5_2 {a : Nat} (h : a < 2147483648) : (nI a = (2 : Int32)) = (a = 2) := propext (znI_inj (b := 2) h (by omega))
theorem zkl6_2 {a : Nat} (h : a < 2147483648) : ((2 : Int32) = nI a) = (2 = a) := propext (znI_inj (a := 2) (by omega) h)
theorem zkl1_3 {a : Nat} (h : a < 2147483648) : ((3 : Int32) < nI a) = (3 < a) := propext (znI_lt (a := 3) (by omega) h)
theorem zkl2_3 {a : Nat} (h : a < 2147483648) : (nI a < (3 : Int32)) = (a < 3) := propext (znI_lt (b := 3) h (by omega))
theorem zkl3_3 {a : Nat} (h : a < 2147483648) : ((3 : Int32) ≤ nI a) = (3 ≤ a) := propext (znI_le (a := 3) (by omega) h)
theorem zkl4_3 {a : Nat} (h : a < 2147483648) : (nI a ≤ (3 : Int32)) = (a ≤ 3) := propext (znI_le (b := 3) h (by omega))
theorem zkl5_3 {a : Nat} (h : a < 2147483648) : (nI a = (3 : Int32)) = (a = 3) := propext (znI_inj (b := 3) h (by omega))
theorem zkl6_3 {a : Nat} (h : a < 2147483648) : ((3 : Int32) = nI a) = (3 = a) := propext (znI_inj (a := 3) (by omega) h)
theorem zkl1_4 {a : Nat} (h : a < 2147483648) : ((4 : Int32) < nI a) = (4 < a) := propext (znI_lt (a := 4) (by omega) h)
theorem zkl2_4 {a : Nat} (h : a < 2147483648) : (nI a < (4 : Int32)) = (a < 4) := propext (znI_lt (b := 4) h (by omega))
theorem zkl3_4 {a : Nat} (h : a < 2147483648) : ((4 : Int32) ≤ nI a) = (4 ≤ a) := propext (znI_le (a := 4) (by omega) h)
theorem zkl4_4 {a : Nat} (h : a < 2147483648) : (nI a ≤ (4 : Int32)) = (a ≤ 4) := propext (znI_le (b := 4) h (by omega))
theorem zkl5_4 {a : Nat} (h : a < 2147483648) : (nI a = (4 : Int32)) = (a = 4) := propext (znI_inj (b := 4) h (by omega))
theorem zkl6_4 {a : Nat} (h : a < 2147483648) : ((4 : Int32) = nI a) = (4 = a) := propext (znI_inj (a := 4) (by omega) h)
theorem zkl1_5 {a : Nat} (h : a < 2147483648) : ((5 : Int32) < nI a) = (5 < a) := propext (znI_lt (a := 5) (by omega) h)
theorem zkl2_5 {a : Nat} (h : a < 2147483648) : (nI a < (5 : Int32)) = (a < 5) := propext (znI_lt (b := 5) h (by omega))
theorem zkl3_5 {a : Nat} (h : a < 2147483648) : ((5 : Int32) ≤ nI a) = (5 ≤ a) := propext (znI_le (a := 5) (by omega) h)
theorem zkl4_5 {a : Nat} (h : a < 2147483648) : (nI a ≤ (5 : Int32)) = (a ≤ 5) := propext (znI_le (b := 5) h (by omega))
theorem zkl5_5 {a : Nat} (h : a < 2147483648) : (nI a = (5 : Int32)) = (a = 5) := propext (znI_inj (b := 5) h (by omega))
theorem zkl6_5 {a : Nat} (h : a < 2147483648) : ((5 : Int32) = nI a) = (5 = a) := propext (znI_inj (a := 5) (by omega) h)
theorem zkl1_6 {a : Nat} (h : a < 2147483648) : ((6 : Int32) < nI a) = (6 < a) := propext (znI_lt (a := 6) (by omega) h)
theorem zkl2_6 {a : Nat} (h : a < 2147483648) : (nI a < (6 : Int32)) = (a < 6) := propext (znI_lt (b := 6) h (by omega))
theorem zkl3_6 {a : Nat} (h : a < 2147483648) : ((6 : Int32) ≤ nI a) = (6 ≤ a) := propext (znI_le (a := 6) (by omega) h)
theorem zkl4_6 {a : Nat} (h : a < 2147483648) : (nI a ≤ (6 : Int32)) = (a ≤ 6) := propext (znI_le (b := 6) h (by omega))
theorem zkl5_6 {a : Nat} (h : a < 2147483648) : (nI a = (6 : Int32)) = (a = 6) := propext (znI_inj (b := 6) h (by omega))
theorem zkl6_6 {a : Nat} (h : a < 2147483648) : ((6 : Int32) = nI a) = (6 = a) := propext (znI_inj (a := 6) (by omega) h)
theorem zkl1_7 {a : Nat} (h : a < 2147483648) : ((7 : Int32) < nI a) = (7 < a) := propext (znI_lt (a := 7) (by omega) h)
theorem zkl2_7 {a : Nat} (h : a < 2147483648) : (nI a < (7 : Int32)) = (a < 7) := propext (znI_lt (b := 7) h (by omega))
theorem zkl3_7 {a : Nat} (h : a < 2147483648) : ((7 : Int32) ≤ nI a) = (7 ≤ a) := propext (znI_le (a := 7) (by omega) h)
theorem zkl4_7 {a : Nat} (h : a < 2147483648) : (nI a ≤ (7 : Int32)) = (a ≤ 7) := propext (znI_le (b := 7) h (by omega))
theorem zkl5_7 {a : Nat} (h : a < 2147483648) : (nI a = (7 : Int32)) = (a = 7) := propext (znI_inj (b := 7) h (by omega))
theorem zkl6_7 {a : Nat} (h : a < 2147483648) : ((7 : Int32) = nI a) = (7 = a) := propext (znI_inj (a := 7) (by omega) h)
theorem zkl1_8 {a : Nat} (h : a < 2147483648) : ((8 : Int32) < nI a) = (8 < a) := propext (znI_lt (a := 8) (by omega) h)
theorem zkl2_8 {a : Nat} (h : a < 2147483648) : (nI a < (8 : Int32)) = (a < 8) := propext (znI_lt (b := 8) h (by omega))
theorem zkl3_8 {a : Nat} (h : a < 2147483648) : ((8 : Int32) ≤ nI a) = (8 ≤ a) := propext (znI_le (a := 8) (by omega) h)
theorem zkl4_8 {a : Nat} (h : a < 2147483648) : (nI a ≤ (8 : Int32)) = (a ≤ 8) := propext (znI_le (b := 8) h (by omega))
theorem zkl5_8 {a : Nat} (h : a < 2147483648) : (nI a = (8 : Int32)) = (a = 8) := propext (znI_inj (b := 8) h (by omega))
theorem zkl6_8 {a : Nat} (h : a < 2147483648) : ((8 : Int32) = nI a) = (8 = a) := propext (znI_inj (a := 8) (by omega) h)
theorem zkl1_9 {a : Nat} (h : a < 2147483648) : ((9 : Int32) < nI a) = (9 < a) := propext (znI_lt (a := 9) (by omega) h)
theorem zkl2_9 {a : Nat} (h : a < 2147483648) : (nI a < (9 : Int32)) = (a < 9) := propext (znI_lt (b := 9) h (by omega))
theorem zkl3_9 {a : Nat} (h : a < 2147483648) : ((9 : Int32) ≤ nI a) = (9 ≤ a) := propext (znI_le (a := 9) (by omega) h)
theorem zkl4_9 {a : Nat} (h : a < 2147483648) : (nI a ≤ (9 : Int32)) = (a ≤ 9) := propext (znI_le (b := 9) h (by omega))
theorem zkl5_9 {a : Nat} (h : a < 2147483648) : (nI a = (9 : Int32)) = (a = 9) := propext (znI_inj (b := 9) h (by omega))
theorem zkl6_9 {a : Nat} (h : a < 2147483648) : ((9 : Int32) = nI a) = (9 = a) := propext (znI_inj (a := 9) (by omega) h)
theorem zkl1_10 {a : Nat} (h : a < 2147483648) : ((10 : Int32) < nI a) = (10 < a) := propext (znI_lt (a := 10) (by omega) h)
theorem zkl2_10 {a : Nat} (h : a < 2147483648) : (nI a < (10 : Int32)) = (a < 10) := propext (znI_lt (b := 10) h (by omega))
theorem zkl3_10 {a : Nat} (h : a < 2147483648) : ((10 : Int32) ≤ nI a) = (10 ≤ a) := propext (znI_le (a := 10) (by omega) h)
theorem zkl4_10 {a : Nat} (h : a < 2147483648) : (nI a ≤ (10 : Int32)) = (a ≤ 10) := propext (znI_le (b := 10) h (by omega))
theorem zkl5_10 {a : Nat} (h : a < 2147483648) : (nI a = (10 : Int32)) = (a = 10) := propext (znI_inj (b := 10) h (by omega))
theorem zkl6_10 {a : Nat} (h : a < 2147483648) : ((10 : Int32) = nI a) = (10 = a) := propext (znI_inj (a := 10) (by omega) h)
theorem zkl1_19 {a : Nat} (h : a < 2147483648) : ((19 : Int32) < nI a) = (19 < a) := propext (znI_lt (a := 19) (by omega) h)
theorem zkl2_19 {a : Nat} (h : a < 2147483648) : (nI a < (19 : Int32)) = (a < 19) := propext (znI_lt (b := 19) h (by omega))
theorem zkl3_19 {a : Nat} (h : a < 2147483648) : ((19 : Int32) ≤ nI a) = (19 ≤ a) := propext (znI_le (a := 19) (by omega) h)
theorem zkl4_19 {a : Nat} (h : a < 2147483648) : (nI a ≤ (19 : Int32)) = (a ≤ 19) := propext (znI_le (b := 19) h (by omega))
theorem zkl5_19 {a : Nat} (h : a < 2147483648) : (nI a = (19 : Int32)) = (a = 19) := propext (znI_inj (b := 19) h (by omega))
theorem zkl6_19 {a : Nat} (h : a < 2147483648) : ((19 : Int32) = nI a) = (19 = a) := propext (znI_inj (a := 19) (by omega) h)
theorem zkl1_20 {a : Nat} (h : a < 2147483648) : ((20 : Int32) < nI a) = (20 < a) := propext (znI_lt (a := 20) (by omega) h)
theorem zkl2_20 {a : Nat} (h : a < 2147483648) : (nI a < (20 : Int32)) = (a < 20) := propext (znI_lt (b := 20) h (by omega))
theorem zkl3_20 {a : Nat} (h : a < 2147483648) : ((20 : Int32) ≤ nI a) = (20 ≤ a) := propext (znI_le (a := 20) (by omega) h)
theorem zkl4_20 {a : Nat} (h : a < 2147483648) : (nI a ≤ (20 : Int32)) = (a ≤ 20) := propext (znI_le (b := 20) h (by omega))
theorem zkl5_20 {a : Nat} (h : a < 2147483648) : (nI a = (20 : Int32)) = (a = 20) := propext (znI_inj (b := 20) h (by omega))
theorem zkl6_20 {a : Nat} (h : a < 2147483648) : ((20 : Int32) = nI a) = (20 = a) := propext (znI_inj (a := 20) (by omega) h)
theorem zkl1_99 {a : Nat} (h : a < 2147483648) : ((99 : Int32) < nI a) = (99 < a) := propext (znI_lt (a := 99) (by omega) h)
theorem zkl2_99 {a : Nat} (h : a < 2147483648) : (nI a < (99 : Int32)) = (a < 99) := propext (znI_lt (b := 99) h (by omega))
theorem zkl3_99 {a : Nat} (h : a < 2147483648) : ((99 : Int32) ≤ nI a) = (99 ≤ a) := propext (znI_le (a := 99) (by omega) h)
theorem zkl4_99 {a : Nat} (h : a < 2147483648) : (nI a ≤ (99 : Int32)) = (a ≤ 99) := propext (znI_le (b := 99) h (by omega))
theorem zkl5_99 {a : Nat} (h : a < 2147483648) : (nI a = (99 : Int32)) = (a = 99) := propext (znI_inj (b := 99) h (by omega))
theorem zkl6_99 {a : Nat} (h : a < 2147483648) : ((99 : Int32) = nI a) = (99 = a) := propext (znI_inj (a := 99) (by omega) h)
theorem zkl1_100 {a : Nat} (h : a < 2147483648) : ((100 : Int32) < nI a) = (100 < a) := propext (znI_lt (a := 100) (by omega) h)
theorem zkl2_100 {a : Nat} (h : a < 2147483648) : (nI a < (100 : Int32)) = (a < 100) := propext (znI_lt (b := 100) h (by omega))
theorem zkl3_100 {a : Nat} (h : a < 2147483648) : ((100 : Int32) ≤ nI a) = (100 ≤ a) := propext (znI_le (a := 100) (by omega) h)
theorem zkl4_100 {a : Nat} (h : a < 2147483648) : (nI a ≤ (100 : Int32)) = (a ≤ 100) := propext (znI_le (b := 100) h (by omega))
theorem zkl5_100 {a : Nat} (h : a < 2147483648) : (nI a = (100 : Int32)) = (a = 100) := propext (znI_inj (b := 100) h (by omega))
theorem zkl6_100 {a : Nat} (h : a < 2147483648) : ((100 : Int32) = nI a) = (100 = a) := propext (znI_inj (a := 100) (by omega) h)
def zKL := (And.intro @zkl1_0 (And.intro @zkl1_1 (And.intro @zkl1_2 (And.intro @zkl1_3 (And.intro @zkl1_4 (And.intro @zkl1_5 (And.intro @zkl1_6 (And.intro @zkl1_7 (And.intro @zkl1_8 (And.intro @zkl1_9 (And.intro @zkl1_10 (And.intro @zkl1_19 (And.intro @zkl1_20 (And.intro @zkl1_99 (And.intro @zkl1_100 (And.intro @zkl2_0 (And.intro @zkl2_1 (And.intro @zkl2_2 (And.intro @zkl2_3 (And.intro @zkl2_4 (And.intro @zkl2_5 (And.intro @zkl2_6 (And.intro @zkl2_7 (And.intro @zkl2_8 (And.intro @zkl2_9 (And.intro @zkl2_10 (And.intro @zkl2_19 (And.intro @zkl2_20 (And.intro @zkl2_99 (And.intro @zkl2_100 (And.intro @zkl3_0 (And.intro @zkl3_1 (And.intro @zkl3_2 (And.intro @zkl3_3 (And.intro @zkl3_4 (And.intro @zkl3_5 (And.intro @zkl3_6 (And.intro @zkl3_7 (And.intro @zkl3_8 (And.intro @zkl3_9 (And.intro @zkl3_10 (And.intro @zkl3_19 (And.intro @zkl3_20 (And.intro @zkl3_99 (And.intro @zkl3_100 (And.intro @zkl4_0 (And.intro @zkl4_1 (And.intro @zkl4_2 (And.intro @zkl4_3 (And.intro @zkl4_4 (And.intro @zkl4_5 (And.intro @zkl4_6 (And.intro @zkl4_7 (And.intro @zkl4_8 (And.intro @zkl4_9 (And.intro @zkl4_10 (And.intro @zkl4_19 (And.intro @zkl4_20 (And.intro @zkl4_99 (And.intro @zkl4_100 (And.intro @zkl5_0 (And.intro @zkl5_1 (And.intro @zkl5_2 (And.intro @zkl5_3 (And.intro @zkl5_4 (And.intro @zkl5_5 (And.intro @zkl5_6 (And.intro @zkl5_7 (And.intro @zkl5_8 (And.intro @zkl5_9 (And.intro @zkl5_10 (And.intro @zkl5_19 (And.intro @zkl5_20 (And.intro @zkl5_99 (And.intro @zkl5_100 (And.intro @zkl6_0 (And.intro @zkl6_1 (And.intro @zkl6_2 (And.intro @zkl6_3 (And.intro @zkl6_4 (And.intro @zkl6_5 (And.intro @zkl6_6 (And.intro @zkl6_7 (And.intro @zkl6_8 (And.intro @zkl6_9 (And.intro @zkl6_10 (And.intro @zkl6_19 (And.intro @zkl6_20 (And.intro @zkl6_99 (And.intro @zkl6_100 trivial))))))))))))))))))))))))))))))))))))))))))))))))))))))))))))))))))))))))))))))))))))))))))
