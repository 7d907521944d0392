/-! THE TEXT: bytes and TOKENS -/
theorem zkm1_32 {a : Nat} (h : a < 2147483648) : ((32 : Int32) < nI a) = (32 < a) := propext (znI_lt (a := 32) (by omega) h)
theorem zkm2_32 {a : Nat} (h : a < 2147483648) : (nI a < (32 : Int32)) = (a < 32) := propext (znI_lt (b := 32) h (by omega))
theorem zkm5_32 {a : Nat} (h : a < 2147483648) : (nI a = (32 : Int32)) = (a = 32) := propext (znI_inj (b := 32) h (by omega))
theorem zkm1_44 {a : Nat} (h : a < 2147483648) : ((44 : Int32) < nI a) = (44 < a) := propext (znI_lt (a := 44) (by omega) h)
theorem zkm2_44 {a : Nat} (h : a < 2147483648) : (nI a < (44 : Int32)) = (a < 44) := propext (znI_lt (b := 44) h (by omega))
theorem zkm5_44 {a : Nat} (h : a < 2147483648) : (nI a = (44 : Int32)) = (a = 44) := propext (znI_inj (b := 44) h (by omega))
theorem zkm1_48 {a : Nat} (h : a < 2147483648) : ((48 : Int32) < nI a) = (48 < a) := propext (znI_lt (a := 48) (by omega) h)
theorem zkm2_48 {a : Nat} (h : a < 2147483648) : (nI a < (48 : Int32)) = (a < 48) := propext (znI_lt (b := 48) h (by omega))
theorem zkm5_48 {a : Nat} (h : a < 2147483648) : (nI a = (48 : Int32)) = (a = 48) := propext (znI_inj (b := 48) h (by omega))
theorem zkm1_57 {a : Nat} (h : a < 2147483648) : ((57 : Int32) < nI a) = (57 < a) := propext (znI_lt (a := 57) (by omega) h)
theorem zkm2_57 {a : Nat} (h : a < 2147483648) : (nI a < (57 : Int32)) = (a < 57) := propext (znI_lt (b := 57) h (by omega))
theorem zkm5_57 {a : Nat} (h : a < 2147483648) : (nI a = (57 : Int32)) = (a = 57) := propext (znI_inj (b := 57) h (by omega))
theorem zkm1_59 {a : Nat} (h : a < 2147483648) : ((59 : Int32) < nI a) = (59 < a) := propext (znI_lt (a := 59) (by omega) h)
theorem zkm2_59 {a : Nat} (h : a < 2147483648) : (nI a < (59 : Int32)) = (a < 59) := propext (znI_lt (b := 59) h (by omega))
theorem zkm5_59 {a : Nat} (h : a < 2147483648) : (nI a = (59 : Int32)) = (a = 59) := propext (znI_inj (b := 59) h (by omega))
theorem zkm1_97 {a : Nat} (h : a < 2147483648) : ((97 : Int32) < nI a) = (97 < a) := propext (znI_lt (a := 97) (by omega) h)
theorem zkm2_97 {a : Nat} (h : a < 2147483648) : (nI a < (97 : Int32)) = (a < 97) := propext (znI_lt (b := 97) h (by omega))
theorem zkm5_97 {a : Nat} (h : a < 2147483648) : (nI a = (97 : Int32)) = (a = 97) := propext (znI_inj (b := 97) h (by omega))
theorem zkm1_122 {a : Nat} (h : a < 2147483648) : ((122 : Int32) < nI a) = (122 < a) := propext (znI_lt (a := 122) (by omega) h)
theorem zkm2_122 {a : Nat} (h : a < 2147483648) : (nI a < (122 : Int32)) = (a < 122) := propext (znI_lt (b := 122) h (by omega))
theorem zkm5_122 {a : Nat} (h : a < 2147483648) : (nI a = (122 : Int32)) = (a = 122) := propext (znI_inj (b := 122) h (by omega))
def zKM := (And.intro @zkm1_32 (And.intro @zkm1_44 (And.intro @zkm1_48 (And.intro @zkm1_57 (And.intro @zkm1_59 (And.intro @zkm1_97 (And.intro @zkm1_122 (And.intro @zkm2_32 (And.intro @zkm2_44 (And.intro @zkm2_48 (And.intro @zkm2_57 (And.intro @zkm2_59 (And.intro @zkm2_97 (And.intro @zkm2_122 (And.intro @zkm5_32 (And.intro @zkm5_44 (And.intro @zkm5_48 (And.intro @zkm5_57 (And.intro @zkm5_59 (And.intro @zkm5_97 (And.intro @zkm5_122 trivial)))))))))))))))))))))
section ZP1
variable {S Sm : zS} {L Lm : zL} {R : List zE} {n : Nat} {b : Nat → Nat}
def zkd (x : Nat) : Nat := if 97 ≤ x ∧ x ≤ 122 then 1 else if 48 ≤ x ∧ x ≤ 57 then 2 else if x = 59 then 3 else if x = 44 then 4 else 5
theorem zkd_r {x : Nat} : 1 ≤ zkd x ∧ zkd x ≤ 5 := by
  unfold zkd
  repeat' split
  all_goals omega
theorem zkd_1 {x : Nat} : zkd x = 1 ↔ (97 ≤ x ∧ x ≤ 122) := by
  unfold zkd
  repeat' split
  all_goals omega
theorem zkd_2 {x : Nat} : zkd x = 2 ↔ (48 ≤ x ∧ x ≤ 57) := by
  unfold zkd
  repeat' split
  all_goals omega
theorem zkd_3 {x : Nat} : zkd x = 3 ↔ x = 59 := by
  unfold zkd
  repeat' split
  all_goals omega
theorem zkd_4 {x : Nat} : zkd x = 4 ↔ x = 44 := by
  unfold zkd
  repeat' split
  all_goals omega
theorem t91 {x : Nat} (hx : x ≤ 255) : zcall 91 [.int (nI x)] zRc S L = some (some (.int (nI (zkd x))), zRc, S, L) := by
  unfold zcall zkd
  simp (config := {maxSteps := 1000000}) (disch := omega) only [↓reduceIte, Int32.reduceLT, Int32.reduceLE, Int32.reduceToNatClampNeg, Int32.reduceAdd, Int32.reduceSub, Int32.reduceMul, Nat.reduceLeDiff, zEL, zup_ne, zup_eq, zT0, zT1, zT2, if_true, if_false, zneq_f, true_and, and_true, false_and, and_false, zKL, eq_self, Nat.reduceEqDiff, zite0, ite_not, zaddr, zaddl, zputr, zsb1, zsb2, zsb0, zsbm, znm1, zKM, ze_91, s91_0, s91_1, s91_3, s91_6, s91_7, s91_9, s91_12, s91_13, s91_14, s91_15, s91_17, s91_20, s91_21, s91_23, s91_26, s91_27, s91_28, s91_29, s91_31, s91_34, s91_35, s91_36, s91_37, s91_39, s91_42, s91_43, s91_46, s91_47]
  repeat' split
  all_goals first | rfl | (exfalso; omega)
theorem zup_zup {α : Type} {S : Nat → Nat → α} {a k : Nat} {v w : α} : zup (zup S a k v) a k w = zup S a k w := by
  funext a' k'
  unfold zup
  split <;> rfl
/-- a run of what is so, from p to q -/
def zrn (ok : Nat → Prop) (n p q : Nat) : Prop := p ≤ q ∧ q ≤ n ∧ (∀ i, p ≤ i → i < q → ok i) ∧ (q < n → ¬ ok q)
theorem zrn_ex (ok : Nat → Prop) {n p : Nat} (h : p ≤ n) : ∃ q, zrn ok n p q := by
  have key : ∀ d p, p + d = n → ∃ q, zrn ok n p q := by
    intro d
    induction d with
    | zero => exact fun p hd => ⟨p, Nat.le_refl _, by omega, fun i h1 h2 => by omega, fun h => by omega⟩
    | succ d ih =>
      intro p hd
      by_cases e : ok p
      · obtain ⟨q, h1, h2, h3, h4⟩ := ih (p + 1) (by omega)
        exact ⟨q, by omega, h2, fun i h5 h6 => by
          by_cases e2 : i = p
          · subst e2
            exact e
          · exact h3 i (by omega) h6, h4⟩
      · exact ⟨p, Nat.le_refl _, by omega, fun i h1 h2 => by omega, fun _ => e⟩
  exact key (n - p) p (by omega)
/-- the bytes on the class's tape, on the reference's -/
def zTC (n : Nat) (b : Nat → Nat) (S : zS) : Prop := n ≤ 900 ∧ S 1 5 = nI n ∧ ∀ i, i < n → b i ≤ 255 ∧ S 3 i = nI (b i)
def zTN (n : Nat) (b : Nat → Nat) (Sm : zS) : Prop := n ≤ 900 ∧ Sm 0 7 = nI n ∧ ∀ i, i < n → b i ≤ 255 ∧ Sm 1 i &&& 255 = nI (b i)
theorem zTC_fr {S' : zS} (h : zTC n b S) (h1 : S' 1 5 = S 1 5) (h2 : ∀ i, S' 3 i = S 3 i) : zTC n b S' := ⟨h.1, h1.trans h.2.1, fun i hi => ⟨(h.2.2 i hi).1, (h2 i).trans (h.2.2 i hi).2⟩⟩
theorem zTN_fr {S' : zS} (h : zTN n b S) (h1 : S' 0 7 = S 0 7) (h2 : ∀ i, S' 1 i = S 1 i) : zTN n b S' := ⟨h.1, h1.trans h.2.1, fun i hi => ⟨(h.2.2 i hi).1, by rw [h2 i]; exact (h.2.2 i hi).2⟩⟩
theorem c90a {q : Nat} : ∀ d a, a + d = q → q ≤ n → (∀ i, a ≤ i → i < q → b i = 32) → (q < n → ¬ b q = 32) → ∀ S, zTC n b S → S 1 4 = nI a → zgo 90 0 [.ref 1] [] zRc S L = zgo 90 40 [.ref 1] [] zRc (zup S 1 4 (nI q)) L := by
  intro d
  induction d with
  | zero =>
    intro a hd hq h1 h2 S hT h4
    obtain ⟨hn, h5, hb⟩ := hT
    have ha : a = q := by omega
    subst ha
    rw [zup_self h4.symm, s90_0]
    by_cases e : a < n
    · obtain ⟨b1, b2⟩ := hb a e
      have h2 := h2 e
      simp (config := {maxSteps := 1000000}) (disch := omega) only [↓reduceIte, Int32.reduceLT, Int32.reduceLE, Int32.reduceToNatClampNeg, Int32.reduceAdd, Int32.reduceSub, Int32.reduceMul, Nat.reduceLeDiff, zEL, zup_ne, zup_eq, zT0, zT1, zT2, if_true, if_false, zneq_f, true_and, and_true, false_and, and_false, zKL, eq_self, Nat.reduceEqDiff, zite0, ite_not, zaddr, zaddl, zputr, zsb1, zsb2, zsb0, zsbm, znm1, zKM, gX, s90_1, s90_4, s90_5, s90_8, s90_11, s90_12, s90_15, s90_16, s90_19, s90_22, s90_24, s90_27, s90_28, s90_29, s90_32, s90_33, s90_34, s90_37, h4, h5, b2]
    · simp (config := {maxSteps := 1000000}) (disch := omega) only [↓reduceIte, Int32.reduceLT, Int32.reduceLE, Int32.reduceToNatClampNeg, Int32.reduceAdd, Int32.reduceSub, Int32.reduceMul, Nat.reduceLeDiff, zEL, zup_ne, zup_eq, zT0, zT1, zT2, if_true, if_false, zneq_f, true_and, and_true, false_and, and_false, zKL, eq_self, Nat.reduceEqDiff, zite0, ite_not, zaddr, zaddl, zputr, zsb1, zsb2, zsb0, zsbm, znm1, zKM, gX, s90_1, s90_4, s90_5, s90_8, s90_11, s90_12, s90_15, s90_16, s90_19, s90_22, s90_24, s90_27, s90_28, s90_29, s90_32, s90_33, s90_34, s90_37, h4, h5]
  | succ d ih =>
    intro a hd hq h1 h2 S hT h4
    have := ih (a + 1) (by omega) hq (fun i h3 h5 => h1 i (by omega) h5) h2 (zup S 1 4 (nI (a + 1))) (zTC_fr hT (zup_ne (by omega)) (fun i => zup_ne (by omega))) (zup_eq rfl rfl)
    rw [zup_zup] at this
    obtain ⟨hn, h5, hb⟩ := hT
    obtain ⟨b1, b2⟩ := hb a (by omega)
    have h9 := h1 a (by omega) (by omega)
    rw [← this, s90_0]
    simp (config := {maxSteps := 1000000}) (disch := omega) only [↓reduceIte, Int32.reduceLT, Int32.reduceLE, Int32.reduceToNatClampNeg, Int32.reduceAdd, Int32.reduceSub, Int32.reduceMul, Nat.reduceLeDiff, zEL, zup_ne, zup_eq, zT0, zT1, zT2, if_true, if_false, zneq_f, true_and, and_true, false_and, and_false, zKL, eq_self, Nat.reduceEqDiff, zite0, ite_not, zaddr, zaddl, zputr, zsb1, zsb2, zsb0, zsbm, znm1, zKM, gX, s90_1, s90_4, s90_5, s90_8, s90_11, s90_12, s90_15, s90_16, s90_19, s90_22, s90_24, s90_27, s90_28, s90_29, s90_32, s90_33, s90_34, s90_37, h4, h5, b2, h9]
theorem c90b {q k : Nat} : ∀ d a, a + d = q → q ≤ n → (∀ i, a ≤ i → i < q → zkd (b i) = k) → (q < n → ¬ zkd (b q) = k) → ∀ S, zTC n b S → S 1 4 = nI a → S 1 2 = nI k → k ≤ 5 → zgo 90 119 [.ref 1] [] zRc S L = zgo 90 164 [.ref 1] [] zRc (zup S 1 4 (nI q)) L := by
  intro d
  induction d with
  | zero =>
    intro a hd hq h1 h2 S hT h4 hk hk5
    obtain ⟨hn, h5, hb⟩ := hT
    have ha : a = q := by omega
    subst ha
    rw [zup_self h4.symm, s90_119]
    by_cases e : a < n
    · obtain ⟨b1, b2⟩ := hb a e
      have h2 := h2 e
      have k1 := t91 (S := S) (L := L) b1
      have hr := @zkd_r (b a)
      simp (config := {maxSteps := 1000000}) (disch := omega) only [↓reduceIte, Int32.reduceLT, Int32.reduceLE, Int32.reduceToNatClampNeg, Int32.reduceAdd, Int32.reduceSub, Int32.reduceMul, Nat.reduceLeDiff, zEL, zup_ne, zup_eq, zT0, zT1, zT2, if_true, if_false, zneq_f, true_and, and_true, false_and, and_false, zKL, eq_self, Nat.reduceEqDiff, zite0, ite_not, zaddr, zaddl, zputr, zsb1, zsb2, zsb0, zsbm, znm1, gX, s90_120, s90_123, s90_124, s90_127, s90_130, s90_131, s90_134, s90_135, s90_138, s90_141, s90_144, s90_145, s90_148, s90_151, s90_152, s90_153, s90_156, s90_157, s90_158, s90_161, h4, h5, b2, k1, hk]
    · simp (config := {maxSteps := 1000000}) (disch := omega) only [↓reduceIte, Int32.reduceLT, Int32.reduceLE, Int32.reduceToNatClampNeg, Int32.reduceAdd, Int32.reduceSub, Int32.reduceMul, Nat.reduceLeDiff, zEL, zup_ne, zup_eq, zT0, zT1, zT2, if_true, if_false, zneq_f, true_and, and_true, false_and, and_false, zKL, eq_self, Nat.reduceEqDiff, zite0, ite_not, zaddr, zaddl, zputr, zsb1, zsb2, zsb0, zsbm, znm1, gX, s90_120, s90_123, s90_124, s90_127, s90_130, s90_131, s90_134, s90_135, s90_138, s90_141, s90_144, s90_145, s90_148, s90_151, s90_152, s90_153, s90_156, s90_157, s90_158, s90_161, h4, h5]
  | succ d ih =>
    intro a hd hq h1 h2 S hT h4 hk hk5
    have := ih (a + 1) (by omega) hq (fun i h3 h5 => h1 i (by omega) h5) h2 (zup S 1 4 (nI (a + 1))) (zTC_fr hT (zup_ne (by omega)) (fun i => zup_ne (by omega))) (zup_eq rfl rfl) (by rw [zup_ne (by omega)]; exact hk) hk5
    rw [zup_zup] at this
    obtain ⟨hn, h5, hb⟩ := hT
    obtain ⟨b1, b2⟩ := hb a (by omega)
    have h9 := h1 a (by omega) (by omega)
    have k1 := t91 (S := S) (L := L) b1
    rw [h9] at k1
    rw [← this, s90_119]
    simp (config := {maxSteps := 1000000}) (disch := omega) only [↓reduceIte, Int32.reduceLT, Int32.reduceLE, Int32.reduceToNatClampNeg, Int32.reduceAdd, Int32.reduceSub, Int32.reduceMul, Nat.reduceLeDiff, zEL, zup_ne, zup_eq, zT0, zT1, zT2, if_true, if_false, zneq_f, true_and, and_true, false_and, and_false, zKL, eq_self, Nat.reduceEqDiff, zite0, ite_not, zaddr, zaddl, zputr, zsb1, zsb2, zsb0, zsbm, znm1, gX, s90_120, s90_123, s90_124, s90_127, s90_130, s90_131, s90_134, s90_135, s90_138, s90_141, s90_144, s90_145, s90_148, s90_151, s90_152, s90_153, s90_156, s90_157, s90_158, s90_161, h4, h5, b2, k1, hk]
/-- the kind of a TOKEN and where it ends -/
def zkN (b : Nat → Nat) (n p q : Nat) : Nat := if p = n then 0 else if zkd (b p) = 1 then (if q - p ≤ 8 then 1 else 5) else if zkd (b p) = 2 then (if q - p ≤ 3 then 2 else 5) else zkd (b p)
def zaN (b : Nat → Nat) (n p q : Nat) : Nat := if p = n then n else if zkd (b p) = 1 then q else if zkd (b p) = 2 then q else p + 1
/-- p is the next TOKEN's place from a on, q where its letters or digits end -/
def zNX (b : Nat → Nat) (n a p q : Nat) : Prop := zrn (fun i => b i = 32) n a p ∧ (p < n → zrn (fun i => zkd (b i) = zkd (b p)) n (p + 1) q)
theorem zNX_ex {a : Nat} (h : a ≤ n) : ∃ p q, zNX b n a p q := by
  obtain ⟨p, hp⟩ := zrn_ex (fun i => b i = 32) h
  by_cases e : p < n
  · obtain ⟨q, hq⟩ := zrn_ex (fun i => zkd (b i) = zkd (b p)) (show p + 1 ≤ n by omega)
    exact ⟨p, q, hp, fun _ => hq⟩
  · exact ⟨p, p, hp, fun h => absurd h e⟩
theorem c90 {a p q : Nat} (hT : zTC n b S) (h4 : S 1 4 = nI a) (hN : zNX b n a p q) : ∃ S', zcall 90 [.ref 1] zRc S L = some (none, zRc, S', L) ∧ (∀ j k, (j ≠ 1 ∨ (k ≠ 2 ∧ k ≠ 3 ∧ k ≠ 4)) → S' j k = S j k) ∧ S' 1 2 = nI (zkN b n p q) ∧ S' 1 3 = nI p ∧ S' 1 4 = nI (zaN b n p q) := by
  obtain ⟨⟨p1, p2, p3, p4⟩, hq⟩ := hN
  have st := c90a (L := L) (p - a) a (by omega) p2 p3 p4 S hT h4
  have hT' := hT
  obtain ⟨hn, h5, hb⟩ := hT
  by_cases e : p = n
  · subst e
    refine ⟨zup (zup (zup S 1 4 (nI p)) 1 3 (nI p)) 1 2 0, ?_, fun j k hj => ?_, ?_, ?_, ?_⟩
    · unfold zcall
      rw [ze_90, st]
      simp (config := {maxSteps := 1000000}) (disch := omega) only [↓reduceIte, Int32.reduceLT, Int32.reduceLE, Int32.reduceToNatClampNeg, Int32.reduceAdd, Int32.reduceSub, Int32.reduceMul, Nat.reduceLeDiff, zEL, zup_ne, zup_eq, zT0, zT1, zT2, if_true, if_false, zneq_f, true_and, and_true, false_and, and_false, zKL, eq_self, Nat.reduceEqDiff, zite0, ite_not, zaddr, zaddl, zputr, zsb1, zsb2, zsb0, zsbm, znm1, gX, s90_40, s90_41, s90_42, s90_45, s90_48, s90_49, s90_50, s90_53, s90_54, s90_57, s90_60, s90_61, s90_64, s90_65, s90_68, s90_71, s90_74, s90_77, s90_78, s90_81, s90_82, s90_85, s90_86, s90_89, s90_92, s90_93, s90_94, s90_97, s90_98, s90_99, s90_102, s90_103, s90_106, s90_107, s90_110, s90_111, s90_114, s90_115, s90_118, h5]
    · rw [zup_ne (by omega), zup_ne (by omega), zup_ne (by omega)]
    · rw [zup_eq rfl rfl, zkN, if_pos rfl]
      rfl
    · rw [zup_ne (by omega), zup_eq rfl rfl]
    · rw [zup_ne (by omega), zup_ne (by omega), zup_eq rfl rfl, zaN, if_pos rfl]
  · obtain ⟨q1, q2, q3, q4⟩ := hq (by omega)
    obtain ⟨b1, b2⟩ := hb p (by omega)
    have hr := @zkd_r (b p)
    have k1 : ∀ S L, zcall 91 [.int (nI (b p))] zRc S L = some (some (.int (nI (zkd (b p)))), zRc, S, L) := fun S L => t91 b1
    by_cases h12 : zkd (b p) = 1 ∨ zkd (b p) = 2
    · have st2 := c90b (L := L) (k := zkd (b p)) (q - (p + 1)) (p + 1) (by omega) q2 q3 q4 (zup (zup (zup (zup S 1 4 (nI p)) 1 3 (nI p)) 1 2 (nI (zkd (b p)))) 1 4 (nI (p + 1))) (zTC_fr hT' (by rw [zup_ne (by omega), zup_ne (by omega), zup_ne (by omega), zup_ne (by omega)]) (fun i => by rw [zup_ne (by omega), zup_ne (by omega), zup_ne (by omega), zup_ne (by omega)])) (zup_eq rfl rfl) (by rw [zup_ne (by omega), zup_eq rfl rfl]) (by omega)
      rw [zup_zup] at st2
      have a1 : zcall 90 [.ref 1] zRc S L = zgo 90 164 [.ref 1] [] zRc (zup (zup (zup (zup S 1 4 (nI p)) 1 3 (nI p)) 1 2 (nI (zkd (b p)))) 1 4 (nI q)) L := by
        rw [← st2]
        unfold zcall
        rw [ze_90, st]
        generalize zkd (b p) = kd at hr h12 k1
        rcases h12 with rfl | rfl
        all_goals simp (config := {maxSteps := 1000000}) (disch := omega) only [↓reduceIte, Int32.reduceLT, Int32.reduceLE, Int32.reduceToNatClampNeg, Int32.reduceAdd, Int32.reduceSub, Int32.reduceMul, Nat.reduceLeDiff, zEL, zup_ne, zup_eq, zT0, zT1, zT2, if_true, if_false, zneq_f, true_and, and_true, false_and, and_false, zKL, eq_self, Nat.reduceEqDiff, zite0, ite_not, zaddr, zaddl, zputr, zsb1, zsb2, zsb0, zsbm, znm1, gX, s90_40, s90_41, s90_42, s90_45, s90_48, s90_49, s90_50, s90_53, s90_54, s90_57, s90_60, s90_61, s90_64, s90_65, s90_68, s90_71, s90_74, s90_77, s90_78, s90_81, s90_82, s90_85, s90_86, s90_89, s90_92, s90_93, s90_94, s90_97, s90_98, s90_99, s90_102, s90_103, s90_106, s90_107, s90_110, s90_111, s90_114, s90_115, s90_118, h5, b2, k1]
      have hqp : nI q - nI p = nI (q - p) := znI_sub (by omega)
      have hp1 : p + 1 ≤ q := q1
      rcases h12 with h12 | h12
      · rw [h12] at a1
        by_cases hl : q - p ≤ 8
        · refine ⟨zup (zup (zup (zup S 1 4 (nI p)) 1 3 (nI p)) 1 2 (nI 1)) 1 4 (nI q), a1.trans ?_, fun j k hj => ?_, ?_, ?_, ?_⟩
          · simp (config := {maxSteps := 1000000}) (disch := omega) only [↓reduceIte, Int32.reduceLT, Int32.reduceLE, Int32.reduceToNatClampNeg, Int32.reduceAdd, Int32.reduceSub, Int32.reduceMul, Nat.reduceLeDiff, zEL, zup_ne, zup_eq, zT0, zT1, zT2, if_true, if_false, zneq_f, true_and, and_true, false_and, and_false, zKL, eq_self, Nat.reduceEqDiff, zite0, ite_not, zaddr, zaddl, zputr, zsb1, zsb2, zsb0, zsbm, znm1, gX, s90_164, s90_165, s90_168, s90_169, s90_172, s90_173, s90_174, s90_177, s90_178, s90_181, s90_183, s90_186, s90_187, s90_190, s90_191, s90_192, s90_195, hqp]
          · rw [zup_ne (by omega), zup_ne (by omega), zup_ne (by omega), zup_ne (by omega)]
          · rw [zup_ne (by omega), zup_eq rfl rfl, zkN, if_neg e, if_pos h12, if_pos hl]
          · rw [zup_ne (by omega), zup_ne (by omega), zup_eq rfl rfl]
          · rw [zup_eq rfl rfl, zaN, if_neg e, if_pos h12]
        · refine ⟨zup (zup (zup (zup (zup S 1 4 (nI p)) 1 3 (nI p)) 1 2 (nI 1)) 1 4 (nI q)) 1 2 5, a1.trans ?_, fun j k hj => ?_, ?_, ?_, ?_⟩
          · simp (config := {maxSteps := 1000000}) (disch := omega) only [↓reduceIte, Int32.reduceLT, Int32.reduceLE, Int32.reduceToNatClampNeg, Int32.reduceAdd, Int32.reduceSub, Int32.reduceMul, Nat.reduceLeDiff, zEL, zup_ne, zup_eq, zT0, zT1, zT2, if_true, if_false, zneq_f, true_and, and_true, false_and, and_false, zKL, eq_self, Nat.reduceEqDiff, zite0, ite_not, zaddr, zaddl, zputr, zsb1, zsb2, zsb0, zsbm, znm1, gX, s90_164, s90_165, s90_168, s90_169, s90_172, s90_173, s90_174, s90_177, s90_178, s90_181, s90_183, s90_186, s90_187, s90_190, s90_191, s90_192, s90_195, hqp]
          · rw [zup_ne (by omega), zup_ne (by omega), zup_ne (by omega), zup_ne (by omega), zup_ne (by omega)]
          · rw [zup_eq rfl rfl, zkN, if_neg e, if_pos h12, if_neg hl]
            rfl
          · rw [zup_ne (by omega), zup_ne (by omega), zup_ne (by omega), zup_eq rfl rfl]
          · rw [zup_ne (by omega), zup_eq rfl rfl, zaN, if_neg e, if_pos h12]
      · rw [h12] at a1
        have n12 : ¬ zkd (b p) = 1 := by omega
        by_cases hl : q - p ≤ 3
        · refine ⟨zup (zup (zup (zup S 1 4 (nI p)) 1 3 (nI p)) 1 2 (nI 2)) 1 4 (nI q), a1.trans ?_, fun j k hj => ?_, ?_, ?_, ?_⟩
          · simp (config := {maxSteps := 1000000}) (disch := omega) only [↓reduceIte, Int32.reduceLT, Int32.reduceLE, Int32.reduceToNatClampNeg, Int32.reduceAdd, Int32.reduceSub, Int32.reduceMul, Nat.reduceLeDiff, zEL, zup_ne, zup_eq, zT0, zT1, zT2, if_true, if_false, zneq_f, true_and, and_true, false_and, and_false, zKL, eq_self, Nat.reduceEqDiff, zite0, ite_not, zaddr, zaddl, zputr, zsb1, zsb2, zsb0, zsbm, znm1, gX, s90_164, s90_165, s90_168, s90_169, s90_172, s90_173, s90_174, s90_177, s90_178, s90_181, s90_183, s90_186, s90_187, s90_190, s90_191, s90_192, s90_195, hqp]
          · rw [zup_ne (by omega), zup_ne (by omega), zup_ne (by omega), zup_ne (by omega)]
          · rw [zup_ne (by omega), zup_eq rfl rfl, zkN, if_neg e, if_neg n12, if_pos h12, if_pos hl]
          · rw [zup_ne (by omega), zup_ne (by omega), zup_eq rfl rfl]
          · rw [zup_eq rfl rfl, zaN, if_neg e, if_neg n12, if_pos h12]
        · refine ⟨zup (zup (zup (zup (zup S 1 4 (nI p)) 1 3 (nI p)) 1 2 (nI 2)) 1 4 (nI q)) 1 2 5, a1.trans ?_, fun j k hj => ?_, ?_, ?_, ?_⟩
          · simp (config := {maxSteps := 1000000}) (disch := omega) only [↓reduceIte, Int32.reduceLT, Int32.reduceLE, Int32.reduceToNatClampNeg, Int32.reduceAdd, Int32.reduceSub, Int32.reduceMul, Nat.reduceLeDiff, zEL, zup_ne, zup_eq, zT0, zT1, zT2, if_true, if_false, zneq_f, true_and, and_true, false_and, and_false, zKL, eq_self, Nat.reduceEqDiff, zite0, ite_not, zaddr, zaddl, zputr, zsb1, zsb2, zsb0, zsbm, znm1, gX, s90_164, s90_165, s90_168, s90_169, s90_172, s90_173, s90_174, s90_177, s90_178, s90_181, s90_183, s90_186, s90_187, s90_190, s90_191, s90_192, s90_195, hqp]
          · rw [zup_ne (by omega), zup_ne (by omega), zup_ne (by omega), zup_ne (by omega), zup_ne (by omega)]
          · rw [zup_eq rfl rfl, zkN, if_neg e, if_neg n12, if_pos h12, if_neg hl]
            rfl
          · rw [zup_ne (by omega), zup_ne (by omega), zup_ne (by omega), zup_eq rfl rfl]
          · rw [zup_ne (by omega), zup_eq rfl rfl, zaN, if_neg e, if_neg n12, if_pos h12]
    · have n1 : ¬ zkd (b p) = 1 := fun h => h12 (.inl h)
      have n2 : ¬ zkd (b p) = 2 := fun h => h12 (.inr h)
      refine ⟨zup (zup (zup (zup S 1 4 (nI p)) 1 3 (nI p)) 1 2 (nI (zkd (b p)))) 1 4 (nI (p + 1)), ?_, fun j k hj => ?_, ?_, ?_, ?_⟩
      · unfold zcall
        rw [ze_90, st]
        generalize zkd (b p) = kd at hr k1 n1 n2
        clear h12
        simp (config := {maxSteps := 1000000}) (disch := omega) only [↓reduceIte, Int32.reduceLT, Int32.reduceLE, Int32.reduceToNatClampNeg, Int32.reduceAdd, Int32.reduceSub, Int32.reduceMul, Nat.reduceLeDiff, zEL, zup_ne, zup_eq, zT0, zT1, zT2, if_true, if_false, zneq_f, true_and, and_true, false_and, and_false, zKL, eq_self, Nat.reduceEqDiff, zite0, ite_not, zaddr, zaddl, zputr, zsb1, zsb2, zsb0, zsbm, znm1, gX, s90_40, s90_41, s90_42, s90_45, s90_48, s90_49, s90_50, s90_53, s90_54, s90_57, s90_60, s90_61, s90_64, s90_65, s90_68, s90_71, s90_74, s90_77, s90_78, s90_81, s90_82, s90_85, s90_86, s90_89, s90_92, s90_93, s90_94, s90_97, s90_98, s90_99, s90_102, s90_103, s90_106, s90_107, s90_110, s90_111, s90_114, s90_115, s90_118, h5, b2, k1]
      · rw [zup_ne (by omega), zup_ne (by omega), zup_ne (by omega), zup_ne (by omega)]
      · rw [zup_ne (by omega), zup_eq rfl rfl, zkN, if_neg e, if_neg n1, if_neg n2]
      · rw [zup_ne (by omega), zup_ne (by omega), zup_eq rfl rfl]
      · rw [zup_eq rfl rfl, zaN, if_neg e, if_neg n1, if_neg n2]
end ZP1
