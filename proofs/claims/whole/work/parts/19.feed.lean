/-! feed: of both -/
section ZF1
variable {c : Nat → Nat} {S Sm : zS} {L Lm : zL} {rd : Value}
def zcb (v s : Int32) : Int32 := (v.toUInt32 >>> (s.toUInt32 &&& Int32.toUInt32 31)).toInt32 &&& 255
def zbb (v s : Int32) : Int32 := vp_nar .byte ((v >>> (s &&& 31)).toInt8.toInt32)
theorem zbv (x : BitVec 32) (n : Nat) (hn : n ≤ 24) : (((((x.sshiftRight n).signExtend 8).signExtend 32).signExtend 8).signExtend 32) &&& 255#32 = (x >>> n) &&& 255#32 := by
  apply BitVec.eq_of_getLsbD_eq
  intro i hi
  rw [BitVec.getLsbD_and, BitVec.getLsbD_and]
  by_cases h : i < 8
  · congr 1
    have h1 : n + i < 32 := by omega
    have h2 : ¬ 32 ≤ i := by omega
    simp only [BitVec.getLsbD_signExtend, BitVec.getLsbD_sshiftRight, BitVec.getLsbD_ushiftRight, h, hi, h1, h2, decide_true, decide_false, Bool.true_and, if_true, Bool.not_false]
  · have h255 : ∀ i, i < 32 → 8 ≤ i → (255#32).getLsbD i = false := by decide
    rw [h255 i hi (by omega), Bool.and_false, Bool.and_false]
theorem zbb_24 (v : Int32) : zbb v 24 &&& 255 = zcb v 24 := by
  unfold zbb zcb
  rw [vp_nar_byte]
  apply Int32.toBitVec_inj.mp
  exact zbv v.toBitVec 24 (by decide)
theorem zbb_16 (v : Int32) : zbb v 16 &&& 255 = zcb v 16 := by
  unfold zbb zcb
  rw [vp_nar_byte]
  apply Int32.toBitVec_inj.mp
  exact zbv v.toBitVec 16 (by decide)
theorem zbb_8 (v : Int32) : zbb v 8 &&& 255 = zcb v 8 := by
  unfold zbb zcb
  rw [vp_nar_byte]
  apply Int32.toBitVec_inj.mp
  exact zbv v.toBitVec 8 (by decide)
theorem zbb_0 (v : Int32) : zbb v 0 &&& 255 = zcb v 0 := by
  unfold zbb zcb
  rw [vp_nar_byte]
  apply Int32.toBitVec_inj.mp
  exact zbv v.toBitVec 0 (by decide)
theorem zbb_and (v s : Int32) (hs : s = 24 ∨ s = 16 ∨ s = 8 ∨ s = 0) : zbb v s &&& 255 = zcb v s := by
  rcases hs with rfl | rfl | rfl | rfl
  · exact zbb_24 v
  · exact zbb_16 v
  · exact zbb_8 v
  · exact zbb_0 v
theorem t86a {n : Nat} (h : S 1 1 = nI n) (hn : n ≤ 900) : zcall 86 [.ref 1, .int 20] zRc S L = some (some (.int (if n ≤ 880 then 1 else 0)), zRc, S, L) := by
  have z : nI n + 20 = nI (n + 20) := zadd_nI (b := 20)
  unfold zcall
  by_cases hc : n ≤ 880
  · have e : ((900 : Int32) < nI (n + 20)) = False := eq_false (by rw [show (900 : Int32) = nI 900 from rfl, znI_lt (by omega) (by omega)]; omega)
    rw [if_pos hc]
    simp (config := {maxSteps := 1000000}) (disch := omega) only [↓reduceIte, Int32.reduceLT, Int32.reduceLE, Int32.reduceToNatClampNeg, Int32.reduceAdd, Int32.reduceSub, Int32.reduceMul, Nat.reduceLeDiff, zEL, zup_ne, zup_eq, zT0, zT1, zT2, if_true, if_false, gX, gR, ze_86, s86_0, s86_1, s86_4, s86_5, s86_6, s86_9, s86_12, s86_13, s86_16, s86_17, h, z, e]
  · have e : ((900 : Int32) < nI (n + 20)) = True := eq_true (by rw [show (900 : Int32) = nI 900 from rfl, znI_lt (by omega) (by omega)]; omega)
    rw [if_neg hc]
    simp (config := {maxSteps := 1000000}) (disch := omega) only [↓reduceIte, Int32.reduceLT, Int32.reduceLE, Int32.reduceToNatClampNeg, Int32.reduceAdd, Int32.reduceSub, Int32.reduceMul, Nat.reduceLeDiff, zEL, zup_ne, zup_eq, zT0, zT1, zT2, if_true, if_false, gX, gR, ze_86, s86_0, s86_1, s86_4, s86_5, s86_6, s86_9, s86_12, s86_13, s86_16, s86_17, h, z, e]
theorem t87s {n : Nat} {v s : Int32} (h : S 1 1 = nI n) (hn : n < 900) (hs : (s < 0) = False) : zgo 87 3 [.ref 1, .int v, .int s] [] zRc S L = zgo 87 3 [.ref 1, .int v, .int (s + -8)] [] zRc (zup (zup S 3 n (zcb v s)) 1 1 (nI (n + 1))) L := by
  rw [s87_3]
  unfold zcb
  simp (config := {maxSteps := 1000000}) (disch := omega) only [↓reduceIte, Int32.reduceLT, Int32.reduceLE, Int32.reduceToNatClampNeg, Int32.reduceAdd, Int32.reduceSub, Int32.reduceMul, Nat.reduceLeDiff, zEL, zup_ne, zup_eq, zT0, zT1, zT2, if_true, if_false, gX, gR, zputr, s87_4, s87_7, s87_8, s87_11, s87_12, s87_15, s87_16, s87_17, s87_18, s87_21, s87_22, s87_25, s87_26, s87_27, s87_30, s87_31, s87_32, s87_35, s87_38, h, hs]
theorem t87 {n : Nat} {v : Int32} (h : S 1 1 = nI n) (hn : n + 4 ≤ 900) : ∃ S', zcall 87 [.ref 1, .int v] zRc S L = some (none, zRc, S', L) ∧ S' 1 1 = nI (n + 4) ∧ (S' 3 n = zcb v 24 ∧ S' 3 (n + 1) = zcb v 16 ∧ S' 3 (n + 2) = zcb v 8 ∧ S' 3 (n + 3) = zcb v 0) ∧ ∀ j k, (j ≠ 1 ∨ k ≠ 1) → (j ≠ 3 ∨ k < n ∨ n + 4 ≤ k) → S' j k = S j k := by
  obtain ⟨S1, h1⟩ : ∃ S1, S1 = zup (zup S 3 n (zcb v 24)) 1 1 (nI (n + 1)) := ⟨_, rfl⟩
  obtain ⟨S2, h2⟩ : ∃ S2, S2 = zup (zup S1 3 (n + 1) (zcb v 16)) 1 1 (nI (n + 2)) := ⟨_, rfl⟩
  obtain ⟨S3, h3⟩ : ∃ S3, S3 = zup (zup S2 3 (n + 2) (zcb v 8)) 1 1 (nI (n + 3)) := ⟨_, rfl⟩
  obtain ⟨S4, h4⟩ : ∃ S4, S4 = zup (zup S3 3 (n + 3) (zcb v 0)) 1 1 (nI (n + 4)) := ⟨_, rfl⟩
  have a1 := t87s (S := S) (L := L) (v := v) (s := 24) h (by omega) (by decide)
  have a2 := t87s (S := S1) (L := L) (v := v) (s := 16) (n := n + 1) (by rw [h1]; exact zup_eq rfl rfl) (by omega) (by decide)
  have a3 := t87s (S := S2) (L := L) (v := v) (s := 8) (n := n + 2) (by rw [h2]; exact zup_eq rfl rfl) (by omega) (by decide)
  have a4 := t87s (S := S3) (L := L) (v := v) (s := 0) (n := n + 3) (by rw [h3]; exact zup_eq rfl rfl) (by omega) (by decide)
  have a1 : zgo 87 3 [.ref 1, .int v, .int 24] [] zRc S L = zgo 87 3 [.ref 1, .int v, .int 16] [] zRc S1 L := by rw [h1]; exact a1
  have a2 : zgo 87 3 [.ref 1, .int v, .int 16] [] zRc S1 L = zgo 87 3 [.ref 1, .int v, .int 8] [] zRc S2 L := by rw [h2]; exact a2
  have a3 : zgo 87 3 [.ref 1, .int v, .int 8] [] zRc S2 L = zgo 87 3 [.ref 1, .int v, .int 0] [] zRc S3 L := by rw [h3]; exact a3
  have a4 : zgo 87 3 [.ref 1, .int v, .int 0] [] zRc S3 L = zgo 87 3 [.ref 1, .int v, .int (-8)] [] zRc S4 L := by rw [h4]; exact a4
  have e8 : ((-8 : Int32) < 0) = True := eq_true (by decide)
  have a5 : zgo 87 3 [.ref 1, .int v, .int (-8)] [] zRc S4 L = some (none, zRc, S4, L) := by
    rw [s87_3]
    simp (config := {maxSteps := 1000000}) (disch := omega) only [↓reduceIte, Int32.reduceLT, Int32.reduceLE, Int32.reduceToNatClampNeg, Int32.reduceAdd, Int32.reduceSub, Int32.reduceMul, Nat.reduceLeDiff, zEL, zup_ne, zup_eq, zT0, zT1, zT2, if_true, if_false, s87_4, s87_7, s87_8, s87_11, s87_12, s87_15, s87_16, s87_17, s87_18, s87_21, s87_22, s87_25, s87_26, s87_27, s87_30, s87_31, s87_32, s87_35, s87_38, s87_41, e8]
  refine ⟨S4, ?_, by rw [h4]; exact zup_eq rfl rfl, ⟨?_, ?_, ?_, ?_⟩, fun j k g1 g2 => ?_⟩
  · have a0 : zcall 87 [.ref 1, .int v] zRc S L = zgo 87 3 [.ref 1, .int v, .int 24] [] zRc S L := by
      unfold zcall
      simp (config := {maxSteps := 1000000}) (disch := omega) only [↓reduceIte, Int32.reduceLT, Int32.reduceLE, Int32.reduceToNatClampNeg, Int32.reduceAdd, Int32.reduceSub, Int32.reduceMul, Nat.reduceLeDiff, zEL, zup_ne, zup_eq, zT0, zT1, zT2, if_true, if_false, ze_87, s87_0, s87_2]
    rw [a0, a1, a2, a3, a4, a5]
  · rw [h4, zup_ne (by omega), zup_ne (by omega), h3, zup_ne (by omega), zup_ne (by omega), h2, zup_ne (by omega), zup_ne (by omega), h1, zup_ne (by omega), zup_eq rfl rfl]
  · rw [h4, zup_ne (by omega), zup_ne (by omega), h3, zup_ne (by omega), zup_ne (by omega), h2, zup_ne (by omega), zup_eq rfl rfl]
  · rw [h4, zup_ne (by omega), zup_ne (by omega), h3, zup_ne (by omega), zup_eq rfl rfl]
  · rw [h4, zup_ne (by omega), zup_eq rfl rfl]
  · rw [h4, zup_ne (by omega), zup_ne (by omega), h3, zup_ne (by omega), zup_ne (by omega), h2, zup_ne (by omega), zup_ne (by omega), h1, zup_ne (by omega), zup_ne (by omega)]
def zfA (a b d e g : Int32) (i : Nat) : Int32 := if i = 0 then a else if i = 1 then b else if i = 2 then d else if i = 3 then e else g
def zfB (i : Nat) : Int32 := if i = 0 then 24 else if i = 1 then 16 else if i = 2 then 8 else 0
theorem zfB_in {i : Nat} : zfB i = 24 ∨ zfB i = 16 ∨ zfB i = 8 ∨ zfB i = 0 := by
  unfold zfB
  repeat' split
  · exact .inl rfl
  · exact .inr (.inl rfl)
  · exact .inr (.inr (.inl rfl))
  · exact .inr (.inr (.inr rfl))
theorem zfB_sh {i : Nat} (h : i < 4) : (24 : Int32) - 8 * nI i = zfB i := by
  rcases (show i = 0 ∨ i = 1 ∨ i = 2 ∨ i = 3 by omega) with rfl | rfl | rfl | rfl <;> decide
theorem t103 {n : Nat} {a b d e g : Int32} (h : S 1 1 = nI n) (hn : n ≤ 880) : ∃ S', zcall 103 [.ref 0, .int a, .int b, .int d, .int e, .int g] zRc S L = some (some (.int (nI (n + 20))), zRc, S', L) ∧ S' 1 1 = nI (n + 20) ∧ (∀ i, i < 20 → S' 3 (n + i) = zcb (zfA a b d e g (i / 4)) (zfB (i % 4))) ∧ ∀ j k, (j ≠ 1 ∨ k ≠ 1) → (j ≠ 3 ∨ k < n ∨ n + 20 ≤ k) → S' j k = S j k := by
  obtain ⟨S1, k1, l1, ⟨b10, b11, b12, b13⟩, f1⟩ := t87 (S := S) (L := L) (v := a) h (by omega)
  obtain ⟨S2, k2, l2, ⟨b20, b21, b22, b23⟩, f2⟩ := t87 (S := S1) (L := L) (v := b) l1 (by omega)
  obtain ⟨S3, k3, l3, ⟨b30, b31, b32, b33⟩, f3⟩ := t87 (S := S2) (L := L) (v := d) l2 (by omega)
  obtain ⟨S4, k4, l4, ⟨b40, b41, b42, b43⟩, f4⟩ := t87 (S := S3) (L := L) (v := e) l3 (by omega)
  obtain ⟨S5, k5, l5, ⟨b50, b51, b52, b53⟩, f5⟩ := t87 (S := S4) (L := L) (v := g) l4 (by omega)
  have k0 := t86a (L := L) h (by omega)
  rw [if_pos (show n ≤ 880 from hn)] at k0
  have l5' : S5 1 1 = nI (n + 20) := l5
  refine ⟨S5, ?_, l5', fun i hi => ?_, fun j k g1 g2 => ?_⟩
  · unfold zcall
    simp (config := {maxSteps := 1000000}) (disch := omega) only [↓reduceIte, Int32.reduceLT, Int32.reduceLE, Int32.reduceToNatClampNeg, Int32.reduceAdd, Int32.reduceSub, Int32.reduceMul, Nat.reduceLeDiff, zEL, zup_ne, zup_eq, zT0, zT1, zT2, if_true, if_false, gX, gR, S103, k0, k1, k2, k3, k4, k5, l5']
  · rcases (show i = 0 ∨ i = 1 ∨ i = 2 ∨ i = 3 ∨ i = 4 ∨ i = 5 ∨ i = 6 ∨ i = 7 ∨ i = 8 ∨ i = 9 ∨ i = 10 ∨ i = 11 ∨ i = 12 ∨ i = 13 ∨ i = 14 ∨ i = 15 ∨ i = 16 ∨ i = 17 ∨ i = 18 ∨ i = 19 by omega) with rfl | rfl | rfl | rfl | rfl | rfl | rfl | rfl | rfl | rfl | rfl | rfl | rfl | rfl | rfl | rfl | rfl | rfl | rfl | rfl
    · rw [f5 _ _ (by omega) (by omega), f4 _ _ (by omega) (by omega), f3 _ _ (by omega) (by omega), f2 _ _ (by omega) (by omega)]
      exact b10
    · rw [f5 _ _ (by omega) (by omega), f4 _ _ (by omega) (by omega), f3 _ _ (by omega) (by omega), f2 _ _ (by omega) (by omega)]
      exact b11
    · rw [f5 _ _ (by omega) (by omega), f4 _ _ (by omega) (by omega), f3 _ _ (by omega) (by omega), f2 _ _ (by omega) (by omega)]
      exact b12
    · rw [f5 _ _ (by omega) (by omega), f4 _ _ (by omega) (by omega), f3 _ _ (by omega) (by omega), f2 _ _ (by omega) (by omega)]
      exact b13
    · rw [f5 _ _ (by omega) (by omega), f4 _ _ (by omega) (by omega), f3 _ _ (by omega) (by omega)]
      exact b20
    · rw [f5 _ _ (by omega) (by omega), f4 _ _ (by omega) (by omega), f3 _ _ (by omega) (by omega)]
      exact b21
    · rw [f5 _ _ (by omega) (by omega), f4 _ _ (by omega) (by omega), f3 _ _ (by omega) (by omega)]
      exact b22
    · rw [f5 _ _ (by omega) (by omega), f4 _ _ (by omega) (by omega), f3 _ _ (by omega) (by omega)]
      exact b23
    · rw [f5 _ _ (by omega) (by omega), f4 _ _ (by omega) (by omega)]
      exact b30
    · rw [f5 _ _ (by omega) (by omega), f4 _ _ (by omega) (by omega)]
      exact b31
    · rw [f5 _ _ (by omega) (by omega), f4 _ _ (by omega) (by omega)]
      exact b32
    · rw [f5 _ _ (by omega) (by omega), f4 _ _ (by omega) (by omega)]
      exact b33
    · rw [f5 _ _ (by omega) (by omega)]
      exact b40
    · rw [f5 _ _ (by omega) (by omega)]
      exact b41
    · rw [f5 _ _ (by omega) (by omega)]
      exact b42
    · rw [f5 _ _ (by omega) (by omega)]
      exact b43
    · exact b50
    · exact b51
    · exact b52
    · exact b53
  · rw [f5 _ _ g1 (by omega), f4 _ _ g1 (by omega), f3 _ _ g1 (by omega), f2 _ _ g1 (by omega), f1 _ _ g1 (by omega)]
theorem t103r {n : Nat} {a b d e g : Int32} (h : S 1 1 = nI n) (hn : n ≤ 900) (hc : ¬ n ≤ 880) : zcall 103 [.ref 0, .int a, .int b, .int d, .int e, .int g] zRc S L = some (some (.int (-1)), zRc, S, L) := by
  have k0 := t86a (L := L) h hn
  rw [if_neg hc] at k0
  unfold zcall
  simp (config := {maxSteps := 1000000}) (disch := omega) only [↓reduceIte, Int32.reduceLT, Int32.reduceLE, Int32.reduceToNatClampNeg, Int32.reduceAdd, Int32.reduceSub, Int32.reduceMul, Nat.reduceLeDiff, zEL, zup_ne, zup_eq, zT0, zT1, zT2, if_true, if_false, gX, gR, S103, k0]
theorem k203_0 {n : Nat} {a b d e g : Int32} (hn : n ≤ 880) : ∀ q k, k + q = 20 → ∀ X : zS, X 0 6 = nI (n + k) → ∀ j, ∃ Y, zgo 203 23 [.ref 0, .int a, .int b, .int d, .int e, .int g, .int (nI k), j] [] (zRm0 rd) X Lm = some (some (.int (nI (n + 20))), zRm0 rd, Y, Lm) ∧ Y 0 6 = nI (n + 20) ∧ (∀ i, k ≤ i → i < 20 → Y 1 (n + i) = zbb (zfA a b d e g (i / 4)) (zfB (i % 4))) ∧ ∀ x y, (x ≠ 0 ∨ y ≠ 6) → (x ≠ 1 ∨ y < n + k ∨ n + 20 ≤ y) → Y x y = X x y := by
  intro q
  induction q with
  | zero =>
    intro k hk X hX j
    have hk : k = 20 := by omega
    subst hk
    refine ⟨X, ?_, hX, fun i h1 h2 => absurd h1 (by omega), fun _ _ _ _ => rfl⟩
    have e20 : ((20 : Int32) ≤ nI 20) = True := eq_true (by decide)
    rw [s203_23]
    simp (config := {maxSteps := 1000000}) (disch := omega) only [↓reduceIte, Int32.reduceLT, Int32.reduceLE, Int32.reduceToNatClampNeg, Int32.reduceAdd, Int32.reduceSub, Int32.reduceMul, Nat.reduceLeDiff, zEL, zup_ne, zup_eq, zT0, zT1, zT2, if_true, if_false, layM0, s203_25, s203_27, s203_30, s203_32, s203_33, s203_36, s203_37, s203_40, s203_42, s203_44, s203_47, s203_48, s203_51, s203_53, s203_55, s203_58, s203_59, s203_62, s203_64, s203_66, s203_69, s203_71, s203_74, s203_76, s203_78, s203_79, s203_82, s203_83, s203_86, s203_88, s203_90, s203_92, s203_94, s203_95, s203_96, s203_97, s203_98, s203_99, s203_100, s203_101, s203_102, s203_103, s203_106, s203_107, s203_108, s203_111, s203_114, s203_117, s203_118, s203_121, hX, e20]
  | succ q ih =>
    intro k hk X hX j
    obtain ⟨Z, hZ⟩ : ∃ Z, Z = zup (zup X 1 (n + k) (zbb (zfA a b d e g (k / 4)) (zfB (k % 4)))) 0 6 (nI (n + k + 1)) := ⟨_, rfl⟩
    obtain ⟨Y, y1, y2, y3, y4⟩ := ih (k + 1) (by omega) Z (by rw [hZ]; exact zup_eq rfl rfl) (.int (zfA a b d e g (k / 4)))
    have hr : nI k - nI k / 4 * 4 = nI (k % 4) := znI_rem (b := 4) (by omega) (by omega)
    have hs := zfB_sh (Nat.mod_lt k (show 0 < 4 by decide))
    have z20 : ((20 : Int32) ≤ nI k) = False := eq_false (by rw [show (20 : Int32) = nI 20 from rfl, znI_le (by omega) (by omega)]; omega)
    refine ⟨Y, ?_, y2, fun i h1 h2 => ?_, fun x y h1 h2 => ?_⟩
    · rw [← y1, hZ, s203_23]
      unfold zbb
      have z4 : ((4 : Int32) ≤ nI k) = (4 ≤ k) := propext (znI_le (a := 4) (by omega) (by omega))
      have z8 : ((8 : Int32) ≤ nI k) = (8 ≤ k) := propext (znI_le (a := 8) (by omega) (by omega))
      have z12 : ((12 : Int32) ≤ nI k) = (12 ≤ k) := propext (znI_le (a := 12) (by omega) (by omega))
      have z16 : ((16 : Int32) ≤ nI k) = (16 ≤ k) := propext (znI_le (a := 16) (by omega) (by omega))
      rcases (show k / 4 = 0 ∧ k < 4 ∨ k / 4 = 1 ∧ 4 ≤ k ∧ k < 8 ∨ k / 4 = 2 ∧ 8 ≤ k ∧ k < 12 ∨ k / 4 = 3 ∧ 12 ≤ k ∧ k < 16 ∨ k / 4 = 4 ∧ 16 ≤ k by omega) with ⟨w1, w2⟩ | ⟨w1, w2, w3⟩ | ⟨w1, w2, w3⟩ | ⟨w1, w2, w3⟩ | ⟨w1, w2⟩
      · have hA : zfA a b d e g (k / 4) = a := by rw [w1]; rfl
        simp (config := {maxSteps := 1000000}) (disch := omega) only [↓reduceIte, Int32.reduceLT, Int32.reduceLE, Int32.reduceToNatClampNeg, Int32.reduceAdd, Int32.reduceSub, Int32.reduceMul, Nat.reduceLeDiff, zEL, zup_ne, zup_eq, zT0, zT1, zT2, if_true, if_false, layM0, s203_25, s203_27, s203_30, s203_32, s203_33, s203_36, s203_37, s203_40, s203_42, s203_44, s203_47, s203_48, s203_51, s203_53, s203_55, s203_58, s203_59, s203_62, s203_64, s203_66, s203_69, s203_71, s203_74, s203_76, s203_78, s203_79, s203_82, s203_83, s203_86, s203_88, s203_90, s203_92, s203_94, s203_95, s203_96, s203_97, s203_98, s203_99, s203_100, s203_101, s203_102, s203_103, s203_106, s203_107, s203_108, s203_111, s203_114, s203_100 (R := zRm0 rd) l0l_1, hX, hr, hs, z20, z4, z8, z12, z16, hA]
      · have hA : zfA a b d e g (k / 4) = b := by rw [w1]; rfl
        simp (config := {maxSteps := 1000000}) (disch := omega) only [↓reduceIte, Int32.reduceLT, Int32.reduceLE, Int32.reduceToNatClampNeg, Int32.reduceAdd, Int32.reduceSub, Int32.reduceMul, Nat.reduceLeDiff, zEL, zup_ne, zup_eq, zT0, zT1, zT2, if_true, if_false, layM0, s203_25, s203_27, s203_30, s203_32, s203_33, s203_36, s203_37, s203_40, s203_42, s203_44, s203_47, s203_48, s203_51, s203_53, s203_55, s203_58, s203_59, s203_62, s203_64, s203_66, s203_69, s203_71, s203_74, s203_76, s203_78, s203_79, s203_82, s203_83, s203_86, s203_88, s203_90, s203_92, s203_94, s203_95, s203_96, s203_97, s203_98, s203_99, s203_100, s203_101, s203_102, s203_103, s203_106, s203_107, s203_108, s203_111, s203_114, s203_100 (R := zRm0 rd) l0l_1, hX, hr, hs, z20, z4, z8, z12, z16, hA]
      · have hA : zfA a b d e g (k / 4) = d := by rw [w1]; rfl
        simp (config := {maxSteps := 1000000}) (disch := omega) only [↓reduceIte, Int32.reduceLT, Int32.reduceLE, Int32.reduceToNatClampNeg, Int32.reduceAdd, Int32.reduceSub, Int32.reduceMul, Nat.reduceLeDiff, zEL, zup_ne, zup_eq, zT0, zT1, zT2, if_true, if_false, layM0, s203_25, s203_27, s203_30, s203_32, s203_33, s203_36, s203_37, s203_40, s203_42, s203_44, s203_47, s203_48, s203_51, s203_53, s203_55, s203_58, s203_59, s203_62, s203_64, s203_66, s203_69, s203_71, s203_74, s203_76, s203_78, s203_79, s203_82, s203_83, s203_86, s203_88, s203_90, s203_92, s203_94, s203_95, s203_96, s203_97, s203_98, s203_99, s203_100, s203_101, s203_102, s203_103, s203_106, s203_107, s203_108, s203_111, s203_114, s203_100 (R := zRm0 rd) l0l_1, hX, hr, hs, z20, z4, z8, z12, z16, hA]
      · have hA : zfA a b d e g (k / 4) = e := by rw [w1]; rfl
        simp (config := {maxSteps := 1000000}) (disch := omega) only [↓reduceIte, Int32.reduceLT, Int32.reduceLE, Int32.reduceToNatClampNeg, Int32.reduceAdd, Int32.reduceSub, Int32.reduceMul, Nat.reduceLeDiff, zEL, zup_ne, zup_eq, zT0, zT1, zT2, if_true, if_false, layM0, s203_25, s203_27, s203_30, s203_32, s203_33, s203_36, s203_37, s203_40, s203_42, s203_44, s203_47, s203_48, s203_51, s203_53, s203_55, s203_58, s203_59, s203_62, s203_64, s203_66, s203_69, s203_71, s203_74, s203_76, s203_78, s203_79, s203_82, s203_83, s203_86, s203_88, s203_90, s203_92, s203_94, s203_95, s203_96, s203_97, s203_98, s203_99, s203_100, s203_101, s203_102, s203_103, s203_106, s203_107, s203_108, s203_111, s203_114, s203_100 (R := zRm0 rd) l0l_1, hX, hr, hs, z20, z4, z8, z12, z16, hA]
      · have hA : zfA a b d e g (k / 4) = g := by rw [w1]; rfl
        simp (config := {maxSteps := 1000000}) (disch := omega) only [↓reduceIte, Int32.reduceLT, Int32.reduceLE, Int32.reduceToNatClampNeg, Int32.reduceAdd, Int32.reduceSub, Int32.reduceMul, Nat.reduceLeDiff, zEL, zup_ne, zup_eq, zT0, zT1, zT2, if_true, if_false, layM0, s203_25, s203_27, s203_30, s203_32, s203_33, s203_36, s203_37, s203_40, s203_42, s203_44, s203_47, s203_48, s203_51, s203_53, s203_55, s203_58, s203_59, s203_62, s203_64, s203_66, s203_69, s203_71, s203_74, s203_76, s203_78, s203_79, s203_82, s203_83, s203_86, s203_88, s203_90, s203_92, s203_94, s203_95, s203_96, s203_97, s203_98, s203_99, s203_100, s203_101, s203_102, s203_103, s203_106, s203_107, s203_108, s203_111, s203_114, s203_100 (R := zRm0 rd) l0l_1, hX, hr, hs, z20, z4, z8, z12, z16, hA]
    · rcases (show i = k ∨ k + 1 ≤ i by omega) with rfl | h
      · rw [y4 _ _ (by omega) (by omega), hZ, zup_ne (by omega), zup_eq rfl rfl]
      · exact y3 i h h2
    · rw [y4 x y h1 (by omega), hZ, zup_ne (by omega), zup_ne (by omega)]
theorem t203_0 {n : Nat} {a b d e g : Int32} (h : Sm 0 6 = nI n) (hn : n ≤ 880) : ∃ Y, zcall 203 [.ref 0, .int a, .int b, .int d, .int e, .int g] (zRm0 rd) Sm Lm = some (some (.int (nI (n + 20))), zRm0 rd, Y, Lm) ∧ Y 0 6 = nI (n + 20) ∧ (∀ i, i < 20 → Y 1 (n + i) = zbb (zfA a b d e g (i / 4)) (zfB (i % 4))) ∧ ∀ x y, (x ≠ 0 ∨ (y ≠ 0 ∧ y ≠ 6)) → (x ≠ 1 ∨ y < n ∨ n + 20 ≤ y) → Y x y = Sm x y := by
  obtain ⟨X, hX⟩ : ∃ X, X = zup Sm 0 0 0 := ⟨_, rfl⟩
  have h6 : X 0 6 = nI n := by rw [hX, zup_ne (by omega), h]
  obtain ⟨Y, y1, y2, y3, y4⟩ := k203_0 (Lm := Lm) (rd := rd) (a := a) (b := b) (d := d) (e := e) (g := g) hn 20 0 (by omega) X h6 (.retAddr 0)
  have y1 : zgo 203 23 [.ref 0, .int a, .int b, .int d, .int e, .int g, .int 0, .retAddr 0] [] (zRm0 rd) X Lm = _ := y1
  have z : nI n + 20 = nI (n + 20) := zadd_nI (b := 20)
  have ez : (nI (n + 20) ≤ (900 : Int32)) = True := eq_true (by rw [show (900 : Int32) = nI 900 from rfl, znI_le (by omega) (by omega)]; omega)
  refine ⟨Y, ?_, y2, fun i hi => y3 i (Nat.zero_le _) hi, fun x y h1 h2 => ?_⟩
  · unfold zcall
    simp (config := {maxSteps := 1000000}) (disch := omega) only [↓reduceIte, Int32.reduceLT, Int32.reduceLE, Int32.reduceToNatClampNeg, Int32.reduceAdd, Int32.reduceSub, Int32.reduceMul, Nat.reduceLeDiff, zEL, zup_ne, zup_eq, zT0, zT1, zT2, if_true, if_false, layM0, ze_203, s203_0, s203_1, s203_2, s203_5, s203_6, s203_9, s203_11, s203_12, s203_15, s203_18, s203_19, s203_20, s203_21, ← hX, h6, z, ez]
    exact y1
  · rw [y4 x y (by omega) (by omega), hX, zup_ne (by omega)]
theorem t203r_0 {n : Nat} {a b d e g : Int32} (h : Sm 0 6 = nI n) (hn : n ≤ 900) (hc : ¬ n ≤ 880) : zcall 203 [.ref 0, .int a, .int b, .int d, .int e, .int g] (zRm0 rd) Sm Lm = some (some (.int (-1)), zRm0 rd, zup Sm 0 0 0, Lm) := by
  have z : nI n + 20 = nI (n + 20) := zadd_nI (b := 20)
  have ez : (nI (n + 20) ≤ (900 : Int32)) = False := eq_false (by rw [show (900 : Int32) = nI 900 from rfl, znI_le (by omega) (by omega)]; omega)
  unfold zcall
  simp (config := {maxSteps := 1000000}) (disch := omega) only [↓reduceIte, Int32.reduceLT, Int32.reduceLE, Int32.reduceToNatClampNeg, Int32.reduceAdd, Int32.reduceSub, Int32.reduceMul, Nat.reduceLeDiff, zEL, zup_ne, zup_eq, zT0, zT1, zT2, if_true, if_false, layM0, ze_203, s203_0, s203_1, s203_2, s203_5, s203_6, s203_9, s203_11, s203_12, s203_15, s203_18, s203_19, s203_20, s203_21, h, z, ez]
theorem k203_1 {n : Nat} {a b d e g : Int32} (hn : n ≤ 880) : ∀ q k, k + q = 20 → ∀ X : zS, X 0 6 = nI (n + k) → ∀ j, ∃ Y, zgo 203 23 [.ref 0, .int a, .int b, .int d, .int e, .int g, .int (nI k), j] [] (zRm1 rd) X Lm = some (some (.int (nI (n + 20))), zRm1 rd, Y, Lm) ∧ Y 0 6 = nI (n + 20) ∧ (∀ i, k ≤ i → i < 20 → Y 1 (n + i) = zbb (zfA a b d e g (i / 4)) (zfB (i % 4))) ∧ ∀ x y, (x ≠ 0 ∨ y ≠ 6) → (x ≠ 1 ∨ y < n + k ∨ n + 20 ≤ y) → Y x y = X x y := by
  intro q
  induction q with
  | zero =>
    intro k hk X hX j
    have hk : k = 20 := by omega
    subst hk
    refine ⟨X, ?_, hX, fun i h1 h2 => absurd h1 (by omega), fun _ _ _ _ => rfl⟩
    have e20 : ((20 : Int32) ≤ nI 20) = True := eq_true (by decide)
    rw [s203_23]
    simp (config := {maxSteps := 1000000}) (disch := omega) only [↓reduceIte, Int32.reduceLT, Int32.reduceLE, Int32.reduceToNatClampNeg, Int32.reduceAdd, Int32.reduceSub, Int32.reduceMul, Nat.reduceLeDiff, zEL, zup_ne, zup_eq, zT0, zT1, zT2, if_true, if_false, layM1, s203_25, s203_27, s203_30, s203_32, s203_33, s203_36, s203_37, s203_40, s203_42, s203_44, s203_47, s203_48, s203_51, s203_53, s203_55, s203_58, s203_59, s203_62, s203_64, s203_66, s203_69, s203_71, s203_74, s203_76, s203_78, s203_79, s203_82, s203_83, s203_86, s203_88, s203_90, s203_92, s203_94, s203_95, s203_96, s203_97, s203_98, s203_99, s203_100, s203_101, s203_102, s203_103, s203_106, s203_107, s203_108, s203_111, s203_114, s203_117, s203_118, s203_121, hX, e20]
  | succ q ih =>
    intro k hk X hX j
    obtain ⟨Z, hZ⟩ : ∃ Z, Z = zup (zup X 1 (n + k) (zbb (zfA a b d e g (k / 4)) (zfB (k % 4)))) 0 6 (nI (n + k + 1)) := ⟨_, rfl⟩
    obtain ⟨Y, y1, y2, y3, y4⟩ := ih (k + 1) (by omega) Z (by rw [hZ]; exact zup_eq rfl rfl) (.int (zfA a b d e g (k / 4)))
    have hr : nI k - nI k / 4 * 4 = nI (k % 4) := znI_rem (b := 4) (by omega) (by omega)
    have hs := zfB_sh (Nat.mod_lt k (show 0 < 4 by decide))
    have z20 : ((20 : Int32) ≤ nI k) = False := eq_false (by rw [show (20 : Int32) = nI 20 from rfl, znI_le (by omega) (by omega)]; omega)
    refine ⟨Y, ?_, y2, fun i h1 h2 => ?_, fun x y h1 h2 => ?_⟩
    · rw [← y1, hZ, s203_23]
      unfold zbb
      have z4 : ((4 : Int32) ≤ nI k) = (4 ≤ k) := propext (znI_le (a := 4) (by omega) (by omega))
      have z8 : ((8 : Int32) ≤ nI k) = (8 ≤ k) := propext (znI_le (a := 8) (by omega) (by omega))
      have z12 : ((12 : Int32) ≤ nI k) = (12 ≤ k) := propext (znI_le (a := 12) (by omega) (by omega))
      have z16 : ((16 : Int32) ≤ nI k) = (16 ≤ k) := propext (znI_le (a := 16) (by omega) (by omega))
      rcases (show k / 4 = 0 ∧ k < 4 ∨ k / 4 = 1 ∧ 4 ≤ k ∧ k < 8 ∨ k / 4 = 2 ∧ 8 ≤ k ∧ k < 12 ∨ k / 4 = 3 ∧ 12 ≤ k ∧ k < 16 ∨ k / 4 = 4 ∧ 16 ≤ k by omega) with ⟨w1, w2⟩ | ⟨w1, w2, w3⟩ | ⟨w1, w2, w3⟩ | ⟨w1, w2, w3⟩ | ⟨w1, w2⟩
      · have hA : zfA a b d e g (k / 4) = a := by rw [w1]; rfl
        simp (config := {maxSteps := 1000000}) (disch := omega) only [↓reduceIte, Int32.reduceLT, Int32.reduceLE, Int32.reduceToNatClampNeg, Int32.reduceAdd, Int32.reduceSub, Int32.reduceMul, Nat.reduceLeDiff, zEL, zup_ne, zup_eq, zT0, zT1, zT2, if_true, if_false, layM1, s203_25, s203_27, s203_30, s203_32, s203_33, s203_36, s203_37, s203_40, s203_42, s203_44, s203_47, s203_48, s203_51, s203_53, s203_55, s203_58, s203_59, s203_62, s203_64, s203_66, s203_69, s203_71, s203_74, s203_76, s203_78, s203_79, s203_82, s203_83, s203_86, s203_88, s203_90, s203_92, s203_94, s203_95, s203_96, s203_97, s203_98, s203_99, s203_100, s203_101, s203_102, s203_103, s203_106, s203_107, s203_108, s203_111, s203_114, s203_100 (R := zRm1 rd) l1l_1, hX, hr, hs, z20, z4, z8, z12, z16, hA]
      · have hA : zfA a b d e g (k / 4) = b := by rw [w1]; rfl
        simp (config := {maxSteps := 1000000}) (disch := omega) only [↓reduceIte, Int32.reduceLT, Int32.reduceLE, Int32.reduceToNatClampNeg, Int32.reduceAdd, Int32.reduceSub, Int32.reduceMul, Nat.reduceLeDiff, zEL, zup_ne, zup_eq, zT0, zT1, zT2, if_true, if_false, layM1, s203_25, s203_27, s203_30, s203_32, s203_33, s203_36, s203_37, s203_40, s203_42, s203_44, s203_47, s203_48, s203_51, s203_53, s203_55, s203_58, s203_59, s203_62, s203_64, s203_66, s203_69, s203_71, s203_74, s203_76, s203_78, s203_79, s203_82, s203_83, s203_86, s203_88, s203_90, s203_92, s203_94, s203_95, s203_96, s203_97, s203_98, s203_99, s203_100, s203_101, s203_102, s203_103, s203_106, s203_107, s203_108, s203_111, s203_114, s203_100 (R := zRm1 rd) l1l_1, hX, hr, hs, z20, z4, z8, z12, z16, hA]
      · have hA : zfA a b d e g (k / 4) = d := by rw [w1]; rfl
        simp (config := {maxSteps := 1000000}) (disch := omega) only [↓reduceIte, Int32.reduceLT, Int32.reduceLE, Int32.reduceToNatClampNeg, Int32.reduceAdd, Int32.reduceSub, Int32.reduceMul, Nat.reduceLeDiff, zEL, zup_ne, zup_eq, zT0, zT1, zT2, if_true, if_false, layM1, s203_25, s203_27, s203_30, s203_32, s203_33, s203_36, s203_37, s203_40, s203_42, s203_44, s203_47, s203_48, s203_51, s203_53, s203_55, s203_58, s203_59, s203_62, s203_64, s203_66, s203_69, s203_71, s203_74, s203_76, s203_78, s203_79, s203_82, s203_83, s203_86, s203_88, s203_90, s203_92, s203_94, s203_95, s203_96, s203_97, s203_98, s203_99, s203_100, s203_101, s203_102, s203_103, s203_106, s203_107, s203_108, s203_111, s203_114, s203_100 (R := zRm1 rd) l1l_1, hX, hr, hs, z20, z4, z8, z12, z16, hA]
      · have hA : zfA a b d e g (k / 4) = e := by rw [w1]; rfl
        simp (config := {maxSteps := 1000000}) (disch := omega) only [↓reduceIte, Int32.reduceLT, Int32.reduceLE, Int32.reduceToNatClampNeg, Int32.reduceAdd, Int32.reduceSub, Int32.reduceMul, Nat.reduceLeDiff, zEL, zup_ne, zup_eq, zT0, zT1, zT2, if_true, if_false, layM1, s203_25, s203_27, s203_30, s203_32, s203_33, s203_36, s203_37, s203_40, s203_42, s203_44, s203_47, s203_48, s203_51, s203_53, s203_55, s203_58, s203_59, s203_62, s203_64, s203_66, s203_69, s203_71, s203_74, s203_76, s203_78, s203_79, s203_82, s203_83, s203_86, s203_88, s203_90, s203_92, s203_94, s203_95, s203_96, s203_97, s203_98, s203_99, s203_100, s203_101, s203_102, s203_103, s203_106, s203_107, s203_108, s203_111, s203_114, s203_100 (R := zRm1 rd) l1l_1, hX, hr, hs, z20, z4, z8, z12, z16, hA]
      · have hA : zfA a b d e g (k / 4) = g := by rw [w1]; rfl
        simp (config := {maxSteps := 1000000}) (disch := omega) only [↓reduceIte, Int32.reduceLT, Int32.reduceLE, Int32.reduceToNatClampNeg, Int32.reduceAdd, Int32.reduceSub, Int32.reduceMul, Nat.reduceLeDiff, zEL, zup_ne, zup_eq, zT0, zT1, zT2, if_true, if_false, layM1, s203_25, s203_27, s203_30, s203_32, s203_33, s203_36, s203_37, s203_40, s203_42, s203_44, s203_47, s203_48, s203_51, s203_53, s203_55, s203_58, s203_59, s203_62, s203_64, s203_66, s203_69, s203_71, s203_74, s203_76, s203_78, s203_79, s203_82, s203_83, s203_86, s203_88, s203_90, s203_92, s203_94, s203_95, s203_96, s203_97, s203_98, s203_99, s203_100, s203_101, s203_102, s203_103, s203_106, s203_107, s203_108, s203_111, s203_114, s203_100 (R := zRm1 rd) l1l_1, hX, hr, hs, z20, z4, z8, z12, z16, hA]
    · rcases (show i = k ∨ k + 1 ≤ i by omega) with rfl | h
      · rw [y4 _ _ (by omega) (by omega), hZ, zup_ne (by omega), zup_eq rfl rfl]
      · exact y3 i h h2
    · rw [y4 x y h1 (by omega), hZ, zup_ne (by omega), zup_ne (by omega)]
theorem t203_1 {n : Nat} {a b d e g : Int32} (h : Sm 0 6 = nI n) (hn : n ≤ 880) : ∃ Y, zcall 203 [.ref 0, .int a, .int b, .int d, .int e, .int g] (zRm1 rd) Sm Lm = some (some (.int (nI (n + 20))), zRm1 rd, Y, Lm) ∧ Y 0 6 = nI (n + 20) ∧ (∀ i, i < 20 → Y 1 (n + i) = zbb (zfA a b d e g (i / 4)) (zfB (i % 4))) ∧ ∀ x y, (x ≠ 0 ∨ (y ≠ 0 ∧ y ≠ 6)) → (x ≠ 1 ∨ y < n ∨ n + 20 ≤ y) → Y x y = Sm x y := by
  obtain ⟨X, hX⟩ : ∃ X, X = zup Sm 0 0 0 := ⟨_, rfl⟩
  have h6 : X 0 6 = nI n := by rw [hX, zup_ne (by omega), h]
  obtain ⟨Y, y1, y2, y3, y4⟩ := k203_1 (Lm := Lm) (rd := rd) (a := a) (b := b) (d := d) (e := e) (g := g) hn 20 0 (by omega) X h6 (.retAddr 0)
  have y1 : zgo 203 23 [.ref 0, .int a, .int b, .int d, .int e, .int g, .int 0, .retAddr 0] [] (zRm1 rd) X Lm = _ := y1
  have z : nI n + 20 = nI (n + 20) := zadd_nI (b := 20)
  have ez : (nI (n + 20) ≤ (900 : Int32)) = True := eq_true (by rw [show (900 : Int32) = nI 900 from rfl, znI_le (by omega) (by omega)]; omega)
  refine ⟨Y, ?_, y2, fun i hi => y3 i (Nat.zero_le _) hi, fun x y h1 h2 => ?_⟩
  · unfold zcall
    simp (config := {maxSteps := 1000000}) (disch := omega) only [↓reduceIte, Int32.reduceLT, Int32.reduceLE, Int32.reduceToNatClampNeg, Int32.reduceAdd, Int32.reduceSub, Int32.reduceMul, Nat.reduceLeDiff, zEL, zup_ne, zup_eq, zT0, zT1, zT2, if_true, if_false, layM1, ze_203, s203_0, s203_1, s203_2, s203_5, s203_6, s203_9, s203_11, s203_12, s203_15, s203_18, s203_19, s203_20, s203_21, ← hX, h6, z, ez]
    exact y1
  · rw [y4 x y (by omega) (by omega), hX, zup_ne (by omega)]
theorem t203r_1 {n : Nat} {a b d e g : Int32} (h : Sm 0 6 = nI n) (hn : n ≤ 900) (hc : ¬ n ≤ 880) : zcall 203 [.ref 0, .int a, .int b, .int d, .int e, .int g] (zRm1 rd) Sm Lm = some (some (.int (-1)), zRm1 rd, zup Sm 0 0 0, Lm) := by
  have z : nI n + 20 = nI (n + 20) := zadd_nI (b := 20)
  have ez : (nI (n + 20) ≤ (900 : Int32)) = False := eq_false (by rw [show (900 : Int32) = nI 900 from rfl, znI_le (by omega) (by omega)]; omega)
  unfold zcall
  simp (config := {maxSteps := 1000000}) (disch := omega) only [↓reduceIte, Int32.reduceLT, Int32.reduceLE, Int32.reduceToNatClampNeg, Int32.reduceAdd, Int32.reduceSub, Int32.reduceMul, Nat.reduceLeDiff, zEL, zup_ne, zup_eq, zT0, zT1, zT2, if_true, if_false, layM1, ze_203, s203_0, s203_1, s203_2, s203_5, s203_6, s203_9, s203_11, s203_12, s203_15, s203_18, s203_19, s203_20, s203_21, h, z, ez]
theorem zHD_feed {n : Nat} {a b d e g : Int32} {S' Y : zS} (hh : zHD S Sm) (h1 : S 1 1 = nI n) (hn : n ≤ 880) (a2 : S' 1 1 = nI (n + 20)) (a3 : ∀ i, i < 20 → S' 3 (n + i) = zcb (zfA a b d e g (i / 4)) (zfB (i % 4))) (a4 : ∀ j k, (j ≠ 1 ∨ k ≠ 1) → (j ≠ 3 ∨ k < n ∨ n + 20 ≤ k) → S' j k = S j k) (y2 : Y 0 6 = nI (n + 20)) (y3 : ∀ i, i < 20 → Y 1 (n + i) = zbb (zfA a b d e g (i / 4)) (zfB (i % 4))) (y4 : ∀ x y, (x ≠ 0 ∨ (y ≠ 0 ∧ y ≠ 6)) → (x ≠ 1 ∨ y < n ∨ n + 20 ≤ y) → Y x y = Sm x y) : zHD S' Y := by
  obtain ⟨e1, e2, e3, len, hl, e4, e5, e6⟩ := hh
  have el : len = n := (znI_inj (by omega) (by omega)).mp (e4.symm.trans h1)
  subst el
  refine ⟨?_, ?_, ?_, len + 20, by omega, a2, y2, fun i hi => ?_⟩
  · rw [a4 _ _ (by omega) (by omega), y4 _ _ (by omega) (by omega)]; exact e1
  · rw [a4 _ _ (by omega) (by omega), a4 _ _ (by omega) (by omega), y4 _ _ (by omega) (by omega)]; exact e2
  · rw [a4 _ _ (by omega) (by omega), y4 _ _ (by omega) (by omega)]; exact e3
  · rcases (show i < len ∨ len ≤ i by omega) with h | h
    · rw [a4 _ _ (by omega) (by omega), y4 _ _ (by omega) (by omega)]; exact e6 i h
    · have e : i = len + (i - len) := by omega
      rw [e, a3 _ (by omega), y3 _ (by omega), zbb_and _ _ zfB_in]
theorem m_103 {a b d e g : Int32} (h : zTM c S Sm) : ∃ w : Int32, ∃ S' Sm' : zS, zcall 103 [.ref 0, .int a, .int b, .int d, .int e, .int g] zRc S L = some (some (.int w), zRc, S', L) ∧ zcall 203 [.ref 0, .int a, .int b, .int d, .int e, .int g] (zRm1 rd) Sm Lm = some (some (.int w), zRm1 rd, Sm', Lm) ∧ zTM c S' Sm' := by
  obtain ⟨-, -, -, n, hn, a4, a5, -⟩ := id h.1
  by_cases hc : n ≤ 880
  · obtain ⟨S', s1, s2, s3, s4⟩ := t103 (L := L) (a := a) (b := b) (d := d) (e := e) (g := g) a4 hc
    obtain ⟨Y, y1, y2, y3, y4⟩ := t203_1 (Lm := Lm) (rd := rd) (a := a) (b := b) (d := d) (e := e) (g := g) a5 hc
    refine ⟨_, S', Y, s1, y1, zTM_hd h (zHD_feed h.1 a4 hc s2 s3 s4 y2 y3 y4) (fun j k hj => ?_) (fun j k hj => ?_) (zRO_fr h.2.2.2.2.2.2 (fun j k hj => s4 j k (by omega) (by omega)))⟩
    · unfold zrelD at hj
      exact s4 j k (by omega) (by omega)
    · exact y4 j k (by omega) (by omega)
  · exact ⟨_, S, _, t103r a4 hn hc, t203r_1 a5 hn hc, zTM_t h⟩
theorem u_103 {a b d e g : Int32} (h : zTU S Sm) : ∃ w : Int32, ∃ S' Sm' : zS, zcall 103 [.ref 0, .int a, .int b, .int d, .int e, .int g] zRc S L = some (some (.int w), zRc, S', L) ∧ zcall 203 [.ref 0, .int a, .int b, .int d, .int e, .int g] (zRm0 rd) Sm Lm = some (some (.int w), zRm0 rd, Sm', Lm) ∧ zTU S' Sm' := by
  obtain ⟨-, -, -, n, hn, a4, a5, -⟩ := id h.1
  by_cases hc : n ≤ 880
  · obtain ⟨S', s1, s2, s3, s4⟩ := t103 (L := L) (a := a) (b := b) (d := d) (e := e) (g := g) a4 hc
    obtain ⟨Y, y1, y2, y3, y4⟩ := t203_0 (Lm := Lm) (rd := rd) (a := a) (b := b) (d := d) (e := e) (g := g) a5 hc
    refine ⟨_, S', Y, s1, y1, zTU_hd h (zHD_feed h.1 a4 hc s2 s3 s4 y2 y3 y4) (fun j k hj => ?_) (zRO_fr h.2.2.2.2.2.2 (fun j k hj => s4 j k (by omega) (by omega)))⟩
    unfold zrelD at hj
    exact s4 j k (by omega) (by omega)
  · exact ⟨_, S, _, t103r a4 hn hc, t203r_0 a5 hn hc, zTU_t h⟩
end ZF1
