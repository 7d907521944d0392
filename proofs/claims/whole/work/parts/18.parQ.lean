/-! match: the text is read, by both -/
section ZPQ
variable {c : Nat → Nat} {S Sm : zS} {L Lm : zL} {rd : Value}
theorem zclr_ne {α : Type} {v : α} {S : Nat → Nat → α} {a j k : Nat} (h : j ≠ a) : zclr v S a j k = S j k := by rw [zclr_other h]
theorem zclr_eq {α : Type} {v : α} {S : Nat → Nat → α} {a j k : Nat} (h : j = a) : zclr v S a j k = v := by subst h; rw [zclr_row]
theorem zand255 (x : Int32) : ∃ m : Nat, m ≤ 255 ∧ x &&& 255 = nI m := by
  refine ⟨(x.toBitVec &&& 255#32).toNat, ?_, ?_⟩
  · rw [BitVec.toNat_and]
    exact Nat.and_le_right
  · apply Int32.toBitVec_inj.mp
    rw [Int32.toBitVec_and]
    show _ = BitVec.ofNat 32 _
    rw [BitVec.ofNat_toNat, BitVec.setWidth_eq]
    rfl
def znest (X : zS) (B : Nat) : Nat → zS
  | 0 => zup (zclr 0 X B) B 4 (-1)
  | n + 1 => zclr 0 (znest X B n) (B + n + 1)
theorem znest_lt {X : zS} {B j k : Nat} (h : j < B) : ∀ n, znest X B n j k = X j k := by
  intro n
  induction n with
  | zero =>
    show zup (zclr 0 X B) B 4 (-1) j k = _
    rw [zup_ne (by omega), zclr_ne (by omega)]
  | succ n ih =>
    show zclr 0 (znest X B n) (B + n + 1) j k = _
    rw [zclr_ne (by omega), ih]
theorem znest_B {X : zS} {B k : Nat} : ∀ n, znest X B n B k = if k = 4 then -1 else 0 := by
  intro n
  induction n with
  | zero =>
    show zup (zclr 0 X B) B 4 (-1) B k = _
    by_cases e : k = 4
    · rw [if_pos e, zup_eq rfl e]
    · rw [if_neg e, zup_ne (by omega), zclr_eq rfl]
  | succ n ih =>
    show zclr 0 (znest X B n) (B + n + 1) B k = _
    rw [zclr_ne (by omega), ih]
theorem znest_1 {X : zS} {B k : Nat} : ∀ n, znest X B (n + 1) (B + 1) k = 0 := by
  intro n
  induction n with
  | zero => exact zclr_eq rfl
  | succ n ih =>
    show zclr 0 (znest X B (n + 1)) (B + (n + 1) + 1) (B + 1) k = _
    rw [zclr_ne (by omega), ih]
theorem b204_48_0 {R : List zE} {v : Int32} : zgo 204 48 [.ref 0, .int v] [.ref 11, .ref 11, .ref 0] R S L = (zcall 165 [.ref 11] R S L).bind fun q => zgo 204 51 [.ref 0, .int v] (q.1.toList ++ [.ref 11, .ref 0]) q.2.1 q.2.2.1 q.2.2.2 := by
  rw [zg_call (k := 3) (t := 165) (by decide +kernel : zfetch 204 48 = some (.invokespecial 392, 3)) rfl (by decide +kernel), show znarg 165 = 1 by decide +kernel]
  show (if zmay 204 3 165 [.ref 11] [.ref 11, .ref 0] R = true then _ else _) = _
  rw [zmay2 (la := 1) (na := 1) (rs := 2) (.inr rfl) (by decide +kernel) rfl rfl rfl, if_pos rfl]
  rfl
theorem h204_0 {n len : Nat} (hrd : rd = .null ∨ ∃ q, rd = .ref q) (h6 : Sm 0 6 = nI len) (hn : n ≤ len) (hl : len ≤ 900) : ∃ Sx Lx, zcall 204 [.ref 0, .int (nI n)] (zRm0 rd) Sm Lm = zgo 204 54 [.ref 0, .int (nI n)] [] zRp0 Sx Lx ∧ (∀ j k, j < 11 → (j ≠ 0 ∨ (k ≠ 0 ∧ k ≠ 6 ∧ k ≠ 7 ∧ k ≠ 10 ∧ k ≠ 13)) → Sx j k = Sm j k) ∧ Sx 0 6 = 0 ∧ Sx 0 7 = nI n ∧ Sx 0 10 = 0 ∧ Sx 0 13 = 0 ∧ (∀ k, Sx 11 k = if k = 4 then -1 else 0) ∧ ∀ h, Sx (11 + 1) h = 0 := by
  obtain ⟨X, hX⟩ : ∃ X, X = zup (zup (zup (zup (zup Sm 0 0 0) 0 7 (nI n)) 0 6 0) 0 10 0) 0 13 0 := ⟨_, rfl⟩
  have f1 : (nI n < 0) = False := eq_false (znI_neg (by omega))
  have f2 : (nI n ≤ nI len) = True := eq_true ((znI_le (by omega) (by omega)).mpr hn)
  have a1 : zcall 204 [.ref 0, .int (nI n)] (zRm0 rd) Sm Lm = zgo 204 44 [.ref 0, .int (nI n)] [.ref 0] (zRm0 rd) X Lm := by
    rw [hX]
    unfold zcall
    simp (config := {maxSteps := 1000000}) (disch := omega) only [↓reduceIte, Int32.reduceLT, Int32.reduceLE, Int32.reduceToNatClampNeg, Int32.reduceAdd, Int32.reduceSub, Int32.reduceMul, Nat.reduceLeDiff, zEL, zup_ne, zup_eq, zT0, zT1, zT2, if_true, if_false, layM0, tEM0, ze_204, s204_0, s204_1, s204_2, s204_5, s204_6, s204_9, s204_10, s204_11, s204_14, s204_17, s204_18, s204_19, s204_22, s204_23, s204_24, s204_25, s204_28, s204_29, s204_30, s204_33, s204_34, s204_35, s204_38, s204_39, s204_40, s204_43, h6, f1, f2]
  have hl : (zRm0 rd).length = 11 := rfl
  have hp : ∀ (S : zS) (L : zL), zputf (zQ0_29 rd) S L 0 13 4 (.ref 11) = some (zRp0, S, L) := by
    rcases hrd with rfl | ⟨q, rfl⟩ <;> exact fun _ _ => rfl
  have x0 : ∀ k, k ≠ 0 → k ≠ 6 → k ≠ 7 → k ≠ 10 → k ≠ 13 → X 0 k = Sm 0 k := fun k a b d e f => by rw [hX, zup_ne (by omega), zup_ne (by omega), zup_ne (by omega), zup_ne (by omega), zup_ne (by omega)]
  have xj : ∀ j k, j ≠ 0 → X j k = Sm j k := fun j k a => by rw [hX, zup_ne (by omega), zup_ne (by omega), zup_ne (by omega), zup_ne (by omega), zup_ne (by omega)]
  have a2 : ∃ Lx, zgo 204 44 [.ref 0, .int (nI n)] [.ref 0] (zRm0 rd) X Lm = zgo 204 54 [.ref 0, .int (nI n)] [] zRp0 (znest X 11 29) Lx := by
    rw [s204_44, hl, if_pos (by decide), s204_47, b204_48_0, t165_0]
    show ∃ Lx, zgo 204 51 [.ref 0, .int (nI n)] [.ref 11, .ref 0] (zQ0_29 rd) _ _ = zgo 204 54 [.ref 0, .int (nI n)] [] zRp0 (znest X 11 29) Lx
    rw [s204_51, hp]
    exact ⟨_, rfl⟩
  obtain ⟨Lx, a2⟩ := a2
  refine ⟨znest X 11 29, Lx, a1.trans a2, fun j k h1 h2 => ?_, ?_, ?_, ?_, ?_, fun k => znest_B 29, fun h => znest_1 28⟩
  · rw [znest_lt h1]
    rcases Nat.eq_zero_or_pos j with e | e
    · subst e
      exact x0 k (by omega) (by omega) (by omega) (by omega) (by omega)
    · exact xj j k (by omega)
  · rw [znest_lt (by decide), hX, zup_ne (by omega), zup_ne (by omega), zup_eq rfl rfl]
  · rw [znest_lt (by decide), hX, zup_ne (by omega), zup_ne (by omega), zup_ne (by omega), zup_eq rfl rfl]
  · rw [znest_lt (by decide), hX, zup_ne (by omega), zup_eq rfl rfl]
  · rw [znest_lt (by decide), hX, zup_eq rfl rfl]
theorem b204_48_1 {R : List zE} {v : Int32} : zgo 204 48 [.ref 0, .int v] [.ref 41, .ref 41, .ref 0] R S L = (zcall 165 [.ref 41] R S L).bind fun q => zgo 204 51 [.ref 0, .int v] (q.1.toList ++ [.ref 41, .ref 0]) q.2.1 q.2.2.1 q.2.2.2 := by
  rw [zg_call (k := 3) (t := 165) (by decide +kernel : zfetch 204 48 = some (.invokespecial 392, 3)) rfl (by decide +kernel), show znarg 165 = 1 by decide +kernel]
  show (if zmay 204 3 165 [.ref 41] [.ref 41, .ref 0] R = true then _ else _) = _
  rw [zmay2 (la := 1) (na := 1) (rs := 2) (.inr rfl) (by decide +kernel) rfl rfl rfl, if_pos rfl]
  rfl
theorem h204_1 {n len : Nat} (hrd : rd = .null ∨ ∃ q, rd = .ref q) (h6 : Sm 0 6 = nI len) (hn : n ≤ len) (hl : len ≤ 900) : ∃ Sx Lx, zcall 204 [.ref 0, .int (nI n)] (zRm1 rd) Sm Lm = zgo 204 54 [.ref 0, .int (nI n)] [] zRp1 Sx Lx ∧ (∀ j k, j < 41 → (j ≠ 0 ∨ (k ≠ 0 ∧ k ≠ 6 ∧ k ≠ 7 ∧ k ≠ 10 ∧ k ≠ 13)) → Sx j k = Sm j k) ∧ Sx 0 6 = 0 ∧ Sx 0 7 = nI n ∧ Sx 0 10 = 0 ∧ Sx 0 13 = 0 ∧ (∀ k, Sx 41 k = if k = 4 then -1 else 0) ∧ ∀ h, Sx (41 + 1) h = 0 := by
  obtain ⟨X, hX⟩ : ∃ X, X = zup (zup (zup (zup (zup Sm 0 0 0) 0 7 (nI n)) 0 6 0) 0 10 0) 0 13 0 := ⟨_, rfl⟩
  have f1 : (nI n < 0) = False := eq_false (znI_neg (by omega))
  have f2 : (nI n ≤ nI len) = True := eq_true ((znI_le (by omega) (by omega)).mpr hn)
  have a1 : zcall 204 [.ref 0, .int (nI n)] (zRm1 rd) Sm Lm = zgo 204 44 [.ref 0, .int (nI n)] [.ref 0] (zRm1 rd) X Lm := by
    rw [hX]
    unfold zcall
    simp (config := {maxSteps := 1000000}) (disch := omega) only [↓reduceIte, Int32.reduceLT, Int32.reduceLE, Int32.reduceToNatClampNeg, Int32.reduceAdd, Int32.reduceSub, Int32.reduceMul, Nat.reduceLeDiff, zEL, zup_ne, zup_eq, zT0, zT1, zT2, if_true, if_false, layM1, tEM1, ze_204, s204_0, s204_1, s204_2, s204_5, s204_6, s204_9, s204_10, s204_11, s204_14, s204_17, s204_18, s204_19, s204_22, s204_23, s204_24, s204_25, s204_28, s204_29, s204_30, s204_33, s204_34, s204_35, s204_38, s204_39, s204_40, s204_43, h6, f1, f2]
  have hl : (zRm1 rd).length = 41 := rfl
  have hp : ∀ (S : zS) (L : zL), zputf (zQ1_29 rd) S L 0 13 4 (.ref 41) = some (zRp1, S, L) := by
    rcases hrd with rfl | ⟨q, rfl⟩ <;> exact fun _ _ => rfl
  have x0 : ∀ k, k ≠ 0 → k ≠ 6 → k ≠ 7 → k ≠ 10 → k ≠ 13 → X 0 k = Sm 0 k := fun k a b d e f => by rw [hX, zup_ne (by omega), zup_ne (by omega), zup_ne (by omega), zup_ne (by omega), zup_ne (by omega)]
  have xj : ∀ j k, j ≠ 0 → X j k = Sm j k := fun j k a => by rw [hX, zup_ne (by omega), zup_ne (by omega), zup_ne (by omega), zup_ne (by omega), zup_ne (by omega)]
  have a2 : ∃ Lx, zgo 204 44 [.ref 0, .int (nI n)] [.ref 0] (zRm1 rd) X Lm = zgo 204 54 [.ref 0, .int (nI n)] [] zRp1 (znest X 41 29) Lx := by
    rw [s204_44, hl, if_pos (by decide), s204_47, b204_48_1, t165_1]
    show ∃ Lx, zgo 204 51 [.ref 0, .int (nI n)] [.ref 41, .ref 0] (zQ1_29 rd) _ _ = zgo 204 54 [.ref 0, .int (nI n)] [] zRp1 (znest X 41 29) Lx
    rw [s204_51, hp]
    exact ⟨_, rfl⟩
  obtain ⟨Lx, a2⟩ := a2
  refine ⟨znest X 41 29, Lx, a1.trans a2, fun j k h1 h2 => ?_, ?_, ?_, ?_, ?_, fun k => znest_B 29, fun h => znest_1 28⟩
  · rw [znest_lt h1]
    rcases Nat.eq_zero_or_pos j with e | e
    · subst e
      exact x0 k (by omega) (by omega) (by omega) (by omega) (by omega)
    · exact xj j k (by omega)
  · rw [znest_lt (by decide), hX, zup_ne (by omega), zup_ne (by omega), zup_eq rfl rfl]
  · rw [znest_lt (by decide), hX, zup_ne (by omega), zup_ne (by omega), zup_ne (by omega), zup_eq rfl rfl]
  · rw [znest_lt (by decide), hX, zup_ne (by omega), zup_eq rfl rfl]
  · rw [znest_lt (by decide), hX, zup_eq rfl rfl]
theorem zST_inj {α β γ δ : Type} {r : α} {a a' : β} {b b' : γ} {x : Option (δ × α × β × γ)} {d : δ} (h : x = some (d, r, a, b)) (h' : x = some (d, r, a', b')) : a' = a ∧ b' = b := by
  rw [h] at h'
  simp only [Option.some.injEq, Prod.mk.injEq, true_and] at h'
  exact ⟨h'.1.symm, h'.2.symm⟩
theorem rd2_0 {n len : Nat} (hrd : rd = .null ∨ ∃ q, rd = .ref q) (h1 : S 1 1 = nI len) (h6 : Sm 0 6 = nI len) (hn : n ≤ len) (hl : len ≤ 900) (hb : ∀ i, i < len → S 3 i = Sm 1 i &&& 255) (hro : zRO S) : ∃ S1 L1 Sm1 Lm1, zcall 104 [.ref 0, .int (nI n)] zRc S L = zgo 104 49 [.ref 0, .int (nI n)] [] zRc S1 L1 ∧ zcall 204 [.ref 0, .int (nI n)] (zRm0 rd) Sm Lm = zgo 204 67 [.ref 0, .int (nI n)] [] zRp0 Sm1 Lm1 ∧ (∀ j k, j < 11 → (j ≠ 0 ∨ 18 < k) → Sm1 j k = Sm j k) ∧ Sm1 0 6 = 0 ∧ zRO S1 ∧ ((∃ f, 1 ≤ f ∧ f ≤ 6 ∧ S1 0 15 = nI f ∧ Sm1 0 13 = nI f ∧ S1 80 7 = Sm1 0 14 ∧ ∀ j k, (j ≠ 0 ∨ k ≠ 15) → (j ≠ 1 ∨ k < 2) → (j < 80 ∨ 161 < j) → S1 j k = S j k) ∨ (S1 0 15 = 0 ∧ Sm1 0 13 = 0 ∧ (∃ N, zPA_162 11 N S1 Sm1 L1 Lm1) ∧ ¬ S1 4 0 = 0 ∧ ¬ S1 5 3 = 0 ∧ ¬ S1 12 7 = 0)) := by
  obtain ⟨Sx, Lx, x1, x2, x6, x7, x10, x13, xm, xm1⟩ := h204_0 (rd := rd) (Lm := Lm) hrd h6 hn hl
  obtain ⟨Sy, hy⟩ : ∃ Sy, Sy = zup Sx 0 9 0 := ⟨_, rfl⟩
  have r0 := zLT_0
  unfold zLT at r0
  have e : ∀ j k, (j ≠ 0 ∨ k ≠ 9) → Sy j k = Sx j k := fun j k h => by rw [hy, zup_ne (by omega)]
  have e9 : ¬ Sy 0 9 = 5 := by rw [hy, zup_eq rfl rfl]; decide
  obtain ⟨b, hbb⟩ : ∃ b : Nat → Nat, ∀ i, b i ≤ 255 ∧ Sm 1 i &&& 255 = nI (b i) := ⟨fun i => (zand255 (Sm 1 i)).choose, fun i => (zand255 (Sm 1 i)).choose_spec⟩
  have hc : ∀ i, i < n → b i ≤ 255 ∧ S 3 i = nI (b i) := fun i hi => ⟨(hbb i).1, (hb i (by omega)).trans (hbb i).2⟩
  have hT : zTN n b Sy := ⟨by omega, (e 0 7 (by omega)).trans x7, fun i hi => ⟨(hbb i).1, by rw [e 1 i (by omega), x2 1 i (by omega) (by omega)]; exact (hbb i).2⟩⟩
  have xB : ∀ k, Sy 11 k = if k = 4 then -1 else 0 := fun k => (e 11 k (by omega)).trans (xm k)
  have hm : Sy 11 0 = 0 ∧ Sy 11 4 = -1 ∧ Sy 11 6 = 0 ∧ Sy 11 7 = 0 ∧ Sy 11 8 = 0 ∧ Sy 11 9 = 0 ∧ Sy 11 10 = 0 ∧ Sy 11 11 = 0 ∧ Sy 11 12 = 0 ∧ Sy 11 13 = 0 := ⟨xB 0, xB 4, xB 6, xB 7, xB 8, xB 9, xB 10, xB 11, xB 12, xB 13⟩
  have hm1 : ∀ h, h < 24 → Sy (11 + 1) h = 0 := fun h _ => (e _ h (by omega)).trans (xm1 h)
  have y10 : Sy 0 10 = 0 := (e 0 10 (by omega)).trans x10
  have y13 : Sy 0 13 = 0 := (e 0 13 (by omega)).trans x13
  obtain ⟨S2, L2, Sm2, Lm2, Sm3, Lm3, k1, k2, k3, ⟨p, q, -, k4⟩, k5, k6, -, -, -⟩ := read_80 (L := L) (Lm := Lx) zLT_0 zLB_0 (by omega) h1 hn hl hc hro.2.2.2.2 hT y10 e9 y13 hm hm1
  have m1 : zcall 204 [.ref 0, .int (nI n)] (zRm0 rd) Sm Lm = zgo 204 67 [.ref 0, .int (nI n)] [] zRp0 Sm3 Lm3 := by
    rw [x1]
    simp (config := {maxSteps := 1000000}) (disch := omega) only [↓reduceIte, Int32.reduceLT, Int32.reduceLE, Int32.reduceToNatClampNeg, Int32.reduceAdd, Int32.reduceSub, Int32.reduceMul, Nat.reduceLeDiff, zEL, zup_ne, zup_eq, zT0, zT1, zT2, if_true, if_false, r0, s204_54, s204_55, s204_56, s204_59, s204_60, s204_63, s204_64, ← hy, k2, k3]
  have fm : ∀ j k, j < 11 → (j ≠ 0 ∨ 18 < k) → Sm3 j k = Sm j k := fun j k a d => by rw [k6 j k (by omega) (by omega), e j k (by omega), x2 j k a (by omega)]
  have f6 : Sm3 0 6 = 0 := by rw [k6 0 6 (by omega) (by omega), e 0 6 (by omega)]; exact x6
  obtain ⟨Y, hY⟩ : ∃ Y, Y = zup S2 0 15 (S2 80 6) := ⟨_, rfl⟩
  have f1 : (nI n < 0) = False := eq_false (znI_neg (by omega))
  have f2 : (nI n ≤ nI len) = True := eq_true ((znI_le (by omega) (by omega)).mpr hn)
  have y0 : Y 0 15 = S2 80 6 := by rw [hY, zup_eq rfl rfl]
  have yf : ∀ j k, (j ≠ 0 ∨ k ≠ 15) → Y j k = S2 j k := fun j k h => by rw [hY, zup_ne (by omega)]
  obtain ⟨o1, o2, o3, o4, o5, o6, o7, o8⟩ := hro
  have ro : zRO Y := by
    refine ⟨?_, ?_, ?_, ?_, ?_, ?_, ?_, ?_⟩
    · rw [yf _ _ (by omega), k5 _ _ (by omega) (by omega) (by omega) (by omega) (by omega)]; exact o1
    · rw [yf _ _ (by omega), k5 _ _ (by omega) (by omega) (by omega) (by omega) (by omega)]; exact o2
    · rw [yf _ _ (by omega), k5 _ _ (by omega) (by omega) (by omega) (by omega) (by omega)]; exact o3
    · rw [yf _ _ (by omega), k5 _ _ (by omega) (by omega) (by omega) (by omega) (by omega)]; exact o4
    · rw [yf _ _ (by omega), k5 _ _ (by omega) (by omega) (by omega) (by omega) (by omega)]; exact o5
    · rw [yf _ _ (by omega), k5 _ _ (by omega) (by omega) (by omega) (by omega) (by omega)]; exact o6
    · rw [yf _ _ (by omega), k5 _ _ (by omega) (by omega) (by omega) (by omega) (by omega)]; exact o7
    · rw [yf _ _ (by omega), k5 _ _ (by omega) (by omega) (by omega) (by omega) (by omega)]; exact o8
  rcases k4 with hO | hF
  · have z6 : S2 80 6 = 0 := hO.1
    have z13 : Sm3 0 13 = 0 := hO.2.1
    have y1 : Y 1 1 = nI len := by rw [yf _ _ (by omega), k5 _ _ (by omega) (by omega) (by omega) (by omega) (by omega)]; exact h1
    have yc : ∀ i, i < n → b i ≤ 255 ∧ Y 3 i = nI (b i) := fun i hi => ⟨(hbb i).1, by rw [yf _ _ (by omega), k5 _ _ (by omega) (by omega) (by omega) (by omega) (by omega)]; exact (hc i hi).2⟩
    obtain ⟨S3, L3, Sm2', Lm2', Sm3', Lm3', l1, l2, l3, ⟨p', q', -, l4⟩, l5, -, -, -, l9⟩ := read_162 (L := L2) (Lm := Lx) zLT_0 zLB_0 (by omega) y1 hn hl yc ⟨ro.1, ro.2.1, ro.2.2.1, ro.2.2.2.1⟩ hT y10 e9 y13 hm hm1
    obtain ⟨rfl, rfl⟩ := zST_inj k2 l2
    obtain ⟨rfl, rfl⟩ := zST_inj k3 l3
    have w6 : S3 162 6 = 0 := by
      rcases l4 with hO' | hF'
      · exact hO'.1
      · obtain ⟨f, pl, g1, g2, g3, g4, g5, g6, g7, g8⟩ := hF'
        rw [z13] at g7
        exact absurd g7.symm (znI_n0 g1 g2)
    obtain ⟨w9, w10, w11, w12⟩ := l9 w6
    obtain ⟨o1, o2, o3, o4, o5, o6, o7, o8⟩ := ro
    refine ⟨S3, L3, _, _, ?_, m1, fm, f6, ?_, .inr ⟨?_, z13, w9, w10, w11, w12⟩⟩
    · unfold zcall
      have hY0 : zup S2 0 15 0 = Y := by rw [hY, z6]
      simp (config := {maxSteps := 1000000}) (disch := omega) only [↓reduceIte, Int32.reduceLT, Int32.reduceLE, Int32.reduceToNatClampNeg, Int32.reduceAdd, Int32.reduceSub, Int32.reduceMul, Nat.reduceLeDiff, zEL, zup_ne, zup_eq, zT0, zT1, zT2, if_true, if_false, gX, gR, tEC, ze_104, s104_0, s104_1, s104_4, s104_5, s104_6, s104_9, s104_12, s104_15, s104_16, s104_17, s104_20, s104_21, s104_22, s104_23, s104_26, s104_27, s104_30, s104_33, s104_34, s104_37, s104_40, s104_41, s104_44, s104_45, s104_48, h1, f1, f2, k1, hY0, y0, z6, l1]
    · refine ⟨?_, ?_, ?_, ?_, ?_, ?_, ?_, ?_⟩
      · rw [l5 _ _ (by omega) (by omega) (by omega) (by omega) (by omega)]; exact o1
      · rw [l5 _ _ (by omega) (by omega) (by omega) (by omega) (by omega)]; exact o2
      · rw [l5 _ _ (by omega) (by omega) (by omega) (by omega) (by omega)]; exact o3
      · rw [l5 _ _ (by omega) (by omega) (by omega) (by omega) (by omega)]; exact o4
      · rw [l5 _ _ (by omega) (by omega) (by omega) (by omega) (by omega)]; exact o5
      · rw [l5 _ _ (by omega) (by omega) (by omega) (by omega) (by omega)]; exact o6
      · rw [l5 _ _ (by omega) (by omega) (by omega) (by omega) (by omega)]; exact o7
      · rw [l5 _ _ (by omega) (by omega) (by omega) (by omega) (by omega)]; exact o8
    · rw [l5 _ _ (by omega) (by omega) (by omega) (by omega) (by omega), y0]
      exact z6
  · obtain ⟨f, pl, g1, g2, g3, g4, g5, g6, g7, g8⟩ := hF
    have z6 : ¬ S2 80 6 = 0 := by rw [g4]; exact znI_n0 g1 g2
    refine ⟨Y, L2, _, _, ?_, m1, fm, f6, ro, .inl ⟨f, g1, g2, y0.trans g4, g7, by rw [yf _ _ (by omega), g5, g8], fun j k h2 h3 h4 => ?_⟩⟩
    · unfold zcall
      simp (config := {maxSteps := 1000000}) (disch := omega) only [↓reduceIte, Int32.reduceLT, Int32.reduceLE, Int32.reduceToNatClampNeg, Int32.reduceAdd, Int32.reduceSub, Int32.reduceMul, Nat.reduceLeDiff, zEL, zup_ne, zup_eq, zT0, zT1, zT2, if_true, if_false, gX, gR, tEC, ze_104, s104_0, s104_1, s104_4, s104_5, s104_6, s104_9, s104_12, s104_15, s104_16, s104_17, s104_20, s104_21, s104_22, s104_23, s104_26, s104_27, s104_30, s104_33, s104_34, s104_37, s104_40, s104_41, s104_44, s104_45, s104_48, h1, f1, f2, k1, ← hY, y0, z6]
    · rw [yf _ _ h2, k5 _ _ (by omega) (by omega) (by omega) (by omega) (by omega)]
theorem rd2_1 {n len : Nat} (hrd : rd = .null ∨ ∃ q, rd = .ref q) (h1 : S 1 1 = nI len) (h6 : Sm 0 6 = nI len) (hn : n ≤ len) (hl : len ≤ 900) (hb : ∀ i, i < len → S 3 i = Sm 1 i &&& 255) (hro : zRO S) : ∃ S1 L1 Sm1 Lm1, zcall 104 [.ref 0, .int (nI n)] zRc S L = zgo 104 49 [.ref 0, .int (nI n)] [] zRc S1 L1 ∧ zcall 204 [.ref 0, .int (nI n)] (zRm1 rd) Sm Lm = zgo 204 67 [.ref 0, .int (nI n)] [] zRp1 Sm1 Lm1 ∧ (∀ j k, j < 41 → (j ≠ 0 ∨ 18 < k) → Sm1 j k = Sm j k) ∧ Sm1 0 6 = 0 ∧ zRO S1 ∧ ((∃ f, 1 ≤ f ∧ f ≤ 6 ∧ S1 0 15 = nI f ∧ Sm1 0 13 = nI f ∧ S1 80 7 = Sm1 0 14 ∧ ∀ j k, (j ≠ 0 ∨ k ≠ 15) → (j ≠ 1 ∨ k < 2) → (j < 80 ∨ 161 < j) → S1 j k = S j k) ∨ (S1 0 15 = 0 ∧ Sm1 0 13 = 0 ∧ (∃ N, zPA_162 41 N S1 Sm1 L1 Lm1) ∧ ¬ S1 4 0 = 0 ∧ ¬ S1 5 3 = 0 ∧ ¬ S1 12 7 = 0)) := by
  obtain ⟨Sx, Lx, x1, x2, x6, x7, x10, x13, xm, xm1⟩ := h204_1 (rd := rd) (Lm := Lm) hrd h6 hn hl
  obtain ⟨Sy, hy⟩ : ∃ Sy, Sy = zup Sx 0 9 0 := ⟨_, rfl⟩
  have r0 := zLT_1
  unfold zLT at r0
  have e : ∀ j k, (j ≠ 0 ∨ k ≠ 9) → Sy j k = Sx j k := fun j k h => by rw [hy, zup_ne (by omega)]
  have e9 : ¬ Sy 0 9 = 5 := by rw [hy, zup_eq rfl rfl]; decide
  obtain ⟨b, hbb⟩ : ∃ b : Nat → Nat, ∀ i, b i ≤ 255 ∧ Sm 1 i &&& 255 = nI (b i) := ⟨fun i => (zand255 (Sm 1 i)).choose, fun i => (zand255 (Sm 1 i)).choose_spec⟩
  have hc : ∀ i, i < n → b i ≤ 255 ∧ S 3 i = nI (b i) := fun i hi => ⟨(hbb i).1, (hb i (by omega)).trans (hbb i).2⟩
  have hT : zTN n b Sy := ⟨by omega, (e 0 7 (by omega)).trans x7, fun i hi => ⟨(hbb i).1, by rw [e 1 i (by omega), x2 1 i (by omega) (by omega)]; exact (hbb i).2⟩⟩
  have xB : ∀ k, Sy 41 k = if k = 4 then -1 else 0 := fun k => (e 41 k (by omega)).trans (xm k)
  have hm : Sy 41 0 = 0 ∧ Sy 41 4 = -1 ∧ Sy 41 6 = 0 ∧ Sy 41 7 = 0 ∧ Sy 41 8 = 0 ∧ Sy 41 9 = 0 ∧ Sy 41 10 = 0 ∧ Sy 41 11 = 0 ∧ Sy 41 12 = 0 ∧ Sy 41 13 = 0 := ⟨xB 0, xB 4, xB 6, xB 7, xB 8, xB 9, xB 10, xB 11, xB 12, xB 13⟩
  have hm1 : ∀ h, h < 24 → Sy (41 + 1) h = 0 := fun h _ => (e _ h (by omega)).trans (xm1 h)
  have y10 : Sy 0 10 = 0 := (e 0 10 (by omega)).trans x10
  have y13 : Sy 0 13 = 0 := (e 0 13 (by omega)).trans x13
  obtain ⟨S2, L2, Sm2, Lm2, Sm3, Lm3, k1, k2, k3, ⟨p, q, -, k4⟩, k5, k6, -, -, -⟩ := read_80 (L := L) (Lm := Lx) zLT_1 zLB_1 (by omega) h1 hn hl hc hro.2.2.2.2 hT y10 e9 y13 hm hm1
  have m1 : zcall 204 [.ref 0, .int (nI n)] (zRm1 rd) Sm Lm = zgo 204 67 [.ref 0, .int (nI n)] [] zRp1 Sm3 Lm3 := by
    rw [x1]
    simp (config := {maxSteps := 1000000}) (disch := omega) only [↓reduceIte, Int32.reduceLT, Int32.reduceLE, Int32.reduceToNatClampNeg, Int32.reduceAdd, Int32.reduceSub, Int32.reduceMul, Nat.reduceLeDiff, zEL, zup_ne, zup_eq, zT0, zT1, zT2, if_true, if_false, r0, s204_54, s204_55, s204_56, s204_59, s204_60, s204_63, s204_64, ← hy, k2, k3]
  have fm : ∀ j k, j < 41 → (j ≠ 0 ∨ 18 < k) → Sm3 j k = Sm j k := fun j k a d => by rw [k6 j k (by omega) (by omega), e j k (by omega), x2 j k a (by omega)]
  have f6 : Sm3 0 6 = 0 := by rw [k6 0 6 (by omega) (by omega), e 0 6 (by omega)]; exact x6
  obtain ⟨Y, hY⟩ : ∃ Y, Y = zup S2 0 15 (S2 80 6) := ⟨_, rfl⟩
  have f1 : (nI n < 0) = False := eq_false (znI_neg (by omega))
  have f2 : (nI n ≤ nI len) = True := eq_true ((znI_le (by omega) (by omega)).mpr hn)
  have y0 : Y 0 15 = S2 80 6 := by rw [hY, zup_eq rfl rfl]
  have yf : ∀ j k, (j ≠ 0 ∨ k ≠ 15) → Y j k = S2 j k := fun j k h => by rw [hY, zup_ne (by omega)]
  obtain ⟨o1, o2, o3, o4, o5, o6, o7, o8⟩ := hro
  have ro : zRO Y := by
    refine ⟨?_, ?_, ?_, ?_, ?_, ?_, ?_, ?_⟩
    · rw [yf _ _ (by omega), k5 _ _ (by omega) (by omega) (by omega) (by omega) (by omega)]; exact o1
    · rw [yf _ _ (by omega), k5 _ _ (by omega) (by omega) (by omega) (by omega) (by omega)]; exact o2
    · rw [yf _ _ (by omega), k5 _ _ (by omega) (by omega) (by omega) (by omega) (by omega)]; exact o3
    · rw [yf _ _ (by omega), k5 _ _ (by omega) (by omega) (by omega) (by omega) (by omega)]; exact o4
    · rw [yf _ _ (by omega), k5 _ _ (by omega) (by omega) (by omega) (by omega) (by omega)]; exact o5
    · rw [yf _ _ (by omega), k5 _ _ (by omega) (by omega) (by omega) (by omega) (by omega)]; exact o6
    · rw [yf _ _ (by omega), k5 _ _ (by omega) (by omega) (by omega) (by omega) (by omega)]; exact o7
    · rw [yf _ _ (by omega), k5 _ _ (by omega) (by omega) (by omega) (by omega) (by omega)]; exact o8
  rcases k4 with hO | hF
  · have z6 : S2 80 6 = 0 := hO.1
    have z13 : Sm3 0 13 = 0 := hO.2.1
    have y1 : Y 1 1 = nI len := by rw [yf _ _ (by omega), k5 _ _ (by omega) (by omega) (by omega) (by omega) (by omega)]; exact h1
    have yc : ∀ i, i < n → b i ≤ 255 ∧ Y 3 i = nI (b i) := fun i hi => ⟨(hbb i).1, by rw [yf _ _ (by omega), k5 _ _ (by omega) (by omega) (by omega) (by omega) (by omega)]; exact (hc i hi).2⟩
    obtain ⟨S3, L3, Sm2', Lm2', Sm3', Lm3', l1, l2, l3, ⟨p', q', -, l4⟩, l5, -, -, -, l9⟩ := read_162 (L := L2) (Lm := Lx) zLT_1 zLB_1 (by omega) y1 hn hl yc ⟨ro.1, ro.2.1, ro.2.2.1, ro.2.2.2.1⟩ hT y10 e9 y13 hm hm1
    obtain ⟨rfl, rfl⟩ := zST_inj k2 l2
    obtain ⟨rfl, rfl⟩ := zST_inj k3 l3
    have w6 : S3 162 6 = 0 := by
      rcases l4 with hO' | hF'
      · exact hO'.1
      · obtain ⟨f, pl, g1, g2, g3, g4, g5, g6, g7, g8⟩ := hF'
        rw [z13] at g7
        exact absurd g7.symm (znI_n0 g1 g2)
    obtain ⟨w9, w10, w11, w12⟩ := l9 w6
    obtain ⟨o1, o2, o3, o4, o5, o6, o7, o8⟩ := ro
    refine ⟨S3, L3, _, _, ?_, m1, fm, f6, ?_, .inr ⟨?_, z13, w9, w10, w11, w12⟩⟩
    · unfold zcall
      have hY0 : zup S2 0 15 0 = Y := by rw [hY, z6]
      simp (config := {maxSteps := 1000000}) (disch := omega) only [↓reduceIte, Int32.reduceLT, Int32.reduceLE, Int32.reduceToNatClampNeg, Int32.reduceAdd, Int32.reduceSub, Int32.reduceMul, Nat.reduceLeDiff, zEL, zup_ne, zup_eq, zT0, zT1, zT2, if_true, if_false, gX, gR, tEC, ze_104, s104_0, s104_1, s104_4, s104_5, s104_6, s104_9, s104_12, s104_15, s104_16, s104_17, s104_20, s104_21, s104_22, s104_23, s104_26, s104_27, s104_30, s104_33, s104_34, s104_37, s104_40, s104_41, s104_44, s104_45, s104_48, h1, f1, f2, k1, hY0, y0, z6, l1]
    · refine ⟨?_, ?_, ?_, ?_, ?_, ?_, ?_, ?_⟩
      · rw [l5 _ _ (by omega) (by omega) (by omega) (by omega) (by omega)]; exact o1
      · rw [l5 _ _ (by omega) (by omega) (by omega) (by omega) (by omega)]; exact o2
      · rw [l5 _ _ (by omega) (by omega) (by omega) (by omega) (by omega)]; exact o3
      · rw [l5 _ _ (by omega) (by omega) (by omega) (by omega) (by omega)]; exact o4
      · rw [l5 _ _ (by omega) (by omega) (by omega) (by omega) (by omega)]; exact o5
      · rw [l5 _ _ (by omega) (by omega) (by omega) (by omega) (by omega)]; exact o6
      · rw [l5 _ _ (by omega) (by omega) (by omega) (by omega) (by omega)]; exact o7
      · rw [l5 _ _ (by omega) (by omega) (by omega) (by omega) (by omega)]; exact o8
    · rw [l5 _ _ (by omega) (by omega) (by omega) (by omega) (by omega), y0]
      exact z6
  · obtain ⟨f, pl, g1, g2, g3, g4, g5, g6, g7, g8⟩ := hF
    have z6 : ¬ S2 80 6 = 0 := by rw [g4]; exact znI_n0 g1 g2
    refine ⟨Y, L2, _, _, ?_, m1, fm, f6, ro, .inl ⟨f, g1, g2, y0.trans g4, g7, by rw [yf _ _ (by omega), g5, g8], fun j k h2 h3 h4 => ?_⟩⟩
    · unfold zcall
      simp (config := {maxSteps := 1000000}) (disch := omega) only [↓reduceIte, Int32.reduceLT, Int32.reduceLE, Int32.reduceToNatClampNeg, Int32.reduceAdd, Int32.reduceSub, Int32.reduceMul, Nat.reduceLeDiff, zEL, zup_ne, zup_eq, zT0, zT1, zT2, if_true, if_false, gX, gR, tEC, ze_104, s104_0, s104_1, s104_4, s104_5, s104_6, s104_9, s104_12, s104_15, s104_16, s104_17, s104_20, s104_21, s104_22, s104_23, s104_26, s104_27, s104_30, s104_33, s104_34, s104_37, s104_40, s104_41, s104_44, s104_45, s104_48, h1, f1, f2, k1, ← hY, y0, z6]
    · rw [yf _ _ h2, k5 _ _ (by omega) (by omega) (by omega) (by omega) (by omega)]
end ZPQ
