/-! prints: sets of players, as numbers -/
section ZWA
set_option maxRecDepth 100000 in
theorem zw1 : ∀ s, s < 256 → ∀ p, p < 8 → s / 2 ^ p % 2 = 1 → 2 ^ p ≤ s ∧ (s - 2 ^ p) / 2 ^ p % 2 = 0 := by decide +kernel
set_option maxRecDepth 100000 in
theorem zw0 : ∀ s, s < 256 → ∀ p, p < 8 → s / 2 ^ p % 2 = 0 → s + 2 ^ p < 256 ∧ (s + 2 ^ p) / 2 ^ p % 2 = 1 := by decide +kernel
def zw2c (s p o : Nat) : Bool := !decide (s / 2 ^ p % 2 = 1) || (decide (o = p) || decide ((s - 2 ^ p) / 2 ^ o % 2 = s / 2 ^ o % 2))
set_option maxRecDepth 100000 in
theorem zw2_all : ∀ s, s < 256 → ∀ p, p < 8 → ∀ o, o < 8 → zw2c s p o = true := by decide +kernel
theorem zw2 (s : Nat) (hs : s < 256) (p : Nat) (hp : p < 8) (h1 : s / 2 ^ p % 2 = 1) (o : Nat) (ho : o < 8) (hop : o ≠ p) : (s - 2 ^ p) / 2 ^ o % 2 = s / 2 ^ o % 2 := by
  have h := zw2_all s hs p hp o ho
  unfold zw2c at h
  rw [decide_eq_true h1, decide_eq_false hop, Bool.not_true, Bool.false_or, Bool.false_or] at h
  exact of_decide_eq_true h
set_option maxRecDepth 100000 in
theorem zwor : ∀ s, s < 256 → ∀ p, p < 8 → s / 2 ^ p % 2 = 0 → nI s ||| ((1 : Int32) <<< (nI p &&& 31)) = nI (s + 2 ^ p) := by decide +kernel
set_option maxRecDepth 100000 in
theorem zwnd : ∀ s, s < 256 → ∀ p, p < 8 → s / 2 ^ p % 2 = 1 → nI s &&& (((1 : Int32) <<< (nI p &&& 31)) ^^^ (-1)) = nI (s - 2 ^ p) := by decide +kernel
def zsp (mb : Nat → Bool) (f : Nat → Nat) (s : Nat) : Nat → Nat
  | 0 => 0
  | p + 1 => zsp mb f s p + (if s / 2 ^ p % 2 = 1 ∧ mb p = true then f (s - 2 ^ p) else 0)
theorem zsp_s {mb : Nat → Bool} {f : Nat → Nat} {s p : Nat} : zsp mb f s (p + 1) = zsp mb f s p + (if s / 2 ^ p % 2 = 1 ∧ mb p = true then f (s - 2 ^ p) else 0) := rfl
theorem zsp_le {mb : Nat → Bool} {f : Nat → Nat} {s B : Nat} (h : ∀ s, f s ≤ B) : ∀ n, zsp mb f s n ≤ n * B := by
  intro n
  induction n with
  | zero => exact Nat.zero_le _
  | succ n ih =>
    rw [zsp_s, Nat.succ_mul]
    have := h (s - 2 ^ n)
    split <;> omega
theorem zsp_congr {mb mb' : Nat → Bool} {f f' : Nat → Nat} {s : Nat} (hs : s < 256) : ∀ n, n ≤ 8 → (∀ p, p < n → mb p = mb' p) → (∀ s, s < 256 → f s = f' s) → zsp mb f s n = zsp mb' f' s n := by
  intro n
  induction n with
  | zero => intro _ _ _; rfl
  | succ n ih =>
    intro h8 h1 h2
    rw [zsp_s, zsp_s, ih (by omega) (fun p hp => h1 p (by omega)) h2, h1 n (by omega), h2 (s - 2 ^ n) (Nat.lt_of_le_of_lt (Nat.sub_le _ _) hs)]
/-- the class pushes: of j what came from sets from s on -/
def zsq (mb : Nat → Bool) (f : Nat → Nat) (s j : Nat) : Nat → Nat
  | 0 => 0
  | p + 1 => zsq mb f s j p + (if j / 2 ^ p % 2 = 1 ∧ mb p = true ∧ s ≤ j - 2 ^ p then f (j - 2 ^ p) else 0)
def zsa (mb : Nat → Bool) (s m j : Nat) : Nat → Nat
  | 0 => 0
  | p + 1 => zsa mb s m j p + (if s / 2 ^ p % 2 = 0 ∧ mb p = true ∧ j = s + 2 ^ p then m else 0)
theorem zsq_s {mb : Nat → Bool} {f : Nat → Nat} {s j p : Nat} : zsq mb f s j (p + 1) = zsq mb f s j p + (if j / 2 ^ p % 2 = 1 ∧ mb p = true ∧ s ≤ j - 2 ^ p then f (j - 2 ^ p) else 0) := rfl
theorem zsa_s {mb : Nat → Bool} {s m j p : Nat} : zsa mb s m j (p + 1) = zsa mb s m j p + (if s / 2 ^ p % 2 = 0 ∧ mb p = true ∧ j = s + 2 ^ p then m else 0) := rfl
theorem zsq_0 {mb : Nat → Bool} {f : Nat → Nat} {j : Nat} : ∀ n, zsq mb f 0 j n = zsp mb f j n := by
  intro n
  induction n with
  | zero => rfl
  | succ n ih =>
    rw [zsq_s, zsp_s, ih]
    congr 1
    by_cases h : j / 2 ^ n % 2 = 1 ∧ mb n = true
    · rw [if_pos ⟨h.1, h.2, Nat.zero_le _⟩, if_pos h]
    · rw [if_neg (fun h' => h ⟨h'.1, h'.2.1⟩), if_neg h]
theorem zsq_self {mb : Nat → Bool} {f : Nat → Nat} {s : Nat} (hs : s < 256) : ∀ n, n ≤ 8 → zsq mb f s s n = 0 := by
  intro n
  induction n with
  | zero => intro _; rfl
  | succ n ih =>
    intro h8
    rw [zsq_s, ih (by omega), if_neg]
    rintro ⟨h1, -, h2⟩
    have := (zw1 s hs n (by omega) h1).1
    have hp : 0 < 2 ^ n := Nat.pow_pos (by decide)
    omega
theorem zsq_step {mb : Nat → Bool} {f : Nat → Nat} {s j : Nat} (hs : s < 256) (hj : j < 256) : ∀ n, n ≤ 8 → zsq mb f (s + 1) j n + zsa mb s (f s) j n = zsq mb f s j n := by
  intro n
  induction n with
  | zero => intro _; rfl
  | succ n ih =>
    intro h8
    have i1 := ih (by omega)
    rw [zsq_s, zsa_s, zsq_s, ← i1]
    have hp : 0 < 2 ^ n := Nat.pow_pos (by decide)
    have e : (if j / 2 ^ n % 2 = 1 ∧ mb n = true ∧ s + 1 ≤ j - 2 ^ n then f (j - 2 ^ n) else 0) + (if s / 2 ^ n % 2 = 0 ∧ mb n = true ∧ j = s + 2 ^ n then f s else 0) = (if j / 2 ^ n % 2 = 1 ∧ mb n = true ∧ s ≤ j - 2 ^ n then f (j - 2 ^ n) else 0) := by
      by_cases h1 : j / 2 ^ n % 2 = 1 ∧ mb n = true ∧ s ≤ j - 2 ^ n
      · obtain ⟨a1, a2, a3⟩ := h1
        obtain ⟨b1, b2⟩ := zw1 j hj n (by omega) a1
        rw [if_pos (show j / 2 ^ n % 2 = 1 ∧ mb n = true ∧ s ≤ j - 2 ^ n from ⟨a1, a2, a3⟩)]
        by_cases h2 : j = s + 2 ^ n
        · have h3 : j - 2 ^ n = s := by omega
          rw [if_neg (fun h => by have := h.2.2; omega), if_pos ⟨by rw [← h3]; exact b2, a2, h2⟩, h3, Nat.zero_add]
        · rw [if_pos ⟨a1, a2, by omega⟩, if_neg (fun h => h2 h.2.2), Nat.add_zero]
      · rw [if_neg h1, if_neg (fun h => h1 ⟨h.1, h.2.1, by omega⟩), if_neg]
        rintro ⟨a1, a2, rfl⟩
        have b1 := (zw0 s hs n (by omega) a1).2
        exact h1 ⟨b1, a2, by omega⟩
    omega
/-- in how many ways the first k prints are a set's: all but one -/
def zsk (mb : Nat → Nat → Bool) (n but : Nat) : Nat → Nat → Nat
  | 0 => fun s => if s = 0 then 1 else 0
  | k + 1 => if k = but then zsk mb n but k else fun s => zsp (mb k) (zsk mb n but k) s n
theorem zsk_s {mb : Nat → Nat → Bool} {n but k : Nat} : zsk mb n but (k + 1) = if k = but then zsk mb n but k else fun s => zsp (mb k) (zsk mb n but k) s n := rfl
/-- one print is told to be of one -/
def zsm (mb : Nat → Nat → Bool) (n pr own : Nat) : Nat → Nat → Nat
  | 0 => fun s => if s = 0 then 1 else 0
  | k + 1 => fun s => zsp (fun p => mb k p && (!decide (k = pr) || decide (p = own))) (zsm mb n pr own k) s n
theorem zsm_s {mb : Nat → Nat → Bool} {n pr own k : Nat} : zsm mb n pr own (k + 1) = fun s => zsp (fun p => mb k p && (!decide (k = pr) || decide (p = own))) (zsm mb n pr own k) s n := rfl
theorem zsk_le {mb : Nat → Nat → Bool} {n but : Nat} (hn : n ≤ 8) : ∀ k s, zsk mb n but k s ≤ 8 ^ k := by
  intro k
  induction k with
  | zero =>
    intro s
    show (if s = 0 then 1 else 0) ≤ 1
    split <;> omega
  | succ k ih =>
    intro s
    rw [zsk_s, Nat.pow_succ]
    split
    · have := ih s
      omega
    · have h1 := zsp_le (mb := mb k) (s := s) ih n
      have h2 : n * 8 ^ k ≤ 8 * 8 ^ k := Nat.mul_le_mul hn (Nat.le_refl _)
      show zsp (mb k) (zsk mb n but k) s n ≤ 8 ^ k * 8
      omega
theorem zsm_le {mb : Nat → Nat → Bool} {n pr own : Nat} (hn : n ≤ 8) : ∀ k s, zsm mb n pr own k s ≤ 8 ^ k := by
  intro k
  induction k with
  | zero =>
    intro s
    show (if s = 0 then 1 else 0) ≤ 1
    split <;> omega
  | succ k ih =>
    intro s
    rw [zsm_s, Nat.pow_succ]
    have h1 := zsp_le (mb := fun p => mb k p && (!decide (k = pr) || decide (p = own))) (s := s) ih n
    have h2 : n * 8 ^ k ≤ 8 * 8 ^ k := Nat.mul_le_mul hn (Nat.le_refl _)
    show zsp _ (zsm mb n pr own k) s n ≤ 8 ^ k * 8
    omega
theorem zsm_before {mb : Nat → Nat → Bool} {n pr own : Nat} (hn : n ≤ 8) : ∀ k, k ≤ pr → ∀ s, s < 256 → zsm mb n pr own k s = zsk mb n pr k s := by
  intro k
  induction k with
  | zero => intro _ _ _; rfl
  | succ k ih =>
    intro hk s hs
    rw [zsm_s, zsk_s, if_neg (by omega)]
    refine zsp_congr hs n hn (fun p hp => ?_) (fun s hs => ih (by omega) s hs)
    show (mb k p && (!decide (k = pr) || decide (p = own))) = mb k p
    rw [decide_eq_false (show ¬ k = pr by omega), Bool.not_false, Bool.true_or, Bool.and_true]
/-- one of the players is taken out -/
def zsU (b : Bool) (o : Nat) (f : Nat → Nat) (s : Nat) : Nat := if s / 2 ^ o % 2 = 1 ∧ b = true then f (s - 2 ^ o) else 0
theorem zsp_one {mb b : Nat → Bool} {f : Nat → Nat} {s o : Nat} (h : ∀ p, mb p = (b p && decide (p = o))) : ∀ n, zsp mb f s n = if o < n then zsU (b o) o f s else 0 := by
  intro n
  induction n with
  | zero => rw [if_neg (Nat.not_lt_zero _)]; rfl
  | succ n ih =>
    rw [zsp_s, ih]
    by_cases hn : o = n
    · subst hn
      have e : mb o = b o := by rw [h, decide_eq_true (rfl : o = o), Bool.and_true]
      rw [if_neg (Nat.lt_irrefl _), if_pos (Nat.lt_succ_self _), Nat.zero_add, e]
      rfl
    · have e : mb n = false := by rw [h, decide_eq_false (fun h' : n = o => hn h'.symm), Bool.and_false]
      rw [if_neg (fun h' : s / 2 ^ n % 2 = 1 ∧ mb n = true => by rw [e] at h'; exact absurd h'.2 (by decide)), Nat.add_zero]
      by_cases h2 : o < n
      · rw [if_pos h2, if_pos (by omega)]
      · rw [if_neg h2, if_neg (by omega)]
theorem zsp_U {mb : Nat → Bool} {b : Bool} {f : Nat → Nat} {s o : Nat} (hs : s < 256) (ho : o < 8) : ∀ n, n ≤ 8 → zsp mb (zsU b o f) s n = if s / 2 ^ o % 2 = 1 ∧ b = true then zsp mb f (s - 2 ^ o) n else 0 := by
  intro n
  induction n with
  | zero => intro _; split <;> rfl
  | succ n ih =>
    intro h8
    rw [zsp_s, ih (by omega)]
    by_cases h1 : s / 2 ^ o % 2 = 1 ∧ b = true
    · obtain ⟨a1, a2⟩ := h1
      obtain ⟨c1, c2⟩ := zw1 s hs o ho a1
      rw [if_pos (⟨a1, a2⟩ : s / 2 ^ o % 2 = 1 ∧ b = true), if_pos (⟨a1, a2⟩ : s / 2 ^ o % 2 = 1 ∧ b = true), zsp_s]
      congr 1
      by_cases hno : n = o
      · subst hno
        have hR : ¬ ((s - 2 ^ n) / 2 ^ n % 2 = 1 ∧ mb n = true) := fun h => by rw [c2] at h; exact absurd h.1 (by decide)
        have hR2 : ¬ ((s - 2 ^ n) / 2 ^ n % 2 = 1 ∧ b = true) := fun h => by rw [c2] at h; exact absurd h.1 (by decide)
        rw [if_neg hR]
        by_cases h2 : s / 2 ^ n % 2 = 1 ∧ mb n = true
        · rw [if_pos h2]
          unfold zsU
          rw [if_neg hR2]
        · rw [if_neg h2]
      · have e1 := zw2 s hs o ho a1 n (by omega) hno
        rw [e1]
        by_cases h2 : s / 2 ^ n % 2 = 1 ∧ mb n = true
        · rw [if_pos h2, if_pos h2]
          unfold zsU
          rw [zw2 s hs n (by omega) h2.1 o ho (fun h => hno h.symm), if_pos ⟨a1, a2⟩]
          congr 1
          omega
        · rw [if_neg h2, if_neg h2]
    · rw [if_neg h1, if_neg h1, Nat.zero_add]
      by_cases h2 : s / 2 ^ n % 2 = 1 ∧ mb n = true
      · rw [if_pos h2]
        unfold zsU
        rw [if_neg]
        rintro ⟨a1, a2⟩
        by_cases hno : o = n
        · subst hno
          rw [(zw1 s hs o ho h2.1).2] at a1
          exact absurd a1 (by decide)
        · rw [zw2 s hs n (by omega) h2.1 o ho hno] at a1
          exact h1 ⟨a1, a2⟩
      · rw [if_neg h2]
theorem zsm_behind {mb : Nat → Nat → Bool} {n pr own : Nat} (hn : n ≤ 8) (ho : own < n) : ∀ d, ∀ s, s < 256 → zsm mb n pr own (pr + 1 + d) s = zsU (mb pr own) own (zsk mb n pr (pr + 1 + d)) s := by
  intro d
  induction d with
  | zero =>
    intro s hs
    show zsm mb n pr own (pr + 1) s = zsU (mb pr own) own (zsk mb n pr (pr + 1)) s
    rw [zsm_s, zsk_s, if_pos rfl]
    have e : zsp (fun p => mb pr p && (!decide (pr = pr) || decide (p = own))) (zsm mb n pr own pr) s n = zsp (fun p => mb pr p && (!decide (pr = pr) || decide (p = own))) (zsk mb n pr pr) s n :=
      zsp_congr hs n hn (fun p hp => rfl) (fun s hs => zsm_before hn pr (Nat.le_refl _) s hs)
    show zsp _ (zsm mb n pr own pr) s n = _
    rw [e, zsp_one (b := mb pr) (o := own) (fun p => by
      show (mb pr p && (!decide (pr = pr) || decide (p = own))) = _
      rw [decide_eq_true (rfl : pr = pr)]
      rfl), if_pos ho]
  | succ d ih =>
    intro s hs
    show zsm mb n pr own (pr + 1 + d + 1) s = zsU (mb pr own) own (zsk mb n pr (pr + 1 + d + 1)) s
    rw [zsm_s, zsk_s, if_neg (by omega)]
    have e : zsp (fun p => mb (pr + 1 + d) p && (!decide (pr + 1 + d = pr) || decide (p = own))) (zsm mb n pr own (pr + 1 + d)) s n = zsp (mb (pr + 1 + d)) (zsU (mb pr own) own (zsk mb n pr (pr + 1 + d))) s n := by
      refine zsp_congr hs n hn (fun p hp => ?_) (fun s hs => ih s hs)
      show (mb (pr + 1 + d) p && (!decide (pr + 1 + d = pr) || decide (p = own))) = mb (pr + 1 + d) p
      rw [decide_eq_false (show ¬ pr + 1 + d = pr by omega), Bool.not_false, Bool.true_or, Bool.and_true]
    show zsp _ (zsm mb n pr own (pr + 1 + d)) s n = _
    rw [e, zsp_U hs (by omega) n hn]
    rfl
def zwsum (f : Nat → Nat) : Nat → Nat
  | 0 => 0
  | k + 1 => zwsum f k + f k
theorem zwsum_le {f : Nat → Nat} {B : Nat} (h : ∀ s, f s ≤ B) : ∀ k, zwsum f k ≤ k * B := by
  intro k
  induction k with
  | zero => exact Nat.zero_le _
  | succ k ih =>
    have := h k
    show zwsum f k + f k ≤ (k + 1) * B
    rw [Nat.succ_mul]
    omega
theorem zwsum_congr {f g : Nat → Nat} : ∀ k, (∀ s, s < k → f s = g s) → zwsum f k = zwsum g k := by
  intro k
  induction k with
  | zero => intro _; rfl
  | succ k ih =>
    intro h
    show zwsum f k + f k = zwsum g k + g k
    rw [ih (fun s hs => h s (by omega)), h k (by omega)]
theorem zwsum_pos {f : Nat → Nat} : ∀ k, 0 < zwsum f k ↔ ∃ s, s < k ∧ 0 < f s := by
  intro k
  induction k with
  | zero => exact ⟨fun h => absurd h (Nat.lt_irrefl _), fun ⟨s, h, _⟩ => absurd h (Nat.not_lt_zero _)⟩
  | succ k ih =>
    show 0 < zwsum f k + f k ↔ _
    constructor
    · intro h
      rcases (show 0 < zwsum f k ∨ 0 < f k by omega) with h | h
      · obtain ⟨s, h1, h2⟩ := ih.mp h
        exact ⟨s, by omega, h2⟩
      · exact ⟨k, by omega, h⟩
    · rintro ⟨s, h1, h2⟩
      rcases (show s < k ∨ s = k by omega) with h | rfl
      · have := ih.mpr ⟨s, h, h2⟩
        omega
      · omega
/-- who: by the reference, by the class -/
theorem zwhom {mb : Nat → Nat → Bool} {n pr own k : Nat} (hn : n ≤ 8) (ho : own < n) (hk : pr < k) : 0 < zwsum (zsm mb n pr own k) 256 ↔ mb pr own = true ∧ ∃ s, s < 256 ∧ s / 2 ^ own % 2 = 0 ∧ 0 < zsk mb n pr k s := by
  obtain ⟨d, rfl⟩ : ∃ d, k = pr + 1 + d := ⟨k - (pr + 1), by omega⟩
  rw [zwsum_congr 256 (fun s hs => zsm_behind hn ho d s hs), zwsum_pos]
  constructor
  · rintro ⟨s, h1, h2⟩
    unfold zsU at h2
    split at h2
    · rename_i h3
      obtain ⟨a1, a2⟩ := zw1 s h1 own (by omega) h3.1
      exact ⟨h3.2, s - 2 ^ own, Nat.lt_of_le_of_lt (Nat.sub_le _ _) h1, a2, h2⟩
    · exact absurd h2 (Nat.lt_irrefl _)
  · rintro ⟨h0, s, h1, h2, h3⟩
    obtain ⟨a1, a2⟩ := zw0 s h1 own (by omega) h2
    refine ⟨s + 2 ^ own, a1, ?_⟩
    unfold zsU
    rw [if_pos ⟨a2, h0⟩, Nat.add_sub_cancel]
    exact h3
theorem zways {mb : Nat → Nat → Bool} {n pr own k : Nat} (hn : n ≤ 8) (hk : k ≤ pr) : zwsum (zsm mb n pr own k) 256 = zwsum (zsk mb n pr k) 256 := zwsum_congr 256 (fun s hs => zsm_before hn k hk s hs)
end ZWA
