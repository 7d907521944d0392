/-! what a walk's conditions come to: for simp (disch := omega) -/
theorem nb0 : (narrow .boolean (.int 0) = .int 0) = True := eq_true (by decide)
theorem nb1 : (narrow .boolean (.int 1) = .int 1) = True := eq_true (by decide)
theorem zlt0 {a : Nat} (h : a < 2147483648) : (nI a < 0) = False := eq_false (znI_neg h)
theorem zle0 {a : Nat} (h : a < 2147483648) : (0 ≤ nI a) = True := eq_true (by rw [znI_0, znI_le (by omega) h]; omega)
theorem zle_f {a m : Nat} (h : a < m) : (m ≤ a) = False := eq_false (by omega)
theorem zle_t {a m : Nat} (h : m ≤ a) : (m ≤ a) = True := eq_true h
theorem zlt_f {a m : Nat} (h : m ≤ a) : (a < m) = False := eq_false (by omega)
theorem zlt_t {a m : Nat} (h : a < m) : (a < m) = True := eq_true h
theorem zlt_nI {a b : Nat} (ha : a < 2147483648) (hb : b < 2147483648) : (nI a < nI b) = (a < b) := propext (znI_lt ha hb)
theorem zle_nI {a b : Nat} (ha : a < 2147483648) (hb : b < 2147483648) : (nI a ≤ nI b) = (a ≤ b) := propext (znI_le ha hb)
theorem zeq_nI {a b : Nat} (ha : a < 2147483648) (hb : b < 2147483648) : (nI a = nI b) = (a = b) := propext (znI_inj ha hb)
theorem zadd_nI {a b : Nat} : nI a + nI b = nI (a + b) := by
  show Int32.ofNat a + Int32.ofNat b = Int32.ofNat (a + b)
  rw [Int32.ofNat_add]
theorem zad1 {p : Nat} : nI p + 1 = nI (p + 1) := znI_s p
theorem zad4 {p : Nat} : (4 : Int32) + nI p = nI (4 + p) := zadd_nI (a := 4)
theorem zad9 {p : Nat} : (9 : Int32) + nI p = nI (9 + p) := zadd_nI (a := 9)
theorem zad17 {p : Nat} : (17 : Int32) + nI p = nI (17 + p) := zadd_nI (a := 17)
theorem zad25 {p : Nat} : (25 : Int32) + nI p = nI (25 + p) := zadd_nI (a := 25)
theorem zad33 {p : Nat} : (33 : Int32) + nI p = nI (33 + p) := zadd_nI (a := 33)
theorem zad41 {p : Nat} : (41 : Int32) + nI p = nI (41 + p) := zadd_nI (a := 41)
theorem zlit {n : Nat} (h : (n : Nat) < 2147483648) : nI n = nI n := rfl
theorem zrd_lt {S : zS} {c n a : Nat} (h : a < n) (hn : n < 2147483648) : zrd S c n (nI a) = S c a := zrd_nI h hn
theorem zclamp {a : Nat} (h : a < 2147483648) : (nI a).toNatClampNeg = a := zcl_nI h
theorem zif1 {c : Prop} {_ : Decidable c} {α : Type} {a b : α} (h : c = True) : (if c then a else b) = a := if_pos (h ▸ trivial)
/-- the plain ones -/
def zT0 := And.intro @zbind (And.intro @ztl0 (And.intro @ztl1 (And.intro @zapp0 (And.intro @zapp1 (And.intro @nb0 (And.intro @nb1 (And.intro @zk_int (And.intro @zk_ref (And.intro @zk_null (And.intro @zk_long (And.intro @zk_ra (And.intro @znI_f @zad1))))))))))))
def zT1 := And.intro @zad4 (And.intro @zad9 (And.intro @zad17 (And.intro @zad25 (And.intro @zad33 @zad41))))
/-- those that ask for bounds -/
def zT2 := And.intro @zlt0 (And.intro @zle0 (And.intro @zle_f (And.intro @zle_t (And.intro @zlt_f (And.intro @zlt_t (And.intro @zlt_nI (And.intro @zle_nI (And.intro @zeq_nI (And.intro @zrd_lt (And.intro @zclamp (And.intro @false_or @or_false)))))))))))
