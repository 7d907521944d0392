/-! A SMALL MACHINE OF ITS OWN: the instructions of the class and of the reference over a heap of places. It is shown once (parts 06 ..) that the JVM does what it does; all else is said of it. -/
abbrev zS : Type := Nat → Nat → Int32
abbrev zL : Type := Nat → Nat → Int64
/-- a place: (0, class, field templates) or (1 int[], 2 long[], 3 byte[], 4 boolean[], length, []) or (5 array of references, length, what it holds) -/
abbrev zE : Type := Nat × Nat × List Value
abbrev zC : Type := Nat × List Value × List Value × List zE × zS × zL
def zup {α : Type} (S : Nat → Nat → α) (k i : Nat) (v : α) : Nat → Nat → α := fun k' i' => if k' = k ∧ i' = i then v else S k' i'
def zclr {α : Type} (z : α) (S : Nat → Nat → α) (k : Nat) : Nat → Nat → α := fun k' i' => if k' = k then z else S k' i'
def zesz (e : zE) : Nat := if e.1 = 0 then e.2.2.length else e.2.1
def zsz (R : List zE) : Nat := (R.map zesz).sum
def zk (v : Value) : Value := match v with
  | .long _ => .retAddr 0
  | .double _ => .retAddr 0
  | v => v
def zkl : List Value → Nat → List Value
  | l, 0 => l
  | [], _ => []
  | a :: l, 1 => zk a :: l
  | a :: l, (i+2) => a :: zkl l (i+1)
def zst1 (ls : List Value) (i : Nat) (v : Value) : List Value := (zkl ls i).set i v
def zst2 (ls : List Value) (i : Nat) (v : Value) : List Value := ((zkl ls i).set i v).set (i+1) (.retAddr 0)
def zgetf (R : List zE) (S : zS) (L : zL) (a ci k : Nat) : Option Value := match R[a]? with
  | some (0, c, fs) => if c = ci then (match fs[k]? with
    | some (.int _) => some (.int (S a k))
    | some (.long _) => some (.long (L a k))
    | some (.ref r) => some (.ref r)
    | some .null => some .null
    | _ => none) else none
  | _ => none
def zputf (R : List zE) (S : zS) (L : zL) (a ci k : Nat) (v : Value) : Option (List zE × zS × zL) := match R[a]? with
  | some (0, c, fs) => if c = ci ∧ fits (zty ci k) v = true ∧ narrow (zty ci k) v = v then (match fs[k]?, v with
    | some (.int _), .int x => some (R, zup S a k x, L)
    | some (.long _), .long x => some (R, S, zup L a k x)
    | some (.ref _), .ref r => some (R.set a (0, c, fs.set k (.ref r)), S, L)
    | some .null, .ref r => some (R.set a (0, c, fs.set k (.ref r)), S, L)
    | some (.ref _), .null => some (R.set a (0, c, fs.set k .null), S, L)
    | some .null, .null => some (R.set a (0, c, fs.set k .null), S, L)
    | _, _ => none) else none
  | _ => none
/-- the length of an array of a kind -/
def zlen (R : List zE) (a tag : Nat) : Option Nat := match R[a]? with
  | some (t, n, _) => if t = tag then some n else none
  | none => none
def zilen (ins : Instr) (len : Nat) : Bool := match ins with
  | .aload _ | .iload _ | .lload _ | .astore _ | .istore _ | .lstore _ | .bipush _ | .ldc _ | .newarray _ => len == 2
  | .iinc _ _ | .sipush _ | .ldc_w _ | .ldc2_w _ | .goto _ | .ifCond _ _ | .if_icmp _ _ | .ifnull _ | .ifnonnull _ | .getfield _ | .putfield _ | .new _ | .anewarray _ | .invokespecial _ | .invokestatic _ | .invokevirtual _ => len == 3
  | .tableswitch _ _ _ _ => true
  | _ => len == 1
def zfetch (mi pc : Nat) : Option (Instr × Nat) := match zmeth[mi]? with
  | some q => (match decode q.2.1 pc with
    | .ok x => if zilen x.1 x.2 = true then some x else none
    | _ => none)
  | none => none
def zinit (mi : Nat) : Bool := match zmeth[mi]? with
  | some q => q.1.name == "<init>"
  | none => false
/-- is there room for a call of the library -/
def zfl (mi k : Nat) : Bool := match zmeth[mi]? with
  | some q => if k < 14 then decide (1 ≤ q.2.2.2.2.2.2.1) && decide (40 ≤ q.2.2.2.2.2.2.2.1) else decide (6 ≤ q.2.2.2.2.2.2.1) && decide (120 ≤ q.2.2.2.2.2.2.2.1)
  | none => false
def zfin (ci k : Nat) : Bool := match vwCl[ci]? with
  | some q => (q.2.1 k).2.2.2
  | none => true
def zown (mi : Nat) : Nat := match zmeth[mi]? with
  | some q => q.2.2.2.2.1
  | none => 99
def zfld (own ix : Nat) : Option (Nat × Nat × Bool) := match zft.find? (fun e => e.1 == own && e.2.1 == ix) with
  | some e => some e.2.2
  | none => none
def zcal (own ix : Nat) : Option (Nat × Nat) := match zct.find? (fun e => e.1 == own && e.2.1 == ix) with
  | some e => some e.2.2
  | none => none
def znew (own ix : Nat) : Option Nat := match znt.find? (fun e => e.1 == own && e.2.1 == ix) with
  | some e => some e.2.2
  | none => none
def zcst (own ix : Nat) : Option Value := match zkt.find? (fun e => e.1 == own && e.2.1 == ix) with
  | some e => some e.2.2
  | none => none
def zaar (own ix : Nat) : Bool := zat.any (fun e => e.1 == own && e.2 == ix)
def ztext (r : Nat) : Option (List Int32) := if r < 1000000 then none else (match zstr[r - 1000000]? with
  | some q => some q.2.2.2
  | none => none)
def zatag (t : ArrayType) : Option Nat := match t with
  | .int => some 1
  | .long => some 2
  | .byte => some 3
  | .boolean => some 4
  | _ => none
def ztg (pc : Nat) (off : Int) : Option Nat := match (pc : Int) + off with
  | .ofNat t => some t
  | _ => none
/-- a branch -/
def zbr (b : Bool) (pc len : Nat) (off : Int) (ls st : List Value) (R : List zE) (S : zS) (L : zL) : Option zC := match ztg pc off with
  | some t => some (if b then t else pc + len, ls, st, R, S, L)
  | none => none
def zcnd (c : ClassFile.Cond) (x y : Int32) : Bool := match c with
  | .eq => decide (x = y)
  | .ne => decide (¬ x = y)
  | .lt => decide (x < y)
  | .ge => decide (y ≤ x)
  | .gt => decide (y < x)
  | .le => decide (x ≤ y)
def zld (i n : Nat) (f : Value → Bool) (ls st : List Value) (R : List zE) (S : zS) (L : zL) : Option zC := match ls[i]? with
  | some v => if f v then some (n, ls, v :: st, R, S, L) else none
  | none => none
def zisI (v : Value) : Bool := match v with
  | .int _ => true
  | _ => false
def zisL (v : Value) : Bool := match v with
  | .long _ => true
  | _ => false
def zisR (v : Value) : Bool := match v with
  | .ref _ => true
  | .null => true
  | _ => false
def zsto (i n : Nat) (f : Value → Bool) (ls st : List Value) (R : List zE) (S : zS) (L : zL) : Option zC := match st with
  | v :: st => if f v ∧ i < ls.length then some (n, zst1 ls i v, st, R, S, L) else none
  | _ => none
def zstoL (i n : Nat) (ls st : List Value) (R : List zE) (S : zS) (L : zL) : Option zC := match st with
  | .long x :: st => if i + 1 < ls.length then some (n, zst2 ls i (.long x), st, R, S, L) else none
  | _ => none
def zop2 (n : Nat) (f : Int32 → Int32 → Int32) (ok : Int32 → Bool) (ls st : List Value) (R : List zE) (S : zS) (L : zL) : Option zC := match st with
  | .int y :: .int x :: st => if ok y then some (n, ls, .int (f x y) :: st, R, S, L) else none
  | _ => none
def zop2L (n : Nat) (f : Int64 → Int64 → Int64) (ok : Int64 → Bool) (ls st : List Value) (R : List zE) (S : zS) (L : zL) : Option zC := match st with
  | .long y :: .long x :: st => if ok y then some (n, ls, .long (f x y) :: st, R, S, L) else none
  | _ => none
def zaldI (tag n : Nat) (ls st : List Value) (R : List zE) (S : zS) (L : zL) : Option zC := match st with
  | .int i :: .ref a :: st => (match zlen R a tag with
    | some m => if i < 0 ∨ m ≤ i.toNatClampNeg then none else some (n, ls, .int (S a i.toNatClampNeg) :: st, R, S, L)
    | none => none)
  | _ => none
def zastI (tag n : Nat) (f : Int32 → Int32) (ls st : List Value) (R : List zE) (S : zS) (L : zL) : Option zC := match st with
  | .int x :: .int i :: .ref a :: st => (match zlen R a tag with
    | some m => if i < 0 ∨ m ≤ i.toNatClampNeg then none else some (n, ls, st, R, zup S a i.toNatClampNeg (f x), L)
    | none => none)
  | _ => none
/-- calls of the library's own methods, as instructions of their own -/
def zlibI (k n : Nat) (ls st : List Value) (R : List zE) (S : zS) (L : zL) : Option zC := match st with
  | .ref _ :: st => if k = 10 ∧ (st.map fun v => v.category).sum ≤ 8 then some (n, ls, st, R, S, L) else none
  | _ => none
def zlibS (k n : Nat) (ls st : List Value) (R : List zE) (S : zS) (L : zL) : Option zC := match st with
  | .int y :: .int x :: st => if (st.map fun v => v.category).sum ≤ 8 then (if k = 11 then some (n, ls, .int (if x < y then y else x) :: st, R, S, L) else if k = 12 then some (n, ls, .int (if y < x then y else x) :: st, R, S, L) else none) else none
  | _ => none
def zlibA (k n : Nat) (ls st : List Value) (R : List zE) (S : zS) (L : zL) : Option zC := match st with
  | .int x :: st => if k = 13 ∧ (st.map fun v => v.category).sum ≤ 8 then some (n, ls, .int (if 0 ≤ x then x else 0 - x) :: st, R, S, L) else none
  | _ => none
def zlibL (k n : Nat) (ls st : List Value) (R : List zE) (S : zS) (L : zL) : Option zC := match st with
  | .ref r :: st => (match ztext r with
    | some t => if k = 14 ∧ (st.map fun v => v.category).sum ≤ 8 then some (n, ls, .int (Int32.ofNat t.length) :: st, R, S, L) else none
    | none => none)
  | _ => none
def zlibC (k n : Nat) (ls st : List Value) (R : List zE) (S : zS) (L : zL) : Option zC := match st with
  | .int i :: .ref r :: st => (match ztext r with
    | some t => if k = 15 ∧ ¬ (i < 0 ∨ t.length ≤ i.toNatClampNeg) ∧ (st.map fun v => v.category).sum ≤ 8 then some (n, ls, .int (t.getD i.toNatClampNeg 0) :: st, R, S, L) else none
    | none => none)
  | _ => none
/-- one instruction that is no call of a method and no return -/
def zstep (mi : Nat) (ins : Instr) (len pc : Nat) (ls st : List Value) (R : List zE) (S : zS) (L : zL) : Option zC := match ins with
  | .aload i => zld i (pc + len) zisR ls st R S L
  | .aload_n i => zld i.val (pc + len) zisR ls st R S L
  | .iload i => zld i (pc + len) zisI ls st R S L
  | .iload_n i => zld i.val (pc + len) zisI ls st R S L
  | .lload i => zld i (pc + len) zisL ls st R S L
  | .lload_n i => zld i.val (pc + len) zisL ls st R S L
  | .astore i => zsto i (pc + len) zisR ls st R S L
  | .astore_n i => zsto i.val (pc + len) zisR ls st R S L
  | .istore i => zsto i (pc + len) zisI ls st R S L
  | .istore_n i => zsto i.val (pc + len) zisI ls st R S L
  | .lstore i => zstoL i (pc + len) ls st R S L
  | .lstore_n i => zstoL i.val (pc + len) ls st R S L
  | .iinc i n => (match ls[i]? with
    | some (.int x) => some (pc + len, zst1 ls i (.int (x + Int32.ofInt n)), st, R, S, L)
    | _ => none)
  | .iconst n => some (pc + len, ls, .int (Int32.ofInt n) :: st, R, S, L)
  | .lconst n => some (pc + len, ls, .long (Int64.ofNat n.val) :: st, R, S, L)
  | .bipush n => some (pc + len, ls, .int (Int8.ofInt n).toInt32 :: st, R, S, L)
  | .sipush n => some (pc + len, ls, .int (Int16.ofInt n).toInt32 :: st, R, S, L)
  | .ldc ix => (match zcst (zown mi) ix with
    | some (.int x) => some (pc + len, ls, .int x :: st, R, S, L)
    | some (.ref r) => some (pc + len, ls, .ref r :: st, R, S, L)
    | _ => none)
  | .ldc_w ix => (match zcst (zown mi) ix with
    | some (.int x) => some (pc + len, ls, .int x :: st, R, S, L)
    | some (.ref r) => some (pc + len, ls, .ref r :: st, R, S, L)
    | _ => none)
  | .ldc2_w ix => (match zcst (zown mi) ix with
    | some (.long x) => some (pc + len, ls, .long x :: st, R, S, L)
    | _ => none)
  | .dup => (match st with
    | v :: st => if v.category = 1 then some (pc + len, ls, v :: v :: st, R, S, L) else none
    | _ => none)
  | .dup2 => (match st with
    | v :: w :: st => if v.category = 1 ∧ w.category = 1 then some (pc + len, ls, v :: w :: v :: w :: st, R, S, L) else none
    | _ => none)
  | .pop => (match st with
    | v :: st => if v.category = 1 then some (pc + len, ls, st, R, S, L) else none
    | _ => none)
  | .iadd => zop2 (pc + len) (fun x y => x + y) (fun _ => true) ls st R S L
  | .isub => zop2 (pc + len) (fun x y => x - y) (fun _ => true) ls st R S L
  | .imul => zop2 (pc + len) (fun x y => x * y) (fun _ => true) ls st R S L
  | .idiv => zop2 (pc + len) (fun x y => x / y) (fun y => !(y == 0)) ls st R S L
  | .irem => zop2 (pc + len) (fun x y => x - x / y * y) (fun y => !(y == 0)) ls st R S L
  | .iand => zop2 (pc + len) (fun x y => x &&& y) (fun _ => true) ls st R S L
  | .ior => zop2 (pc + len) (fun x y => x ||| y) (fun _ => true) ls st R S L
  | .ixor => zop2 (pc + len) (fun x y => x ^^^ y) (fun _ => true) ls st R S L
  | .ishl => zop2 (pc + len) (fun x y => x <<< (y &&& 31)) (fun _ => true) ls st R S L
  | .ishr => zop2 (pc + len) (fun x y => x >>> (y &&& 31)) (fun _ => true) ls st R S L
  | .iushr => zop2 (pc + len) (fun x y => (x.toUInt32 >>> (y.toUInt32 &&& Int32.toUInt32 31)).toInt32) (fun _ => true) ls st R S L
  | .ladd => zop2L (pc + len) (fun x y => x + y) (fun _ => true) ls st R S L
  | .lsub => zop2L (pc + len) (fun x y => x - y) (fun _ => true) ls st R S L
  | .lmul => zop2L (pc + len) (fun x y => x * y) (fun _ => true) ls st R S L
  | .ldiv => zop2L (pc + len) (fun x y => x / y) (fun y => !(y == 0)) ls st R S L
  | .lrem => zop2L (pc + len) (fun x y => x - x / y * y) (fun y => !(y == 0)) ls st R S L
  | .lcmp => (match st with
    | .long y :: .long x :: st => some (pc + len, ls, .int (lg_cmp x y) :: st, R, S, L)
    | _ => none)
  | .i2l => (match st with
    | .int x :: st => some (pc + len, ls, .long x.toInt64 :: st, R, S, L)
    | _ => none)
  | .l2i => (match st with
    | .long x :: st => some (pc + len, ls, .int x.toInt32 :: st, R, S, L)
    | _ => none)
  | .i2b => (match st with
    | .int x :: st => some (pc + len, ls, .int x.toInt8.toInt32 :: st, R, S, L)
    | _ => none)
  | .goto off => zbr true pc len off ls st R S L
  | .ifCond c off => (match st with
    | .int x :: st => zbr (zcnd c x 0) pc len off ls st R S L
    | _ => none)
  | .if_icmp c off => (match st with
    | .int y :: .int x :: st => zbr (zcnd c x y) pc len off ls st R S L
    | _ => none)
  | .ifnull off => (match st with
    | .ref _ :: st => zbr false pc len off ls st R S L
    | .null :: st => zbr true pc len off ls st R S L
    | _ => none)
  | .ifnonnull off => (match st with
    | .ref _ :: st => zbr true pc len off ls st R S L
    | .null :: st => zbr false pc len off ls st R S L
    | _ => none)
  | .tableswitch d lo hi offs => (match st with
    | .int x :: st => if x.toInt < lo ∨ hi < x.toInt then zbr true pc len d ls st R S L else (match offs[(x.toInt - lo).toNat]? with
      | some off => zbr true pc len off ls st R S L
      | none => none)
    | _ => none)
  | .getfield ix => (match zfld (zown mi) ix, st with
    | some (ci, k, _), .ref a :: st => (match zgetf R S L a ci k with
      | some v => some (pc + len, ls, v :: st, R, S, L)
      | none => none)
    | _, _ => none)
  | .putfield ix => (match zfld (zown mi) ix, st with
    | some (ci, k, ne), v :: .ref a :: st => if zfin ci k = true ∧ ¬ (zinit mi = true ∧ ci = zown mi ∧ ne = false) then none else (match zputf R S L a ci k v with
      | some (R, S, L) => some (pc + len, ls, st, R, S, L)
      | none => none)
    | _, _ => none)
  | .iaload => zaldI 1 (pc + len) ls st R S L
  | .iastore => zastI 1 (pc + len) (fun x => x) ls st R S L
  | .baload => (match st with
    | .int _ :: .ref a :: _ => (match zlen R a 3 with
      | some _ => zaldI 3 (pc + len) ls st R S L
      | none => zaldI 4 (pc + len) ls st R S L)
    | _ => none)
  | .bastore => (match st with
    | .int _ :: .int _ :: .ref a :: _ => (match zlen R a 3 with
      | some _ => zastI 3 (pc + len) (vp_nar .byte) ls st R S L
      | none => zastI 4 (pc + len) (vp_nar .boolean) ls st R S L)
    | _ => none)
  | .laload => (match st with
    | .int i :: .ref a :: st => (match zlen R a 2 with
      | some m => if i < 0 ∨ m ≤ i.toNatClampNeg then none else some (pc + len, ls, .long (L a i.toNatClampNeg) :: st, R, S, L)
      | none => none)
    | _ => none)
  | .lastore => (match st with
    | .long x :: .int i :: .ref a :: st => (match zlen R a 2 with
      | some m => if i < 0 ∨ m ≤ i.toNatClampNeg then none else some (pc + len, ls, st, R, S, zup L a i.toNatClampNeg x)
      | none => none)
    | _ => none)
  | .aaload => (match st with
    | .int i :: .ref a :: st => (match R[a]? with
      | some (5, m, fs) => if i < 0 ∨ m ≤ i.toNatClampNeg then none else (match fs[i.toNatClampNeg]? with
        | some (.ref r) => some (pc + len, ls, .ref r :: st, R, S, L)
        | some .null => some (pc + len, ls, .null :: st, R, S, L)
        | _ => none)
      | _ => none)
    | _ => none)
  | .aastore => (match st with
    | .ref r :: .int i :: .ref a :: st => (match R[a]?, R[r]? with
      | some (5, m, fs), some (0, 2, _) => if i < 0 ∨ m ≤ i.toNatClampNeg then none else some (pc + len, ls, st, R.set a (5, m, fs.set i.toNatClampNeg (.ref r)), S, L)
      | _, _ => none)
    | _ => none)
  | .arraylength => (match st with
    | .ref a :: st => (match R[a]? with
      | some (0, _, _) => none
      | some (_, m, _) => some (pc + len, ls, .int (Int32.ofNat m) :: st, R, S, L)
      | none => none)
    | _ => none)
  | .new ix => (match znew (zown mi) ix with
    | some ci => if R.length < 500000 then some (pc + len, ls, .ref R.length :: st, R ++ [(0, ci, zdefs ci)], zclr 0 S R.length, zclr 0 L R.length) else none
    | none => none)
  | .newarray t => (match zatag t, st with
    | some tag, .int n :: st => if R.length < 500000 ∧ ¬ n < 0 ∧ n.toNatClampNeg ≤ 65536 then some (pc + len, ls, .ref R.length :: st, R ++ [(tag, n.toNatClampNeg, [])], zclr 0 S R.length, zclr 0 L R.length) else none
    | _, _ => none)
  | .anewarray ix => (match st with
    | .int n :: st => if zaar (zown mi) ix ∧ R.length < 500000 ∧ ¬ n < 0 ∧ n.toNatClampNeg ≤ 65536 then some (pc + len, ls, .ref R.length :: st, R ++ [(5, n.toNatClampNeg, List.replicate n.toNatClampNeg .null)], zclr 0 S R.length, zclr 0 L R.length) else none
    | _ => none)
  | .invokespecial ix => (match zcal (zown mi) ix with
    | some (k, _) => if zfl mi k = true then zlibI k (pc + len) ls st R S L else none
    | none => none)
  | .invokestatic ix => (match zcal (zown mi) ix with
    | some (k, _) => if zfl mi k = true then (if k = 13 then zlibA k (pc + len) ls st R S L else zlibS k (pc + len) ls st R S L) else none
    | none => none)
  | .invokevirtual ix => (match zcal (zown mi) ix with
    | some (k, _) => if zfl mi k = true then (if k = 14 then zlibL k (pc + len) ls st R S L else zlibC k (pc + len) ls st R S L) else none
    | none => none)
  | _ => none
/-- the value that a method hands back, if this instruction ends it -/
def zend (rt : Option FieldType) (ins : Instr) (st : List Value) : Option (Option Value) := match ins, rt, st with
  | .ireturn, some ty, [.int x] => if narrow ty (.int x) = .int x then some (some (.int x)) else none
  | .lreturn, some .long, [.long x] => some (some (.long x))
  | .return_, none, [] => some none
  | _, _, _ => none
/-- a call of a method of the program: whose, how many values it takes -/
def zcl (mi : Nat) (ins : Instr) : Option (Nat × Nat) := match ins with
  | .invokevirtual ix => (match zcal (zown mi) ix with
    | some (0, t) => some (0, t)
    | _ => none)
  | .invokestatic ix => (match zcal (zown mi) ix with
    | some (1, t) => some (1, t)
    | _ => none)
  | .invokespecial ix => (match zcal (zown mi) ix with
    | some (2, t) => some (2, t)
    | some (3, t) => some (3, t)
    | _ => none)
  | _ => none
def zargs (as : List Value) : List Value := as.flatMap fun v => if v.category = 2 then [v, .retAddr 0] else [v]
/-- the locals of a method at its entry -/
def zentry (mi : Nat) (as : List Value) : List Value := match zmeth[mi]? with
  | some q => zargs as ++ List.replicate (q.2.2.1 - (zargs as).length) (.retAddr 0)
  | none => []
/-- may this call be made: the callee's frames, its words, the receiver's class -/
def zmay (mi k t : Nat) (as rest : List Value) (R : List zE) : Bool := match zmeth[mi]?, zmeth[t]? with
  | some q, some r => decide ((zargs as).length ≤ r.2.2.1) && decide (as.length = r.2.2.2.2.2.2.2.2) && decide ((rest.map fun v => v.category).sum ≤ 8) && decide (r.2.2.2.2.2.2.1 + 1 ≤ q.2.2.2.2.2.2.1) && decide (8 + (r.2.2.1 + 11) + r.2.2.2.2.2.2.2.1 ≤ q.2.2.2.2.2.2.2.1) && (match k, as with
    | 1, _ => true
    | 0, .ref a :: _ => (match R[a]? with
      | some (0, c, _) => decide (c = r.2.2.2.2.1)
      | _ => false)
    | _, .ref _ :: _ => true
    | _, _ => false)
  | _, _ => false
def zrt (mi : Nat) : Option FieldType := match zmeth[mi]? with
  | some q => q.2.2.2.1
  | none => none
def znarg (mi : Nat) : Nat := match zmeth[mi]? with
  | some q => q.2.2.2.2.2.2.2.2
  | none => 0
/-- the machine, with so much fuel: from here to the end of this method -/
def zrun : Nat → Nat → Nat → List Value → List Value → List zE → zS → zL → Option (Option Value × List zE × zS × zL)
  | 0, _, _, _, _, _, _, _ => none
  | n + 1, mi, pc, ls, st, R, S, L => match zfetch mi pc with
    | none => none
    | some (ins, len) => match zend (zrt mi) ins st with
      | some v => some (v, R, S, L)
      | none => match zcl mi ins with
        | some (k, t) =>
          if zmay mi k t (st.take (znarg t)).reverse (st.drop (znarg t)) R = true then
            (match zrun n t 0 (zentry t (st.take (znarg t)).reverse) [] R S L with
            | some (v, R', S', L') => zrun n mi (pc + 3) ls (v.toList ++ st.drop (znarg t)) R' S' L'
            | none => none)
          else none
        | none => match zstep mi ins len pc ls st R S L with
          | some (pc', ls', st', R', S', L') => zrun n mi pc' ls' st' R' S' L'
          | none => none
