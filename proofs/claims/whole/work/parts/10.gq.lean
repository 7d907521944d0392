/-! equations of the small machine, one an opcode -/
theorem zk_int {x : Int32} : zk (.int x) = .int x := rfl
theorem zk_ref {x : Nat} : zk (.ref x) = .ref x := rfl
theorem zk_null : zk .null = .null := rfl
theorem zk_long {x : Int64} : zk (.long x) = .retAddr 0 := rfl
theorem zk_ra {k : Nat} : zk (.retAddr k) = .retAddr k := rfl
section ZGQ
variable {mi pc len i : Nat} {ls st : List Value} {R : List zE} {S : zS} {L : zL}
theorem zq_iload {x : Int32} (hf : zfetch mi pc = some (.iload i, len)) (hv : ls[i]? = some (.int x)) : zgo mi pc ls st R S L = zgo mi (pc + len) ls (.int x :: st) R S L := zg_step hf rfl rfl (by simp [zstep, zld, hv, zisI])
theorem zq_iload_n {k : Fin 4} {x : Int32} (hf : zfetch mi pc = some (.iload_n k, len)) (hv : ls[k.val]? = some (.int x)) : zgo mi pc ls st R S L = zgo mi (pc + len) ls (.int x :: st) R S L := zg_step hf rfl rfl (by simp [zstep, zld, hv, zisI])
theorem zq_aload {x : Nat} (hf : zfetch mi pc = some (.aload i, len)) (hv : ls[i]? = some (.ref x)) : zgo mi pc ls st R S L = zgo mi (pc + len) ls (.ref x :: st) R S L := zg_step hf rfl rfl (by simp [zstep, zld, hv, zisR])
theorem zq_aload_n {k : Fin 4} {x : Nat} (hf : zfetch mi pc = some (.aload_n k, len)) (hv : ls[k.val]? = some (.ref x)) : zgo mi pc ls st R S L = zgo mi (pc + len) ls (.ref x :: st) R S L := zg_step hf rfl rfl (by simp [zstep, zld, hv, zisR])
theorem zq_lload {x : Int64} (hf : zfetch mi pc = some (.lload i, len)) (hv : ls[i]? = some (.long x)) : zgo mi pc ls st R S L = zgo mi (pc + len) ls (.long x :: st) R S L := zg_step hf rfl rfl (by simp [zstep, zld, hv, zisL])
theorem zq_lload_n {k : Fin 4} {x : Int64} (hf : zfetch mi pc = some (.lload_n k, len)) (hv : ls[k.val]? = some (.long x)) : zgo mi pc ls st R S L = zgo mi (pc + len) ls (.long x :: st) R S L := zg_step hf rfl rfl (by simp [zstep, zld, hv, zisL])
theorem zq_istore {x : Int32} (hf : zfetch mi pc = some (.istore i, len)) (hi : i < ls.length) : zgo mi pc ls (.int x :: st) R S L = zgo mi (pc + len) (zst1 ls i (.int x)) st R S L := zg_step hf rfl rfl (by simp [zstep, zsto, hi, zisI])
theorem zq_istore_n {k : Fin 4} {x : Int32} (hf : zfetch mi pc = some (.istore_n k, len)) (hi : k.val < ls.length) : zgo mi pc ls (.int x :: st) R S L = zgo mi (pc + len) (zst1 ls k.val (.int x)) st R S L := zg_step hf rfl rfl (by simp [zstep, zsto, hi, zisI])
theorem zq_astore {x : Nat} (hf : zfetch mi pc = some (.astore i, len)) (hi : i < ls.length) : zgo mi pc ls (.ref x :: st) R S L = zgo mi (pc + len) (zst1 ls i (.ref x)) st R S L := zg_step hf rfl rfl (by simp [zstep, zsto, hi, zisR])
theorem zq_astore_n {k : Fin 4} {x : Nat} (hf : zfetch mi pc = some (.astore_n k, len)) (hi : k.val < ls.length) : zgo mi pc ls (.ref x :: st) R S L = zgo mi (pc + len) (zst1 ls k.val (.ref x)) st R S L := zg_step hf rfl rfl (by simp [zstep, zsto, hi, zisR])
theorem zq_lstore {x : Int64} (hf : zfetch mi pc = some (.lstore i, len)) (hi : i + 1 < ls.length) : zgo mi pc ls (.long x :: st) R S L = zgo mi (pc + len) (zst2 ls i (.long x)) st R S L := zg_step hf rfl rfl (by simp [zstep, zstoL, hi])
theorem zq_lstore_n {k : Fin 4} {x : Int64} (hf : zfetch mi pc = some (.lstore_n k, len)) (hi : k.val + 1 < ls.length) : zgo mi pc ls (.long x :: st) R S L = zgo mi (pc + len) (zst2 ls k.val (.long x)) st R S L := zg_step hf rfl rfl (by simp [zstep, zstoL, hi])
theorem zq_iinc {n : Int} {x v : Int32} (hf : zfetch mi pc = some (.iinc i n, len)) (hv : ls[i]? = some (.int x)) (hn : Int32.ofInt n = v) : zgo mi pc ls st R S L = zgo mi (pc + len) (zst1 ls i (.int (x + v))) st R S L := zg_step hf rfl rfl (by simp [zstep, hv, hn])
theorem zq_iconst {n : Int} {v : Int32} (hf : zfetch mi pc = some (.iconst n, len)) (hn : Int32.ofInt n = v) : zgo mi pc ls st R S L = zgo mi (pc + len) ls (.int v :: st) R S L := zg_step hf rfl rfl (by simp [zstep, hn])
theorem zq_bipush {n : Int} {v : Int32} (hf : zfetch mi pc = some (.bipush n, len)) (hn : (Int8.ofInt n).toInt32 = v) : zgo mi pc ls st R S L = zgo mi (pc + len) ls (.int v :: st) R S L := zg_step hf rfl rfl (by simp [zstep, hn])
theorem zq_sipush {n : Int} {v : Int32} (hf : zfetch mi pc = some (.sipush n, len)) (hn : (Int16.ofInt n).toInt32 = v) : zgo mi pc ls st R S L = zgo mi (pc + len) ls (.int v :: st) R S L := zg_step hf rfl rfl (by simp [zstep, hn])
theorem zq_lconst {n : Fin 2} {v : Int64} (hf : zfetch mi pc = some (.lconst n, len)) (hn : Int64.ofNat n.val = v) : zgo mi pc ls st R S L = zgo mi (pc + len) ls (.long v :: st) R S L := zg_step hf rfl rfl (by simp [zstep, hn])
theorem zq_ldc_i {ix : Nat} {x : Int32} (hf : zfetch mi pc = some (.ldc ix, len)) (hk : zcst (zown mi) ix = some (.int x)) : zgo mi pc ls st R S L = zgo mi (pc + len) ls (.int x :: st) R S L := zg_step hf rfl rfl (by simp [zstep, hk])
theorem zq_ldc_r {ix : Nat} {x : Nat} (hf : zfetch mi pc = some (.ldc ix, len)) (hk : zcst (zown mi) ix = some (.ref x)) : zgo mi pc ls st R S L = zgo mi (pc + len) ls (.ref x :: st) R S L := zg_step hf rfl rfl (by simp [zstep, hk])
theorem zq_ldc_w_i {ix : Nat} {x : Int32} (hf : zfetch mi pc = some (.ldc_w ix, len)) (hk : zcst (zown mi) ix = some (.int x)) : zgo mi pc ls st R S L = zgo mi (pc + len) ls (.int x :: st) R S L := zg_step hf rfl rfl (by simp [zstep, hk])
theorem zq_ldc_w_r {ix : Nat} {x : Nat} (hf : zfetch mi pc = some (.ldc_w ix, len)) (hk : zcst (zown mi) ix = some (.ref x)) : zgo mi pc ls st R S L = zgo mi (pc + len) ls (.ref x :: st) R S L := zg_step hf rfl rfl (by simp [zstep, hk])
theorem zq_ldc2 {ix : Nat} {x : Int64} (hf : zfetch mi pc = some (.ldc2_w ix, len)) (hk : zcst (zown mi) ix = some (.long x)) : zgo mi pc ls st R S L = zgo mi (pc + len) ls (.long x :: st) R S L := zg_step hf rfl rfl (by simp [zstep, hk])
theorem zq_dup {v : Value} (hf : zfetch mi pc = some (.dup, len)) (hv : v.category = 1) : zgo mi pc ls (v :: st) R S L = zgo mi (pc + len) ls (v :: v :: st) R S L := zg_step hf rfl rfl (by simp [zstep, hv])
theorem zq_dup2 {v w : Value} (hf : zfetch mi pc = some (.dup2, len)) (hv : v.category = 1) (hw : w.category = 1) : zgo mi pc ls (v :: w :: st) R S L = zgo mi (pc + len) ls (v :: w :: v :: w :: st) R S L := zg_step hf rfl rfl (by simp [zstep, hv, hw])
theorem zq_pop {v : Value} (hf : zfetch mi pc = some (.pop, len)) (hv : v.category = 1) : zgo mi pc ls (v :: st) R S L = zgo mi (pc + len) ls st R S L := zg_step hf rfl rfl (by simp [zstep, hv])
theorem zq_iadd {x y : Int32} (hf : zfetch mi pc = some (.iadd, len)) : zgo mi pc ls (.int y :: .int x :: st) R S L = zgo mi (pc + len) ls (.int (x + y) :: st) R S L := zg_step hf rfl rfl (by simp [zstep, zop2])
theorem zq_isub {x y : Int32} (hf : zfetch mi pc = some (.isub, len)) : zgo mi pc ls (.int y :: .int x :: st) R S L = zgo mi (pc + len) ls (.int (x - y) :: st) R S L := zg_step hf rfl rfl (by simp [zstep, zop2])
theorem zq_imul {x y : Int32} (hf : zfetch mi pc = some (.imul, len)) : zgo mi pc ls (.int y :: .int x :: st) R S L = zgo mi (pc + len) ls (.int (x * y) :: st) R S L := zg_step hf rfl rfl (by simp [zstep, zop2])
theorem zq_iand {x y : Int32} (hf : zfetch mi pc = some (.iand, len)) : zgo mi pc ls (.int y :: .int x :: st) R S L = zgo mi (pc + len) ls (.int (x &&& y) :: st) R S L := zg_step hf rfl rfl (by simp [zstep, zop2])
theorem zq_ior {x y : Int32} (hf : zfetch mi pc = some (.ior, len)) : zgo mi pc ls (.int y :: .int x :: st) R S L = zgo mi (pc + len) ls (.int (x ||| y) :: st) R S L := zg_step hf rfl rfl (by simp [zstep, zop2])
theorem zq_ixor {x y : Int32} (hf : zfetch mi pc = some (.ixor, len)) : zgo mi pc ls (.int y :: .int x :: st) R S L = zgo mi (pc + len) ls (.int (x ^^^ y) :: st) R S L := zg_step hf rfl rfl (by simp [zstep, zop2])
theorem zq_ishl {x y : Int32} (hf : zfetch mi pc = some (.ishl, len)) : zgo mi pc ls (.int y :: .int x :: st) R S L = zgo mi (pc + len) ls (.int (x <<< (y &&& 31)) :: st) R S L := zg_step hf rfl rfl (by simp [zstep, zop2])
theorem zq_ishr {x y : Int32} (hf : zfetch mi pc = some (.ishr, len)) : zgo mi pc ls (.int y :: .int x :: st) R S L = zgo mi (pc + len) ls (.int (x >>> (y &&& 31)) :: st) R S L := zg_step hf rfl rfl (by simp [zstep, zop2])
theorem zq_iushr {x y : Int32} (hf : zfetch mi pc = some (.iushr, len)) : zgo mi pc ls (.int y :: .int x :: st) R S L = zgo mi (pc + len) ls (.int ((x.toUInt32 >>> (y.toUInt32 &&& Int32.toUInt32 31)).toInt32) :: st) R S L := zg_step hf rfl rfl (by simp [zstep, zop2])
theorem zq_idiv {x y : Int32} (hf : zfetch mi pc = some (.idiv, len)) : zgo mi pc ls (.int y :: .int x :: st) R S L = if y = 0 then none else zgo mi (pc + len) ls (.int (x / y) :: st) R S L := by
  split
  · rename_i h; exact zg_stuck hf rfl rfl (by simp [zstep, zop2, h])
  · rename_i h; exact zg_step hf rfl rfl (by simp [zstep, zop2, h])
theorem zq_irem {x y : Int32} (hf : zfetch mi pc = some (.irem, len)) : zgo mi pc ls (.int y :: .int x :: st) R S L = if y = 0 then none else zgo mi (pc + len) ls (.int (x - x / y * y) :: st) R S L := by
  split
  · rename_i h; exact zg_stuck hf rfl rfl (by simp [zstep, zop2, h])
  · rename_i h; exact zg_step hf rfl rfl (by simp [zstep, zop2, h])
theorem zq_ladd {x y : Int64} (hf : zfetch mi pc = some (.ladd, len)) : zgo mi pc ls (.long y :: .long x :: st) R S L = zgo mi (pc + len) ls (.long (x + y) :: st) R S L := zg_step hf rfl rfl (by simp [zstep, zop2L])
theorem zq_lsub {x y : Int64} (hf : zfetch mi pc = some (.lsub, len)) : zgo mi pc ls (.long y :: .long x :: st) R S L = zgo mi (pc + len) ls (.long (x - y) :: st) R S L := zg_step hf rfl rfl (by simp [zstep, zop2L])
theorem zq_lmul {x y : Int64} (hf : zfetch mi pc = some (.lmul, len)) : zgo mi pc ls (.long y :: .long x :: st) R S L = zgo mi (pc + len) ls (.long (x * y) :: st) R S L := zg_step hf rfl rfl (by simp [zstep, zop2L])
theorem zq_ldiv {x y : Int64} (hf : zfetch mi pc = some (.ldiv, len)) : zgo mi pc ls (.long y :: .long x :: st) R S L = if y = 0 then none else zgo mi (pc + len) ls (.long (x / y) :: st) R S L := by
  split
  · rename_i h; exact zg_stuck hf rfl rfl (by simp [zstep, zop2L, h])
  · rename_i h; exact zg_step hf rfl rfl (by simp [zstep, zop2L, h])
theorem zq_lrem {x y : Int64} (hf : zfetch mi pc = some (.lrem, len)) : zgo mi pc ls (.long y :: .long x :: st) R S L = if y = 0 then none else zgo mi (pc + len) ls (.long (x - x / y * y) :: st) R S L := by
  split
  · rename_i h; exact zg_stuck hf rfl rfl (by simp [zstep, zop2L, h])
  · rename_i h; exact zg_step hf rfl rfl (by simp [zstep, zop2L, h])
theorem zq_lcmp {x y : Int64} (hf : zfetch mi pc = some (.lcmp, len)) : zgo mi pc ls (.long y :: .long x :: st) R S L = zgo mi (pc + len) ls (.int (lg_cmp x y) :: st) R S L := zg_step hf rfl rfl (by simp [zstep])
theorem zq_i2l {x : Int32} (hf : zfetch mi pc = some (.i2l, len)) : zgo mi pc ls (.int x :: st) R S L = zgo mi (pc + len) ls (.long x.toInt64 :: st) R S L := zg_step hf rfl rfl (by simp [zstep])
theorem zq_l2i {x : Int64} (hf : zfetch mi pc = some (.l2i, len)) : zgo mi pc ls (.long x :: st) R S L = zgo mi (pc + len) ls (.int x.toInt32 :: st) R S L := zg_step hf rfl rfl (by simp [zstep])
theorem zq_i2b {x : Int32} (hf : zfetch mi pc = some (.i2b, len)) : zgo mi pc ls (.int x :: st) R S L = zgo mi (pc + len) ls (.int x.toInt8.toInt32 :: st) R S L := zg_step hf rfl rfl (by simp [zstep])
theorem zq_goto {off : Int} {t : Nat} (hf : zfetch mi pc = some (.goto off, len)) (ht : ztg pc off = some t) : zgo mi pc ls st R S L = zgo mi t ls st R S L := zg_step hf rfl rfl (by simp [zstep, zbr, ht])
theorem zq_ifCond_eq {off : Int} {t : Nat} {x : Int32} (hf : zfetch mi pc = some (.ifCond .eq off, len)) (ht : ztg pc off = some t) : zgo mi pc ls (.int x :: st) R S L = if x = 0 then zgo mi t ls st R S L else zgo mi (pc + len) ls st R S L := by
  split
  · rename_i h; exact zg_step hf rfl rfl (by simp [zstep, zbr, ht, zcnd, h])
  · rename_i h; exact zg_step hf rfl rfl (by simp [zstep, zbr, ht, zcnd, h])
theorem zq_if_icmp_eq {off : Int} {t : Nat} {x y : Int32} (hf : zfetch mi pc = some (.if_icmp .eq off, len)) (ht : ztg pc off = some t) : zgo mi pc ls (.int y :: .int x :: st) R S L = if x = y then zgo mi t ls st R S L else zgo mi (pc + len) ls st R S L := by
  split
  · rename_i h; exact zg_step hf rfl rfl (by simp [zstep, zbr, ht, zcnd, h])
  · rename_i h; exact zg_step hf rfl rfl (by simp [zstep, zbr, ht, zcnd, h])
theorem zq_ifCond_ne {off : Int} {t : Nat} {x : Int32} (hf : zfetch mi pc = some (.ifCond .ne off, len)) (ht : ztg pc off = some t) : zgo mi pc ls (.int x :: st) R S L = if x = 0 then zgo mi (pc + len) ls st R S L else zgo mi t ls st R S L := by
  split
  · rename_i h; exact zg_step hf rfl rfl (by simp [zstep, zbr, ht, zcnd, h])
  · rename_i h; exact zg_step hf rfl rfl (by simp [zstep, zbr, ht, zcnd, h])
theorem zq_if_icmp_ne {off : Int} {t : Nat} {x y : Int32} (hf : zfetch mi pc = some (.if_icmp .ne off, len)) (ht : ztg pc off = some t) : zgo mi pc ls (.int y :: .int x :: st) R S L = if x = y then zgo mi (pc + len) ls st R S L else zgo mi t ls st R S L := by
  split
  · rename_i h; exact zg_step hf rfl rfl (by simp [zstep, zbr, ht, zcnd, h])
  · rename_i h; exact zg_step hf rfl rfl (by simp [zstep, zbr, ht, zcnd, h])
theorem zq_ifCond_lt {off : Int} {t : Nat} {x : Int32} (hf : zfetch mi pc = some (.ifCond .lt off, len)) (ht : ztg pc off = some t) : zgo mi pc ls (.int x :: st) R S L = if x < 0 then zgo mi t ls st R S L else zgo mi (pc + len) ls st R S L := by
  split
  · rename_i h; exact zg_step hf rfl rfl (by simp [zstep, zbr, ht, zcnd, h])
  · rename_i h; exact zg_step hf rfl rfl (by simp [zstep, zbr, ht, zcnd, h])
theorem zq_if_icmp_lt {off : Int} {t : Nat} {x y : Int32} (hf : zfetch mi pc = some (.if_icmp .lt off, len)) (ht : ztg pc off = some t) : zgo mi pc ls (.int y :: .int x :: st) R S L = if x < y then zgo mi t ls st R S L else zgo mi (pc + len) ls st R S L := by
  split
  · rename_i h; exact zg_step hf rfl rfl (by simp [zstep, zbr, ht, zcnd, h])
  · rename_i h; exact zg_step hf rfl rfl (by simp [zstep, zbr, ht, zcnd, h])
theorem zq_ifCond_ge {off : Int} {t : Nat} {x : Int32} (hf : zfetch mi pc = some (.ifCond .ge off, len)) (ht : ztg pc off = some t) : zgo mi pc ls (.int x :: st) R S L = if 0 ≤ x then zgo mi t ls st R S L else zgo mi (pc + len) ls st R S L := by
  split
  · rename_i h; exact zg_step hf rfl rfl (by simp [zstep, zbr, ht, zcnd, h])
  · rename_i h; exact zg_step hf rfl rfl (by simp [zstep, zbr, ht, zcnd, h])
theorem zq_if_icmp_ge {off : Int} {t : Nat} {x y : Int32} (hf : zfetch mi pc = some (.if_icmp .ge off, len)) (ht : ztg pc off = some t) : zgo mi pc ls (.int y :: .int x :: st) R S L = if y ≤ x then zgo mi t ls st R S L else zgo mi (pc + len) ls st R S L := by
  split
  · rename_i h; exact zg_step hf rfl rfl (by simp [zstep, zbr, ht, zcnd, h])
  · rename_i h; exact zg_step hf rfl rfl (by simp [zstep, zbr, ht, zcnd, h])
theorem zq_ifCond_gt {off : Int} {t : Nat} {x : Int32} (hf : zfetch mi pc = some (.ifCond .gt off, len)) (ht : ztg pc off = some t) : zgo mi pc ls (.int x :: st) R S L = if 0 < x then zgo mi t ls st R S L else zgo mi (pc + len) ls st R S L := by
  split
  · rename_i h; exact zg_step hf rfl rfl (by simp [zstep, zbr, ht, zcnd, h])
  · rename_i h; exact zg_step hf rfl rfl (by simp [zstep, zbr, ht, zcnd, h])
theorem zq_if_icmp_gt {off : Int} {t : Nat} {x y : Int32} (hf : zfetch mi pc = some (.if_icmp .gt off, len)) (ht : ztg pc off = some t) : zgo mi pc ls (.int y :: .int x :: st) R S L = if y < x then zgo mi t ls st R S L else zgo mi (pc + len) ls st R S L := by
  split
  · rename_i h; exact zg_step hf rfl rfl (by simp [zstep, zbr, ht, zcnd, h])
  · rename_i h; exact zg_step hf rfl rfl (by simp [zstep, zbr, ht, zcnd, h])
theorem zq_ifCond_le {off : Int} {t : Nat} {x : Int32} (hf : zfetch mi pc = some (.ifCond .le off, len)) (ht : ztg pc off = some t) : zgo mi pc ls (.int x :: st) R S L = if x ≤ 0 then zgo mi t ls st R S L else zgo mi (pc + len) ls st R S L := by
  split
  · rename_i h; exact zg_step hf rfl rfl (by simp [zstep, zbr, ht, zcnd, h])
  · rename_i h; exact zg_step hf rfl rfl (by simp [zstep, zbr, ht, zcnd, h])
theorem zq_if_icmp_le {off : Int} {t : Nat} {x y : Int32} (hf : zfetch mi pc = some (.if_icmp .le off, len)) (ht : ztg pc off = some t) : zgo mi pc ls (.int y :: .int x :: st) R S L = if x ≤ y then zgo mi t ls st R S L else zgo mi (pc + len) ls st R S L := by
  split
  · rename_i h; exact zg_step hf rfl rfl (by simp [zstep, zbr, ht, zcnd, h])
  · rename_i h; exact zg_step hf rfl rfl (by simp [zstep, zbr, ht, zcnd, h])
theorem zq_ifnull {off : Int} {t x : Nat} (hf : zfetch mi pc = some (.ifnull off, len)) (ht : ztg pc off = some t) : zgo mi pc ls (.ref x :: st) R S L = zgo mi (pc + len) ls st R S L := zg_step hf rfl rfl (by simp [zstep, zbr, ht])
theorem zq_ifnullN {off : Int} {t : Nat} (hf : zfetch mi pc = some (.ifnull off, len)) (ht : ztg pc off = some t) : zgo mi pc ls (.null :: st) R S L = zgo mi t ls st R S L := zg_step hf rfl rfl (by simp [zstep, zbr, ht])
theorem zq_ifnonnull {off : Int} {t x : Nat} (hf : zfetch mi pc = some (.ifnonnull off, len)) (ht : ztg pc off = some t) : zgo mi pc ls (.ref x :: st) R S L = zgo mi t ls st R S L := zg_step hf rfl rfl (by simp [zstep, zbr, ht])
theorem zq_ifnonnullN {off : Int} {t : Nat} (hf : zfetch mi pc = some (.ifnonnull off, len)) (ht : ztg pc off = some t) : zgo mi pc ls (.null :: st) R S L = zgo mi (pc + len) ls st R S L := zg_step hf rfl rfl (by simp [zstep, zbr, ht])
def ztsw (mi pc : Nat) (d lo hi : Int) (offs : List Int) (x : Int32) (ls st : List Value) (R : List zE) (S : zS) (L : zL) : Option zC := if x.toInt < lo ∨ hi < x.toInt then zbr true pc 0 d ls st R S L else (match offs[(x.toInt - lo).toNat]? with
  | some off => zbr true pc 0 off ls st R S L
  | none => none)
theorem zq_getfield {ix ci k a : Nat} {ne : Bool} (hf : zfetch mi pc = some (.getfield ix, len)) (hk : zfld (zown mi) ix = some (ci, k, ne)) : zgo mi pc ls (.ref a :: st) R S L = (zgetf R S L a ci k).bind fun v => zgo mi (pc + len) ls (v :: st) R S L := by
  cases h : zgetf R S L a ci k with
  | none => exact zg_stuck hf rfl rfl (by simp [zstep, hk, h])
  | some v => exact zg_step hf rfl rfl (by simp [zstep, hk, h])
theorem zq_putfield {ix ci k a : Nat} {ne : Bool} {v : Value} (hf : zfetch mi pc = some (.putfield ix, len)) (hk : zfld (zown mi) ix = some (ci, k, ne)) (hn : (zfin ci k = true ∧ ¬ (zinit mi = true ∧ ci = zown mi ∧ ne = false)) = False) : zgo mi pc ls (v :: .ref a :: st) R S L = (zputf R S L a ci k v).bind fun q => zgo mi (pc + len) ls st q.1 q.2.1 q.2.2 := by
  cases h : zputf R S L a ci k v with
  | none => exact zg_stuck hf rfl rfl (by simp only [zstep, hk, h, hn, if_false])
  | some q => exact zg_step hf rfl rfl (by simp only [zstep, hk, h, hn, if_false])
theorem zq_iaload {a : Nat} {i : Int32} (hf : zfetch mi pc = some (.iaload, len)) : zgo mi pc ls (.int i :: .ref a :: st) R S L = (zlen R a 1).bind fun m => if i < 0 ∨ m ≤ i.toNatClampNeg then none else zgo mi (pc + len) ls (.int (S a i.toNatClampNeg) :: st) R S L := by
  cases h : zlen R a 1 with
  | none => exact zg_stuck hf rfl rfl (by simp [zstep, zaldI, h])
  | some m =>
    show _ = if _ then _ else _
    split
    · rename_i h1; exact zg_stuck hf rfl rfl (by simp [zstep, zaldI, h, h1])
    · rename_i h1; exact zg_step hf rfl rfl (by simp [zstep, zaldI, h, h1])
theorem zq_iastore {a : Nat} {i x : Int32} (hf : zfetch mi pc = some (.iastore, len)) : zgo mi pc ls (.int x :: .int i :: .ref a :: st) R S L = (zlen R a 1).bind fun m => if i < 0 ∨ m ≤ i.toNatClampNeg then none else zgo mi (pc + len) ls st R (zup S a i.toNatClampNeg x) L := by
  cases h : zlen R a 1 with
  | none => exact zg_stuck hf rfl rfl (by simp [zstep, zastI, h])
  | some m =>
    show _ = if _ then _ else _
    split
    · rename_i h1; exact zg_stuck hf rfl rfl (by simp [zstep, zastI, h, h1])
    · rename_i h1; exact zg_step hf rfl rfl (by simp [zstep, zastI, h, h1])
theorem zq_baload3 {a m : Nat} {i : Int32} (hf : zfetch mi pc = some (.baload, len)) (h : zlen R a 3 = some m) : zgo mi pc ls (.int i :: .ref a :: st) R S L = if i < 0 ∨ m ≤ i.toNatClampNeg then none else zgo mi (pc + len) ls (.int (S a i.toNatClampNeg) :: st) R S L := by
  split
  · rename_i h1; exact zg_stuck hf rfl rfl (by simp [zstep, zaldI, h, h1])
  · rename_i h1; exact zg_step hf rfl rfl (by simp [zstep, zaldI, h, h1])
theorem zq_bastore3 {a m : Nat} {i x : Int32} (hf : zfetch mi pc = some (.bastore, len)) (h : zlen R a 3 = some m) : zgo mi pc ls (.int x :: .int i :: .ref a :: st) R S L = if i < 0 ∨ m ≤ i.toNatClampNeg then none else zgo mi (pc + len) ls st R (zup S a i.toNatClampNeg (vp_nar .byte x)) L := by
  split
  · rename_i h1; exact zg_stuck hf rfl rfl (by simp [zstep, zastI, h, h1])
  · rename_i h1; exact zg_step hf rfl rfl (by simp [zstep, zastI, h, h1])
theorem zq_baload4 {a m : Nat} {i : Int32} (hf : zfetch mi pc = some (.baload, len)) (h3 : zlen R a 3 = none) (h : zlen R a 4 = some m) : zgo mi pc ls (.int i :: .ref a :: st) R S L = if i < 0 ∨ m ≤ i.toNatClampNeg then none else zgo mi (pc + len) ls (.int (S a i.toNatClampNeg) :: st) R S L := by
  split
  · rename_i h1; exact zg_stuck hf rfl rfl (by simp [zstep, zaldI, h, h3, h1])
  · rename_i h1; exact zg_step hf rfl rfl (by simp [zstep, zaldI, h, h3, h1])
theorem zq_bastore4 {a m : Nat} {i x : Int32} (hf : zfetch mi pc = some (.bastore, len)) (h3 : zlen R a 3 = none) (h : zlen R a 4 = some m) : zgo mi pc ls (.int x :: .int i :: .ref a :: st) R S L = if i < 0 ∨ m ≤ i.toNatClampNeg then none else zgo mi (pc + len) ls st R (zup S a i.toNatClampNeg (vp_nar .boolean x)) L := by
  split
  · rename_i h1; exact zg_stuck hf rfl rfl (by simp [zstep, zastI, h, h3, h1])
  · rename_i h1; exact zg_step hf rfl rfl (by simp [zstep, zastI, h, h3, h1])
theorem zq_laload {a : Nat} {i : Int32} (hf : zfetch mi pc = some (.laload, len)) : zgo mi pc ls (.int i :: .ref a :: st) R S L = (zlen R a 2).bind fun m => if i < 0 ∨ m ≤ i.toNatClampNeg then none else zgo mi (pc + len) ls (.long (L a i.toNatClampNeg) :: st) R S L := by
  cases h : zlen R a 2 with
  | none => exact zg_stuck hf rfl rfl (by simp [zstep, h])
  | some m =>
    show _ = if _ then _ else _
    split
    · rename_i h1; exact zg_stuck hf rfl rfl (by simp [zstep, h, h1])
    · rename_i h1; exact zg_step hf rfl rfl (by simp [zstep, h, h1])
theorem zq_lastore {a : Nat} {i : Int32} {x : Int64} (hf : zfetch mi pc = some (.lastore, len)) : zgo mi pc ls (.long x :: .int i :: .ref a :: st) R S L = (zlen R a 2).bind fun m => if i < 0 ∨ m ≤ i.toNatClampNeg then none else zgo mi (pc + len) ls st R S (zup L a i.toNatClampNeg x) := by
  cases h : zlen R a 2 with
  | none => exact zg_stuck hf rfl rfl (by simp [zstep, h])
  | some m =>
    show _ = if _ then _ else _
    split
    · rename_i h1; exact zg_stuck hf rfl rfl (by simp [zstep, h, h1])
    · rename_i h1; exact zg_step hf rfl rfl (by simp [zstep, h, h1])
/-- what an array of references holds -/
def zaref (R : List zE) (a : Nat) (i : Int32) : Option Value := match R[a]? with
  | some (5, m, fs) => if i < 0 ∨ m ≤ i.toNatClampNeg then none else (match fs[i.toNatClampNeg]? with
    | some (.ref r) => some (.ref r)
    | some .null => some .null
    | _ => none)
  | _ => none
/-- the length of any array -/
def zalen (R : List zE) (a : Nat) : Option Nat := match R[a]? with
  | some (0, _, _) => none
  | some (_, m, _) => some m
  | none => none
theorem zq_aaload {a : Nat} {i : Int32} (hf : zfetch mi pc = some (.aaload, len)) : zgo mi pc ls (.int i :: .ref a :: st) R S L = (zaref R a i).bind fun v => zgo mi (pc + len) ls (v :: st) R S L := by
  have key : zstep mi .aaload len pc ls (.int i :: .ref a :: st) R S L = (zaref R a i).map fun v => (pc + len, ls, v :: st, R, S, L) := by
    simp only [zstep, zaref]
    cases R[a]? with
    | none => rfl
    | some x =>
      obtain ⟨t, m, fs⟩ := x
      match t with
      | 0 => rfl
      | 1 => rfl
      | 2 => rfl
      | 3 => rfl
      | 4 => rfl
      | 5 =>
        show (if _ then _ else _) = Option.map _ (if _ then _ else _)
        split
        · rfl
        · cases fs[i.toNatClampNeg]? with
          | none => rfl
          | some v => cases v <;> rfl
      | _ + 6 => rfl
  cases h : zaref R a i with
  | none => exact zg_stuck hf rfl rfl (by rw [key, h]; rfl)
  | some v => exact zg_step hf rfl rfl (by rw [key, h]; rfl)
theorem zq_arraylength {a : Nat} (hf : zfetch mi pc = some (.arraylength, len)) : zgo mi pc ls (.ref a :: st) R S L = (zalen R a).bind fun m => zgo mi (pc + len) ls (.int (Int32.ofNat m) :: st) R S L := by
  have key : zstep mi .arraylength len pc ls (.ref a :: st) R S L = (zalen R a).map fun m => (pc + len, ls, .int (Int32.ofNat m) :: st, R, S, L) := by
    simp only [zstep, zalen]
    cases R[a]? with
    | none => rfl
    | some x =>
      obtain ⟨t, m, fs⟩ := x
      cases t <;> rfl
  cases h : zalen R a with
  | none => exact zg_stuck hf rfl rfl (by rw [key, h]; rfl)
  | some v => exact zg_step hf rfl rfl (by rw [key, h]; rfl)
theorem zq_max {ix t : Nat} {x y : Int32} (hf : zfetch mi pc = some (.invokestatic ix, len)) (hk : zcal (zown mi) ix = some (11, t)) (hl : zfl mi 11 = true) (hw : (st.map fun v => v.category).sum ≤ 8) : zgo mi pc ls (.int y :: .int x :: st) R S L = zgo mi (pc + len) ls (.int (if x < y then y else x) :: st) R S L := zg_step hf rfl (by simp [zcl, hk]) (by simp [zstep, hk, hl, zlibS, hw])
theorem zq_min {ix t : Nat} {x y : Int32} (hf : zfetch mi pc = some (.invokestatic ix, len)) (hk : zcal (zown mi) ix = some (12, t)) (hl : zfl mi 12 = true) (hw : (st.map fun v => v.category).sum ≤ 8) : zgo mi pc ls (.int y :: .int x :: st) R S L = zgo mi (pc + len) ls (.int (if y < x then y else x) :: st) R S L := zg_step hf rfl (by simp [zcl, hk]) (by simp [zstep, hk, hl, zlibS, hw])
theorem zq_abs {ix t : Nat} {x : Int32} (hf : zfetch mi pc = some (.invokestatic ix, len)) (hk : zcal (zown mi) ix = some (13, t)) (hl : zfl mi 13 = true) (hw : (st.map fun v => v.category).sum ≤ 8) : zgo mi pc ls (.int x :: st) R S L = zgo mi (pc + len) ls (.int (if 0 ≤ x then x else 0 - x) :: st) R S L := zg_step hf rfl (by simp [zcl, hk]) (by simp only [zstep, hk, hl, zlibA, hw, if_true, and_self])
theorem zq_oinit {ix t a : Nat} (hf : zfetch mi pc = some (.invokespecial ix, len)) (hk : zcal (zown mi) ix = some (10, t)) (hl : zfl mi 10 = true) (hw : (st.map fun v => v.category).sum ≤ 8) : zgo mi pc ls (.ref a :: st) R S L = zgo mi (pc + len) ls st R S L := zg_step hf rfl (by simp [zcl, hk]) (by simp only [zstep, hk, hl, zlibI, hw, if_true, and_self])
theorem zq_slen {ix t r : Nat} {tx : List Int32} (hf : zfetch mi pc = some (.invokevirtual ix, len)) (hk : zcal (zown mi) ix = some (14, t)) (hl : zfl mi 14 = true) (hw : (st.map fun v => v.category).sum ≤ 8) : zgo mi pc ls (.ref r :: st) R S L = (ztext r).bind fun tx => zgo mi (pc + len) ls (.int (Int32.ofNat tx.length) :: st) R S L := by
  cases h : ztext r with
  | none => exact zg_stuck hf rfl (by simp [zcl, hk]) (by simp only [zstep, hk, hl, zlibL, hw, h, if_true])
  | some tx => exact zg_step hf rfl (by simp [zcl, hk]) (by simp only [zstep, hk, hl, zlibL, hw, h, if_true, and_self])
theorem zq_schar {ix t r : Nat} {i : Int32} (hf : zfetch mi pc = some (.invokevirtual ix, len)) (hk : zcal (zown mi) ix = some (15, t)) (hl : zfl mi 15 = true) (hw : (st.map fun v => v.category).sum ≤ 8) : zgo mi pc ls (.int i :: .ref r :: st) R S L = (ztext r).bind fun tx => if i < 0 ∨ tx.length ≤ i.toNatClampNeg then none else zgo mi (pc + len) ls (.int (tx.getD i.toNatClampNeg 0) :: st) R S L := by
  cases h : ztext r with
  | none => exact zg_stuck hf rfl (by simp [zcl, hk]) (by simp [zstep, hk, hl, zlibC, h])
  | some tx =>
    show _ = if _ then _ else _
    split
    · rename_i h1; exact zg_stuck hf rfl (by simp [zcl, hk]) (by simp [zstep, hk, hl, zlibC, h, h1])
    · rename_i h1; exact zg_step hf rfl (by simp [zcl, hk]) (by simp [zstep, hk, hl, zlibC, h, h1, hw])
theorem zq_ireturn {ty : FieldType} {x : Int32} (hf : zfetch mi pc = some (.ireturn, len)) (hr : zrt mi = some ty) : zgo mi pc ls [.int x] R S L = if narrow ty (.int x) = .int x then some (some (.int x), R, S, L) else none := by
  split
  · rename_i h; exact zg_end hf (by simp [zend, hr, h])
  · rename_i h
    refine zg_stuck hf (by simp [zend, hr, h]) rfl (by simp [zstep])
theorem zq_ireturnI {x : Int32} (hf : zfetch mi pc = some (.ireturn, len)) (hr : zrt mi = some .int) : zgo mi pc ls [.int x] R S L = some (some (.int x), R, S, L) := zg_end hf (by simp [zend, hr, narrow])
theorem zq_lreturn {x : Int64} (hf : zfetch mi pc = some (.lreturn, len)) (hr : zrt mi = some .long) : zgo mi pc ls [.long x] R S L = some (some (.long x), R, S, L) := zg_end hf (by simp [zend, hr])
theorem zq_return (hf : zfetch mi pc = some (.return_, len)) (hr : zrt mi = none) : zgo mi pc ls [] R S L = some (none, R, S, L) := zg_end hf (by simp [zend, hr])
theorem zq_new {ix ci : Nat} (hf : zfetch mi pc = some (.new ix, len)) (hk : znew (zown mi) ix = some ci) : zgo mi pc ls st R S L = if R.length < 500000 then zgo mi (pc + len) ls (.ref R.length :: st) (R ++ [(0, ci, zdefs ci)]) (zclr 0 S R.length) (zclr 0 L R.length) else none := by
  split
  · rename_i h; exact zg_step hf rfl rfl (by simp [zstep, hk, h])
  · rename_i h; exact zg_stuck hf rfl rfl (by simp [zstep, hk, h])
theorem zq_newarray {t : ArrayType} {tag : Nat} {n : Int32} (hf : zfetch mi pc = some (.newarray t, len)) (hk : zatag t = some tag) : zgo mi pc ls (.int n :: st) R S L = if R.length < 500000 ∧ ¬ n < 0 ∧ n.toNatClampNeg ≤ 65536 then zgo mi (pc + len) ls (.ref R.length :: st) (R ++ [(tag, n.toNatClampNeg, [])]) (zclr 0 S R.length) (zclr 0 L R.length) else none := by
  split
  · rename_i h; exact zg_step hf rfl rfl (by simp only [zstep, hk, h, if_true, and_self, not_false_eq_true])
  · rename_i h; exact zg_stuck hf rfl rfl (by simp only [zstep, hk, h, if_false])
theorem zg_call0 {ix t n c la rs a : Nat} {as rest : List Value} (hf : zfetch mi pc = some (.invokevirtual ix, len)) (hk : zcal (zown mi) ix = some (0, t)) (hn : znarg t = n) (hm : zmayN mi t la n rs = true) (hs : (st.take n).reverse = .ref a :: as) (hd : st.drop n = rest) (hl : (zargs (.ref a :: as)).length = la ∧ (.ref a :: as : List Value).length = n ∧ (rest.map fun v => v.category).sum = rs) (hc : zown t = c) : zgo mi pc ls st R S L = if zrc R a c = true then (zcall t (.ref a :: as) R S L).bind fun q => zgo mi (pc + 3) ls (q.1.toList ++ rest) q.2.1 q.2.2.1 q.2.2.2 else none := by
  subst hn
  rw [zg_call (k := 0) (t := t) hf rfl (by simp [zcl, hk]), hs, hd, zmay0 hm hl.1 hl.2.1 hl.2.2 hc]
theorem zg_call1 {ix t n la rs : Nat} {as rest : List Value} (hf : zfetch mi pc = some (.invokestatic ix, len)) (hk : zcal (zown mi) ix = some (1, t)) (hn : znarg t = n) (hm : zmayN mi t la n rs = true) (hs : (st.take n).reverse = as) (hd : st.drop n = rest) (hl : (zargs as).length = la ∧ as.length = n ∧ (rest.map fun v => v.category).sum = rs) : zgo mi pc ls st R S L = (zcall t as R S L).bind fun q => zgo mi (pc + 3) ls (q.1.toList ++ rest) q.2.1 q.2.2.1 q.2.2.2 := by
  subst hn
  rw [zg_call (k := 1) (t := t) hf rfl (by simp [zcl, hk]), hs, hd, zmay1 hm hl.1 hl.2.1 hl.2.2, if_pos rfl]
end ZGQ
theorem zsw_eq {x : Int32} {k : Int} (h : x.toInt = k) : x = Int32.ofInt k := by rw [← h, Int32.ofInt_toInt]
