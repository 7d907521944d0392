/-! A run up to a place in its method: for 'led', which throws -/
section ZLD
variable {c : Nat → Nat} {S Sm : zS} {L Lm : zL} {rd : Value}
def zto : Nat → Nat → Nat → Nat → List Value → List Value → List zE → zS → zL → Option (List Value × List Value × List zE × zS × zL)
  | 0, _, _, _, _, _, _, _, _ => none
  | n + 1, stop, mi, pc, ls, st, R, S, L => if pc = stop then some (ls, st, R, S, L) else match zfetch mi pc with
    | none => none
    | some (ins, len) => match zcl mi ins with
      | some (k, t) =>
        if zmay mi k t (st.take (znarg t)).reverse (st.drop (znarg t)) R = true then
          (match zrun n t 0 (zentry t (st.take (znarg t)).reverse) [] R S L with
          | some (v, R', S', L') => zto n stop mi (pc + 3) ls (v.toList ++ st.drop (znarg t)) R' S' L'
          | none => none)
        else none
      | none => match zstep mi ins len pc ls st R S L with
        | some (pc', ls', st', R', S', L') => zto n stop mi pc' ls' st' R' S' L'
        | none => none
theorem zto_succ : ∀ (n stop mi pc : Nat) (ls st : List Value) (R : List zE) (S : zS) (L : zL) (r : List Value × List Value × List zE × zS × zL), zto n stop mi pc ls st R S L = some r → zto (n + 1) stop mi pc ls st R S L = some r
  | 0, _, _, _, _, _, _, _, _, _, h => by simp [zto] at h
  | n + 1, stop, mi, pc, ls, st, R, S, L, r, h => by
    rw [zto] at h ⊢
    split at h
    · rename_i h0
      rw [if_pos h0]; exact h
    · rename_i h0
      rw [if_neg h0]
      split at h
      · cases h
      · split at h
        · split at h
          · rename_i hm
            split at h
            · rename_i h1
              rw [if_pos hm, zrun_succ n _ _ _ _ _ _ _ _ h1]
              exact zto_succ n _ _ _ _ _ _ _ _ _ h
            · cases h
          · cases h
        · split at h
          · exact zto_succ n _ _ _ _ _ _ _ _ _ h
          · cases h
theorem zto_le {n m stop mi pc : Nat} {ls st : List Value} {R : List zE} {S : zS} {L : zL} {r : List Value × List Value × List zE × zS × zL} (h : zto n stop mi pc ls st R S L = some r) (hm : n ≤ m) : zto m stop mi pc ls st R S L = some r := by
  induction hm with
  | refl => exact h
  | step _ ih => exact zto_succ _ _ _ _ _ _ _ _ _ _ ih
theorem zto_inv : ∀ (n stop mi pc : Nat) (ls st : List Value) (R : List zE) (S : zS) (L : zL) (ls' st' : List Value) (R' : List zE) (S' : zS) (L' : zL), zto n stop mi pc ls st R S L = some (ls', st', R', S', L') → zinv R ls st → R.length ≤ R'.length ∧ zsz R ≤ zsz R'
  | 0, _, _, _, _, _, _, _, _, _, _, _, _, _, h, _ => by simp [zto] at h
  | n + 1, stop, mi, pc, ls, st, R, S, L, ls', st', R', S', L', h, hI => by
    rw [zto] at h
    split at h
    · cases h
      exact ⟨Nat.le_refl _, Nat.le_refl _⟩
    · split at h
      · cases h
      · split at h
        · rename_i k t hcl
          split at h
          · split at h
            · rename_i v1 R1 S1 L1 h1
              have hst : ∀ u ∈ (st.take (znarg t)).reverse, zokv R.length u := fun u hu => hI.2.1 u (List.mem_of_mem_take (List.mem_reverse.mp hu))
              obtain ⟨a1, a2, a3, a4⟩ := zrun_inv n _ _ _ _ _ _ _ _ _ _ _ h1 (zentry_inv hst hI.2.2)
              have hI1 : zinv R1 ls (v1.toList ++ st.drop (znarg t)) := ⟨fun u hu => (hI.1 u hu).le a2, fun u hu => by
                rcases List.mem_append.mp hu with hu | hu
                · cases v1 with
                  | none => simp at hu
                  | some w => simp at hu; subst hu; exact a4 u rfl
                · exact (hI.2.1 u (List.mem_of_mem_drop hu)).le a2, a1⟩
              obtain ⟨b2, b3⟩ := zto_inv n _ _ _ _ _ _ _ _ _ _ _ _ _ h hI1
              exact ⟨Nat.le_trans a2 b2, Nat.le_trans a3 b3⟩
            · cases h
          · cases h
        · split at h
          · rename_i hs
            obtain ⟨a1, a2, a3⟩ := zstep_good _ hs hI
            obtain ⟨b2, b3⟩ := zto_inv n _ _ _ _ _ _ _ _ _ _ _ _ _ h a1
            exact ⟨Nat.le_trans a2 b2, Nat.le_trans a3 b3⟩
          · cases h
/-- what the JVM does at that place, it does from here -/
theorem zto_sound : ∀ (n stop mi pc : Nat) (ls st : List Value) (R : List zE) (S : zS) (L : zL) (ls' st' : List Value) (R' : List zE) (S' : zS) (L' : zL), zto n stop mi pc ls st R S L = some (ls', st', R', S', L') →
    ∀ (p : Program) (l : Launch) (e : Env) (Rm : Room) (s : State) (m : MethodId) (args : Array Value) (below : List Frame) (meth : Method) (c : Code) (Q : State → Prop) (D : va_G) (A : Nat → Prop) (ad0 adV : Nat → Nat) (r0 z0 nL : Nat) (q : zM),
      zCx mi p l Rm s m args meth c A ad0 adV nL q → zinv R ls st → R'.length ≤ Rm.cells + r0 → zsz R' ≤ Rm.slots + z0 →
      zGo p l e Rm s m args below meth c Q D A ad0 r0 z0 nL stop ls' st' R' S' L' → zGo p l e Rm s m args below meth c Q D A ad0 r0 z0 nL pc ls st R S L
  | 0, _, _, _, _, _, _, _, _, _, _, _, _, _, h => by simp [zto] at h
  | n + 1, stop, mi, pc, ls, st, R, S, L, ls', st', R', S', L', h => by
    intro p l e Rm s m args below meth c Q D A ad0 adV r0 z0 nL q C hI hc hz hQ
    rw [zto] at h
    split at h
    · rename_i h0
      cases h
      rw [h0]
      exact hQ
    · split at h
      · cases h
      · rename_i ins len hfe
        obtain ⟨q', hq', hdg, hlen⟩ := zfetch_at hfe
        have hq := C.1
        have hA : ∀ q, s.heap.size ≤ q → A q := C.2.2.2.2.2.2.2.2.1
        cases hq.symm.trans hq'
        split at h
        · rename_i k t hcl
          split at h
          · rename_i hmay
            split at h
            · rename_i v1 R1 S1 L1 hrun1
              have has : ∀ u ∈ (st.take (znarg t)).reverse, zokv R.length u := fun u hu => hI.2.1 u (List.mem_of_mem_take (List.mem_reverse.mp hu))
              obtain ⟨a1, a2, a3, a4⟩ := zrun_inv n _ _ _ _ _ _ _ _ _ _ _ hrun1 (zentry_inv has hI.2.2)
              have hI1 : zinv R1 ls (v1.toList ++ st.drop (znarg t)) := ⟨fun u hu => (hI.1 u hu).le a2, fun u hu => by
                rcases List.mem_append.mp hu with hu | hu
                · cases v1 with
                  | none => simp at hu
                  | some w => simp at hu; subst hu; exact a4 u rfl
                · exact (hI.2.1 u (List.mem_of_mem_drop hu)).le a2, a1⟩
              obtain ⟨b2, b3⟩ := zto_inv n _ _ _ _ _ _ _ _ _ _ _ _ _ h hI1
              have kk := zto_sound n stop mi (pc + 3) ls _ R1 S1 L1 ls' st' R' S' L' h p l e Rm s m args below meth c Q D A ad0 adV r0 z0 nL q C hI1 hc hz hQ
              intro H locs cells slots lsM ad tys ws I
              have hr := zcall_run (e := e) (below := below) (zsound n) C hI hdg hlen hcl hmay hrun1 I (by omega) (by omega)
              obtain ⟨h1, h2, h3, h4, h5, h6, h7, h8, h9⟩ := I
              refine zcall_go hr h8 (zown_in h7 h8 hA) (fun H1 locs1 ad1 tys1 ws1 g1 g2 g3 g4 g5 g6 => ?_)
              have := kk H1 locs1 (cells + (R1.length - R.length)) (slots + (zsz R1 - zsz R)) lsM ad1 tys1 ws1 ⟨by omega, by omega, (g1.le (by omega)).trans h3, g2, g3, g4, g5, g6, h9.keep g1 hI.1⟩
              rw [List.map_append, g1.map (fun u hu => hI.2.1 u (List.mem_of_mem_drop hu))] at this
              have e3 : v1.toList.map (zv ad1) = (v1.map (zv ad1)).toList := by cases v1 <;> rfl
              rw [e3] at this
              exact this
            · cases h
          · cases h
        · split at h
          · rename_i hs
            obtain ⟨a1, a2, a3⟩ := zstep_good _ hs hI
            obtain ⟨b2, b3⟩ := zto_inv n _ _ _ _ _ _ _ _ _ _ _ _ _ h a1
            exact zsim C hI hdg hlen hs (by dsimp only at a2 b2; omega) (by dsimp only at a3 b3; omega) (zto_sound n _ _ _ _ _ _ _ _ _ _ _ _ _ h p l e Rm s m args below meth c Q D A ad0 adV r0 z0 nL q C a1 hc hz hQ)
          · cases h
/-- without fuel -/
def ztoP (stop mi pc : Nat) (ls st : List Value) (R : List zE) (S : zS) (L : zL) (r : List Value × List Value × List zE × zS × zL) : Prop := ∃ n, zto n stop mi pc ls st R S L = some r
section ZTP
variable {stop mi pc pc' len : Nat} {ls st ls' st' : List Value} {R R' : List zE} {S S' : zS} {L L' : zL} {ins : Instr} {r : List Value × List Value × List zE × zS × zL}
theorem ztoP_end : ztoP stop mi stop ls st R S L (ls, st, R, S, L) := ⟨1, by rw [zto, if_pos rfl]⟩
theorem ztoP_step (hp : pc ≠ stop) (hf : zfetch mi pc = some (ins, len)) (hc : zcl mi ins = none) (hs : zstep mi ins len pc ls st R S L = some (pc', ls', st', R', S', L')) (h : ztoP stop mi pc' ls' st' R' S' L' r) : ztoP stop mi pc ls st R S L r := by
  obtain ⟨n, h⟩ := h
  refine ⟨n + 1, ?_⟩
  rw [zto, if_neg hp, hf]
  simp only [hc, hs]
  exact h
theorem ztoP_call {k t na : Nat} {as rest : List Value} {v : Option Value} (hp : pc ≠ stop) (hf : zfetch mi pc = some (ins, len)) (hc : zcl mi ins = some (k, t)) (hn : znarg t = na) (ha : (st.take na).reverse = as) (hd : st.drop na = rest) (hm : zmay mi k t as rest R = true) (hr : zcall t as R S L = some (v, R', S', L')) (h : ztoP stop mi (pc + 3) ls (v.toList ++ rest) R' S' L' r) : ztoP stop mi pc ls st R S L r := by
  subst hn
  obtain ⟨n1, h1⟩ := zgo_iff.mp hr
  obtain ⟨n2, h2⟩ := h
  refine ⟨max n1 n2 + 1, ?_⟩
  rw [zto, if_neg hp, hf]
  simp only [hc, ha, hd, hm, if_true]
  rw [zrun_le h1 (Nat.le_max_left n1 n2)]
  exact zto_le h2 (Nat.le_max_right n1 n2)
theorem ztoP_getfield {ix ci k a : Nat} {ne : Bool} {v : Value} (hp : pc ≠ stop) (hf : zfetch mi pc = some (.getfield ix, 3)) (hk : zfld (zown mi) ix = some (ci, k, ne)) (hg : zgetf R S L a ci k = some v) (h : ztoP stop mi (pc + 3) ls (v :: st) R S L r) : ztoP stop mi pc ls (.ref a :: st) R S L r := ztoP_step hp hf rfl (by simp [zstep, hk, hg]) h
theorem ztoP_br {cd : ClassFile.Cond} {off : Int} {t : Nat} {x y : Int32} {b : Bool} (hp : pc ≠ stop) (hf : zfetch mi pc = some (.if_icmp cd off, 3)) (ht : ztg pc off = some t) (hb : zcnd cd x y = b) (h : ztoP stop mi (if b = true then t else pc + 3) ls st R S L r) : ztoP stop mi pc ls (.int y :: .int x :: st) R S L r := ztoP_step hp hf rfl (by simp only [zstep, zbr, ht, hb]) h
theorem ztoP_br0 {cd : ClassFile.Cond} {off : Int} {t : Nat} {x : Int32} {b : Bool} (hp : pc ≠ stop) (hf : zfetch mi pc = some (.ifCond cd off, 3)) (ht : ztg pc off = some t) (hb : zcnd cd x 0 = b) (h : ztoP stop mi (if b = true then t else pc + 3) ls st R S L r) : ztoP stop mi pc ls (.int x :: st) R S L r := ztoP_step hp hf rfl (by simp only [zstep, zbr, ht, hb]) h
end ZTP
/-- which one is led on as the i-th, of players p and on -/
def zlf (o : Nat → Bool) (i : Int32) : Nat → Nat → Nat → Option Nat
  | 0, _, _ => none
  | q + 1, p, b => if o p = true then (if nI b = i then some p else zlf o i q (p + 1) (b + 1)) else zlf o i q (p + 1) b
theorem zlf_s {o : Nat → Bool} {i : Int32} {q p b : Nat} : zlf o i (q + 1) p b = if o p = true then (if nI b = i then some p else zlf o i q (p + 1) (b + 1)) else zlf o i q (p + 1) b := rfl
/-- of the class -/
theorem t145a {n : Nat} {o : Nat → Bool} {i : Int32} {w : Nat} (hn : n ≤ 8) (a0 : S 12 7 = nI n) (ho : ∀ p, p < n → S 176 p = if o p = true then 1 else 0) : ∀ q p b, p + q = n → zlf o i q p b = some w → zgo 145 4 [.ref 0, .int i, .int (nI b), .int (nI p)] [] zRc S L = some (some (.int (nI w)), zRc, S, L) := by
  intro q
  induction q with
  | zero => intro p b _ h; cases h
  | succ q ih =>
    intro p b hp h
    rw [zlf_s] at h
    have ho1 := ho p (by omega)
    rw [s145_4]
    by_cases h1 : o p = true
    · rw [if_pos h1] at h ho1
      by_cases h2 : nI b = i
      · rw [if_pos h2] at h
        cases h
        have h2 := eq_true h2
        simp (config := {maxSteps := 1000000}) (disch := omega) only [↓reduceIte, Int32.reduceLT, Int32.reduceLE, Int32.reduceToNatClampNeg, Int32.reduceAdd, Int32.reduceSub, Int32.reduceMul, Nat.reduceLeDiff, zEL, zup_ne, zup_eq, zT0, zT1, zT2, if_true, if_false, zneq_f, true_and, and_true, false_and, and_false, zKL, eq_self, Nat.reduceEqDiff, zite0, ite_not, zaddr, zaddl, zputr, zsb1, zsb2, zsb0, zsbm, znm1, gX, gM, g168, s145_5, s145_6, s145_9, s145_12, s145_15, s145_18, s145_19, s145_22, s145_25, s145_26, s145_29, s145_32, s145_33, s145_34, s145_37, s145_38, s145_39, s145_42, s145_45, a0, ho1, h2]
      · rw [if_neg h2] at h
        have h2 := eq_false h2
        rw [← ih (p + 1) (b + 1) (by omega) h]
        simp (config := {maxSteps := 1000000}) (disch := omega) only [↓reduceIte, Int32.reduceLT, Int32.reduceLE, Int32.reduceToNatClampNeg, Int32.reduceAdd, Int32.reduceSub, Int32.reduceMul, Nat.reduceLeDiff, zEL, zup_ne, zup_eq, zT0, zT1, zT2, if_true, if_false, zneq_f, true_and, and_true, false_and, and_false, zKL, eq_self, Nat.reduceEqDiff, zite0, ite_not, zaddr, zaddl, zputr, zsb1, zsb2, zsb0, zsbm, znm1, gX, gM, g168, s145_5, s145_6, s145_9, s145_12, s145_15, s145_18, s145_19, s145_22, s145_25, s145_26, s145_29, s145_32, s145_33, s145_34, s145_37, s145_38, s145_39, s145_42, s145_45, a0, ho1, h2]
    · rw [if_neg h1] at h ho1
      rw [← ih (p + 1) b (by omega) h]
      simp (config := {maxSteps := 1000000}) (disch := omega) only [↓reduceIte, Int32.reduceLT, Int32.reduceLE, Int32.reduceToNatClampNeg, Int32.reduceAdd, Int32.reduceSub, Int32.reduceMul, Nat.reduceLeDiff, zEL, zup_ne, zup_eq, zT0, zT1, zT2, if_true, if_false, zneq_f, true_and, and_true, false_and, and_false, zKL, eq_self, Nat.reduceEqDiff, zite0, ite_not, zaddr, zaddl, zputr, zsb1, zsb2, zsb0, zsbm, znm1, gX, gM, g168, s145_5, s145_6, s145_9, s145_12, s145_15, s145_18, s145_19, s145_22, s145_25, s145_26, s145_29, s145_32, s145_33, s145_34, s145_37, s145_38, s145_39, s145_42, s145_45, a0, ho1]
theorem t145b {n : Nat} {o : Nat → Bool} {i : Int32} (hn : n ≤ 8) (a0 : S 12 7 = nI n) (ho : ∀ p, p < n → S 176 p = if o p = true then 1 else 0) : ∀ q p b, p + q = n → zlf o i q p b = none → ∃ ls, ls.length = 4 ∧ ztoP 48 145 4 [.ref 0, .int i, .int (nI b), .int (nI p)] [] zRc S L (ls, [], zRc, S, L) := by
  have head : ∀ p b r, ztoP 48 145 15 [.ref 0, .int i, .int (nI b), .int (nI p)] [.int (nI n), .int (nI p)] zRc S L r → ztoP 48 145 4 [.ref 0, .int i, .int (nI b), .int (nI p)] [] zRc S L r := fun p b r h => by
    refine ztoP_step (pc' := 5) (by decide) (by decide +kernel : zfetch 145 4 = some (.iload_n 3, 1)) rfl rfl ?_
    refine ztoP_step (pc' := 6) (by decide) (by decide +kernel : zfetch 145 5 = some (.aload_n 0, 1)) rfl rfl ?_
    refine ztoP_getfield (by decide) (by decide +kernel : zfetch 145 6 = some (.getfield 19, 3)) (by decide +kernel : zfld (zown 145) 19 = some (11, 1, false)) lcf_0_1 ?_
    refine ztoP_getfield (by decide) (by decide +kernel : zfetch 145 9 = some (.getfield 139, 3)) (by decide +kernel : zfld (zown 145) 139 = some (4, 9, false)) lcf_4_9 ?_
    refine ztoP_getfield (by decide) (by decide +kernel : zfetch 145 12 = some (.getfield 143, 3)) (by decide +kernel : zfld (zown 145) 143 = some (8, 7, false)) lcf_12_7 ?_
    rw [a0]
    exact h
  intro q
  induction q with
  | zero =>
    intro p b hp _
    refine ⟨[.ref 0, .int i, .int (nI b), .int (nI p)], rfl, head p b _ ?_⟩
    have hb : zcnd .ge (nI p) (nI n) = true := decide_eq_true (by rw [znI_le (by omega) (by omega)]; omega)
    refine ztoP_br (by decide) (by decide +kernel : zfetch 145 15 = some (.if_icmp .ge 33, 3)) rfl hb ?_
    rw [if_pos rfl]
    exact ztoP_end
  | succ q ih =>
    intro p b hp h
    rw [zlf_s] at h
    have ho1 := ho p (by omega)
    have hb : zcnd .ge (nI p) (nI n) = false := decide_eq_false (by rw [znI_le (by omega) (by omega)]; omega)
    have next : ∀ b', (∃ ls : List Value, ls.length = 4 ∧ ztoP 48 145 4 [.ref 0, .int i, .int (nI b'), .int (nI (p + 1))] [] zRc S L (ls, [], zRc, S, L)) → ∃ ls : List Value, ls.length = 4 ∧ ztoP 48 145 42 [.ref 0, .int i, .int (nI b'), .int (nI p)] [] zRc S L (ls, [], zRc, S, L) := fun b' ⟨ls, h1, h2⟩ => by
      refine ⟨ls, h1, ?_⟩
      refine ztoP_step (pc' := 45) (ls' := [.ref 0, .int i, .int (nI b'), .int (nI (p + 1))]) (st' := []) (R' := zRc) (S' := S) (L' := L) (by decide) (by decide +kernel : zfetch 145 42 = some (.iinc 3 1, 3)) rfl (by rw [← znI_s]; rfl) ?_
      exact ztoP_step (pc' := 4) (by decide) (by decide +kernel : zfetch 145 45 = some (.goto (-41), 3)) rfl rfl h2
    have at29 : ∀ ls : List Value, ztoP 48 145 29 [.ref 0, .int i, .int (nI b), .int (nI p)] [.int (S 176 p)] zRc S L (ls, [], zRc, S, L) → ztoP 48 145 4 [.ref 0, .int i, .int (nI b), .int (nI p)] [] zRc S L (ls, [], zRc, S, L) := fun ls h2 => by
      refine head p b _ ?_
      refine ztoP_br (by decide) (by decide +kernel : zfetch 145 15 = some (.if_icmp .ge 33, 3)) rfl hb ?_
      rw [if_neg (by decide)]
      refine ztoP_step (pc' := 19) (by decide) (by decide +kernel : zfetch 145 18 = some (.aload_n 0, 1)) rfl rfl ?_
      refine ztoP_getfield (by decide) (by decide +kernel : zfetch 145 19 = some (.getfield 40, 3)) (by decide +kernel : zfld (zown 145) 40 = some (11, 4, false)) lcf_0_4 ?_
      refine ztoP_getfield (by decide) (by decide +kernel : zfetch 145 22 = some (.getfield 193, 3)) (by decide +kernel : zfld (zown 145) 193 = some (2, 4, false)) lcf_168_4 ?_
      refine ztoP_step (pc' := 26) (by decide) (by decide +kernel : zfetch 145 25 = some (.iload_n 3, 1)) rfl rfl ?_
      have hc : zcall 69 [.ref 175, .int (nI p)] zRc S L = some (some (.int (S 176 p)), zRc, S, L) := by rw [ra_175, zrd_lt (by omega) (by decide)]
      refine ztoP_call (k := 0) (t := 69) (na := 2) (as := [.ref 175, .int (nI p)]) (rest := []) (by decide) (by decide +kernel : zfetch 145 26 = some (.invokevirtual 129, 3)) (by decide +kernel : zcl 145 (.invokevirtual 129) = some (0, 69)) (by decide +kernel) rfl rfl ?_ hc h2
      rw [zmay0 (la := 2) (na := 2) (rs := 0) (c := 6) (by decide +kernel : zmayN 145 69 2 2 0 = true) rfl rfl rfl (by decide +kernel)]
      exact lcc_175
    by_cases h1 : o p = true
    · rw [if_pos h1] at h ho1
      by_cases h2 : nI b = i
      · rw [if_pos h2] at h
        cases h
      · rw [if_neg h2] at h
        obtain ⟨ls, l1, l2⟩ := next (b + 1) (ih (p + 1) (b + 1) (by omega) h)
        refine ⟨ls, l1, at29 ls ?_⟩
        rw [ho1]
        refine ztoP_br0 (b := false) (by decide) (by decide +kernel : zfetch 145 29 = some (.ifCond .eq 13, 3)) rfl (by decide) ?_
        rw [if_neg (by decide)]
        refine ztoP_step (pc' := 33) (by decide) (by decide +kernel : zfetch 145 32 = some (.iload_n 2, 1)) rfl rfl ?_
        refine ztoP_step (pc' := 34) (by decide) (by decide +kernel : zfetch 145 33 = some (.iload_n 1, 1)) rfl rfl ?_
        refine ztoP_br (b := true) (by decide) (by decide +kernel : zfetch 145 34 = some (.if_icmp .ne 5, 3)) rfl (decide_eq_true h2) ?_
        rw [if_pos rfl]
        exact ztoP_step (pc' := 42) (ls' := [.ref 0, .int i, .int (nI (b + 1)), .int (nI p)]) (st' := []) (R' := zRc) (S' := S) (L' := L) (by decide) (by decide +kernel : zfetch 145 39 = some (.iinc 2 1, 3)) rfl (by rw [← znI_s]; rfl) l2
    · rw [if_neg h1] at h ho1
      obtain ⟨ls, l1, l2⟩ := next b (ih (p + 1) b (by omega) h)
      refine ⟨ls, l1, at29 ls ?_⟩
      rw [ho1]
      refine ztoP_br0 (b := true) (by decide) (by decide +kernel : zfetch 145 29 = some (.ifCond .eq 13, 3)) rfl (by decide) ?_
      rw [if_pos rfl]
      exact l2
/-- of the reference -/
theorem t289 {n : Nat} {o : Nat → Bool} {i : Int32} (hn : n ≤ 8) (m0 : Sm 11 8 = nI n) (ho : ∀ p, p < n → Sm 2 (33 + p) = if o p = true then 1 else 0) : ∀ q p b, p + q = n → zgo 289 9 [.ref 0, .int i, .int (nI b), .int (nI p)] [] (zRm1 rd) Sm Lm = match zlf o i q p b with
    | some w => some (some (.int (nI w)), zRm1 rd, Sm, Lm)
    | none => some (some (.int 0), zRm1 rd, zup Sm 0 0 1, Lm) := by
  intro q
  induction q with
  | zero =>
    intro p b hp
    have e : p = n := by omega
    subst e
    show _ = some (some (Value.int 0), zRm1 rd, zup Sm 0 0 1, Lm)
    rw [s289_9]
    simp (config := {maxSteps := 1000000}) (disch := omega) only [↓reduceIte, Int32.reduceLT, Int32.reduceLE, Int32.reduceToNatClampNeg, Int32.reduceAdd, Int32.reduceSub, Int32.reduceMul, Nat.reduceLeDiff, zEL, zup_ne, zup_eq, zT0, zT1, zT2, if_true, if_false, zneq_f, true_and, and_true, false_and, and_false, zKL, eq_self, Nat.reduceEqDiff, zite0, ite_not, zaddr, zaddl, zputr, zsb1, zsb2, zsb0, zsbm, znm1, layM1, s289_10, s289_13, s289_13N, s289_16, s289_17, s289_18, s289_21, s289_24, s289_27, s289_28, s289_29, s289_32, s289_35, s289_38, s289_39, s289_40, s289_43, s289_44, s289_45, s289_48, s289_51, s289_54, s289_55, s289_56, s289_59, s289_60, m0]
  | succ q ih =>
    intro p b hp
    have ho1 := ho p (by omega)
    have kt := t214 (Sm := Sm) (Lm := Lm) (rd := rd) (p := p) (by omega)
    rw [zlf_s, s289_9]
    by_cases h1 : o p = true
    · rw [if_pos h1] at ho1
      rw [if_pos h1]
      by_cases h2 : nI b = i
      · rw [if_pos h2]
        show _ = some (some (Value.int (nI p)), zRm1 rd, Sm, Lm)
        have h2 := eq_true h2
        simp (config := {maxSteps := 1000000}) (disch := omega) only [↓reduceIte, Int32.reduceLT, Int32.reduceLE, Int32.reduceToNatClampNeg, Int32.reduceAdd, Int32.reduceSub, Int32.reduceMul, Nat.reduceLeDiff, zEL, zup_ne, zup_eq, zT0, zT1, zT2, if_true, if_false, zneq_f, true_and, and_true, false_and, and_false, zKL, eq_self, Nat.reduceEqDiff, zite0, ite_not, zaddr, zaddl, zputr, zsb1, zsb2, zsb0, zsbm, znm1, layM1, s289_10, s289_13, s289_13N, s289_16, s289_17, s289_18, s289_21, s289_24, s289_27, s289_28, s289_29, s289_32, s289_35, s289_38, s289_39, s289_40, s289_43, s289_44, s289_45, s289_48, s289_51, s289_54, s289_55, s289_56, s289_59, s289_60, m0, kt, ho1, h2]
      · rw [if_neg h2, ← ih (p + 1) (b + 1) (by omega)]
        have h2 := eq_false h2
        simp (config := {maxSteps := 1000000}) (disch := omega) only [↓reduceIte, Int32.reduceLT, Int32.reduceLE, Int32.reduceToNatClampNeg, Int32.reduceAdd, Int32.reduceSub, Int32.reduceMul, Nat.reduceLeDiff, zEL, zup_ne, zup_eq, zT0, zT1, zT2, if_true, if_false, zneq_f, true_and, and_true, false_and, and_false, zKL, eq_self, Nat.reduceEqDiff, zite0, ite_not, zaddr, zaddl, zputr, zsb1, zsb2, zsb0, zsbm, znm1, layM1, s289_10, s289_13, s289_13N, s289_16, s289_17, s289_18, s289_21, s289_24, s289_27, s289_28, s289_29, s289_32, s289_35, s289_38, s289_39, s289_40, s289_43, s289_44, s289_45, s289_48, s289_51, s289_54, s289_55, s289_56, s289_59, s289_60, m0, kt, ho1, h2]
    · rw [if_neg h1] at ho1
      rw [if_neg h1, ← ih (p + 1) b (by omega)]
      simp (config := {maxSteps := 1000000}) (disch := omega) only [↓reduceIte, Int32.reduceLT, Int32.reduceLE, Int32.reduceToNatClampNeg, Int32.reduceAdd, Int32.reduceSub, Int32.reduceMul, Nat.reduceLeDiff, zEL, zup_ne, zup_eq, zT0, zT1, zT2, if_true, if_false, zneq_f, true_and, and_true, false_and, and_false, zKL, eq_self, Nat.reduceEqDiff, zite0, ite_not, zaddr, zaddl, zputr, zsb1, zsb2, zsb0, zsbm, znm1, layM1, s289_10, s289_13, s289_13N, s289_16, s289_17, s289_18, s289_21, s289_24, s289_27, s289_28, s289_29, s289_32, s289_35, s289_38, s289_39, s289_40, s289_43, s289_44, s289_45, s289_48, s289_51, s289_54, s289_55, s289_56, s289_59, s289_60, m0, kt, ho1]
/-- led, where one is told: found, or thrown -/
theorem m_145 {i : Int32} (h : zTM c S Sm) : (∃ w, zcall 145 [.ref 0, .int i] zRc S L = some (some (.int w), zRc, S, L) ∧ ∃ Sm', zcall 289 [.ref 0, .int i] (zRm1 rd) Sm Lm = some (some (.int w), zRm1 rd, Sm', Lm) ∧ Sm' 0 0 = 0 ∧ zTM c S Sm') ∨ ((∃ ls, ls.length = 4 ∧ ztoP 48 145 0 (zentry 145 [.ref 0, .int i]) [] zRc S L (ls, [], zRc, S, L)) ∧ ∃ Sm', zcall 289 [.ref 0, .int i] (zRm1 rd) Sm Lm = some (some (.int 0), zRm1 rd, Sm', Lm) ∧ Sm' 0 0 = 1 ∧ zTM c S Sm') := by
  have hM := h.2.2.1
  have hG := h.2.2.2.1
  have b0 : c 0 ≤ 8 := hM.1.2.1
  obtain ⟨o, ho⟩ : ∃ o : Nat → Bool, ∀ p, o p = decide (Sm 2 (33 + p) = 1) := ⟨_, fun _ => rfl⟩
  have oM : ∀ p, p < c 0 → Sm 2 (33 + p) = if o p = true then 1 else 0 := fun p hp => by
    obtain ⟨-, -, -, -, -, -, ⟨x, hx, ex⟩⟩ := hG.1 p hp
    have ex : Sm 2 (33 + p) = nI x := ex
    rw [ho, ex]
    rcases (show x = 0 ∨ x = 1 by omega) with rfl | rfl <;> decide
  have oC : ∀ p, p < c 0 → S 176 p = if o p = true then 1 else 0 := fun p hp => (hG.1 p hp).2.2.2.1.trans (oM p hp)
  obtain ⟨X, hX⟩ : ∃ X, X = zup Sm 0 0 0 := ⟨_, rfl⟩
  have oX : ∀ p, p < c 0 → X 2 (33 + p) = if o p = true then 1 else 0 := fun p hp => by rw [hX, zup_ne (by omega)]; exact oM p hp
  have m0 : X 11 8 = nI (c 0) := by rw [hX, zup_ne (by omega)]; exact hM.2.2.1.1
  have kM := t289 (Sm := X) (Lm := Lm) (rd := rd) (i := i) b0 m0 oX (c 0) 0 0 (Nat.zero_add _)
  have kM : zgo 289 9 [.ref 0, .int i, .int 0, .int 0] [] (zRm1 rd) X Lm = _ := kM
  have sM : zcall 289 [.ref 0, .int i] (zRm1 rd) Sm Lm = zgo 289 9 [.ref 0, .int i, .int 0, .int 0] [] (zRm1 rd) X Lm := by
    unfold zcall
    simp (config := {maxSteps := 1000000}) (disch := omega) only [↓reduceIte, Int32.reduceLT, Int32.reduceLE, Int32.reduceToNatClampNeg, Int32.reduceAdd, Int32.reduceSub, Int32.reduceMul, Nat.reduceLeDiff, zEL, zup_ne, zup_eq, zT0, zT1, zT2, if_true, if_false, layM1, tEM1, ze_289, s289_0, s289_1, s289_2, s289_5, s289_6, s289_7, s289_8, ← hX]
  rw [kM] at sM
  cases e : zlf o i (c 0) 0 0 with
  | some w =>
    left
    rw [e] at sM
    have k := t145a (L := L) b0 hM.2.1.1 oC (c 0) 0 0 (Nat.zero_add _) e
    have k : zgo 145 4 [.ref 0, .int i, .int 0, .int 0] [] zRc S L = _ := k
    refine ⟨nI w, ?_, X, sM, by rw [hX]; exact zup_eq rfl rfl, by rw [hX]; exact zTM_t h⟩
    unfold zcall
    simp (config := {maxSteps := 1000000}) (disch := omega) only [↓reduceIte, Int32.reduceLT, Int32.reduceLE, Int32.reduceToNatClampNeg, Int32.reduceAdd, Int32.reduceSub, Int32.reduceMul, Nat.reduceLeDiff, zEL, zup_ne, zup_eq, zT0, zT1, zT2, if_true, if_false, ze_145, s145_0, s145_1, s145_2, s145_3]
    exact k
  | none =>
    right
    rw [e] at sM
    obtain ⟨ls, l1, l2⟩ := t145b (L := L) b0 hM.2.1.1 oC (c 0) 0 0 (Nat.zero_add _) e
    have e2 : zup X 0 0 1 = zup Sm 0 0 1 := by
      rw [hX]
      funext j k
      unfold zup
      split <;> rfl
    refine ⟨⟨ls, l1, ?_⟩, zup X 0 0 1, sM, zup_eq rfl rfl, by rw [e2]; exact zTM_t h⟩
    have e1 : zentry 145 [.ref 0, .int i] = [.ref 0, .int i, .retAddr 0, .retAddr 0] := by rw [ze_145]
    rw [e1]
    refine ztoP_step (pc' := 1) (by decide) (by decide +kernel : zfetch 145 0 = some (.iconst 0, 1)) rfl rfl ?_
    refine ztoP_step (pc' := 2) (by decide) (by decide +kernel : zfetch 145 1 = some (.istore_n 2, 1)) rfl rfl ?_
    refine ztoP_step (pc' := 3) (by decide) (by decide +kernel : zfetch 145 2 = some (.iconst 0, 1)) rfl rfl ?_
    exact ztoP_step (pc' := 4) (by decide) (by decide +kernel : zfetch 145 3 = some (.istore_n 3, 1)) rfl rfl l2
/-- led, where none is told -/
theorem u_145 {i : Int32} (h : zTU S Sm) : (∃ ls, ls.length = 4 ∧ ztoP 48 145 0 (zentry 145 [.ref 0, .int i]) [] zRc S L (ls, [], zRc, S, L)) ∧ ∃ Sm', zcall 289 [.ref 0, .int i] (zRm0 rd) Sm Lm = some (some (.int 0), zRm0 rd, Sm', Lm) ∧ Sm' 0 0 = 1 ∧ zTU S Sm' := by
  obtain ⟨ls, l1, l2⟩ := t145b (L := L) (n := 0) (o := fun _ => false) (i := i) (by decide) h.2.2.1.1 (fun p hp => absurd hp (Nat.not_lt_zero p)) 0 0 0 rfl rfl
  have e2 : zup (zup Sm 0 0 0) 0 0 1 = zup Sm 0 0 1 := by
    funext j k
    unfold zup
    split <;> rfl
  refine ⟨⟨ls, l1, ?_⟩, zup Sm 0 0 1, ?_, zup_eq rfl rfl, zTU_t h⟩
  · have e1 : zentry 145 [.ref 0, .int i] = [.ref 0, .int i, .retAddr 0, .retAddr 0] := by rw [ze_145]
    rw [e1]
    refine ztoP_step (pc' := 1) (by decide) (by decide +kernel : zfetch 145 0 = some (.iconst 0, 1)) rfl rfl ?_
    refine ztoP_step (pc' := 2) (by decide) (by decide +kernel : zfetch 145 1 = some (.istore_n 2, 1)) rfl rfl ?_
    refine ztoP_step (pc' := 3) (by decide) (by decide +kernel : zfetch 145 2 = some (.iconst 0, 1)) rfl rfl ?_
    exact ztoP_step (pc' := 4) (by decide) (by decide +kernel : zfetch 145 3 = some (.istore_n 3, 1)) rfl rfl l2
  · unfold zcall
    simp (config := {maxSteps := 1000000}) (disch := omega) only [↓reduceIte, Int32.reduceLT, Int32.reduceLE, Int32.reduceToNatClampNeg, Int32.reduceAdd, Int32.reduceSub, Int32.reduceMul, Nat.reduceLeDiff, zEL, zup_ne, zup_eq, zT0, zT1, zT2, if_true, if_false, layM0, tEM0, ze_289, s289_0, s289_1, s289_2, s289_5, s289_6, s289_7, s289_8, s289_9, s289_10, s289_13, s289_13N, s289_16, s289_17, s289_18, s289_21, s289_24, s289_27, s289_28, s289_29, s289_32, s289_35, s289_38, s289_39, s289_40, s289_43, s289_44, s289_45, s289_48, s289_51, s289_54, s289_55, s289_56, s289_59, s289_60]
    all_goals (rw [e2])
end ZLD
