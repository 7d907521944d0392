section ZN
variable {p : Program} {l : Launch} {e : Env} {Rm : Room} {s : State} {m : MethodId} {args : Array Value} {below : List Frame} {meth : Method} {c : Code} {Q : State → Prop} {D : va_G} {A : Nat → Prop} {ad0 adV : Nat → Nat} {r0 z0 nL : Nat}
variable {pc pc' len n mi : Nat} {ls st ls' st' : List Value} {R R' : List zE} {S S' : zS} {L L' : zL} {q : zM} {ins : Instr}
theorem zcst_w {own ix : Nat} {v : Value} (h : zcst own ix = some v) (hr : ∀ r, v ≠ .ref r) : zwdK (own, ix, v) ∈ zUW := by
  unfold zcst at h
  split at h
  · rename_i e9 he
    have h1 := List.mem_of_find?_eq_some he
    have h2 := List.find?_some he
    simp only [Bool.and_eq_true, beq_iff_eq] at h2
    obtain ⟨a, b, w⟩ := e9
    cases h
    obtain ⟨rfl, rfl⟩ := h2
    rcases List.mem_append.mp (show _ ∈ zktA ++ zktS from h1) with h3 | h3
    · exact zktA_in _ h3
    · exfalso
      have : zktS.all (fun e => match e.2.2 with
        | .ref _ => true
        | _ => false) = true := by decide +kernel
      have := List.all_eq_true.mp this _ h3
      dsimp only at this
      split at this
      · exact hr _ rfl
      · cases this
  · cases h
theorem zktS_all : ((List.range zktS.length).all fun j => match zktS[j]?, zstr[j]? with
    | some e, some q => decide (e.2.2 = .ref (1000000 + j)) && decide (q.1 = e.1) && decide (q.2.1 = e.2.1)
    | _, _ => false) = true := by decide +kernel
theorem zktA_all : zktA.all (fun e => match e.2.2 with
    | .ref _ => false
    | _ => true) = true := by decide +kernel
theorem zcst_s {own ix r : Nat} (h : zcst own ix = some (.ref r)) : ∃ (i : Nat) (q : Nat × Nat × String × List Int32), r = 1000000 + i ∧ zstr[i]? = some q ∧ q.1 = own ∧ q.2.1 = ix := by
  unfold zcst at h
  split at h
  · rename_i e9 he
    have h1 := List.mem_of_find?_eq_some he
    have h2 := List.find?_some he
    simp only [Bool.and_eq_true, beq_iff_eq] at h2
    obtain ⟨a, b, w⟩ := e9
    cases h
    obtain ⟨rfl, rfl⟩ := h2
    rcases List.mem_append.mp (show _ ∈ zktA ++ zktS from h1) with h3 | h3
    · have := List.all_eq_true.mp zktA_all _ h3
      cases this
    · obtain ⟨j, hj⟩ := List.getElem?_of_mem h3
      have := List.all_eq_true.mp zktS_all j (List.mem_range.mpr (List.getElem?_eq_some_iff.mp hj).1)
      rw [hj] at this
      split at this
      · rename_i e q he hq
        cases he
        simp only [Bool.and_eq_true, decide_eq_true_eq] at this
        have h6 := this.1.1
        injection h6 with h6
        exact ⟨j, q, h6, hq, this.1.2, this.2⟩
      · cases this
  · cases h
set_option maxHeartbeats 4000000 in
theorem zsim (C : zCx mi p l Rm s m args meth c A ad0 adV nL q) (hI : zinv R ls st) (hdg : decode q.2.1 pc = .ok (ins, len)) (hlen : zilen ins len = true) (hs : zstep mi ins len pc ls st R S L = some (pc', ls', st', R', S', L')) (hc : R'.length ≤ Rm.cells + r0) (hz : zsz R' ≤ Rm.slots + z0) (kk : zGo p l e Rm s m args below meth c Q D A ad0 r0 z0 nL pc' ls' st' R' S' L') : zGo p l e Rm s m args below meth c Q D A ad0 r0 z0 nL pc ls st R S L := by
  obtain ⟨-, hm1, hm2⟩ := zstep_good _ hs hI
  dsimp only at hm1 hm2
  have hc0 : R.length ≤ Rm.cells + r0 := Nat.le_trans hm1 hc
  have hz0 : zsz R ≤ Rm.slots + z0 := Nat.le_trans hm2 hz
  have C' := C
  obtain ⟨hq, hx, hb, hml, hown, hts, hN, hini, hA, hX, hfr, hlo, hr, hlocks⟩ := C'
  unfold zstep at hs
  split at hs
  · have h2 : len = 2 := by simpa [zilen] using hlen
    subst h2
    refine zld_sim hs (fun v H locs cells slots lsM ad hf hl kk => ?_) (fun _ => rfl) kk
    cases v <;> simp only [zisR, Bool.false_eq_true] at hf
    · exact lv_aloadN hx hb hdg hl kk
    · exact lv_aload hx hb hdg hl kk
  · have h2 : len = 1 := by simpa [zilen] using hlen
    subst h2
    refine zld_sim hs (fun v H locs cells slots lsM ad hf hl kk => ?_) (fun _ => rfl) kk
    cases v <;> simp only [zisR, Bool.false_eq_true] at hf
    · exact lv_aload_nN hx hb hdg rfl hl kk
    · exact lv_aload_n hx hb hdg rfl hl kk
  · have h2 : len = 2 := by simpa [zilen] using hlen
    subst h2
    refine zld_sim hs (fun v H locs cells slots lsM ad hf hl kk => ?_) (fun _ => rfl) kk
    cases v <;> simp only [zisI, Bool.false_eq_true] at hf
    · exact lv_iload hx hb hdg hl kk
  · have h2 : len = 1 := by simpa [zilen] using hlen
    subst h2
    refine zld_sim hs (fun v H locs cells slots lsM ad hf hl kk => ?_) (fun _ => rfl) kk
    cases v <;> simp only [zisI, Bool.false_eq_true] at hf
    · exact lv_iload_n hx hb hdg rfl hl kk
  · have h2 : len = 2 := by simpa [zilen] using hlen
    subst h2
    refine zld_sim hs (fun v H locs cells slots lsM ad hf hl kk => ?_) (fun _ => rfl) kk
    cases v <;> simp only [zisL, Bool.false_eq_true] at hf
    · exact lv_lload hx hb hdg hl kk
  · have h2 : len = 1 := by simpa [zilen] using hlen
    subst h2
    refine zld_sim hs (fun v H locs cells slots lsM ad hf hl kk => ?_) (fun _ => rfl) kk
    cases v <;> simp only [zisL, Bool.false_eq_true] at hf
    · exact lv_lload_n hx hb hdg rfl hl kk
  · have h2 : len = 2 := by simpa [zilen] using hlen
    subst h2
    refine zsto_sim hs (fun v H locs cells slots lsM ad rest hf hl hn kk => ?_) kk
    cases v <;> simp only [zisR, Bool.false_eq_true] at hf
    · exact lv_astoreN hx hb hdg hl hn rfl kk
    · exact lv_astore hx hb hdg hl hn rfl kk
  · have h2 : len = 1 := by simpa [zilen] using hlen
    subst h2
    refine zsto_sim hs (fun v H locs cells slots lsM ad rest hf hl hn kk => ?_) kk
    cases v <;> simp only [zisR, Bool.false_eq_true] at hf
    · exact lv_astore_nN hx hb hdg rfl hl hn rfl kk
    · exact lv_astore_n hx hb hdg rfl hl hn rfl kk
  · have h2 : len = 2 := by simpa [zilen] using hlen
    subst h2
    refine zsto_sim hs (fun v H locs cells slots lsM ad rest hf hl hn kk => ?_) kk
    cases v <;> simp only [zisI, Bool.false_eq_true] at hf
    · exact lv_istore hx hb hdg hl hn rfl kk
  · have h2 : len = 1 := by simpa [zilen] using hlen
    subst h2
    refine zsto_sim hs (fun v H locs cells slots lsM ad rest hf hl hn kk => ?_) kk
    cases v <;> simp only [zisI, Bool.false_eq_true] at hf
    · exact lv_istore_n hx hb hdg rfl hl hn rfl kk
  · have h2 : len = 2 := by simpa [zilen] using hlen
    subst h2
    exact zstoL_sim hs (fun x H locs cells slots lsM rest hl hn kk => lv_lstore hx hb hdg hl hn rfl kk) kk
  · have h2 : len = 1 := by simpa [zilen] using hlen
    subst h2
    exact zstoL_sim hs (fun x H locs cells slots lsM rest hl hn kk => lv_lstore_n hx hb hdg rfl hl hn rfl kk) kk
  -- iinc
  · have h2 : len = 3 := by simpa [zilen] using hlen
    subst h2
    split at hs
    · rename_i i k _ x hi
      cases hs
      intro H locs cells slots lsM ad tys ws I
      obtain ⟨h1, h2, h3, h4, h5, h6, h7, h8, h9⟩ := I
      have hil : i < nL := by rw [← h9.2.2.1]; exact (List.getElem?_eq_some_iff.mp hi).1
      have hxl := h9.at hi (fun k h => by cases h)
      have hh : lv_has lsM nL ((i, .int x) :: zall lsM) := ⟨h9.1, h9.2.1, fun y hy => by
        rcases List.mem_cons.mp hy with rfl | hy
        · exact hxl
        · exact zall_mem.mp hy⟩
      refine lv_iinc (k := 0) hx hb hdg hh rfl rfl hil rfl (fun ls1 hl1 => ?_)
      refine kk H locs cells slots ls1 ad tys ws ⟨h1, h2, h3, h4, h5, h6, h7, h8, h9.st1 (w := .int (x + Int32.ofInt k)) ?_⟩
      simp only [List.filter_cons, beq_self_eq_true, Bool.not_true, Bool.false_and, Bool.false_eq_true, if_false] at hl1
      exact hl1
    · cases hs
  -- constants
  · have h2 : len = 1 := by simpa [zilen] using hlen
    subst h2; cases hs
    exact fun H locs cells slots lsM ad tys ws I => lv_iconst hx hb hdg rfl (kk H locs cells slots lsM ad tys ws I)
  · have h2 : len = 1 := by simpa [zilen] using hlen
    subst h2; cases hs
    exact fun H locs cells slots lsM ad tys ws I => lv_lconst hx hb hdg rfl (kk H locs cells slots lsM ad tys ws I)
  · have h2 : len = 2 := by simpa [zilen] using hlen
    subst h2; cases hs
    exact fun H locs cells slots lsM ad tys ws I => lv_bipush hx hb hdg rfl (kk H locs cells slots lsM ad tys ws I)
  · have h2 : len = 3 := by simpa [zilen] using hlen
    subst h2; cases hs
    exact fun H locs cells slots lsM ad tys ws I => lv_sipush hx hb hdg rfl (kk H locs cells slots lsM ad tys ws I)
  -- ldc
  · have h2 : len = 2 := by simpa [zilen] using hlen
    subst h2
    split at hs
    · rename_i hk
      cases hs
      exact fun H locs cells slots lsM ad tys ws I => lv_ldc hx hb hown (hts _ (zcst_w hk (fun r h => by cases h))) hdg (kk H locs cells slots lsM ad tys ws I)
    · rename_i hk
      cases hs
      intro H locs cells slots lsM ad tys ws I
      obtain ⟨i, qs, rfl, hi, e1, rfl⟩ := zcst_s hk
      have h1 := (hX.1 i qs hi).1
      have had : ad (1000000 + i) = ad0 (1000000 + i) := I.2.2.1 _ (Or.inr (by omega))
      have kk := kk H locs cells slots lsM ad tys ws I
      rw [List.map_cons, show zv ad (.ref (1000000 + i)) = .ref (ad0 (1000000 + i)) by simp [zv, had]] at kk
      rw [e1] at h1
      exact va_ldcS hx hb hown h1 hdg kk
    · cases hs
  · have h2 : len = 3 := by simpa [zilen] using hlen
    subst h2
    split at hs
    · rename_i hk
      cases hs
      exact fun H locs cells slots lsM ad tys ws I => lv_ldcw hx hb hown (hts _ (zcst_w hk (fun r h => by cases h))) hdg (kk H locs cells slots lsM ad tys ws I)
    · rename_i hk
      cases hs
      intro H locs cells slots lsM ad tys ws I
      obtain ⟨i, qs, rfl, hi, e1, rfl⟩ := zcst_s hk
      have h1 := (hX.1 i qs hi).1
      have had : ad (1000000 + i) = ad0 (1000000 + i) := I.2.2.1 _ (Or.inr (by omega))
      have kk := kk H locs cells slots lsM ad tys ws I
      rw [List.map_cons, show zv ad (.ref (1000000 + i)) = .ref (ad0 (1000000 + i)) by simp [zv, had]] at kk
      rw [e1] at h1
      exact zldcS hx hb hown h1 hdg kk
    · cases hs
  · have h2 : len = 3 := by simpa [zilen] using hlen
    subst h2
    split at hs
    · rename_i hk
      cases hs
      exact fun H locs cells slots lsM ad tys ws I => lv_ldc2 hx hb hown (hts _ (zcst_w hk (fun r h => by cases h))) hdg (kk H locs cells slots lsM ad tys ws I)
    · cases hs
  -- dup, dup2, pop
  · have h2 : len = 1 := by simpa [zilen] using hlen
    subst h2
    split at hs
    · split at hs
      · rename_i h; cases hs
        exact fun H locs cells slots lsM ad tys ws I => lv_dup hx hb hdg (by rw [zv_cat]; exact h) (kk H locs cells slots lsM ad tys ws I)
      · cases hs
    · cases hs
  · have h2 : len = 1 := by simpa [zilen] using hlen
    subst h2
    split at hs
    · split at hs
      · rename_i h; cases hs
        exact fun H locs cells slots lsM ad tys ws I => lv_dup2_11 hx hb hdg (by rw [zv_cat]; exact h.1) (by rw [zv_cat]; exact h.2) (kk H locs cells slots lsM ad tys ws I)
      · cases hs
    · cases hs
  · have h2 : len = 1 := by simpa [zilen] using hlen
    subst h2
    split at hs
    · split at hs
      · rename_i h; cases hs
        exact fun H locs cells slots lsM ad tys ws I => lv_pop hx hb hdg (by rw [zv_cat]; exact h) (kk H locs cells slots lsM ad tys ws I)
      · cases hs
    · cases hs
  · have h2 : len = 1 := by simpa [zilen] using hlen
    subst h2
    exact zop2_sim hs (fun x y H locs cells slots lsM rest ok kk => lv_iadd hx hb hdg kk) kk
  · have h2 : len = 1 := by simpa [zilen] using hlen
    subst h2
    exact zop2_sim hs (fun x y H locs cells slots lsM rest ok kk => lv_isub hx hb hdg kk) kk
  · have h2 : len = 1 := by simpa [zilen] using hlen
    subst h2
    exact zop2_sim hs (fun x y H locs cells slots lsM rest ok kk => lv_imul hx hb hdg kk) kk
  · have h2 : len = 1 := by simpa [zilen] using hlen
    subst h2
    exact zop2_sim hs (fun x y H locs cells slots lsM rest ok kk => lv_idiv hx hb hdg (by simpa using ok) kk) kk
  · have h2 : len = 1 := by simpa [zilen] using hlen
    subst h2
    exact zop2_sim hs (fun x y H locs cells slots lsM rest ok kk => lv_irem hx hb hdg (by simpa using ok) kk) kk
  · have h2 : len = 1 := by simpa [zilen] using hlen
    subst h2
    exact zop2_sim hs (fun x y H locs cells slots lsM rest ok kk => lv_iand hx hb hdg kk) kk
  · have h2 : len = 1 := by simpa [zilen] using hlen
    subst h2
    exact zop2_sim hs (fun x y H locs cells slots lsM rest ok kk => lv_ior hx hb hdg kk) kk
  · have h2 : len = 1 := by simpa [zilen] using hlen
    subst h2
    exact zop2_sim hs (fun x y H locs cells slots lsM rest ok kk => lv_ixor hx hb hdg kk) kk
  · have h2 : len = 1 := by simpa [zilen] using hlen
    subst h2
    exact zop2_sim hs (fun x y H locs cells slots lsM rest ok kk => lv_ishl hx hb hdg kk) kk
  · have h2 : len = 1 := by simpa [zilen] using hlen
    subst h2
    exact zop2_sim hs (fun x y H locs cells slots lsM rest ok kk => lv_ishr hx hb hdg kk) kk
  · have h2 : len = 1 := by simpa [zilen] using hlen
    subst h2
    exact zop2_sim hs (fun x y H locs cells slots lsM rest ok kk => lv_iushr hx hb hdg rfl kk) kk
  · have h2 : len = 1 := by simpa [zilen] using hlen
    subst h2
    exact zop2L_sim hs (fun x y H locs cells slots lsM rest ok kk => lv_ladd hx hb hdg kk) kk
  · have h2 : len = 1 := by simpa [zilen] using hlen
    subst h2
    exact zop2L_sim hs (fun x y H locs cells slots lsM rest ok kk => lv_lsub hx hb hdg kk) kk
  · have h2 : len = 1 := by simpa [zilen] using hlen
    subst h2
    exact zop2L_sim hs (fun x y H locs cells slots lsM rest ok kk => lv_lmul hx hb hdg kk) kk
  · have h2 : len = 1 := by simpa [zilen] using hlen
    subst h2
    exact zop2L_sim hs (fun x y H locs cells slots lsM rest ok kk => lv_ldiv hx hb hdg (by simpa using ok) kk) kk
  · have h2 : len = 1 := by simpa [zilen] using hlen
    subst h2
    exact zop2L_sim hs (fun x y H locs cells slots lsM rest ok kk => lv_lrem hx hb hdg (by simpa using ok) kk) kk
  -- lcmp, i2l, l2i, i2b
  · have h2 : len = 1 := by simpa [zilen] using hlen
    subst h2
    split at hs
    · cases hs
      exact fun H locs cells slots lsM ad tys ws I => W.lcmp hx hb hdg (kk H locs cells slots lsM ad tys ws I)
    · cases hs
  · have h2 : len = 1 := by simpa [zilen] using hlen
    subst h2
    split at hs
    · cases hs
      exact fun H locs cells slots lsM ad tys ws I => lv_i2l hx hb hdg rfl (kk H locs cells slots lsM ad tys ws I)
    · cases hs
  · have h2 : len = 1 := by simpa [zilen] using hlen
    subst h2
    split at hs
    · cases hs
      exact fun H locs cells slots lsM ad tys ws I => lv_l2i hx hb hdg rfl (kk H locs cells slots lsM ad tys ws I)
    · cases hs
  · have h2 : len = 1 := by simpa [zilen] using hlen
    subst h2
    split at hs
    · cases hs
      exact fun H locs cells slots lsM ad tys ws I => lv_i2b hx hb hdg rfl (kk H locs cells slots lsM ad tys ws I)
    · cases hs
  -- branches
  · have h2 : len = 3 := by simpa [zilen] using hlen
    subst h2
    exact zbr_sim hs (fun t H locs cells slots lsM ad ht k1 k2 => lv_goto hx hb hdg ht (k1 rfl)) kk
  · have h2 : len = 3 := by simpa [zilen] using hlen
    subst h2
    split at hs
    · rename_i cnd off _ x st1
      refine zbr_sim hs (fun t H locs cells slots lsM ad ht k1 k2 => ?_) kk
      cases cnd
      · exact lv_if_eq hx hb hdg ht (fun h => k1 (by simp [zcnd, h])) (fun h => k2 (by simp [zcnd, h]))
      · exact lv_if_ne hx hb hdg ht (fun h => k1 (by simp [zcnd, h])) (fun h => k2 (by simp [zcnd, h]))
      · exact lv_if_lt hx hb hdg ht (fun h => k1 (decide_eq_true h)) (fun h => k2 (decide_eq_false h))
      · exact lv_if_ge hx hb hdg ht (fun h => k1 (decide_eq_true h)) (fun h => k2 (decide_eq_false h))
      · exact lv_if_gt hx hb hdg ht (fun h => k1 (decide_eq_true h)) (fun h => k2 (decide_eq_false h))
      · exact lv_if_le hx hb hdg ht (fun h => k1 (decide_eq_true h)) (fun h => k2 (decide_eq_false h))
    · cases hs
  · have h2 : len = 3 := by simpa [zilen] using hlen
    subst h2
    split at hs
    · rename_i cnd off _ y x st1
      refine zbr_sim hs (fun t H locs cells slots lsM ad ht k1 k2 => ?_) kk
      cases cnd
      · exact lv_icmp_eq hx hb hdg ht (fun h => k1 (decide_eq_true h)) (fun h => k2 (decide_eq_false h))
      · exact lv_icmp_ne hx hb hdg ht (fun h => k1 (decide_eq_true h)) (fun h => k2 (decide_eq_false (fun g => g h)))
      · exact lv_icmp_lt hx hb hdg ht (fun h => k1 (decide_eq_true h)) (fun h => k2 (decide_eq_false h))
      · exact lv_icmp_ge hx hb hdg ht (fun h => k1 (decide_eq_true h)) (fun h => k2 (decide_eq_false h))
      · exact lv_icmp_gt hx hb hdg ht (fun h => k1 (decide_eq_true h)) (fun h => k2 (decide_eq_false h))
      · exact lv_icmp_le hx hb hdg ht (fun h => k1 (decide_eq_true h)) (fun h => k2 (decide_eq_false h))
    · cases hs
  · have h2 : len = 3 := by simpa [zilen] using hlen
    subst h2
    split at hs
    · exact zbr_sim hs (fun t H locs cells slots lsM ad ht k1 k2 => lv_ifnull hx hb hdg (k2 rfl)) kk
    · exact zbr_sim hs (fun t H locs cells slots lsM ad ht k1 k2 => lv_ifnullN hx hb hdg ht (k1 rfl)) kk
    · cases hs
  · have h2 : len = 3 := by simpa [zilen] using hlen
    subst h2
    split at hs
    · exact zbr_sim hs (fun t H locs cells slots lsM ad ht k1 k2 => lv_ifnonnull hx hb hdg ht (k1 rfl)) kk
    · exact zbr_sim hs (fun t H locs cells slots lsM ad ht k1 k2 => lv_ifnonnullN hx hb hdg (k2 rfl)) kk
    · cases hs
  -- tableswitch
  · split at hs
    · rename_i x st1
      split at hs
      · rename_i hout
        unfold zbr at hs
        split at hs
        · rename_i t ht
          cases hs
          exact fun H locs cells slots lsM ad tys ws I => lv_tableOut hx hb hdg hout (ztg_ok ht) (kk H locs cells slots lsM ad tys ws I)
        · cases hs
      · rename_i hin
        split at hs
        · rename_i off hoff
          unfold zbr at hs
          split at hs
          · rename_i t ht
            cases hs
            exact fun H locs cells slots lsM ad tys ws I => lv_tableIn hx hb hdg (fun h => hin (Or.inl h)) (fun h => hin (Or.inr h)) hoff (ztg_ok ht) (kk H locs cells slots lsM ad tys ws I)
          · cases hs
        · cases hs
    · cases hs
  -- getfield, putfield
  · have h2 : len = 3 := by simpa [zilen] using hlen
    subst h2
    split at hs
    · rename_i hf
      split at hs
      · rename_i hg
        cases hs
        exact zget_sim hx hb hown hts hN hf hg hdg kk
      · cases hs
    · cases hs
  · have h2 : len = 3 := by simpa [zilen] using hlen
    subst h2
    split at hs
    · rename_i hf
      split at hs
      · cases hs
      · rename_i hfin
        split at hs
        · rename_i hg
          cases hs
          exact zput_sim hx hb hown hts hN hini hf hfin hg hdg kk
        · cases hs
    · cases hs
  -- arrays
  · have h2 : len = 1 := by simpa [zilen] using hlen
    subst h2
    exact zald_sim hs (fun H locs cells slots lsM rest tys ws a x n i ad u fs hK hP hu he hin kk => by obtain ⟨cA, t0, e1, rfl⟩ := he; exact va_iald hx hb hK hP a t0 hu e1 hin hdg kk) kk
  · have h2 : len = 1 := by simpa [zilen] using hlen
    subst h2
    exact zast_sim hs (fun H locs cells slots lsM rest tys ws a x n i v ad u fs hK hP hD hS hu he hin kk => by obtain ⟨cA, t0, e1, rfl⟩ := he; exact va_iast hx hb hK hP hD hS a t0 hu e1 hin hdg (fun H1 locs1 g1 g2 g3 => kk _ H1 locs1 ⟨cA, t0, e1, by rw [zup_upd]⟩ g1 g2 g3)) kk
  · have h2 : len = 1 := by simpa [zilen] using hlen
    subst h2
    split at hs
    · split at hs
      · exact zald_sim hs (fun H locs cells slots lsM rest tys ws a x n i ad u fs hK hP hu he hin kk => by obtain ⟨cA, t0, e1, rfl⟩ := he; exact va_bald hx hb hK hP a t0 hu e1 hin hdg kk) kk
      · exact zald_sim hs (fun H locs cells slots lsM rest tys ws a x n i ad u fs hK hP hu he hin kk => by obtain ⟨cA, t0, e1, rfl⟩ := he; exact va_zald hx hb hK hP a t0 hu e1 hin hdg kk) kk
    · cases hs
  · have h2 : len = 1 := by simpa [zilen] using hlen
    subst h2
    split at hs
    · split at hs
      · exact zast_sim hs (fun H locs cells slots lsM rest tys ws a x n i v ad u fs hK hP hD hS hu he hin kk => by obtain ⟨cA, t0, e1, rfl⟩ := he; exact va_bast hx hb hK hP hD hS a t0 hu e1 hin hdg (fun H1 locs1 g1 g2 g3 => kk _ H1 locs1 ⟨cA, t0, e1, by rw [zup_upd]⟩ g1 g2 g3)) kk
      · exact zast_sim hs (fun H locs cells slots lsM rest tys ws a x n i v ad u fs hK hP hD hS hu he hin kk => by obtain ⟨cA, t0, e1, rfl⟩ := he; exact va_zast hx hb hK hP hD hS a t0 hu e1 hin hdg (fun H1 locs1 g1 g2 g3 => kk _ H1 locs1 ⟨cA, t0, e1, by rw [zup_upd]⟩ g1 g2 g3)) kk
    · cases hs
  · have h2 : len = 1 := by simpa [zilen] using hlen
    subst h2
    split at hs
    · split at hs
      · rename_i hm
        split at hs
        · cases hs
        · rename_i hin
          cases hs
          intro H locs cells slots lsM ad tys ws I
          obtain ⟨fs, hR⟩ := zlen_at hm
          obtain ⟨u, hu, cA, t0, e1, rfl⟩ := I.2.2.2.1.at hR
          exact va_lald hx hb I.2.2.2.2.2.1 I.2.2.2.2.1 _ t0 hu e1 hin hdg (kk H locs cells slots lsM ad tys ws I)
      · cases hs
    · cases hs
  · have h2 : len = 1 := by simpa [zilen] using hlen
    subst h2
    split at hs
    · rename_i x i a st1
      split at hs
      · rename_i m1 hm
        split at hs
        · cases hs
        · rename_i hin
          cases hs
          intro H locs cells slots lsM ad tys ws I
          obtain ⟨h1, h2, h3, h4, h5, h6, h7, h8, h9⟩ := I
          obtain ⟨fs, hR⟩ := zlen_at hm
          obtain ⟨u, hu, cA, t0, e1, rfl⟩ := h4.at hR
          refine va_last hx hb h6 h5 h7 h8 _ t0 hu e1 hin hdg (fun H1 locs1 g1 g2 g3 => ?_)
          have := h4.upd (S' := S) (L' := zup L a i.toNatClampNeg x) (e' := (2, m1, fs)) (u' := .inl (cA, m1, .inr (.inl (vp_updL (L a) i.toNatClampNeg x)))) hR ⟨cA, t0, e1, by rw [zup_updL]⟩ (fun j hj => ⟨rfl, zup_other hj⟩)
          rw [zset_self hR] at this
          exact kk H1 locs1 cells slots lsM ad tys _ ⟨h1, h2, h3, this, g1, h6, g2, g3, h9⟩
      · cases hs
    · cases hs
  -- aaload, aastore
  · have h2 : len = 1 := by simpa [zilen] using hlen
    subst h2
    split at hs
    · split at hs
      · rename_i hR
        split at hs
        · cases hs
        · rename_i hin
          split at hs
          · rename_i hf
            cases hs
            intro H locs cells slots lsM ad tys ws I
            obtain ⟨u, hu, hln, cA, t0, e1, rfl⟩ := I.2.2.2.1.at hR
            refine va_aldq hx hb I.2.2.2.2.2.1 I.2.2.2.2.1 _ t0 hu e1 hin hdg ?_
            rw [hf]
            exact kk H locs cells slots lsM ad tys ws I
          · rename_i hf
            cases hs
            intro H locs cells slots lsM ad tys ws I
            obtain ⟨u, hu, hln, cA, t0, e1, rfl⟩ := I.2.2.2.1.at hR
            refine va_aldq hx hb I.2.2.2.2.2.1 I.2.2.2.2.1 _ t0 hu e1 hin hdg ?_
            rw [hf]
            exact kk H locs cells slots lsM ad tys ws I
          · cases hs
      · cases hs
    · cases hs
  · have h2 : len = 1 := by simpa [zilen] using hlen
    subst h2
    split at hs
    · rename_i r i a st1
      split at hs
      · rename_i m5 fs fr hR hRr
        split at hs
        · cases hs
        · rename_i hin
          cases hs
          intro H locs cells slots lsM ad tys ws I
          obtain ⟨h1, h2, h3, h4, h5, h6, h7, h8, h9⟩ := I
          obtain ⟨u, hu, hln, cA, t0, e1, rfl⟩ := h4.at hR
          obtain ⟨u2, hu2, rfl⟩ := h4.at hRr
          have hil : i.toNatClampNeg < fs.length := by rw [hln]; exact Nat.lt_of_not_le fun h => hin (Or.inr h)
          refine va_astq (r := (RX2, TX2, 14)) hx hb h6 h5 h7 h8 _ t0 _ 2 hu e1 hu2 rfl hin hdg (fun H1 locs1 g1 g2 g3 => ?_)
          have := h4.upd (S' := S) (L' := L) (e' := (5, m5, fs.set i.toNatClampNeg (.ref r))) (u' := .inl (cA, m5, .inr (.inr (.inr (.inr (va_up (fun j => zrf ad fs[j]?) i.toNatClampNeg (some (ad r)))))))) hR ⟨by simp [hln], cA, t0, e1, by
            congr 7
            funext j
            unfold va_up
            by_cases hj : j = i.toNatClampNeg
            · subst hj; simp [zrf, hil]
            · rw [if_neg hj, List.getElem?_set_ne (Ne.symm hj)]⟩ (fun j hj => ⟨rfl, rfl⟩)
          exact kk H1 locs1 cells slots lsM ad tys _ ⟨by rw [List.length_set]; exact h1, by rw [zsz_set hR (by simp [zesz])]; exact h2, h3, this, g1, h6, g2, g3, h9⟩
      · cases hs
    · cases hs
  -- arraylength
  · have h2 : len = 1 := by simpa [zilen] using hlen
    subst h2
    split at hs
    · split at hs
      · cases hs
      · rename_i tg m5 fs hne hR
        cases hs
        intro H locs cells slots lsM ad tys ws I
        obtain ⟨u, hu, he⟩ := I.2.2.2.1.at hR
        have kk := kk H locs cells slots lsM ad tys ws I
        match tg, hne, he with
        | 0, hne, he => exact absurd hR (by simpa using hne)
        | 1, hne, he => obtain ⟨cA, t0, e1, rfl⟩ := he; exact va_alen hx hb I.2.2.2.2.2.1 I.2.2.2.2.1 _ t0 hu e1 rfl hdg kk
        | 2, hne, he => obtain ⟨cA, t0, e1, rfl⟩ := he; exact va_alen hx hb I.2.2.2.2.2.1 I.2.2.2.2.1 _ t0 hu e1 rfl hdg kk
        | 3, hne, he => obtain ⟨cA, t0, e1, rfl⟩ := he; exact va_alen hx hb I.2.2.2.2.2.1 I.2.2.2.2.1 _ t0 hu e1 rfl hdg kk
        | 4, hne, he => obtain ⟨cA, t0, e1, rfl⟩ := he; exact va_alen hx hb I.2.2.2.2.2.1 I.2.2.2.2.1 _ t0 hu e1 rfl hdg kk
        | 5, hne, he => obtain ⟨hl5, cA, t0, e1, rfl⟩ := he; exact va_alen hx hb I.2.2.2.2.2.1 I.2.2.2.2.1 _ t0 hu e1 rfl hdg kk
        | _ + 6, hne, he => exact he.elim
      · cases hs
    · cases hs
  -- new, newarray, anewarray
  · have h2 : len = 3 := by simpa [zilen] using hlen
    subst h2
    split at hs
    · rename_i hn
      split at hs
      · rename_i hlt
        cases hs
        exact znew_sim hx hb hown hts hA hI hn hlt (by simpa using hc) (by rw [zsz_app] at hz; simpa [zesz] using hz) hdg kk
      · cases hs
    · cases hs
  · have h2 : len = 2 := by simpa [zilen] using hlen
    subst h2
    split at hs
    · rename_i ht
      split at hs
      · rename_i hlt
        cases hs
        refine znewa_sim hx hb hts hA hI ht hlt.1 hlt.2.1 hlt.2.2 (by simpa using hc) ?_ hdg kk
        rw [zsz_app] at hz
        refine Nat.le_trans (Nat.add_le_add_left ?_ _) hz
        unfold zesz
        rename_i ty _ _ _ _ _
        cases ty <;> simp [zatag] at ht <;> subst ht <;> simp
      · cases hs
    · cases hs
  · have h2 : len = 3 := by simpa [zilen] using hlen
    subst h2
    split at hs
    · split at hs
      · rename_i hlt
        cases hs
        exact znewq_sim hx hb hown hts hN hA hI hlt.1 hlt.2.1 hlt.2.2.1 hlt.2.2.2 (by simpa using hc) (by rw [zsz_app] at hz; simpa [zesz] using hz) hdg kk
      · cases hs
    · cases hs
  -- calls of the library
  · have h2 : len = 3 := by simpa [zilen] using hlen
    subst h2
    split at hs
    · rename_i hcl
      split at hs
      · rename_i hfl
        exact zlibI_sim C hcl hfl hdg hs kk
      · cases hs
    · cases hs
  · have h2 : len = 3 := by simpa [zilen] using hlen
    subst h2
    split at hs
    · rename_i hcl
      split at hs
      · rename_i hfl
        split at hs
        · exact zlibA_sim C hc0 hz0 hcl hfl hdg hs kk
        · exact zlibS_sim C hc0 hz0 hcl hfl hdg hs kk
      · cases hs
    · cases hs
  · have h2 : len = 3 := by simpa [zilen] using hlen
    subst h2
    split at hs
    · rename_i hcl
      split at hs
      · rename_i hfl
        split at hs
        · exact zlibL_sim C hc0 hz0 hcl hfl hdg hs kk
        · exact zlibC_sim C hc0 hz0 hcl hfl hdg hs kk
      · cases hs
    · cases hs
  · cases hs
end ZN
