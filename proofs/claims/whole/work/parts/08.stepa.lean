/-! THE JVM DOES WHAT THE SMALL MACHINE DOES: one instruction that is no call of the program's own -/
section ZSTEP
variable {p : Program} {l : Launch} {e : Env} {Rm : Room} {s : State} {m : MethodId} {args : Array Value} {below : List Frame} {meth : Method} {c : Code} {Q : State → Prop} {cc : ByteArray} {D : va_G} {A : Nat → Prop} {ad0 adV : Nat → Nat} {r0 z0 nL : Nat}
variable {pc pc' len n : Nat} {ls st ls' st' : List Value} {R R' : List zE} {S S' : zS} {L L' : zL}
theorem zldcS (hexec : p.tables.exec = Jvm.exec) (hb : c.code = cc) {H : Heap} {locs : List Loc} {cells slots : Nat} {lsM : Array Slot} {rest : List Value} {own tx : String} {index q : Nat} (hown : s.vm.findClass own = some m.cls) (hZ : vk_R own index tx q s) (hdg : decode cc pc = .ok (.ldc_w index, 3))
    (k : W p l e Rm s m args below meth c H locs cells slots Q (F0 m (pc + 3) lsM (.ref q :: rest))) : W p l e Rm s m args below meth c H locs cells slots Q (F0 m pc lsM rest) := by
  intro T hT X
  obtain ⟨t, a1, b1⟩ := k T hT X
  refine ⟨t, ?_, b1⟩
  obtain ⟨kk, cf, i, a', hk, hcf, hcp, -, hr, hev'⟩ := Cond.stringRef_spec (args := #[]) hown hZ.1
  have h9 := hZ.2.symm.trans hev'
  cases h9
  obtain ⟨k', hk', he⟩ := X.warmed.alike.2.2 _ _ hk
  have hr' : k'.resolved[index]? = some (some (.string q)) := by
    rcases X.warmed.entry hk hk' index with h | ⟨h, -⟩
    · rw [h]; exact hr
    · rw [hr] at h; cases h
  subst hb
  jvm_step X.here [hexec, hdg, ldc_w.wp_string (e := e) (s := T) (f := F0 m pc lsM rest) X.here.top hk' (by rw [he]; exact hcf) hcp hr']
  exact a1
theorem zld_sim {i : Nat} {f : Value → Bool} (hs : zld i n f ls st R S L = some (pc', ls', st', R', S', L'))
    (rule : ∀ (v : Value) (H : Heap) (locs : List Loc) (cells slots : Nat) (lsM : Array Slot) (ad : Nat → Nat), f v = true → lsM[i]? = some (.val (zv ad v)) → W p l e Rm s m args below meth c H locs cells slots Q (F0 m n lsM (zv ad v :: st.map (zv ad))) → W p l e Rm s m args below meth c H locs cells slots Q (F0 m pc lsM (st.map (zv ad))))
    (hn : ∀ k, f (.retAddr k) = false) (k : zGo p l e Rm s m args below meth c Q D A ad0 r0 z0 nL pc' ls' st' R' S' L') : zGo p l e Rm s m args below meth c Q D A ad0 r0 z0 nL pc ls st R S L := by
  intro H locs cells slots lsM ad tys ws I
  unfold zld at hs
  split at hs
  · rename_i v hv
    split at hs
    · rename_i hf
      cases hs
      exact rule v H locs cells slots lsM ad hf (I.2.2.2.2.2.2.2.2.at hv (fun k hk => by rw [hk, hn] at hf; cases hf)) (k H locs cells slots lsM ad tys ws I)
    · cases hs
  · cases hs
theorem zsto_sim {i : Nat} {f : Value → Bool} (hs : zsto i n f ls st R S L = some (pc', ls', st', R', S', L'))
    (rule : ∀ (v : Value) (H : Heap) (locs : List Loc) (cells slots : Nat) (lsM : Array Slot) (ad : Nat → Nat) (rest : List Value), f v = true → lv_has lsM nL (zall lsM) → i < nL → (∀ ls1 : Array Slot, lv_has ls1 nL ((i, zv ad v) :: (zall lsM).filter (fun q => !(q.1 == i) && !(q.1 + 1 == i && q.2.category == 2))) → W p l e Rm s m args below meth c H locs cells slots Q (F0 m n ls1 rest)) → W p l e Rm s m args below meth c H locs cells slots Q (F0 m pc lsM (zv ad v :: rest)))
    (k : zGo p l e Rm s m args below meth c Q D A ad0 r0 z0 nL pc' ls' st' R' S' L') : zGo p l e Rm s m args below meth c Q D A ad0 r0 z0 nL pc ls st R S L := by
  intro H locs cells slots lsM ad tys ws I
  obtain ⟨h1, h2, h3, h4, h5, h6, h7, h8, h9⟩ := I
  unfold zsto at hs
  split at hs
  · rename_i v st1
    split at hs
    · rename_i hf
      cases hs
      refine rule v H locs cells slots lsM ad _ hf.1 (zall_has h9) (by rw [← h9.2.2.1]; exact hf.2) (fun ls1 h => ?_)
      exact k H locs cells slots ls1 ad tys ws ⟨h1, h2, h3, h4, h5, h6, h7, h8, h9.st1 h⟩
    · cases hs
  · cases hs
theorem zstoL_sim {i : Nat} (hs : zstoL i n ls st R S L = some (pc', ls', st', R', S', L'))
    (rule : ∀ (x : Int64) (H : Heap) (locs : List Loc) (cells slots : Nat) (lsM : Array Slot) (rest : List Value), lv_has lsM nL (zall lsM) → i + 1 < nL → (∀ ls1 : Array Slot, lv_has ls1 nL ((i, Value.long x) :: (zall lsM).filter (fun q => !(q.1 == i) && (!(q.1 == i + 1) && !(q.1 + 1 == i && q.2.category == 2)))) → W p l e Rm s m args below meth c H locs cells slots Q (F0 m n ls1 rest)) → W p l e Rm s m args below meth c H locs cells slots Q (F0 m pc lsM (.long x :: rest)))
    (k : zGo p l e Rm s m args below meth c Q D A ad0 r0 z0 nL pc' ls' st' R' S' L') : zGo p l e Rm s m args below meth c Q D A ad0 r0 z0 nL pc ls st R S L := by
  intro H locs cells slots lsM ad tys ws I
  obtain ⟨h1, h2, h3, h4, h5, h6, h7, h8, h9⟩ := I
  unfold zstoL at hs
  split at hs
  · rename_i x st1
    split at hs
    · rename_i hf
      cases hs
      refine rule x H locs cells slots lsM _ (zall_has h9) (by rw [← h9.2.2.1]; exact hf) (fun ls1 h => ?_)
      exact k H locs cells slots ls1 ad tys ws ⟨h1, h2, h3, h4, h5, h6, h7, h8, h9.st2 (w := .long x) h⟩
    · cases hs
  · cases hs
theorem zop2_sim {f : Int32 → Int32 → Int32} {ok : Int32 → Bool} (hs : zop2 n f ok ls st R S L = some (pc', ls', st', R', S', L'))
    (rule : ∀ (x y : Int32) (H : Heap) (locs : List Loc) (cells slots : Nat) (lsM : Array Slot) (rest : List Value), ok y = true → W p l e Rm s m args below meth c H locs cells slots Q (F0 m n lsM (.int (f x y) :: rest)) → W p l e Rm s m args below meth c H locs cells slots Q (F0 m pc lsM (.int y :: .int x :: rest)))
    (k : zGo p l e Rm s m args below meth c Q D A ad0 r0 z0 nL pc' ls' st' R' S' L') : zGo p l e Rm s m args below meth c Q D A ad0 r0 z0 nL pc ls st R S L := by
  intro H locs cells slots lsM ad tys ws I
  unfold zop2 at hs
  split at hs
  · rename_i y x st1
    split at hs
    · rename_i hf
      cases hs
      exact rule x y H locs cells slots lsM _ hf (k H locs cells slots lsM ad tys ws I)
    · cases hs
  · cases hs
theorem zop2L_sim {f : Int64 → Int64 → Int64} {ok : Int64 → Bool} (hs : zop2L n f ok ls st R S L = some (pc', ls', st', R', S', L'))
    (rule : ∀ (x y : Int64) (H : Heap) (locs : List Loc) (cells slots : Nat) (lsM : Array Slot) (rest : List Value), ok y = true → W p l e Rm s m args below meth c H locs cells slots Q (F0 m n lsM (.long (f x y) :: rest)) → W p l e Rm s m args below meth c H locs cells slots Q (F0 m pc lsM (.long y :: .long x :: rest)))
    (k : zGo p l e Rm s m args below meth c Q D A ad0 r0 z0 nL pc' ls' st' R' S' L') : zGo p l e Rm s m args below meth c Q D A ad0 r0 z0 nL pc ls st R S L := by
  intro H locs cells slots lsM ad tys ws I
  unfold zop2L at hs
  split at hs
  · rename_i y x st1
    split at hs
    · rename_i hf
      cases hs
      exact rule x y H locs cells slots lsM _ hf (k H locs cells slots lsM ad tys ws I)
    · cases hs
  · cases hs
theorem ztg_ok {off : Int} {t : Nat} (h : ztg pc off = some t) : (pc : Int) + off = (t : Int) := by
  unfold ztg at h
  split at h
  · rename_i h1; cases h; exact h1
  · cases h
/-- a branch: st1 is the stack behind it -/
theorem zbr_sim {b : Bool} {off : Int} {st1 : List Value} (hs : zbr b pc 3 off ls st1 R S L = some (pc', ls', st', R', S', L'))
    (rule : ∀ (t : Nat) (H : Heap) (locs : List Loc) (cells slots : Nat) (lsM : Array Slot) (ad : Nat → Nat), (pc : Int) + off = (t : Int) → (b = true → W p l e Rm s m args below meth c H locs cells slots Q (F0 m t lsM (st1.map (zv ad)))) → (b = false → W p l e Rm s m args below meth c H locs cells slots Q (F0 m (pc + 3) lsM (st1.map (zv ad)))) → W p l e Rm s m args below meth c H locs cells slots Q (F0 m pc lsM (st.map (zv ad))))
    (k : zGo p l e Rm s m args below meth c Q D A ad0 r0 z0 nL pc' ls' st' R' S' L') : zGo p l e Rm s m args below meth c Q D A ad0 r0 z0 nL pc ls st R S L := by
  intro H locs cells slots lsM ad tys ws I
  unfold zbr at hs
  split at hs
  · rename_i t ht
    cases hs
    have kk := k H locs cells slots lsM ad tys ws I
    refine rule t H locs cells slots lsM ad (ztg_ok ht) (fun h => ?_) (fun h => ?_)
    · rw [h] at kk; exact kk
    · rw [h] at kk; exact kk
  · cases hs
end ZSTEP
