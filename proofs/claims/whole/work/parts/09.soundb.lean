/-! THE SOUNDNESS OF THE SMALL MACHINE: a run of it is a contract of the JVM's method -/
section ZR
variable {p : Program} {l : Launch} {e : Env} {Rm : Room} {s : State} {m : MethodId} {args : Array Value} {below : List Frame} {meth : Method} {c : Code} {Q : State → Prop} {D : va_G} {A A1 : Nat → Prop} {ad0 adV : Nat → Nat} {r0 z0 nL : Nat}
variable {pc pc' len n mi : Nat} {ls st ls' st' : List Value} {R R' : List zE} {S S' : zS} {L L' : zL} {q : zM} {ins : Instr}
/-- behind a call: the small machine's world is the new one -/
theorem zcall_go {H : Heap} {locs : List Loc} {cells slots mc ms : Nat} {ad : Nat → Nat} {g : JFrame} {rest : List Value} {v : Option Value} {a : Array Value}
    (hr : va_Run p l e Rm s m args below meth c H locs cells slots mc ms g rest (zPost D ad A1 R.length v R' S' L' a) A1) (hS : va_S A s.heap H locs) (hA : ∀ q, A1 q → A q)
    (kk : ∀ (H1 : Heap) (locs1 : List Loc) (ad1 : Nat → Nat) (tys1 : List (ClassId × FieldType)) (ws1 : va_W), zKeep ad1 ad R.length → zRep ad1 tys1 ws1 R' S' L' → va_P D vwCl ws1 H1 → va_K D vwCl tys1 s → va_D A ws1 → va_S A s.heap H1 locs1 → W p l e Rm s m args below meth c H1 locs1 (cells + mc) (slots + ms) Q { g with pc := g.pc + 3, stack := (v.map (zv ad1)).toList ++ rest }) : W p l e Rm s m args below meth c H locs cells slots Q g := by
  intro T hT X
  obtain ⟨v2, st₀, t, T', L9, h0, X', hL, e1, e2, ⟨ad1, tys1, ws1, hv, hk, hrep, hP, hK, hD, hz, hF⟩, st⟩ := hr T hT X
  cases hv
  rw [h0] at hz hF
  have hal : s.vm.Alike t.vm := by rw [← e2]; exact X'.warmed.alike
  obtain ⟨t2, a1, b1⟩ := kk T'.heap (locs ++ L9) ad1 tys1 ws1 hk hrep (by rw [e1]; exact hP) (va_K.moved hal.symm hK) (hD.weaken (fun k q _ h => hA q.1 h))
    ⟨Nat.le_trans hS.1 (by rw [e1]; exact hz), fun q h1 h2 => by rw [e1, hF q (Nat.lt_of_lt_of_le h1 hS.1) (fun z => h2 (hA q z))]; exact hS.2.1 q h1 h2, fun q hq => by
      rcases List.mem_append.mp hq with h | h
      · exact hS.2.2 q h
      · exact hA _ (hL q h)⟩ T' rfl X'
  exact ⟨t2, st t2 a1, b1⟩
/-- what is owned at a call is owned by the caller -/
theorem zown_in {H : Heap} {locs : List Loc} {ws : va_W} (hD : va_D A ws) (hS : va_S A s.heap H locs) (hA : ∀ q, s.heap.size ≤ q → A q) : ∀ q, va_A ws H.size q → A q := by
  intro q hq
  rcases hq with ⟨k, e, h⟩ | h
  · exact hD.2 k (q, e) h
  · exact hA q (Nat.le_trans hS.1 h)
end ZR
def zCt (n : Nat) : Prop := ∀ (mi pc : Nat) (ls st : List Value) (R : List zE) (S : zS) (L : zL) (v : Option Value) (R' : List zE) (S' : zS) (L' : zL), zrun n mi pc ls st R S L = some (v, R', S', L') →
  ∀ (p : Program) (l : Launch) (e : Env) (Rm : Room) (s : State) (m : MethodId) (args : Array Value) (below : List Frame) (meth : Method) (c : Code) (D : va_G) (A : Nat → Prop) (ad0 adV : Nat → Nat) (r0 z0 nL : Nat) (q : zM) (Qc : Array Value → State → Outcome → State → Prop) (mc ms : Nat),
    zCx mi p l Rm s m args meth c A ad0 adV nL q → zinv R ls st → mc + r0 = R'.length → ms + z0 = zsz R' → mc ≤ Rm.cells → ms ≤ Rm.slots →
    (∀ (H : Heap) (locs : List Loc) (ad : Nat → Nat) (tys : List (ClassId × FieldType)) (ws : va_W) (t : State), zKeep ad ad0 r0 → zRep ad tys ws R' S' L' → va_P D vwCl ws H → va_K D vwCl tys s → va_D A ws → va_S A s.heap H locs → t.heap = H → s.WarmedH t.vm → Qc args s (.returned (v.map (zv ad))) t) →
    zGo p l e Rm s m args below meth c (MQ below Qc args s mc ms A) D A ad0 r0 z0 nL pc ls st R S L
theorem zmet {n t : Nat} (IH : zCt n) {as : List Value} {R R1 : List zE} {S S1 : zS} {L L1 : zL} {v : Option Value} (h : zrun n t 0 (zentry t as) [] R S L = some (v, R1, S1, L1)) {r : zM} (hr : zmeth[t]? = some r) (hle : (zargs as).length ≤ r.2.2.1) (ha : ∀ v ∈ as, zokv R.length v) (hRi : ∀ e ∈ R, ∀ v ∈ e.2.2, zokv R.length v)
    (l : Launch) (D : va_G) (ad adV : Nat → Nat) (tys : List (ClassId × FieldType)) (ws : va_W) (sz : Nat) (hrep : zRep ad tys ws R S L) :
    Met l r.1 (zUWc r.1 r.2.1 r.2.2.1 r.2.2.2.1) (zrmq r (R1.length - R.length) (zsz R1 - zsz R)) (zPre D ad adV tys ws sz as) (zPost D ad (va_A ws sz) R.length v R1 S1 L1) (R1.length - R.length) (zsz R1 - zsz R) (va_A ws sz) := by
  obtain ⟨c1, c2, c3, c4, c5, c6, wc, c7⟩ := zmeth_at hr
  have hI := zentry_inv (mi := t) ha hRi
  obtain ⟨-, m1, m2, -⟩ := zrun_inv _ _ _ _ _ _ _ _ _ _ _ _ h hI
  refine Met.ofW (cc := r.2.1) (maxL := r.2.2.1) (ret := r.2.2.2.1) c3 rfl ?_
  intro p e s m args below meth c s₁ B hml hv
  obtain ⟨rfl, hsz, hP, hK, hD0, hN, hX⟩ := hv
  subst hsz
  have hD := hD0.self (sz := s.heap.size)
  have hl := zentry_loc (ad := ad) hr hle
  have hown : s.vm.findClass (zcn (zown t)) = some m.cls := by
    have h1 := findClass_of_methodNamed B.named
    rw [c2] at h1
    have h2 : zown t = r.2.2.2.2.1 := by simp [zown, hr]
    rw [h2]; exact h1
  have C : zCx t p l (zrmq r (R1.length - R.length) (zsz R1 - zsz R)) s m (as.map (zv ad)).toArray meth c (va_A ws s.heap.size) ad adV r.2.2.1 r := by
    refine ⟨hr, B.exec, B.bytes, hml, hown, fun w hw => atoms_spec (ws := zUWc r.1 r.2.1 r.2.2.1 r.2.2.2.1) B.pre w (List.mem_cons_of_mem _ hw), hN, fun hi => ?_, fun q hq => Or.inr hq, hX, Nat.le_refl _, Nat.le_refl _, B.returns, B.notSynchronized⟩
    have h1 := (name_of_methodNamed B.named B.method).1
    rw [h1]
    simpa [zinit, hr] using hi
  have K := IH t 0 (zentry t as) [] R S L v R1 S1 L1 h p l e (zrmq r (R1.length - R.length) (zsz R1 - zsz R)) s m (as.map (zv ad)).toArray below meth c D (va_A ws s.heap.size) ad adV R.length (zsz R) r.2.2.1 r (zPost D ad (va_A ws s.heap.size) R.length v R1 S1 L1) (R1.length - R.length) (zsz R1 - zsz R) C hI (Nat.sub_add_cancel m1) (Nat.sub_add_cancel m2) (Nat.le_refl _) (Nat.le_refl _)
    (fun H locs ad1 tys1 ws1 t1 k1 k2 k3 k4 k5 k6 k7 k8 => ⟨ad1, tys1, ws1, rfl, k1, k2, by rw [k7]; exact k3, va_K.moved k8.alike k4, k5, k6.F k7⟩)
  have := K s.heap [] 0 0 _ ad tys ws ⟨Nat.zero_add _, Nat.zero_add _, fun _ _ => rfl, hrep, hP, hK, hD, va_S.rf, hl⟩
  rw [lg_entry_eq]
  exact this
