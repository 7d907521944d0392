/-! THE LAW: pictures of both objects, and the reference's when a MATCH was made anew -/
section ZLB
/-- a picture of one object, in a heap -/
def zPic (D : va_G) (adV : Nat → Nat) (A : Nat → Prop) (s : State) (H : Heap) (R : List zE) (S : zS) (L : zL) (ad : Nat → Nat) (tys : List (ClassId × FieldType)) (ws : va_W) : Prop :=
  zRep ad tys ws R S L ∧ va_P D vwCl ws H ∧ va_K D vwCl tys s ∧ va_D A ws ∧ zX ad adV A s s.heap
def zRD (n : Nat) (rd : Value) : Prop := (rd = .null ∨ ∃ q, rd = .ref q) ∧ zokv n rd
/-- the two states, whether or not a MATCH is told -/
def zRel (S : zS) (R : List zE) (Sm : zS) : Prop := ∃ rd, (R = zRm0 rd ∧ zRD 11 rd ∧ zTU S Sm) ∨ (R = zRm1 rd ∧ zRD 41 rd ∧ ∃ c, zTM c S Sm)
def zFin (S : zS) (R : List zE) (Sm : zS) (Lm : zL) : Prop := ∀ (D : va_G) (adV : Nat → Nat) (A : Nat → Prop) (s : State) (H : Heap) (ad : Nat → Nat) (tys : List (ClassId × FieldType)) (ws : va_W), zPic D adV A s H R Sm Lm ad tys ws → ∃ ad2 ws2 R2 Sm2 Lm2, zPic D adV A s H R2 Sm2 Lm2 ad2 tys ws2 ∧ ad2 0 = ad 0 ∧ (∀ wr, zDj ws wr → zDj ws2 wr) ∧ zRel S R2 Sm2
theorem zFin_id {S : zS} {R : List zE} {Sm : zS} {Lm : zL} (h : zRel S R Sm) : zFin S R Sm Lm := fun _ _ _ _ _ ad _ ws hp => ⟨ad, ws, R, Sm, Lm, hp, rfl, fun _ h => h, h⟩
def zvh (h : Nat → Nat) (v : Value) : Value := match v with
  | .ref r => .ref (h r)
  | v => v
def zremap (g h : Nat → Nat) (n : Nat) (R : List zE) : List zE := (List.range n).map fun k => ((R.getD (g k) (9, 0, [])).1, (R.getD (g k) (9, 0, [])).2.1, (R.getD (g k) (9, 0, [])).2.2.map (zvh h))
def zremw (g : Nat → Nat) (n : Nat) (ws : va_W) : va_W := (List.range n).map fun k => ws.getD (g k) (0, .inr (0, []))
theorem zremw_at {g : Nat → Nat} {n k : Nat} {ws : va_W} {q : Nat × va_E} (hg : ∀ k, k < n → g k < ws.length) (h : (zremw g n ws)[k]? = some q) : k < n ∧ ws[g k]? = some q := by
  have hk : k < n := by
    have := (List.getElem?_eq_some_iff.mp h).1
    simpa [zremw] using this
  refine ⟨hk, ?_⟩
  unfold zremw at h
  rw [List.getElem?_map, List.getElem?_range hk] at h
  have h1 := List.getElem?_eq_getElem (hg k hk)
  simp only [Option.map_some, Option.some.injEq, List.getD, h1, Option.getD_some] at h
  rw [h1, h]
theorem zent_rem {ad ad' : Nat → Nat} {tys : List (ClassId × FieldType)} {S S' : zS} {L L' : zL} {j k : Nat} {h : Nat → Nat} {x : zE} {u : va_E} (h5 : x.1 ≠ 5) (hS : S' k = S j) (hL : L' k = L j) (hr : ∀ r : Nat, Value.ref r ∈ x.2.2 → ad' (h r) = ad r) (he : zent ad tys S L j x u) : zent ad' tys S' L' k (x.1, x.2.1, x.2.2.map (zvh h)) u := by
  obtain ⟨t, n, fs⟩ := x
  have hfs : zfs ad' S' L' k (fs.map (zvh h)) = zfs ad S L j fs := by
    unfold zfs
    apply List.ext_getElem?
    intro i
    rw [List.getElem?_mapIdx, List.getElem?_mapIdx, List.getElem?_map]
    cases hi : fs[i]? with
    | none => rfl
    | some v =>
      have hv := List.mem_of_getElem? hi
      cases v <;> simp only [Option.map_some, zvh, zfv, zv, hS, hL]
      rename_i r
      rw [hr r hv]
  match t, h5, he with
  | 0, _, he => exact (show u = _ from he).trans (by rw [hfs])
  | 1, _, he => obtain ⟨cA, t0, h1, h2⟩ := he; exact ⟨cA, t0, h1, by rw [hS]; exact h2⟩
  | 2, _, he => obtain ⟨cA, t0, h1, h2⟩ := he; exact ⟨cA, t0, h1, by rw [hL]; exact h2⟩
  | 3, _, he => obtain ⟨cA, t0, h1, h2⟩ := he; exact ⟨cA, t0, h1, by rw [hS]; exact h2⟩
  | 4, _, he => obtain ⟨cA, t0, h1, h2⟩ := he; exact ⟨cA, t0, h1, by rw [hS]; exact h2⟩
  | 5, h5, _ => exact absurd rfl h5
  | _ + 6, _, he => exact he.elim
theorem zRep_rem {ad ad' : Nat → Nat} {tys : List (ClassId × FieldType)} {ws : va_W} {R : List zE} {S S' : zS} {L L' : zL} {n : Nat} {g h : Nat → Nat} (hrep : zRep ad tys ws R S L) (hg : ∀ k, k < n → g k < R.length) (h5 : ∀ e ∈ R, e.1 ≠ 5) (ha : ∀ k, k < n → ad' k = ad (g k) ∧ S' k = S (g k) ∧ L' k = L (g k)) (hh : ∀ k, k < n → ∀ e, R[g k]? = some e → ∀ r : Nat, Value.ref r ∈ e.2.2 → ad' (h r) = ad r) : zRep ad' tys (zremw g n ws) (zremap g h n R) S' L' := by
  refine ⟨by simp [zremw, zremap], fun k e hk => ?_⟩
  have hkn : k < n := by
    have := (List.getElem?_eq_some_iff.mp hk).1
    simpa [zremap] using this
  have hx := List.getElem?_eq_getElem (hg k hkn)
  generalize R[g k]'(hg k hkn) = x at hx
  obtain ⟨u, hu, hen⟩ := hrep.2 (g k) x hx
  obtain ⟨a1, a2, a3⟩ := ha k hkn
  have e1 : e = (x.1, x.2.1, x.2.2.map (zvh h)) := by
    unfold zremap at hk
    rw [List.getElem?_map, List.getElem?_range hkn] at hk
    simp only [Option.map_some, Option.some.injEq, List.getD, hx, Option.getD_some] at hk
    exact hk.symm
  refine ⟨u, ?_, ?_⟩
  · unfold zremw
    rw [List.getElem?_map, List.getElem?_range hkn]
    simp only [Option.map_some, List.getD, hu, Option.getD_some, a1]
  · rw [e1]
    exact zent_rem (h5 x (List.mem_of_getElem? hx)) a2 a3 (fun r hr => hh k hkn x hx r hr) hen
theorem zX_at {ad ad' adV : Nat → Nat} {A : Nat → Prop} {s : State} {H : Heap} (hk : ∀ i, ad' (1000000 + i) = ad (1000000 + i)) (h : zX ad adV A s H) : zX ad' adV A s H := by
  obtain ⟨h1, h2⟩ := h
  refine ⟨fun i q hq => ?_, h2⟩
  rw [hk i]
  exact h1 i q hq
theorem zPic_rem {D : va_G} {adV : Nat → Nat} {A : Nat → Prop} {s : State} {H : Heap} {ad ad' : Nat → Nat} {tys : List (ClassId × FieldType)} {ws : va_W} {R : List zE} {S S' : zS} {L L' : zL} {n : Nat} {g h : Nat → Nat} (hp : zPic D adV A s H R S L ad tys ws) (hg : ∀ k, k < n → g k < R.length) (hi : ∀ i j, i < n → j < n → g i = g j → i = j) (h5 : ∀ e ∈ R, e.1 ≠ 5) (ha : ∀ k, k < n → ad' k = ad (g k) ∧ S' k = S (g k) ∧ L' k = L (g k)) (hh : ∀ k, k < n → ∀ e, R[g k]? = some e → ∀ r : Nat, Value.ref r ∈ e.2.2 → ad' (h r) = ad r) (hk : ∀ i, ad' (1000000 + i) = ad (1000000 + i)) : zPic D adV A s H (zremap g h n R) S' L' ad' tys (zremw g n ws) ∧ ∀ wr, zDj ws wr → zDj (zremw g n ws) wr := by
  obtain ⟨p1, p2, p3, p4, p5⟩ := hp
  have hgw : ∀ k, k < n → g k < ws.length := fun k hk => by rw [p1.1]; exact hg k hk
  refine ⟨⟨zRep_rem p1 hg h5 ha hh, fun k q hq => p2 (g k) q (zremw_at hgw hq).2, p3, ⟨fun i j x y hx hy e => ?_, fun k q hq => p4.2 (g k) q (zremw_at hgw hq).2⟩, zX_at hk p5⟩, fun wr hj i j x y hx hy => hj (g i) j x y (zremw_at hgw hx).2 hy⟩
  obtain ⟨a1, a2⟩ := zremw_at hgw hx
  obtain ⟨b1, b2⟩ := zremw_at hgw hy
  exact hi i j a1 b1 (p4.1 _ _ x y a2 b2 e)
/-- which references there are -/
def zrefs (f : Nat → Bool) (e : zE) : Bool := decide (e.1 ≠ 5) && e.2.2.all fun v => match v with
  | .ref r => f r
  | _ => true
theorem zrefs_at {f : Nat → Bool} {e : zE} (h : zrefs f e = true) : e.1 ≠ 5 ∧ ∀ r : Nat, Value.ref r ∈ e.2.2 → f r = true := by
  unfold zrefs at h
  rw [Bool.and_eq_true, decide_eq_true_eq] at h
  exact ⟨h.1, fun r hr => List.all_eq_true.mp h.2 _ hr⟩
theorem zRp0_refs : (zRp0.all (zrefs fun r => decide (r < 500000))) = true := by decide +kernel
theorem zRp1_refs : (zRp1.all (zrefs fun r => decide (r < 500000))) = true := by decide +kernel
theorem zRs1_refs : (((List.range 41).map fun k => zRs1.getD (if k < 11 then k else k + 30) (9, 0, [])).all (zrefs fun r => decide (r < 11) || (decide (41 ≤ r) && decide (r < 71)))) = true := by decide +kernel
theorem zRs1_five : (zRs1.all fun e => decide (e.1 ≠ 5)) = true := by decide +kernel
theorem zRp0_rem : zremap (fun k => k) (fun r => if r = 11 then 500000 else r) 11 zRp0 = zRm0 (.ref 500000) := zRq_eq _ _ (by decide +kernel)
theorem zRp1_rem : zremap (fun k => k) (fun r => if r = 41 then 500000 else r) 41 zRp1 = zRm1 (.ref 500000) := zRq_eq _ _ (by decide +kernel)
theorem zRs1_rem : zremap (fun k => if k < 11 then k else k + 30) (fun r => if r < 11 then r else r - 30) 41 zRs1 = zRm1 (.ref 11) := zRq_eq _ _ (by decide +kernel)
theorem zRD_far {n : Nat} : zRD n (.ref 500000) := ⟨.inr ⟨_, rfl⟩, fun k hk => by cases hk; exact .inr (Nat.le_refl _)⟩
theorem zFin_p0 {S Sm : zS} {Lm : zL} (h : zTU S Sm) : zFin S zRp0 Sm Lm := by
  intro D adV A s H ad tys ws hp
  have hl : zRp0.length = 41 := rfl
  obtain ⟨k1, k2⟩ := zPic_rem (ad' := fun k => if k = 500000 then ad 11 else ad k) (S' := Sm) (L' := Lm) (n := 11) (g := fun k => k) (h := fun r => if r = 11 then 500000 else r) hp (fun k hk => by rw [hl]; show k < 41; omega) (fun i j _ _ e => e) (fun e he => (zrefs_at (List.all_eq_true.mp zRp0_refs e he)).1) (fun k hk => ⟨if_neg (by omega), rfl, rfl⟩) (fun k hk e he r hr => by
    have hlt : r < 500000 := of_decide_eq_true ((zrefs_at (List.all_eq_true.mp zRp0_refs e (List.mem_of_getElem? he))).2 r hr)
    by_cases h11 : r = 11
    · show (if (if r = 11 then 500000 else r) = 500000 then ad 11 else ad (if r = 11 then 500000 else r)) = ad r
      rw [if_pos h11, if_pos rfl, h11]
    · show (if (if r = 11 then 500000 else r) = 500000 then ad 11 else ad (if r = 11 then 500000 else r)) = ad r
      rw [if_neg h11, if_neg (by omega)]) (fun i => if_neg (by omega))
  rw [zRp0_rem] at k1
  exact ⟨_, _, _, _, _, k1, if_neg (by decide), k2, _, .inl ⟨rfl, zRD_far, h⟩⟩
theorem zFin_p1 {S Sm : zS} {Lm : zL} {c : Nat → Nat} (h : zTM c S Sm) : zFin S zRp1 Sm Lm := by
  intro D adV A s H ad tys ws hp
  have hl : zRp1.length = 71 := rfl
  obtain ⟨k1, k2⟩ := zPic_rem (ad' := fun k => if k = 500000 then ad 41 else ad k) (S' := Sm) (L' := Lm) (n := 41) (g := fun k => k) (h := fun r => if r = 41 then 500000 else r) hp (fun k hk => by rw [hl]; show k < 71; omega) (fun i j _ _ e => e) (fun e he => (zrefs_at (List.all_eq_true.mp zRp1_refs e he)).1) (fun k hk => ⟨if_neg (by omega), rfl, rfl⟩) (fun k hk e he r hr => by
    have hlt : r < 500000 := of_decide_eq_true ((zrefs_at (List.all_eq_true.mp zRp1_refs e (List.mem_of_getElem? he))).2 r hr)
    by_cases h11 : r = 41
    · show (if (if r = 41 then 500000 else r) = 500000 then ad 41 else ad (if r = 41 then 500000 else r)) = ad r
      rw [if_pos h11, if_pos rfl, h11]
    · show (if (if r = 41 then 500000 else r) = 500000 then ad 41 else ad (if r = 41 then 500000 else r)) = ad r
      rw [if_neg h11, if_neg (by omega)]) (fun i => if_neg (by omega))
  rw [zRp1_rem] at k1
  exact ⟨_, _, _, _, _, k1, if_neg (by decide), k2, _, .inr ⟨rfl, zRD_far, c, h⟩⟩
theorem zFin_s1 {S Sm : zS} {Lm : zL} {c : Nat → Nat} (h : zTM c S (zsh_1 Sm)) : zFin S zRs1 Sm Lm := by
  intro D adV A s H ad tys ws hp
  have hl : zRs1.length = 71 := rfl
  obtain ⟨k1, k2⟩ := zPic_rem (ad' := fun k => if k < 11 then ad k else if k < 41 then ad (k + 30) else ad k) (S' := zsh_1 Sm) (L' := zLsh Lm) (n := 41) (g := fun k => if k < 11 then k else k + 30) (h := fun r => if r < 11 then r else r - 30) hp (fun k hk => by
    rw [hl]
    show (if k < 11 then k else k + 30) < 71
    split <;> omega) (fun i j h1 h2 e => by
    have e : (if i < 11 then i else i + 30) = (if j < 11 then j else j + 30) := e
    split at e <;> split at e <;> omega) (fun e he => of_decide_eq_true (List.all_eq_true.mp zRs1_five e he)) (fun k hk => by
    by_cases h11 : k < 11
    · refine ⟨?_, ?_, ?_⟩
      · show (if k < 11 then ad k else if k < 41 then ad (k + 30) else ad k) = ad (if k < 11 then k else k + 30)
        rw [if_pos h11, if_pos h11]
      · show zsh_1 Sm k = Sm (if k < 11 then k else k + 30)
        rw [if_pos h11]
        funext i
        exact if_pos h11
      · show zLsh Lm k = Lm (if k < 11 then k else k + 30)
        rw [if_pos h11]
        funext i
        exact if_pos h11
    · refine ⟨?_, ?_, ?_⟩
      · show (if k < 11 then ad k else if k < 41 then ad (k + 30) else ad k) = ad (if k < 11 then k else k + 30)
        rw [if_neg h11, if_neg h11, if_pos hk]
      · show zsh_1 Sm k = Sm (if k < 11 then k else k + 30)
        rw [if_neg h11]
        funext i
        exact if_neg h11
      · show zLsh Lm k = Lm (if k < 11 then k else k + 30)
        rw [if_neg h11]
        funext i
        exact if_neg h11) (fun k hk e he r hr => by
    have hm : e ∈ (List.range 41).map fun k => zRs1.getD (if k < 11 then k else k + 30) (9, 0, []) := by
      refine List.mem_map.mpr ⟨k, List.mem_range.mpr hk, ?_⟩
      simp only [List.getD]
      rw [he]
      rfl
    have hb := (zrefs_at (List.all_eq_true.mp zRs1_refs e hm)).2 r hr
    simp only [Bool.or_eq_true, Bool.and_eq_true, decide_eq_true_eq] at hb
    show (if (if r < 11 then r else r - 30) < 11 then ad (if r < 11 then r else r - 30) else if (if r < 11 then r else r - 30) < 41 then ad ((if r < 11 then r else r - 30) + 30) else ad (if r < 11 then r else r - 30)) = ad r
    by_cases h11 : r < 11
    · rw [if_pos h11, if_pos h11]
    · have hb : 41 ≤ r ∧ r < 71 := hb.resolve_left h11
      have w1 : ¬ r - 30 < 11 := by omega
      have w2 : r - 30 < 41 := by omega
      have w3 : r - 30 + 30 = r := by omega
      rw [if_neg h11, if_neg w1, if_pos w2, w3]) (fun i => by
    show (if 1000000 + i < 11 then ad (1000000 + i) else if 1000000 + i < 41 then ad (1000000 + i + 30) else ad (1000000 + i)) = ad (1000000 + i)
    rw [if_neg (by omega), if_neg (by omega)])
  rw [zRs1_rem] at k1
  exact ⟨_, _, _, _, _, k1, if_pos (by decide), k2, _, .inr ⟨rfl, ⟨.inr ⟨_, rfl⟩, fun k hk => by cases hk; exact .inl (by decide)⟩, c, h⟩⟩
/-- references lie within -/
def zokb (n : Nat) (v : Value) : Bool := match v with
  | .ref k => decide (k < n) || decide (500000 ≤ k)
  | _ => true
theorem zokb_ok {n : Nat} {v : Value} (h : zokb n v = true) : zokv n v := fun k hk => by
  subst hk
  have h : (decide (k < n) || decide (500000 ≤ k)) = true := h
  rw [Bool.or_eq_true, decide_eq_true_eq, decide_eq_true_eq] at h
  exact h
def zRob (n : Nat) (R : List zE) : Bool := R.all fun e => e.2.2.all (zokb n)
theorem zRob_ok {n : Nat} {R : List zE} (h : zRob n R = true) : ∀ e ∈ R, ∀ v ∈ e.2.2, zokv n v := fun e he v hv => zokb_ok (List.all_eq_true.mp (List.all_eq_true.mp h e he) v hv)
theorem zRc_ok : ∀ e ∈ zRc, ∀ v ∈ e.2.2, zokv zRc.length v := by
  rw [show zRc.length = 293 by decide +kernel]
  exact zRob_ok (by decide +kernel)
theorem zRm0_ok {rd : Value} (h : zokv 11 rd) : ∀ e ∈ zRm0 rd, ∀ v ∈ e.2.2, zokv (zRm0 rd).length v := by
  have hl : (zRm0 rd).length = 11 := rfl
  have ht : (zRm0 rd).tail = (zRm0 .null).tail := rfl
  have hh : zRm0 rd = (0, 13, [.int 0, .int 0, .int 0, .null] ++ rd :: [.ref 1, .int 0, .int 0, .int 0, .int 0, .int 0, .int 0, .int 0, .int 0, .int 0, .long 0, .int 0, .int 0, .int 0, .ref 2, .ref 3, .ref 4, .int 0, .ref 5, .ref 6, .ref 7, .ref 8, .ref 9, .int 0, .ref 10]) :: (zRm0 .null).tail := rfl
  have h1 : ∀ v ∈ ([.int 0, .int 0, .int 0, .null] : List Value), zokv 11 v := fun v hv => zokb_ok (List.all_eq_true.mp (by decide +kernel : ([.int 0, .int 0, .int 0, .null] : List Value).all (zokb 11) = true) v hv)
  have h2 : ∀ v ∈ ([.ref 1, .int 0, .int 0, .int 0, .int 0, .int 0, .int 0, .int 0, .int 0, .int 0, .long 0, .int 0, .int 0, .int 0, .ref 2, .ref 3, .ref 4, .int 0, .ref 5, .ref 6, .ref 7, .ref 8, .ref 9, .int 0, .ref 10] : List Value), zokv 11 v := fun v hv => zokb_ok (List.all_eq_true.mp (by decide +kernel : ([.ref 1, .int 0, .int 0, .int 0, .int 0, .int 0, .int 0, .int 0, .int 0, .int 0, .long 0, .int 0, .int 0, .int 0, .ref 2, .ref 3, .ref 4, .int 0, .ref 5, .ref 6, .ref 7, .ref 8, .ref 9, .int 0, .ref 10] : List Value).all (zokb 11) = true) v hv)
  have h3 : zRob 11 (zRm0 .null).tail = true := by decide +kernel
  rw [hl]
  intro e he v hv
  rw [hh] at he
  rcases List.mem_cons.mp he with rfl | he
  · rcases List.mem_append.mp hv with hv | hv
    · exact h1 v hv
    · rcases List.mem_cons.mp hv with rfl | hv
      · exact h
      · exact h2 v hv
  · exact zRob_ok h3 e he v hv
theorem zRm1_ok {rd : Value} (h : zokv 41 rd) : ∀ e ∈ zRm1 rd, ∀ v ∈ e.2.2, zokv (zRm1 rd).length v := by
  have hl : (zRm1 rd).length = 41 := rfl
  have ht : (zRm1 rd).tail = (zRm1 .null).tail := rfl
  have hh : zRm1 rd = (0, 13, [.int 0, .int 0, .int 0, .ref 11] ++ rd :: [.ref 1, .int 0, .int 0, .int 0, .int 0, .int 0, .int 0, .int 0, .int 0, .int 0, .long 0, .int 0, .int 0, .int 0, .ref 2, .ref 3, .ref 4, .int 0, .ref 5, .ref 6, .ref 7, .ref 8, .ref 9, .int 0, .ref 10]) :: (zRm1 .null).tail := rfl
  have h1 : ∀ v ∈ ([.int 0, .int 0, .int 0, .ref 11] : List Value), zokv 41 v := fun v hv => zokb_ok (List.all_eq_true.mp (by decide +kernel : ([.int 0, .int 0, .int 0, .ref 11] : List Value).all (zokb 41) = true) v hv)
  have h2 : ∀ v ∈ ([.ref 1, .int 0, .int 0, .int 0, .int 0, .int 0, .int 0, .int 0, .int 0, .int 0, .long 0, .int 0, .int 0, .int 0, .ref 2, .ref 3, .ref 4, .int 0, .ref 5, .ref 6, .ref 7, .ref 8, .ref 9, .int 0, .ref 10] : List Value), zokv 41 v := fun v hv => zokb_ok (List.all_eq_true.mp (by decide +kernel : ([.ref 1, .int 0, .int 0, .int 0, .int 0, .int 0, .int 0, .int 0, .int 0, .int 0, .long 0, .int 0, .int 0, .int 0, .ref 2, .ref 3, .ref 4, .int 0, .ref 5, .ref 6, .ref 7, .ref 8, .ref 9, .int 0, .ref 10] : List Value).all (zokb 41) = true) v hv)
  have h3 : zRob 41 (zRm1 .null).tail = true := by decide +kernel
  rw [hl]
  intro e he v hv
  rw [hh] at he
  rcases List.mem_cons.mp he with rfl | he
  · rcases List.mem_append.mp hv with hv | hv
    · exact h1 v hv
    · rcases List.mem_cons.mp hv with rfl | hv
      · exact h
      · exact h2 v hv
  · exact zRob_ok h3 e he v hv
theorem zRel_ok {S : zS} {R : List zE} {Sm : zS} (h : zRel S R Sm) : (∀ e ∈ R, ∀ v ∈ e.2.2, zokv R.length v) ∧ (∃ fs, R[0]? = some (0, 13, fs)) ∧ 11 ≤ R.length ∧ R.length ≤ 41 := by
  obtain ⟨rd, ⟨rfl, hrd, -⟩ | ⟨rfl, hrd, -⟩⟩ := h
  · exact ⟨zRm0_ok hrd.2, ⟨_, rfl⟩, (by decide : 11 ≤ 11), (by decide : 11 ≤ 41)⟩
  · exact ⟨zRm1_ok hrd.2, ⟨_, rfl⟩, (by decide : 11 ≤ 41), (by decide : 41 ≤ 41)⟩
end ZLB
