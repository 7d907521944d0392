/-! THE LAW: a new object, by its constructor -/
section ZLQ
def zmkchk (t ci : Nat) : Bool := match zmeth[t]? with
  | some r => !r.2.2.2.2.2.1 && (decide (r.2.2.2.2.2.2.1 + 1 ≤ 16) && (decide (8 + (r.2.2.1 + 11) + r.2.2.2.2.2.2.2.1 ≤ 602) && (decide (1 = r.2.2.2.2.2.2.2.2) && (decide (1 ≤ r.2.2.1) && (decide (t ∈ zwI) && (decide (r.2.2.2.1 = none) && (decide (r.1.name = "<init>") && (decide (ci ∈ zwN) && decide (ci ∈ zwB)))))))))
  | none => false
theorem zmk_102 : zmkchk 102 11 = true := by decide +kernel
theorem zmk_167 : zmkchk 167 13 = true := by decide +kernel
def zlnk : List Cond := [.classLink R_law 8 (zcn 11), .classLink R_law 16 (zcn 13)]
set_option maxRecDepth 100000 in
theorem zlnk_t : zlnk.all (fun w => decide (w ∈ lw_tbl) && goodWord w) = true := by decide +kernel
theorem zlnk_in : ∀ w ∈ zlnk, w ∈ zUW := fun w hw => by
  have := List.all_eq_true.mp zlnk_t w hw
  rw [Bool.and_eq_true, decide_eq_true_eq] at this
  exact List.mem_filter.mpr this
theorem zsz_C : zsz zRc ≤ 9000 ∧ zsz (zRm0 .null) ≤ 9000 := by decide +kernel
theorem zdefs_okv {ci : Nat} : ∀ v ∈ zdefs ci, zokv 1 v := fun v hv => by
  rcases zdefs_ok v hv with rfl | rfl | rfl <;> (intro k hk; cases hk)
variable {p : Program} {l : Launch} {e : Env} {s : State} {m : MethodId} {below : List Frame} {meth : Method} {c : Code} {Q : State → Prop} {D : va_G} {adT adV : Nat → Nat} {H : Heap} {locs : List Loc} {cells slots : Nat} {lsM : Array Slot} {b Ln : Nat} {xs : Nat → Int32} {rest : List Value}
theorem zmake {t ci ixN ixC pc nc ns : Nat} {ws : va_W} {R1 : List zE} {S1 : zS} {L1 : zL} (X : zLX p s m c b Ln xs) (hK : va_K D vwCl [] s) (hX : zX adT adV (zAA s) s s.heap) (hck : zmkchk t ci = true) (hci : ci < 14) (wN : Cond.classLink R_law ixN (zcn ci) ∈ zUW) (wC : Cond.methodLink R_law ixC (zy t) ∈ zUW)
    (hrun : zcall t [.ref 0] [(0, ci, zdefs ci)] (fun _ _ => 0) (fun _ _ => 0) = some (none, R1, S1, L1)) (hP : va_P D vwCl ws H) (hD : va_D (zAA s) ws) (hS : va_S (zAA s) s.heap H locs) (hsz : lsM.size = 7) (hcat : (rest.map fun v => v.category).sum ≤ 7)
    (d0 : decode code pc = .ok (.new ixN, 3)) (d3 : decode code (pc + 3) = .ok (.dup, 1)) (d4 : decode code (pc + 4) = .ok (.invokespecial ixC, 3)) (hnc : 1 + (R1.length - 1) ≤ nc) (hns : zsz R1 ≤ ns ∧ (zdefs ci).length ≤ ns ∧ (zdefs ci).length + (zsz R1 - (zdefs ci).length) ≤ ns) (hcells : cells + nc ≤ 601024) (hslots : slots + ns ≤ 7293033) (h1 : 1 ≤ nc)
    (kk : ∀ (q : Nat) (H1 : Heap) (locs1 : List Loc) (ad1 : Nat → Nat) (tys1 : List (ClassId × FieldType)) (ws1 : va_W), zPic D adV (zAA s) s H1 R1 S1 L1 ad1 tys1 ws1 → ad1 0 = q → va_P D vwCl ws H1 → zDj ws ws1 → va_S (zAA s) s.heap H1 locs1 → W p l e room_1 s m #[Value.ref b] below meth c H1 locs1 (cells + nc) (slots + ns) Q (F0 m (pc + 7) lsM (.ref q :: rest))) :
    W p l e room_1 s m #[Value.ref b] below meth c H locs cells slots Q (F0 m pc lsM rest) := by
  obtain ⟨hx, hb, hml, hown, hts, hN, hXX, hbl⟩ := X
  have hA : ∀ q, s.heap.size ≤ q → zAA s q := fun _ h => h
  unfold zmkchk at hck
  cases hr : zmeth[t]? with
  | none => rw [hr] at hck; cases hck
  | some r =>
  rw [hr] at hck
  simp only [Bool.and_eq_true, Bool.not_eq_true', decide_eq_true_eq] at hck
  obtain ⟨k1, k2, k3, k4, k5, k6, k7, k8, k9, k10⟩ := hck
  have hy : zy t = r.1 := by simp [zy, hr]
  have wI := zwI_in t k6
  simp only [hy] at wI
  rw [hy] at wC
  obtain ⟨⟨C, T, N⟩, hq⟩ := zcls_ex hci
  obtain ⟨q1, q2, q3, q4, q5, q6⟩ := zcls_at hq
  have w2 := hts _ (zwB_in _ k10)
  have w3 := hts _ (zwN_in _ k9)
  have w1 := hts _ wN
  have hNl : (zdefs ci).length = N := zdefs_len hq
  simp only [q1, hNl] at w1 w2 w3
  rw [hNl] at hns
  have c601 : room_1.cells = 601024 := rfl
  have s729 : room_1.slots = 7293033 := rfl
  refine va_new (D := D) (C := C) (T := T) (N := N) (ci := ci) (fs := zdefs ci) hx hb hts q3 (zty ci) q4 hown w1 w2 w3 hK hP hD hS hA hq (fun j hj => ?_) (by omega) (by omega) d0 (fun q H1 g1 g2 g3 => ?_)
  · rw [q6 j hj, q2]
    simp [vp_V, hj]
  · refine lv_dup hx hb d3 rfl ?_
    obtain ⟨ad, had⟩ : ∃ ad : Nat → Nat, ad = fun k => if k = 0 then q else adT k := ⟨_, rfl⟩
    have a0 : ad 0 = q := by rw [had]; rfl
    have hk : zKeep ad adT 0 := fun k hk => by
      rw [had]
      rcases hk with h | h
      · omega
      · exact if_neg (by omega)
    have ez : ∀ k, zclr (0 : Int32) (fun _ _ => 0) k = fun _ _ => 0 := fun k => by funext i j; simp [zclr]
    have ezl : ∀ k, zclr (0 : Int64) (fun _ _ => 0) k = fun _ _ => 0 := fun k => by funext i j; simp [zclr]
    have efs : zfs ad (fun _ _ => 0) (fun _ _ => 0) 0 (zdefs ci) = zdefs ci := by
      have := zfs_zero (S := fun _ _ => 0) (L := fun _ _ => 0) (ad := ad) (k := 0) (ci := ci)
      rw [ez, ezl] at this
      exact this
    have hrep : zRep ad [] [(q, .inr (ci, zdefs ci))] [(0, ci, zdefs ci)] (fun _ _ => 0) (fun _ _ => 0) := by
      refine ⟨rfl, fun k e hk => ?_⟩
      cases k with
      | zero =>
        cases hk
        exact ⟨_, by rw [a0]; rfl, by show _ = _; rw [efs]⟩
      | succ k => cases hk
    have hoa : ∀ v ∈ zdefs ci, zokv 1 v := zdefs_okv
    have jj : zDj [(q, .inr (ci, zdefs ci))] ws := zDj_symm (zD_j g2)
    have hzs : zsz [(0, ci, zdefs ci)] = N := by
      show (zdefs ci).length + 0 = N
      omega
    have st := zlaw_callI (l := l) (e := e) (Rm := room_1) (args := #[Value.ref b]) (below := below) (meth := meth) (c := c) (Q := Q) (cells := cells + 1) (slots := slots + N) (pc := pc + 4) (lsM := lsM) (rest := .ref q :: rest) (As := []) (a := 0) (ad := ad) hx hb hml hown hts hN hX hA hr k1 k7 k8 wC wI ⟨k2, k3⟩ k5 k4 hrun (fun u hu => by
      rw [List.mem_singleton.mp hu]
      intro k hk
      cases hk
      exact .inl Nat.zero_lt_one) (fun x hx u hu => by
      rw [List.mem_singleton.mp hx] at hu
      exact hoa u hu) hk hrep (zP_r g1) hK (zD_r g2) g3 hsz (Nat.add_le_add_left hcat 1) d4 (by rw [hzs, c601, s729]; show cells + 1 + (R1.length - 1) ≤ _ ∧ _; omega) (fun H2 locs2 ad1 tys1 ws1 z1 z2 z3 z4 z5 z6 z7 => by
      obtain ⟨p1, p2⟩ := z6 ws (zP_l g1) jj
      rw [hzs]
      refine W.widen (k := cells + nc) (n := slots + ns) (by show cells + 1 + (R1.length - 1) ≤ _; omega) (by omega) ?_
      exact kk q H2 locs2 ad1 tys1 ws1 ⟨z2, z3, z4, z5, (hX.ad hk).ad z1⟩ ((z1 0 (.inl Nat.zero_lt_one)).trans a0) p1 (zDj_symm p2) z7)
    rw [a0] at st
    exact st
end ZLQ
