theorem zfetch_at {mi pc len : Nat} {ins : Instr} (h : zfetch mi pc = some (ins, len)) : ∃ q, zmeth[mi]? = some q ∧ decode q.2.1 pc = .ok (ins, len) ∧ zilen ins len = true := by
  unfold zfetch at h
  split at h
  · rename_i q hq
    split at h
    · rename_i x hx
      split at h
      · rename_i hl
        cases h
        exact ⟨q, hq, hx, hl⟩
      · cases h
    · cases h
  · cases h
section ZT
variable {p : Program} {l : Launch} {e : Env} {Rm : Room} {s : State} {m : MethodId} {args : Array Value} {below : List Frame} {meth : Method} {c : Code} {Q : State → Prop} {D : va_G} {A A1 : Nat → Prop} {ad0 adV : Nat → Nat} {r0 z0 nL : Nat}
variable {pc pc' len n mi : Nat} {ls st ls' st' : List Value} {R R' : List zE} {S S' : zS} {L L' : zL} {q : zM} {ins : Instr}
theorem zdesc_some {t : Nat} {r : zM} (h : zmeth[t]? = some r) : parseMethodDescriptor r.1.desc ≠ none := by
  have h1 := List.all_eq_true.mp zmeth_all t (List.mem_range.mpr (List.getElem?_eq_some_iff.mp h).1)
  rw [h] at h1
  simp only [Bool.and_eq_true, decide_eq_true_eq] at h1
  intro hn
  rw [hn] at h1
  simp at h1
theorem zct_at {own ix k t : Nat} {r : zM} (h : zcal own ix = some (k, t)) (hk : k < 10) (hr : zmeth[t]? = some r) : (k = 0 → Cond.instanceMethod r.1 ∈ zUW ∧ Cond.selects r.1.cls r.1 r.1 ∈ zUW ∧ r.2.2.2.2.2.1 = false) ∧ (k = 1 → Cond.static r.1 ∈ zUW ∧ r.2.2.2.2.2.1 = true) ∧ (k ≠ 0 → k ≠ 1 → Cond.instanceMethod r.1 ∈ zUW ∧ r.1.name = "<init>" ∧ r.2.2.2.1 = none ∧ r.2.2.2.2.2.1 = false) := by
  have h1 := List.all_eq_true.mp zct_all _ (zcal_mem h)
  simp only [hk, if_true, hr] at h1
  have hy : zy t = r.1 := by simp [zy, hr]
  refine ⟨fun h0 => ?_, fun h0 => ?_, fun h0 h2 => ?_⟩
  · rw [if_pos h0] at h1
    simp only [Bool.and_eq_true, decide_eq_true_eq, Bool.not_eq_true'] at h1
    have g1 := zwI_in t h1.1.1
    have g2 := zwV_in t h1.1.2
    simp only [hy] at g1 g2
    exact ⟨g1, g2, h1.2⟩
  · rw [if_neg (by omega), if_pos h0] at h1
    simp only [Bool.and_eq_true, decide_eq_true_eq] at h1
    have g1 := zwS_in t h1.1
    simp only [hy] at g1
    exact ⟨g1, h1.2⟩
  · rw [if_neg h0, if_neg h2] at h1
    simp only [Bool.and_eq_true, decide_eq_true_eq, Bool.not_eq_true'] at h1
    have g1 := zwI_in t h1.1.1.1
    simp only [hy] at g1
    exact ⟨g1, h1.1.1.2, h1.1.2, h1.2⟩
theorem zcall_run {k t : Nat} (IH : zCt n) (C : zCx mi p l Rm s m args meth c A ad0 adV nL q) (hI : zinv R ls st) (hdg : decode q.2.1 pc = .ok (ins, len)) (hlen : zilen ins len = true) (hcl : zcl mi ins = some (k, t)) (hmay : zmay mi k t (st.take (znarg t)).reverse (st.drop (znarg t)) R = true) {v : Option Value}
    (h : zrun n t 0 (zentry t (st.take (znarg t)).reverse) [] R S L = some (v, R', S', L')) {H : Heap} {locs : List Loc} {cells slots : Nat} {lsM : Array Slot} {ad : Nat → Nat} {tys : List (ClassId × FieldType)} {ws : va_W} (I : zIn D A s H locs cells slots r0 z0 nL ad0 ls R S L lsM ad tys ws) (hc : R'.length ≤ Rm.cells + r0) (hz : zsz R' ≤ Rm.slots + z0) :
    va_Run p l e Rm s m args below meth c H locs cells slots (R'.length - R.length) (zsz R' - zsz R) (F0 m pc lsM (st.map (zv ad))) ((st.drop (znarg t)).map (zv ad)) (zPost D ad (va_A ws H.size) R.length v R' S' L' (((st.take (znarg t)).reverse).map (zv ad)).toArray) (va_A ws H.size) := by
  obtain ⟨hq, hx, hb, hml, hown, hts, hN, hini, hA, hX, hfr, hlo, hrt, hlocks⟩ := C
  obtain ⟨h1, h2, h3, h4, h5, h6, h7, h8, h9⟩ := I
  unfold zmay at hmay
  rw [hq] at hmay
  cases hrr : zmeth[t]? with
  | none => rw [hrr] at hmay; cases hmay
  | some r =>
  rw [hrr] at hmay
  simp only [Bool.and_eq_true, decide_eq_true_eq] at hmay
  obtain ⟨⟨⟨⟨⟨b1, b2⟩, b3⟩, b4⟩, b5⟩, b6⟩ := hmay
  have has : ∀ u ∈ (st.take (znarg t)).reverse, zokv R.length u := fun u hu => hI.2.1 u (List.mem_of_mem_take (List.mem_reverse.mp hu))
  have hsp : st.map (zv ad) = (((st.take (znarg t)).reverse).map (zv ad)).reverse ++ (st.drop (znarg t)).map (zv ad) := by
    rw [← List.map_reverse, List.reverse_reverse, ← List.map_append, List.take_append_drop]
  have hM := zmet IH h hrr b1 has hI.2.2 l D ad adV tys ws H.size h4
  have hblind := zPre_blind (D := D) (ad := ad) (adV := adV) (tys := tys) (ws := ws) (sz := H.size) (as := (st.take (znarg t)).reverse)
  have hpre : ∀ U : State, U.heap = H → s.WarmedH U.vm → zPre D ad adV tys ws H.size (st.take (znarg t)).reverse (((st.take (znarg t)).reverse).map (zv ad)).toArray U := by
    intro U hU hW
    refine ⟨rfl, by rw [hU], by rw [hU]; exact h5, va_K.moved hW.alike h6, h7.weaken (fun _ _ _ _ => trivial), hN.warm hW, ?_⟩
    rw [hU]
    exact (((hX.kept (fun a ha hna => h8.2.1 a ha hna)).narrow (zown_in h7 h8 hA)).moved hW).ad h3
  have hW8 := lv_room (m := m) (pc := pc) (ls := lsM) (rest := st.map (zv ad)) (st := (st.drop (znarg t)).map (zv ad)) (by rw [zv_cats]; exact b3)
  obtain ⟨-, m1, m2, -⟩ := zrun_inv _ _ _ _ _ _ _ _ _ _ _ _ h (zentry_inv has hI.2.2)
  have hf : cells + (R'.length - R.length) ≤ Rm.cells ∧ slots + (zsz R' - zsz R) ≤ Rm.slots := by omega
  obtain ⟨c1, c2, c3, c4, c5, c6, wc, c7⟩ := zmeth_at hrr
  have hR5 : (zrmq r (R'.length - R.length) (zsz R' - zsz R)).frames + 1 ≤ Rm.frames ∧ 8 + (r.2.2.1 + 11) + (zrmq r (R'.length - R.length) (zsz R' - zsz R)).locals ≤ Rm.locals := ⟨Nat.le_trans b4 hfr, Nat.le_trans b5 hlo⟩
  have hzy : zy t = r.1 := by simp [zy, hrr]
  generalize has' : (st.take (znarg t)).reverse = as at *
  unfold zcl at hcl
  split at hcl
  · -- invokevirtual
    rename_i ix
    have hl3 : len = 3 := by simpa [zilen] using hlen
    subst hl3
    split at hcl
    · rename_i tt hcal
      cases hcl
      obtain ⟨w1, w2, w3⟩ := (zct_at hcal (by decide) hrr).1 rfl
      have wl := zcal_w hcal (by decide)
      rw [show zyt 0 t = r.1 by simp [zyt, hzy]] at wl
      cases as with
      | nil => simp at b6
      | cons w As =>
      cases w with
      | ref a =>
        simp only at b6
        split at b6
        · rename_i c0 fs hR
          have hc0 := of_decide_eq_true b6
          obtain ⟨u, hu, rfl⟩ := h4.at hR
          have hcell := h5 a _ hu
          have hcls := zcls_at c7
          have hcls1 : zcn r.2.2.2.2.1 = wc.1 := hcls.1
          have hrecv : ∃ cellB : Cell, H[ad a]? = some cellB ∧ cellB.vm.isStatics = false ∧ s.vm.findClass r.1.cls = some cellB.cls := by
            rw [c2, hcls1]
            exact va_recv h6 h5 (by rw [hc0]; exact c7) hu
          have hn : As.length + 1 = r.2.2.2.2.2.2.2.2 := by simpa using b2
          refine va_runV (C := r.1.cls) (b := ad a) (As := As.map (zv ad)) (n := As.length) (ws := zUWc r.1 r.2.1 r.2.2.1 r.2.2.2.1) ⟨hx, hb, hml, hown, hts⟩ hM ⟨callB_of As.length hts (zUWc_good c1) rfl rfl rfl (hts _ c6) (hts _ wl) ⟨c4.1, c4.2, ?_⟩ hR5, hts _ w1, hts _ w2⟩ ⟨hblind, hrecv, fun U hU hW => hpre U hU hW⟩ rfl (by simp) h9.1 (by rw [hsp]; simp [zv]) hW8 hdg hf
          cases hp : parseMethodDescriptor r.1.desc with
          | none => exact absurd hp (zdesc_some hrr)
          | some sig =>
            have := c5 sig hp
            rw [w3] at this
            simp at this
            simp
            omega
        · cases b6
      | _ => simp at b6
    · cases hcl
  · -- invokestatic
    rename_i ix
    have hl3 : len = 3 := by simpa [zilen] using hlen
    subst hl3
    split at hcl
    · rename_i tt hcal
      cases hcl
      obtain ⟨w1, w3⟩ := (zct_at hcal (by decide) hrr).2.1 rfl
      have wl := zcal_w hcal (by decide)
      rw [show zyt 1 t = r.1 by simp [zyt, hzy]] at wl
      refine va_runS (As := as.map (zv ad)) (n := as.length) (ws := zUWc r.1 r.2.1 r.2.2.1 r.2.2.2.1) ⟨hx, hb, hml, hown, hts⟩ hM ⟨callB_of as.length hts (zUWc_good c1) rfl rfl rfl (hts _ c6) (hts _ wl) ⟨c4.1, c4.2, ?_⟩ hR5, hts _ w1⟩ ⟨hblind, fun U hU hW => hpre U hU hW⟩ rfl (by simp) h9.1 hsp hW8 hdg hf
      cases hp : parseMethodDescriptor r.1.desc with
      | none => exact absurd hp (zdesc_some hrr)
      | some sig =>
        have := c5 sig hp
        rw [w3] at this
        simp at this
        simp
        omega
    · cases hcl
  · -- invokespecial
    rename_i ix
    have hl3 : len = 3 := by simpa [zilen] using hlen
    subst hl3
    split at hcl
    · rename_i tt hcal
      cases hcl
      obtain ⟨w1, w2, w3, w4⟩ := (zct_at hcal (by decide) hrr).2.2 (by decide) (by decide)
      have wl := zcal_w hcal (by decide)
      rw [show zyt 2 t = r.1 by simp [zyt, hzy]] at wl
      cases as with
      | nil => simp at b6
      | cons w As =>
      cases w with
      | ref a =>
        have hn : As.length + 1 = r.2.2.2.2.2.2.2.2 := by simpa using b2
        rw [w3] at hM c1
        refine va_runI (b := ad a) (As := As.map (zv ad)) (n := As.length) (ws := zUWc r.1 r.2.1 r.2.2.1 none) ⟨hx, hb, hml, hown, hts⟩ hM ⟨callB_of As.length hts (zUWc_good c1) rfl rfl rfl (hts _ c6) (hts _ wl) ⟨c4.1, c4.2, ?_⟩ hR5, w2, hts _ w1⟩ ⟨hblind, fun U hU hW => hpre U hU hW⟩ rfl (by simp) h9.1 (by rw [hsp]; simp [zv]) hW8 hdg hf
        cases hp : parseMethodDescriptor r.1.desc with
        | none => exact absurd hp (zdesc_some hrr)
        | some sig =>
          have := c5 sig hp
          rw [w4] at this
          simp at this
          simp
          omega
      | _ => simp at b6
    · rename_i tt hcal
      cases hcl
      obtain ⟨w1, w2, w3, w4⟩ := (zct_at hcal (by decide) hrr).2.2 (by decide) (by decide)
      have wl := hN.2.1 _ (zcal_n hcal)
      unfold zwdC at wl
      rw [if_pos rfl] at wl
      rw [show zyt 3 t = r.1 by simp [zyt, hzy]] at wl
      cases as with
      | nil => simp at b6
      | cons w As =>
      cases w with
      | ref a =>
        have hn : As.length + 1 = r.2.2.2.2.2.2.2.2 := by simpa using b2
        rw [w3] at hM c1
        refine va_runIN (host := "SnowWallsModel") (b := ad a) (As := As.map (zv ad)) (n := As.length) (ws := zUWc r.1 r.2.1 r.2.2.1 none) ⟨hx, hb, hml, hown, hts⟩ hM ⟨va_cnB As.length hts (zUWc_good c1) rfl rfl rfl wl (hts _ c6) ⟨c4.1, c4.2, ?_⟩ hR5, w2, hts _ w1⟩ ⟨hblind, fun U hU hW => hpre U hU hW⟩ rfl (by simp) h9.1 (by rw [hsp]; simp [zv]) hW8 hdg hf
        cases hp : parseMethodDescriptor r.1.desc with
        | none => exact absurd hp (zdesc_some hrr)
        | some sig =>
          have := c5 sig hp
          rw [w4] at this
          simp at this
          simp
          omega
      | _ => simp at b6
    · cases hcl
  · cases hcl
end ZT
theorem zsound : ∀ n : Nat, zCt n
  | 0 => fun mi pc ls st R S L v R' S' L' h => by simp [zrun] at h
  | n + 1 => by
    intro mi pc ls st R S L v R' S' L' h p l e Rm s m args below meth c D A ad0 adV r0 z0 nL q Qc mc ms C hI hmc hms hc hz hQ
    have IH := zsound n
    unfold zrun at h
    split at h
    · cases h
    · rename_i ins len hfe
      obtain ⟨q', hq', hdg, hlen⟩ := zfetch_at hfe
      have C' := C
      obtain ⟨hq, hx, hb, hml, hown, hts, hN, hini, hA, hX, hfr, hlo, hrt, hlocks⟩ := C'
      cases hq.symm.trans hq'
      split at h
      · -- the end
        rename_i w hw
        cases h
        intro H locs cells slots lsM ad tys ws I
        obtain ⟨h1, h2, h3, h4, h5, h6, h7, h8, h9⟩ := I
        have e1 : cells = mc := by omega
        have e2 : slots = ms := by omega
        subst e1; subst e2
        have hr2 : zrt mi = q.2.2.2.1 := by simp [zrt, hq]
        rw [hr2] at hw
        unfold zend at hw
        split at hw
        · rename_i ty x hty
          have hl1 : len = 1 := by simpa [zilen] using hlen
          subst hl1
          split at hw
          · rename_i hnar
            cases hw
            exact W.zret (ty := ty) hx hb (hrt.trans hty) hnar (fun t ht hW => hQ H locs ad tys ws t h3 h4 h5 h6 h7 h8 ht hW) h8.2.2 hdg
          · cases hw
        · rename_i x hty
          have hl1 : len = 1 := by simpa [zilen] using hlen
          subst hl1
          cases hw
          exact W.lret hx hb (hrt.trans hty) (fun t ht hW => hQ H locs ad tys ws t h3 h4 h5 h6 h7 h8 ht hW) h8.2.2 hdg
        · rename_i hty
          have hl1 : len = 1 := by simpa [zilen] using hlen
          subst hl1
          cases hw
          exact W.vret hx hb (hrt.trans hty) (fun t ht hW => hQ H locs ad tys ws t h3 h4 h5 h6 h7 h8 ht hW) h8.2.2 hdg
        · cases hw
      · split at h
        · -- a call
          rename_i k t hcl
          split at h
          · rename_i hmay
            split at h
            · rename_i v1 R1 S1 L1 hrun1
              have has : ∀ u ∈ (st.take (znarg t)).reverse, zokv R.length u := fun u hu => hI.2.1 u (List.mem_of_mem_take (List.mem_reverse.mp hu))
              obtain ⟨a1, a2, a3, a4⟩ := zrun_inv n _ _ _ _ _ _ _ _ _ _ _ hrun1 (zentry_inv has hI.2.2)
              have hI1 : zinv R1 ls (v1.toList ++ st.drop (znarg t)) := ⟨fun u hu => (hI.1 u hu).le a2, fun u hu => by
                rcases List.mem_append.mp hu with hu | hu
                · cases v1 with
                  | none => simp at hu
                  | some w => simp at hu; subst hu; exact a4 u rfl
                · exact (hI.2.1 u (List.mem_of_mem_drop hu)).le a2, a1⟩
              obtain ⟨-, b2, b3, -⟩ := zrun_inv n _ _ _ _ _ _ _ _ _ _ _ h hI1
              have kk := IH mi (pc + 3) ls _ R1 S1 L1 v R' S' L' h p l e Rm s m args below meth c D A ad0 adV r0 z0 nL q Qc mc ms C hI1 hmc hms hc hz hQ
              intro H locs cells slots lsM ad tys ws I
              have hr := zcall_run (e := e) (below := below) IH C hI hdg hlen hcl hmay hrun1 I (by omega) (by omega)
              obtain ⟨h1, h2, h3, h4, h5, h6, h7, h8, h9⟩ := I
              refine zcall_go hr h8 (zown_in h7 h8 hA) (fun H1 locs1 ad1 tys1 ws1 g1 g2 g3 g4 g5 g6 => ?_)
              have := kk H1 locs1 (cells + (R1.length - R.length)) (slots + (zsz R1 - zsz R)) lsM ad1 tys1 ws1 ⟨by omega, by omega, (g1.le (by omega)).trans h3, g2, g3, g4, g5, g6, h9.keep g1 hI.1⟩
              rw [List.map_append, g1.map (fun u hu => hI.2.1 u (List.mem_of_mem_drop hu))] at this
              have e3 : v1.toList.map (zv ad1) = (v1.map (zv ad1)).toList := by cases v1 <;> rfl
              rw [e3] at this
              exact this
            · cases h
          · cases h
        · split at h
          · rename_i hs
            obtain ⟨a1, a2, a3⟩ := zstep_good _ hs hI
            obtain ⟨-, b2, b3, -⟩ := zrun_inv n _ _ _ _ _ _ _ _ _ _ _ h a1
            exact zsim C hI hdg hlen hs (by dsimp only at a2 b2; omega) (by dsimp only at a3 b3; omega) (IH _ _ _ _ _ _ _ v R' S' L' h p l e Rm s m args below meth c D A ad0 adV r0 z0 nL q Qc mc ms C a1 hmc hms hc hz hQ)
          · cases h
