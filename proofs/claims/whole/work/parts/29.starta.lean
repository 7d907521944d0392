/-! THE LAW: its start -/
section ZLN
def zstP : List Nat := [32, 43, 44, 45, 46, 33, 47, 48, 34, 49, 35, 36, 37, 38, 40, 41, 42, 55, 54, 56, 57, 58, 59, 60, 61, 53, 50, 51, 52, 39, 62, 0, 1, 19, 20, 21, 22, 2, 23, 24, 3, 25, 4, 5, 6, 7, 8, 9, 10, 11, 12, 13, 14, 15, 16, 17, 18, 26, 27, 28, 29, 30, 31]
def zsT (q : Nat × Nat × String × List Int32) : Term := Term.string (zcn q.1) q.2.1
def zsV (q : Nat × Nat × String × List Int32) : Term := .field (zsT q) "java/lang/String" "value" "[B"
def zsE (q : Nat × Nat × String × List Int32) : List Cond := (List.range q.2.2.2.length).map fun j => Cond.eq (.elem (zsV q) (.int (Int32.ofNat j))) (.int (q.2.2.2.getD j 0))
def zsW (q : Nat × Nat × String × List Int32) : List Cond := Cond.exactly (zsT q) "java/lang/String" :: Cond.eq (.field (zsT q) "java/lang/String" "coder" "B") (.int 0) :: Cond.arrayOf (zsV q) .byte :: Cond.eq (.length (zsV q)) (.int (Int32.ofNat q.2.2.2.length)) :: zsE q
def zsQ (i : Nat) : Nat × Nat × String × List Int32 := zstr.getD i (0, 0, "", [])
def zsR (q : Nat × Nat × String × List Int32) : Cond := Cond.stringRef (zcn q.1) q.2.1 q.2.2.1
def zstW : List Cond := flatC (Jvm.Cond.and given_1 narrow_1)
set_option maxRecDepth 100000 in
theorem zsW_sub : zsub (zstP.flatMap fun i => zsW (zsQ i)) zstW = true := by decide +kernel
theorem zstP_all : (List.range 63).all (fun i => decide (i ∈ zstP)) = true := by decide +kernel
theorem zstr_len : zstr.length = 63 := by decide +kernel
theorem zstr_Q {i : Nat} {q : Nat × Nat × String × List Int32} (h : zstr[i]? = some q) : i < 63 ∧ zsQ i = q := by
  have h1 := (List.getElem?_eq_some_iff.mp h).1
  rw [zstr_len] at h1
  exact ⟨h1, by unfold zsQ; rw [List.getD, h]; rfl⟩
theorem zsW_in {i : Nat} {q : Nat × Nat × String × List Int32} (h : zstr[i]? = some q) : ∀ w ∈ zsW q, w ∈ zstW := fun w hw => by
  obtain ⟨h1, h2⟩ := zstr_Q h
  have h3 := of_decide_eq_true (List.all_eq_true.mp zstP_all i (List.mem_range.mpr h1))
  exact zsub_mem _ _ zsW_sub w (List.mem_flatMap.mpr ⟨i, h3, by rw [h2]; exact hw⟩)
def zsr_3 : List Nat := [32, 43, 44, 45, 46, 33, 47, 48, 34, 49, 35, 36, 37, 38, 40, 41, 42, 55, 54, 56, 57, 58, 59, 60, 61, 53, 50, 51, 52, 39]
theorem zsr_3_ok : zsub (zsr_3.map fun i => zsR (zsQ i)) tables_1_3 = true := by decide +kernel
def zsr_4 : List Nat := [62]
theorem zsr_4_ok : zsub (zsr_4.map fun i => zsR (zsQ i)) tables_1_4 = true := by decide +kernel
def zsr_6 : List Nat := [0]
theorem zsr_6_ok : zsub (zsr_6.map fun i => zsR (zsQ i)) tables_1_6 = true := by decide +kernel
def zsr_7 : List Nat := [1, 19, 20, 21, 22, 2, 23, 24, 3, 25, 4, 5, 6, 7, 8, 9, 10, 11, 12, 13, 14, 15, 16, 17]
theorem zsr_7_ok : zsub (zsr_7.map fun i => zsR (zsQ i)) tables_1_7 = true := by decide +kernel
def zsr_8 : List Nat := [18, 26, 27, 28, 29, 30, 31]
theorem zsr_8_ok : zsub (zsr_8.map fun i => zsR (zsQ i)) tables_1_8 = true := by decide +kernel
theorem zsr_all : (List.range 63).all (fun i => decide (i ∈ zsr_3) || decide (i ∈ zsr_4) || decide (i ∈ zsr_6) || decide (i ∈ zsr_7) || decide (i ∈ zsr_8)) = true := by decide +kernel
theorem zsR_in {i : Nat} {q : Nat × Nat × String × List Int32} (h : zstr[i]? = some q) : zsR q ∈ lw_tbl := by
  obtain ⟨h1, h2⟩ := zstr_Q h
  have h3 := List.all_eq_true.mp zsr_all i (List.mem_range.mpr h1)
  simp only [Bool.or_eq_true, decide_eq_true_eq] at h3
  rcases h3 with (((h3 | h3) | h3) | h3) | h3
  · exact zsub_in zsr_3_ok zsubt3 _ (List.mem_map.mpr ⟨i, h3, by rw [h2]⟩)
  · exact zsub_in zsr_4_ok zsubt4 _ (List.mem_map.mpr ⟨i, h3, by rw [h2]⟩)
  · exact zsub_in zsr_6_ok zsubt6 _ (List.mem_map.mpr ⟨i, h3, by rw [h2]⟩)
  · exact zsub_in zsr_7_ok zsubt7 _ (List.mem_map.mpr ⟨i, h3, by rw [h2]⟩)
  · exact zsub_in zsr_8_ok zsubt8 _ (List.mem_map.mpr ⟨i, h3, by rw [h2]⟩)
theorem zstart_s {args : Array Value} {s : State} (hgv : (Jvm.Cond.and given_1 narrow_1).before args s = true) (hts : ∀ w ∈ lw_tbl, w.before args s = true) : ∃ ad adV : Nat → Nat, ∀ (i : Nat) (q : Nat × Nat × String × List Int32), zstr[i]? = some q → vk_R (zcn q.1) q.2.1 q.2.2.1 (ad (1000000 + i)) s ∧ va_O "java/lang/String" (ad (1000000 + i)) (fun a => s.heap.size ≤ a) s s.heap ∧ va_OF "java/lang/String" "coder" "B" (.int 0) (ad (1000000 + i)) (fun a => s.heap.size ≤ a) s s.heap ∧ va_OF "java/lang/String" "value" "[B" (.ref (adV i)) (ad (1000000 + i)) (fun a => s.heap.size ≤ a) s s.heap ∧ va_T .byte (adV i) q.2.2.2.length (fun j => .int (q.2.2.2.getD j 0)) (fun a => s.heap.size ≤ a) s s.heap := by
  have hf : ∀ w ∈ zstW, w.before args s = true := flat_of_before _ hgv
  have hA : ∀ a : Nat, a < s.heap.size → ¬ s.heap.size ≤ a := fun a h => Nat.not_le.mpr h
  have h0 : ∀ i : Nat, ∃ r : Nat × Nat, ∀ q, zstr[i]? = some q → vk_R (zcn q.1) q.2.1 q.2.2.1 r.1 s ∧ va_O "java/lang/String" r.1 (fun a => s.heap.size ≤ a) s s.heap ∧ va_OF "java/lang/String" "coder" "B" (.int 0) r.1 (fun a => s.heap.size ≤ a) s s.heap ∧ va_OF "java/lang/String" "value" "[B" (.ref r.2) r.1 (fun a => s.heap.size ≤ a) s s.heap ∧ va_T .byte r.2 q.2.2.2.length (fun j => .int (q.2.2.2.getD j 0)) (fun a => s.heap.size ≤ a) s s.heap := by
    intro i
    cases hq : zstr[i]? with
    | none => exact ⟨(0, 0), fun q h => nomatch h⟩
    | some q =>
      have hw : ∀ w ∈ zsW q, w.before args s = true := fun w h => hf w (zsW_in hq w h)
      have hex := hw _ List.mem_cons_self
      have hco := hw _ (List.mem_cons_of_mem _ List.mem_cons_self)
      have har := hw _ (List.mem_cons_of_mem _ (List.mem_cons_of_mem _ List.mem_cons_self))
      have hle := hw _ (List.mem_cons_of_mem _ (List.mem_cons_of_mem _ (List.mem_cons_of_mem _ List.mem_cons_self)))
      have hel : ∀ j : Nat, j < q.2.2.2.length → (Term.elem (zsV q) (.int (Int32.ofNat j))).eval args s none [] s = some (.int (q.2.2.2.getD j 0)) := fun j hj =>
        va_eqt (hw _ (List.mem_cons_of_mem _ (List.mem_cons_of_mem _ (List.mem_cons_of_mem _ (List.mem_cons_of_mem _ (List.mem_map.mpr ⟨j, List.mem_range.mpr hj, rfl⟩))))))
      have hN : q.2.2.2.length < 2 ^ 31 := by
        have h1 := List.all_eq_true.mp zstr_all q (List.mem_of_getElem? hq)
        rw [Bool.and_eq_true, decide_eq_true_eq] at h1
        have := h1.1
        omega
      obtain ⟨a, c, cA, kA, q1, q2, q3, q4, q5, q6, -⟩ := Cond.exactly_spec (args := args) (first := s) (o := none) (s := s) (idx := []) (t := zsT q) (cls := "java/lang/String") hex
      obtain ⟨t, ht, hT⟩ := va_Tof (f := fun j => .int (q.2.2.2.getD j 0)) (A := fun a => s.heap.size ≤ a) hN har (va_eqt hle) hel hA
      refine ⟨(a, t), fun q' h' => ?_⟩
      cases h'
      exact ⟨vk_R.of (hts _ (zsR_in hq)) q1, ⟨cA, q3, q5, by rw [q6]; exact q2, hA a (Array.getElem?_eq_some_iff.mp q3).1⟩, vk_OFof q1 (va_eqt hco) hA, vk_OFof q1 ht hA, hT⟩
  obtain ⟨ad, had⟩ := Classical.axiomOfChoice h0
  refine ⟨fun k => (ad (k - 1000000)).1, fun i => (ad i).2, fun i q hq => ?_⟩
  have e1 : 1000000 + i - 1000000 = i := Nat.add_sub_cancel_left _ _
  show vk_R _ _ _ ((ad (1000000 + i - 1000000)).1) s ∧ va_O _ ((ad (1000000 + i - 1000000)).1) _ _ _ ∧ va_OF _ _ _ _ ((ad (1000000 + i - 1000000)).1) _ _ _ ∧ va_OF _ _ _ _ ((ad (1000000 + i - 1000000)).1) _ _ _ ∧ _
  rw [e1]
  exact had i q hq
end ZLN
