/-! THE LAW: its start -/
section ZLO
def zstA : List Cond := [.laysStatic "java/lang/String" "COMPACT_STRINGS" "Z", .initialized "java/lang/String", .laysStatic "jdk/internal/util/Preconditions" "SIOOBE_FORMATTER" "Ljava/util/function/BiFunction;", .initialized "jdk/internal/util/Preconditions", .laysStatic Bundle.tN "UNASSIGNED_STACK" Bundle.steD, .laysStatic Bundle.tN "SUPPRESSED_SENTINEL" Bundle.listD, .initialized Bundle.tN, .arrayOver (.object RX2)]
def zstB : List Cond := [.eq (.static "java/lang/String" "COMPACT_STRINGS" "Z") (.int 1), .isRef (.static "jdk/internal/util/Preconditions" "SIOOBE_FORMATTER" "Ljava/util/function/BiFunction;"), .isRef (.static Bundle.tN "UNASSIGNED_STACK" Bundle.steD), .isRef (.static Bundle.tN "SUPPRESSED_SENTINEL" Bundle.listD)]
set_option maxRecDepth 100000 in
theorem zstA_t : zstA.all (fun w => decide (w ∈ lw_tbl)) = true := by decide +kernel
set_option maxRecDepth 100000 in
theorem zstB_t : zstB.all (fun w => decide (w ∈ zstW)) = true := by decide +kernel
theorem zstBl : (List.range vwCl.length).all (fun ci => decide (ci ∈ zwB)) = true := by decide +kernel
theorem zftN_on : ∀ e, (zwdF e).onTables = true := fun e => by unfold zwdF; split <;> rfl
theorem zctN_on : ∀ e, (zwdC e).onTables = true := fun e => by unfold zwdC; split <;> rfl
theorem zstart_k {args : Array Value} {s : State} (hts : ∀ w ∈ zUW, w.before args s = true) : ∃ D : va_G, va_K D vwCl [] s := by
  have h0 : ∀ ci : Nat, ∃ r : ClassId × (Nat → Nat), ∀ q, vwCl[ci]? = some q → u_Kn s q.1 q.2.1 q.2.2 r.1 r.2 := by
    intro ci
    cases hq : vwCl[ci]? with
    | none => exact ⟨(0, fun _ => 0), fun q h => nomatch h⟩
    | some q =>
      obtain ⟨q1, q2, q3, -, -, -⟩ := zcls_at hq
      have hl := (List.getElem?_eq_some_iff.mp hq).1
      have hm := of_decide_eq_true (List.all_eq_true.mp zstBl ci (List.mem_range.mpr hl))
      have hi := hts _ (zwB_in ci hm)
      have hi : (Cond.instantiable (zcn ci) (zdefs ci).length).before args s = true := hi
      rw [q1] at hi
      obtain ⟨cC, iS, h⟩ := u_known hts q3 hi
      refine ⟨(cC, iS), fun q' h' => ?_⟩
      cases h'
      exact h
  obtain ⟨f, hf⟩ := Classical.axiomOfChoice h0
  exact ⟨(fun c => (f c).1, fun c => (f c).2), fun c q hq => hf c q hq, fun k q hk => nomatch hk⟩
theorem zstart_n {args : Array Value} {s : State} (hts : ∀ w ∈ lw_tbl, w.before args s = true) : zNok s :=
  ⟨fun e he => va_Nw.of (zftN_on e) (hts _ (zftN_in e he)), fun e he => va_Nw.of (zctN_on e) (hts _ (zctN_in e he)), va_AO.of (hts _ (of_decide_eq_true (List.all_eq_true.mp zstA_t _ (by simp [zstA]))))⟩
theorem zstart_x {args : Array Value} {s : State} (hgv : (Jvm.Cond.and given_1 narrow_1).before args s = true) (hts : ∀ w ∈ lw_tbl, w.before args s = true) : (∃ ad adV : Nat → Nat, zX ad adV (zAA s) s s.heap) ∧ zTX (zAA s) s s.heap := by
  have hf : ∀ w ∈ zstW, w.before args s = true := flat_of_before _ hgv
  have hA : ∀ a : Nat, a < s.heap.size → ¬ s.heap.size ≤ a := fun a h => Nat.not_le.mpr h
  have tA : ∀ w ∈ zstA, w.before args s = true := fun w hw => hts w (of_decide_eq_true (List.all_eq_true.mp zstA_t w hw))
  have tB : ∀ w ∈ zstB, w.before args s = true := fun w hw => hf w (of_decide_eq_true (List.all_eq_true.mp zstB_t w hw))
  obtain ⟨ad, adV, h⟩ := zstart_s hgv hts
  refine ⟨⟨ad, adV, h, va_Zof (tA _ (by simp [zstA])) (tA _ (by simp [zstA])) (va_eqi (tB _ (by simp [zstB]))) hA, va_Zqof (tA _ (by simp [zstA])) (tA _ (by simp [zstA])) (tB _ (by simp [zstB])) hA⟩, zDC_of hts, ?_, ?_⟩
  · exact vx_Zqof (tA _ (by simp [zstA])) (tA _ (by simp [zstA])) (tB _ (by simp [zstB])) hA
  · exact vx_Zqof (tA _ (by simp [zstA])) (tA _ (by simp [zstA])) (tB _ (by simp [zstB])) hA
end ZLO
