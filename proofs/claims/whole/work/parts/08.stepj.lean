/-! String.length and String.charAt of the texts: the library's own methods, walked -/
def zsX (a v : Nat) (t : List Int32) (A : Nat → Prop) (s : State) (H : Heap) : Prop :=
  va_O "java/lang/String" a A s H ∧ va_OF "java/lang/String" "coder" "B" (.int 0) a A s H ∧ va_OF "java/lang/String" "value" "[B" (.ref v) a A s H ∧ va_T .byte v t.length (fun j => .int (t.getD j 0)) A s H ∧ va_Z "java/lang/String" "COMPACT_STRINGS" "Z" (.int 1) A s H ∧ va_Zq "jdk/internal/util/Preconditions" "SIOOBE_FORMATTER" "Ljava/util/function/BiFunction;" A s H
theorem zsX.moved {a v : Nat} {t : List Int32} {A : Nat → Prop} {u U : State} {H : Heap} (hvm : u.vm.Alike U.vm) (h : zsX a v t A u H) : zsX a v t A U H := by
  obtain ⟨h1, h2, h3, h4, h5, h6⟩ := h
  exact ⟨h1.moved hvm, h2.moved hvm, h3.moved hvm, h4.moved hvm, h5.moved hvm, h6.moved hvm⟩
theorem zsX.narrow {a v : Nat} {t : List Int32} {A B : Nat → Prop} {s : State} {H : Heap} (h : zsX a v t A s H) (hAB : ∀ q, B q → A q) : zsX a v t B s H := by
  obtain ⟨h1, h2, h3, h4, h5, h6⟩ := h
  exact ⟨h1.narrow hAB, h2.narrow hAB, h3.narrow hAB, h4.narrow hAB, h5.narrow hAB, h6.narrow hAB⟩
theorem zsX.kept {a v : Nat} {t : List Int32} {A : Nat → Prop} {s : State} {H H1 : Heap} (h : zsX a v t A s H) (hq : ∀ a : Nat, a < H.size → ¬ A a → H1[a]? = H[a]?) : zsX a v t A s H1 := by
  obtain ⟨h1, h2, h3, h4, h5, h6⟩ := h
  exact ⟨h1.kept hq, h2.kept hq, h3.kept hq, h4.kept hq, h5.kept hq, h6.kept hq⟩
def zJP (a v : Nat) (t : List Int32) (as : List Value) : Array Value → State → Prop := va_Pc as fun U => zsX a v t (fun _ => False) U U.heap
theorem zJP_blind {a v : Nat} {t : List Int32} {as : List Value} : FrameBlind (zJP a v t as) := fun _ U g mk q => ⟨q.1, zsX.moved (u := U) (U := U.calling g mk _) (Vm.Alike.refl U.vm) q.2⟩
def zrm (f lo : Nat) : Room := { frames := f, cells := 0, slots := 0, locals := lo }
def zUWc (y : MethodName) (b : ByteArray) (n : Nat) (r : Option FieldType) : List Cond := .code y b n r :: zUW
theorem zUWc_good {y : MethodName} {b : ByteArray} {n : Nat} {r : Option FieldType} (h : Cond.code y b n r ∈ zUW) : GoodIn zUW (zUWc y b n r) := by
  intro w hw
  rcases List.mem_cons.mp hw with rfl | hw
  · exact ⟨h, good_of_word (List.mem_filter.mp h).2⟩
  · exact ⟨hw, good_of_word (List.mem_filter.mp hw).2⟩
theorem zK_compact : (Cond.fieldLink RJ0 38 "java/lang/String" "COMPACT_STRINGS" "Z") ∈ zUW := zUW_at (i := 670) (by decide +kernel) rfl
theorem zK_coderf : (Cond.fieldLink RJ0 15 "java/lang/String" "coder" "B") ∈ zUW := zUW_at (i := 2237) (by decide +kernel) rfl
theorem zK_valuef : (Cond.fieldLink RJ0 9 "java/lang/String" "value" "[B") ∈ zUW := zUW_at (i := 2236) (by decide +kernel) rfl
theorem zK_sioobe : (Cond.fieldLink RJ0 1053 "jdk/internal/util/Preconditions" "SIOOBE_FORMATTER" "Ljava/util/function/BiFunction;") ∈ zUW := zUW_at (i := 686) (by decide +kernel) rfl
theorem zK_lcod : (Cond.methodLink RJ0 335 yJ0_coder_7d493) ∈ zUW := zUW_at (i := 666) (by decide +kernel) rfl
theorem zK_ccod : (Cond.code yJ0_coder_7d493 cJ0_coder_7d493 1 (some .byte)) ∈ zUW := zUW_at (i := 669) (by decide +kernel) rfl
theorem zK_ncod : (Cond.instanceMethod yJ0_coder_7d493) ∈ zUW := zUW_at (i := 667) (by decide +kernel) rfl
theorem zK_vcod : (Cond.selects RJ0 yJ0_coder_7d493 yJ0_coder_7d493) ∈ zUW := zUW_at (i := 668) (by decide +kernel) rfl
theorem zK_llat : (Cond.methodLink RJ0 492 yJ0_isLatin1_aae02) ∈ zUW := zUW_at (i := 676) (by decide +kernel) rfl
theorem zK_clat : (Cond.code yJ0_isLatin1_aae02 cJ0_isLatin1_aae02 1 (some .boolean)) ∈ zUW := zUW_at (i := 679) (by decide +kernel) rfl
theorem zK_nlat : (Cond.instanceMethod yJ0_isLatin1_aae02) ∈ zUW := zUW_at (i := 677) (by decide +kernel) rfl
theorem zK_vlat : (Cond.selects RJ0 yJ0_isLatin1_aae02 yJ0_isLatin1_aae02) ∈ zUW := zUW_at (i := 678) (by decide +kernel) rfl
theorem zK_lat1 : (Cond.methodLink RJ0 495 yJ1_charAt_3b067) ∈ zUW := zUW_at (i := 680) (by decide +kernel) rfl
theorem zK_cat1 : (Cond.code yJ1_charAt_3b067 cJ1_charAt_3b067 2 (some .char)) ∈ zUW := zUW_at (i := 682) (by decide +kernel) rfl
theorem zK_sat1 : (Cond.static yJ1_charAt_3b067) ∈ zUW := zUW_at (i := 681) (by decide +kernel) rfl
theorem zK_iat1 : (Cond.initialized yJ1_charAt_3b067.cls) ∈ zUW := zUW_at (i := 142) (by decide +kernel) rfl
theorem zK_lchk : (Cond.methodLink RJ1 9 yJ0_checkIndex_df160) ∈ zUW := zUW_at (i := 683) (by decide +kernel) rfl
theorem zK_cchk : (Cond.code yJ0_checkIndex_df160 cJ0_checkIndex_df160 2 none) ∈ zUW := zUW_at (i := 685) (by decide +kernel) rfl
theorem zK_schk : (Cond.static yJ0_checkIndex_df160) ∈ zUW := zUW_at (i := 684) (by decide +kernel) rfl
theorem zK_ichk : (Cond.initialized yJ0_checkIndex_df160.cls) ∈ zUW := zUW_at (i := 141) (by decide +kernel) rfl
theorem zK_lpre : (Cond.methodLink RJ0 1059 yJ3_checkIndex_8e157) ∈ zUW := zUW_at (i := 688) (by decide +kernel) rfl
theorem zK_cpre : (Cond.code yJ3_checkIndex_8e157 cJ3_checkIndex_8e157 3 (some .int)) ∈ zUW := zUW_at (i := 690) (by decide +kernel) rfl
theorem zK_spre : (Cond.static yJ3_checkIndex_8e157) ∈ zUW := zUW_at (i := 689) (by decide +kernel) rfl
theorem zK_ipre : (Cond.initialized yJ3_checkIndex_8e157.cls) ∈ zUW := zUW_at (i := 143) (by decide +kernel) rfl
theorem zK_clen : (Cond.code yJ0_length_8abf5 cJ0_length_8abf5 1 (some .int)) ∈ zUW := zUW_at (i := 665) (by decide +kernel) rfl
theorem zK_cchr : (Cond.code yJ0_charAt_5068e cJ0_charAt_5068e 2 (some .char)) ∈ zUW := zUW_at (i := 675) (by decide +kernel) rfl
theorem zJ_shr0 {x : Int32} : x >>> ((0 : Int32) &&& 31) = x := by
  rw [show (0 : Int32) &&& 31 = 0 by decide]
  exact Int32.shiftRight_zero
theorem zJ_lt {i : Int32} {n : Nat} (h0 : ¬ i < 0) (h1 : i.toNatClampNeg < n) (hn : n < 2 ^ 31) : i < Int32.ofNat n := by
  rw [Int32.lt_iff_toInt_lt, Int32.toInt_ofNat_of_lt hn]
  rw [Int32.lt_iff_toInt_lt] at h0
  have : i.toNatClampNeg = i.toInt.toNat := rfl
  simp at h0
  omega
def zQv : Array Value → State → Outcome → State → Prop := fun _ st o t => o = .returned none ∧ t.heap = st.heap
section ZJ
variable {p : Program} {l : Launch} {e : Env} {R : Room} {s : State} {m : MethodId} {args : Array Value} {below : List Frame} {meth : Method} {c : Code} {H : Heap} {locs : List Loc} {cells slots : Nat} {Q : State → Prop}
theorem zcallV0 {g : JFrame} {rest : List Value} {a : Array Value} (hr : CallRun p l e R s m args below meth c H locs cells slots 0 0 g rest (zQv a) (fun _ => False)) (kk : W p l e R s m args below meth c H locs cells slots Q { g with pc := g.pc + 3, stack := rest }) : W p l e R s m args below meth c H locs cells slots Q g := by
  intro T hT X
  obtain ⟨v, st₀, t, T', L, h0, X', hL, e1, ⟨hv, hh⟩, st⟩ := hr T hT X
  cases hv
  obtain ⟨t2, a1, b1⟩ := kk T' (by rw [e1, hh, h0]) (Stand.forget X' (fun q h => (hL q h).elim))
  exact ⟨t2, st t2 a1, b1⟩
end ZJ
theorem zgV {own C : String} {ix : Nat} {y : MethodName} {b : ByteArray} {n : Nat} {r : Option FieldType} (h1 : Cond.methodLink own ix y ∈ zUW) (h2 : Cond.instanceMethod y ∈ zUW) (h3 : Cond.selects C y y ∈ zUW) (h4 : Cond.initialized C ∈ zUW) (h5 : Cond.code y b n r ∈ zUW) : GoodIn zUW (wsV own ix C y (zUWc y b n r)) := by
  intro w hw
  rcases List.mem_append.mp hw with hw | hw
  · have h : w ∈ zUW := by
      simp only [List.mem_cons, List.not_mem_nil, or_false] at hw
      rcases hw with rfl | rfl | rfl | rfl <;> assumption
    exact ⟨h, good_of_word (List.mem_filter.mp h).2⟩
  · exact zUWc_good h5 w hw
theorem zgS {own : String} {ix : Nat} {y : MethodName} {b : ByteArray} {n : Nat} {r : Option FieldType} (h5 : Cond.code y b n r ∈ zUW) : GoodIn zUW (zUWc y b n r) := zUWc_good h5
theorem zc_coder (l : Launch) (a v : Nat) (t : List Int32) : Met l yJ0_coder_7d493 (zUWc yJ0_coder_7d493 cJ0_coder_7d493 1 (some .byte)) (zrm 0 0) (zJP a v t [.ref a]) (QcRead 0) 0 0 (fun _ => False) := by
  refine Met.ofW (cc := cJ0_coder_7d493) (maxL := 1) (ret := (some .byte)) (by decide) rfl ?_
  intro p e s m args below meth c s₁ B hml hv
  obtain ⟨rfl, hX⟩ := hv
  have hx := B.exec
  have hb := B.bytes
  have hr := B.returns
  have hts : ∀ w ∈ zUW, w.before _ s = true := fun w hw => atoms_spec (ws := zUWc yJ0_coder_7d493 cJ0_coder_7d493 1 (some .byte)) B.pre w (List.mem_cons_of_mem _ hw)
  have hown : s.vm.findClass RJ0 = some m.cls := findClass_of_methodNamed B.named
  have hlocks := B.notSynchronized
  have hS : va_S (fun _ => False) s.heap s.heap [] := va_S.rf
  have hl := lv_entry ([.ref a]) (n := 1) (Nat.le_of_ble_eq_true rfl)
  rw [lg_entry_eq]
  generalize (lg_sl ([.ref a]) ++ List.replicate (1 - (lg_sl ([.ref a])).length) Slot.unset).toArray = ls at hl ⊢
  have hl : lv_has ls 1 [(0, .ref a)] := hl
  refine va_gets hx hb hX.2.2.2.2.1 hS hown (hts _ zK_compact) (fun _ h => h) dJ0_coder_7d493_0 ?_
  refine lv_if_eq (tgt := 13) hx hb dJ0_coder_7d493_3 (by decide) (fun c => absurd c (by decide)) (fun _ => ?_)
  refine lv_aload_n hx hb dJ0_coder_7d493_6 rfl (lv_at hl 0 rfl) ?_
  refine vk_getf hx hb hX.2.1 hS hown (hts _ zK_coderf) (fun _ h => h) dJ0_coder_7d493_7 ?_
  refine lv_goto (tgt := 14) hx hb dJ0_coder_7d493_10 (by decide) ?_
  exact W.zret (ty := .byte) hx hb hr rfl (fun t ht hW => ⟨rfl, ht⟩) (fun q h => by simp at h) dJ0_coder_7d493_14
theorem zc_latin (l : Launch) (a v : Nat) (t : List Int32) : Met l yJ0_isLatin1_aae02 (zUWc yJ0_isLatin1_aae02 cJ0_isLatin1_aae02 1 (some .boolean)) (zrm 0 0) (zJP a v t [.ref a]) (QcRead 1) 0 0 (fun _ => False) := by
  refine Met.ofW (cc := cJ0_isLatin1_aae02) (maxL := 1) (ret := (some .boolean)) (by decide) rfl ?_
  intro p e s m args below meth c s₁ B hml hv
  obtain ⟨rfl, hX⟩ := hv
  have hx := B.exec
  have hb := B.bytes
  have hr := B.returns
  have hts : ∀ w ∈ zUW, w.before _ s = true := fun w hw => atoms_spec (ws := zUWc yJ0_isLatin1_aae02 cJ0_isLatin1_aae02 1 (some .boolean)) B.pre w (List.mem_cons_of_mem _ hw)
  have hown : s.vm.findClass RJ0 = some m.cls := findClass_of_methodNamed B.named
  have hlocks := B.notSynchronized
  have hS : va_S (fun _ => False) s.heap s.heap [] := va_S.rf
  have hl := lv_entry ([.ref a]) (n := 1) (Nat.le_of_ble_eq_true rfl)
  rw [lg_entry_eq]
  generalize (lg_sl ([.ref a]) ++ List.replicate (1 - (lg_sl ([.ref a])).length) Slot.unset).toArray = ls at hl ⊢
  have hl : lv_has ls 1 [(0, .ref a)] := hl
  refine va_gets hx hb hX.2.2.2.2.1 hS hown (hts _ zK_compact) (fun _ h => h) dJ0_isLatin1_aae02_0 ?_
  refine lv_if_eq (tgt := 17) hx hb dJ0_isLatin1_aae02_3 (by decide) (fun c => absurd c (by decide)) (fun _ => ?_)
  refine lv_aload_n hx hb dJ0_isLatin1_aae02_6 rfl (lv_at hl 0 rfl) ?_
  refine vk_getf hx hb hX.2.1 hS hown (hts _ zK_coderf) (fun _ h => h) dJ0_isLatin1_aae02_7 ?_
  refine lv_if_ne (tgt := 17) hx hb dJ0_isLatin1_aae02_10 (by decide) (fun c => absurd rfl c) (fun _ => ?_)
  refine lv_iconst (v := 1) hx hb dJ0_isLatin1_aae02_13 (by decide) ?_
  refine lv_goto (tgt := 18) hx hb dJ0_isLatin1_aae02_14 (by decide) ?_
  exact W.zret (ty := .boolean) hx hb hr rfl (fun t ht hW => ⟨rfl, ht⟩) (fun q h => by simp at h) dJ0_isLatin1_aae02_18
theorem zc_pre (l : Launch) (a v : Nat) (t : List Int32) (i n : Int32) (f : Value) (hf : f = .null ∨ ∃ q, f = .ref q) (h0 : ¬ i < 0) (h1 : i < n) : Met l yJ3_checkIndex_8e157 (zUWc yJ3_checkIndex_8e157 cJ3_checkIndex_8e157 3 (some .int)) (zrm 0 0) (zJP a v t [.int i, .int n, f]) (QcRead i) 0 0 (fun _ => False) := by
  rcases hf with rfl | ⟨q, rfl⟩
  · refine Met.ofW (cc := cJ3_checkIndex_8e157) (maxL := 3) (ret := (some .int)) (by decide) rfl ?_
    intro p e s m args below meth c s₁ B hml hv
    obtain ⟨rfl, hX⟩ := hv
    have hx := B.exec
    have hb := B.bytes
    have hr := B.returns
    have hts : ∀ w ∈ zUW, w.before _ s = true := fun w hw => atoms_spec (ws := zUWc yJ3_checkIndex_8e157 cJ3_checkIndex_8e157 3 (some .int)) B.pre w (List.mem_cons_of_mem _ hw)
    have hown : s.vm.findClass RJ3 = some m.cls := findClass_of_methodNamed B.named
    have hlocks := B.notSynchronized
    have hS : va_S (fun _ => False) s.heap s.heap [] := va_S.rf
    have hl := lv_entry ([.int i, .int n, .null]) (n := 3) (Nat.le_of_ble_eq_true rfl)
    rw [lg_entry_eq]
    generalize (lg_sl ([.int i, .int n, .null]) ++ List.replicate (3 - (lg_sl ([.int i, .int n, .null])).length) Slot.unset).toArray = ls at hl ⊢
    have hl : lv_has ls 3 [(0, .int i), (1, .int n), (2, .null)] := hl
    refine lv_iload_n hx hb dJ3_checkIndex_8e157_0 rfl (lv_at hl 0 rfl) ?_
    refine lv_if_lt (tgt := 9) hx hb dJ3_checkIndex_8e157_1 (by decide) (fun c => absurd c h0) (fun _ => ?_)
    refine lv_iload_n hx hb dJ3_checkIndex_8e157_4 rfl (lv_at hl 0 rfl) ?_
    refine lv_iload_n hx hb dJ3_checkIndex_8e157_5 rfl (lv_at hl 1 rfl) ?_
    refine lv_icmp_lt (tgt := 16) hx hb dJ3_checkIndex_8e157_6 (by decide) (fun _ => ?_) (fun c => absurd h1 c)
    refine lv_iload_n hx hb dJ3_checkIndex_8e157_16 rfl (lv_at hl 0 rfl) ?_
    exact W.zret (ty := .int) hx hb hr rfl (fun t ht hW => ⟨rfl, ht⟩) (fun q h => by simp at h) dJ3_checkIndex_8e157_17
  · refine Met.ofW (cc := cJ3_checkIndex_8e157) (maxL := 3) (ret := (some .int)) (by decide) rfl ?_
    intro p e s m args below meth c s₁ B hml hv
    obtain ⟨rfl, hX⟩ := hv
    have hx := B.exec
    have hb := B.bytes
    have hr := B.returns
    have hts : ∀ w ∈ zUW, w.before _ s = true := fun w hw => atoms_spec (ws := zUWc yJ3_checkIndex_8e157 cJ3_checkIndex_8e157 3 (some .int)) B.pre w (List.mem_cons_of_mem _ hw)
    have hown : s.vm.findClass RJ3 = some m.cls := findClass_of_methodNamed B.named
    have hlocks := B.notSynchronized
    have hS : va_S (fun _ => False) s.heap s.heap [] := va_S.rf
    have hl := lv_entry ([.int i, .int n, .ref q]) (n := 3) (Nat.le_of_ble_eq_true rfl)
    rw [lg_entry_eq]
    generalize (lg_sl ([.int i, .int n, .ref q]) ++ List.replicate (3 - (lg_sl ([.int i, .int n, .ref q])).length) Slot.unset).toArray = ls at hl ⊢
    have hl : lv_has ls 3 [(0, .int i), (1, .int n), (2, .ref q)] := hl
    refine lv_iload_n hx hb dJ3_checkIndex_8e157_0 rfl (lv_at hl 0 rfl) ?_
    refine lv_if_lt (tgt := 9) hx hb dJ3_checkIndex_8e157_1 (by decide) (fun c => absurd c h0) (fun _ => ?_)
    refine lv_iload_n hx hb dJ3_checkIndex_8e157_4 rfl (lv_at hl 0 rfl) ?_
    refine lv_iload_n hx hb dJ3_checkIndex_8e157_5 rfl (lv_at hl 1 rfl) ?_
    refine lv_icmp_lt (tgt := 16) hx hb dJ3_checkIndex_8e157_6 (by decide) (fun _ => ?_) (fun c => absurd h1 c)
    refine lv_iload_n hx hb dJ3_checkIndex_8e157_16 rfl (lv_at hl 0 rfl) ?_
    exact W.zret (ty := .int) hx hb hr rfl (fun t ht hW => ⟨rfl, ht⟩) (fun q h => by simp at h) dJ3_checkIndex_8e157_17
theorem zc_check (l : Launch) (a v : Nat) (t : List Int32) (i n : Int32) (h0 : ¬ i < 0) (h1 : i < n) : Met l yJ0_checkIndex_df160 (zUWc yJ0_checkIndex_df160 cJ0_checkIndex_df160 2 none) (zrm 1 30) (zJP a v t [.int i, .int n]) zQv 0 0 (fun _ => False) := by
  refine Met.ofW (cc := cJ0_checkIndex_df160) (maxL := 2) (ret := none) (by decide) rfl ?_
  intro p e s m args below meth c s₁ B hml hv
  obtain ⟨rfl, hX⟩ := hv
  have hx := B.exec
  have hb := B.bytes
  have hr := B.returns
  have hts : ∀ w ∈ zUW, w.before _ s = true := fun w hw => atoms_spec (ws := zUWc yJ0_checkIndex_df160 cJ0_checkIndex_df160 2 none) B.pre w (List.mem_cons_of_mem _ hw)
  have hown : s.vm.findClass RJ0 = some m.cls := findClass_of_methodNamed B.named
  have hlocks := B.notSynchronized
  have hS : va_S (fun _ => False) s.heap s.heap [] := va_S.rf
  have hl := lv_entry ([.int i, .int n]) (n := 2) (Nat.le_of_ble_eq_true rfl)
  rw [lg_entry_eq]
  generalize (lg_sl ([.int i, .int n]) ++ List.replicate (2 - (lg_sl ([.int i, .int n])).length) Slot.unset).toArray = ls at hl ⊢
  have hl : lv_has ls 2 [(0, .int i), (1, .int n)] := hl
  refine lv_iload_n hx hb dJ0_checkIndex_df160_0 rfl (lv_at hl 0 rfl) ?_
  refine lv_iload_n hx hb dJ0_checkIndex_df160_1 rfl (lv_at hl 1 rfl) ?_
  obtain ⟨f, hf, hz⟩ : ∃ f : Value, (f = .null ∨ ∃ q, f = .ref q) ∧ va_Z "jdk/internal/util/Preconditions" "SIOOBE_FORMATTER" "Ljava/util/function/BiFunction;" f (fun _ => False) s s.heap := by
    rcases hX.2.2.2.2.2 with h | ⟨q, h⟩
    · exact ⟨.null, Or.inl rfl, h⟩
    · exact ⟨.ref q, Or.inr ⟨q, rfl⟩, h⟩
  refine va_gets hx hb hz hS hown (hts _ zK_sioobe) (fun _ h => h) dJ0_checkIndex_df160_2 ?_
  refine W.callR (W.runS (As := [.int i, .int n, f]) (rest := []) ⟨hx, hb, hml, hown, hts⟩ (zc_pre l a v t i n f hf h0 h1) ⟨callB_of 3 hts (zUWc_good zK_cpre) rfl rfl rfl (hts _ zK_ipre) (hts _ zK_lpre) ⟨by decide, by decide, by decide⟩ ⟨by decide, by decide⟩, hts _ zK_spre⟩ ⟨zJP_blind, fun U hU hW => ⟨rfl, by show zsX a v t (fun _ => False) U U.heap; rw [hU]; exact hX.moved hW.alike⟩⟩ rfl rfl hl.1 (by rfl) (lv_room (Nat.le_of_ble_eq_true rfl)) dJ0_checkIndex_df160_5 ⟨by decide, by decide⟩) ?_
  refine lv_pop hx hb dJ0_checkIndex_df160_8 rfl ?_
  exact W.vret hx hb hr (fun t ht hW => ⟨rfl, ht⟩) (fun q h => by simp at h) dJ0_checkIndex_df160_9
theorem zc_at1 (l : Launch) (a v : Nat) (t : List Int32) (i : Int32) (h0 : ¬ i < 0) (h1 : i.toNatClampNeg < t.length) (ht : t.length < 2 ^ 31) (hb8 : ∀ b ∈ t, ((b &&& 255).toUInt32 % 65536).toInt32 = b ∧ narrow .char (.int b) = .int b) : Met l yJ1_charAt_3b067 (zUWc yJ1_charAt_3b067 cJ1_charAt_3b067 2 (some .char)) (zrm 2 60) (zJP a v t [.ref v, .int i]) (QcRead (t.getD i.toNatClampNeg 0)) 0 0 (fun _ => False) := by
  refine Met.ofW (cc := cJ1_charAt_3b067) (maxL := 2) (ret := (some .char)) (by decide) rfl ?_
  intro p e s m args below meth c s₁ B hml hv
  obtain ⟨rfl, hX⟩ := hv
  have hx := B.exec
  have hb := B.bytes
  have hr := B.returns
  have hts : ∀ w ∈ zUW, w.before _ s = true := fun w hw => atoms_spec (ws := zUWc yJ1_charAt_3b067 cJ1_charAt_3b067 2 (some .char)) B.pre w (List.mem_cons_of_mem _ hw)
  have hown : s.vm.findClass RJ1 = some m.cls := findClass_of_methodNamed B.named
  have hlocks := B.notSynchronized
  have hS : va_S (fun _ => False) s.heap s.heap [] := va_S.rf
  have hl := lv_entry ([.ref v, .int i]) (n := 2) (Nat.le_of_ble_eq_true rfl)
  rw [lg_entry_eq]
  generalize (lg_sl ([.ref v, .int i]) ++ List.replicate (2 - (lg_sl ([.ref v, .int i])).length) Slot.unset).toArray = ls at hl ⊢
  have hl : lv_has ls 2 [(0, .ref v), (1, .int i)] := hl
  have hin : vp_in i t.length := fun h => h.elim h0 (fun h => absurd h (by omega))
  have hlt : i < Int32.ofNat t.length := zJ_lt h0 h1 ht
  have hmem : t.getD i.toNatClampNeg 0 ∈ t := by rw [List.getD_eq_getElem?_getD, List.getElem?_eq_getElem h1]; exact List.getElem_mem h1
  refine lv_iload_n hx hb dJ1_charAt_3b067_0 rfl (lv_at hl 1 rfl) ?_
  refine lv_aload_n hx hb dJ1_charAt_3b067_1 rfl (lv_at hl 0 rfl) ?_
  refine va_tlen hx hb hX.2.2.2.1 hS rfl dJ1_charAt_3b067_2 ?_
  refine zcallV0 (W.runS (As := [.int i, .int (Int32.ofNat t.length)]) (rest := []) ⟨hx, hb, hml, hown, hts⟩ (zc_check l a v t i _ h0 hlt) ⟨callB_of 2 hts (zUWc_good zK_cchk) rfl rfl rfl (hts _ zJ11) (hts _ zK_lchk) ⟨by decide, by decide, by decide⟩ ⟨by decide, by decide⟩, hts _ zK_schk⟩ ⟨zJP_blind, fun U hU hW => ⟨rfl, by show zsX a v t (fun _ => False) U U.heap; rw [hU]; exact hX.moved hW.alike⟩⟩ rfl rfl hl.1 (by rfl) (lv_room (Nat.le_of_ble_eq_true rfl)) dJ1_charAt_3b067_3 ⟨by decide, by decide⟩) ?_
  refine lv_aload_n hx hb dJ1_charAt_3b067_6 rfl (lv_at hl 0 rfl) ?_
  refine lv_iload_n hx hb dJ1_charAt_3b067_7 rfl (lv_at hl 1 rfl) ?_
  refine va_tb hx hb hX.2.2.2.1 hS hin rfl dJ1_charAt_3b067_8 ?_
  refine lv_sipush (v := 255) hx hb dJ1_charAt_3b067_9 (by decide) ?_
  refine lv_iand hx hb dJ1_charAt_3b067_12 ?_
  refine lv_i2c hx hb dJ1_charAt_3b067_13 (hb8 _ hmem).1 ?_
  exact W.zret (ty := .char) hx hb hr (hb8 _ hmem).2 (fun t ht hW => ⟨rfl, ht⟩) (fun q h => by simp at h) dJ1_charAt_3b067_14
theorem zc_charAt (l : Launch) (a v : Nat) (t : List Int32) (i : Int32) (h0 : ¬ i < 0) (h1 : i.toNatClampNeg < t.length) (ht : t.length < 2 ^ 31) (hb8 : ∀ b ∈ t, ((b &&& 255).toUInt32 % 65536).toInt32 = b ∧ narrow .char (.int b) = .int b) : Met l yJ0_charAt_5068e (zUWc yJ0_charAt_5068e cJ0_charAt_5068e 2 (some .char)) (zrm 3 85) (zJP a v t [.ref a, .int i]) (QcRead (t.getD i.toNatClampNeg 0)) 0 0 (fun _ => False) := by
  refine Met.ofW (cc := cJ0_charAt_5068e) (maxL := 2) (ret := (some .char)) (by decide) rfl ?_
  intro p e s m args below meth c s₁ B hml hv
  obtain ⟨rfl, hX⟩ := hv
  have hx := B.exec
  have hb := B.bytes
  have hr := B.returns
  have hts : ∀ w ∈ zUW, w.before _ s = true := fun w hw => atoms_spec (ws := zUWc yJ0_charAt_5068e cJ0_charAt_5068e 2 (some .char)) B.pre w (List.mem_cons_of_mem _ hw)
  have hown : s.vm.findClass RJ0 = some m.cls := findClass_of_methodNamed B.named
  have hlocks := B.notSynchronized
  have hS : va_S (fun _ => False) s.heap s.heap [] := va_S.rf
  have hl := lv_entry ([.ref a, .int i]) (n := 2) (Nat.le_of_ble_eq_true rfl)
  rw [lg_entry_eq]
  generalize (lg_sl ([.ref a, .int i]) ++ List.replicate (2 - (lg_sl ([.ref a, .int i])).length) Slot.unset).toArray = ls at hl ⊢
  have hl : lv_has ls 2 [(0, .ref a), (1, .int i)] := hl
  have hmem : t.getD i.toNatClampNeg 0 ∈ t := by rw [List.getD_eq_getElem?_getD, List.getElem?_eq_getElem h1]; exact List.getElem_mem h1
  obtain ⟨cell, k1, k2, k3, -⟩ := hX.1
  refine lv_aload_n hx hb dJ0_charAt_5068e_0 rfl (lv_at hl 0 rfl) ?_
  refine W.callR (W.runV (As := []) (rest := []) ⟨hx, hb, hml, hown, hts⟩ (zc_latin l a v t) (cwV 0 hts (zgV zK_llat zK_nlat zK_vlat zJ11 zK_clat) rfl rfl rfl ⟨rfl, by decide, by decide, by decide⟩ ⟨by decide, by decide⟩) ⟨zJP_blind, ⟨cell, k1, k2, k3⟩, fun U hU hW => ⟨rfl, by show zsX a v t (fun _ => False) U U.heap; rw [hU]; exact hX.moved hW.alike⟩⟩ rfl rfl hl.1 (by rfl) (lv_room (Nat.le_of_ble_eq_true rfl)) dJ0_charAt_5068e_1 ⟨by decide, by decide⟩) ?_
  refine W.eq (g2 := F0 m 4 ls [.int 1]) rfl ?_
  refine lv_if_eq (tgt := 16) hx hb dJ0_charAt_5068e_4 (by decide) (fun c => absurd c (by decide)) (fun _ => ?_)
  refine lv_aload_n hx hb dJ0_charAt_5068e_7 rfl (lv_at hl 0 rfl) ?_
  refine vk_getf hx hb hX.2.2.1 hS hown (hts _ zK_valuef) (fun _ h => h) dJ0_charAt_5068e_8 ?_
  refine lv_iload_n hx hb dJ0_charAt_5068e_11 rfl (lv_at hl 1 rfl) ?_
  refine W.callR (W.runS (As := [.ref v, .int i]) (rest := []) ⟨hx, hb, hml, hown, hts⟩ (zc_at1 l a v t i h0 h1 ht hb8) ⟨callB_of 2 hts (zUWc_good zK_cat1) rfl rfl rfl (hts _ zK_iat1) (hts _ zK_lat1) ⟨by decide, by decide, by decide⟩ ⟨by decide, by decide⟩, hts _ zK_sat1⟩ ⟨zJP_blind, fun U hU hW => ⟨rfl, by show zsX a v t (fun _ => False) U U.heap; rw [hU]; exact hX.moved hW.alike⟩⟩ rfl rfl hl.1 (by rfl) (lv_room (Nat.le_of_ble_eq_true rfl)) dJ0_charAt_5068e_12 ⟨by decide, by decide⟩) ?_
  exact W.zret (ty := .char) hx hb hr (hb8 _ hmem).2 (fun t ht hW => ⟨rfl, ht⟩) (fun q h => by simp at h) dJ0_charAt_5068e_15
theorem zc_length (l : Launch) (a v : Nat) (t : List Int32) (ht : t.length < 2 ^ 31) : Met l yJ0_length_8abf5 (zUWc yJ0_length_8abf5 cJ0_length_8abf5 1 (some .int)) (zrm 1 30) (zJP a v t [.ref a]) (QcRead (Int32.ofNat t.length)) 0 0 (fun _ => False) := by
  refine Met.ofW (cc := cJ0_length_8abf5) (maxL := 1) (ret := (some .int)) (by decide) rfl ?_
  intro p e s m args below meth c s₁ B hml hv
  obtain ⟨rfl, hX⟩ := hv
  have hx := B.exec
  have hb := B.bytes
  have hr := B.returns
  have hts : ∀ w ∈ zUW, w.before _ s = true := fun w hw => atoms_spec (ws := zUWc yJ0_length_8abf5 cJ0_length_8abf5 1 (some .int)) B.pre w (List.mem_cons_of_mem _ hw)
  have hown : s.vm.findClass RJ0 = some m.cls := findClass_of_methodNamed B.named
  have hlocks := B.notSynchronized
  have hS : va_S (fun _ => False) s.heap s.heap [] := va_S.rf
  have hl := lv_entry ([.ref a]) (n := 1) (Nat.le_of_ble_eq_true rfl)
  rw [lg_entry_eq]
  generalize (lg_sl ([.ref a]) ++ List.replicate (1 - (lg_sl ([.ref a])).length) Slot.unset).toArray = ls at hl ⊢
  have hl : lv_has ls 1 [(0, .ref a)] := hl
  obtain ⟨cell, k1, k2, k3, -⟩ := hX.1
  refine lv_aload_n hx hb dJ0_length_8abf5_0 rfl (lv_at hl 0 rfl) ?_
  refine vk_getf hx hb hX.2.2.1 hS hown (hts _ zK_valuef) (fun _ h => h) dJ0_length_8abf5_1 ?_
  refine va_tlen hx hb hX.2.2.2.1 hS rfl dJ0_length_8abf5_4 ?_
  refine lv_aload_n hx hb dJ0_length_8abf5_5 rfl (lv_at hl 0 rfl) ?_
  refine W.callR (W.runV (As := []) (rest := [.int (Int32.ofNat t.length)]) ⟨hx, hb, hml, hown, hts⟩ (zc_coder l a v t) (cwV 0 hts (zgV zK_lcod zK_ncod zK_vcod zJ11 zK_ccod) rfl rfl rfl ⟨rfl, by decide, by decide, by decide⟩ ⟨by decide, by decide⟩) ⟨zJP_blind, ⟨cell, k1, k2, k3⟩, fun U hU hW => ⟨rfl, by show zsX a v t (fun _ => False) U U.heap; rw [hU]; exact hX.moved hW.alike⟩⟩ rfl rfl hl.1 (by rfl) (lv_room (Nat.le_of_ble_eq_true rfl)) dJ0_length_8abf5_6 ⟨by decide, by decide⟩) ?_
  refine lv_ishr hx hb dJ0_length_8abf5_9 ?_
  refine W.zret (ty := .int) (v := Int32.ofNat t.length >>> ((0 : Int32) &&& 31)) hx hb hr rfl (fun t1 ht1 hW => ⟨by rw [zJ_shr0], ht1⟩) (fun q h => by simp at h) dJ0_length_8abf5_10
