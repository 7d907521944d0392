/-! the printed tables, checked against the Statement's: each kind of word in one pass -/
def zUW : List Cond := lw_tbl.filter goodWord
def zsub : List Cond → List Cond → Bool
  | [], _ => true
  | _ :: _, [] => false
  | a :: as, b :: bs => if a = b then zsub as bs else zsub (a :: as) bs
theorem zsub_mem : ∀ (bs as : List Cond), zsub as bs = true → ∀ w ∈ as, w ∈ bs
  | bs, [], _ => fun w hw => absurd hw List.not_mem_nil
  | [], a :: as, h => by simp [zsub] at h
  | b :: bs, a :: as, h => by
    intro w hw
    unfold zsub at h
    split at h
    · rename_i hab
      rcases List.mem_cons.mp hw with rfl | hw
      · rw [hab]; exact List.mem_cons_self
      · exact List.mem_cons_of_mem _ (zsub_mem bs as h w hw)
    · exact List.mem_cons_of_mem _ (zsub_mem bs (a :: as) h w hw)
/-- a list of words is in such a part of the tables, in its order, and good -/
def zok (ws bs : List Cond) : Bool := zsub ws bs && ws.all goodWord
theorem zok_in {ws bs : List Cond} (h : zok ws bs = true) (hb : ∀ w ∈ bs, w ∈ lw_tbl) : ∀ w ∈ ws, w ∈ zUW := by
  intro w hw
  simp only [zok, Bool.and_eq_true] at h
  exact List.mem_filter.mpr ⟨hb w (zsub_mem _ _ h.1 w hw), List.all_eq_true.mp h.2 w hw⟩
theorem zsub_in {ws bs : List Cond} (h : zsub ws bs = true) (hb : ∀ w ∈ bs, w ∈ lw_tbl) : ∀ w ∈ ws, w ∈ lw_tbl := fun w hw => hb w (zsub_mem _ _ h w hw)
theorem zUW_at {w : Cond} {i : Nat} (h : lw_tbl[i]? = some w) (hg : goodWord w = true) : w ∈ zUW := List.mem_filter.mpr ⟨List.mem_of_getElem? h, hg⟩
theorem zsubt0 : ∀ w ∈ k2_sels lw_privs, w ∈ lw_tbl := fun w h => List.mem_append_left _ h
theorem zsubt1 : ∀ w ∈ tables_1_1, w ∈ lw_tbl := fun w h => List.mem_append_right _ (by unfold tables_1; exact List.mem_append_left _ h)
theorem zsubt2 : ∀ w ∈ tables_1_2, w ∈ lw_tbl := fun w h => List.mem_append_right _ (by unfold tables_1; exact List.mem_append_right _ (List.mem_append_left _ h))
theorem zsubt3 : ∀ w ∈ tables_1_3, w ∈ lw_tbl := fun w h => List.mem_append_right _ (by unfold tables_1; exact List.mem_append_right _ (List.mem_append_right _ (List.mem_append_left _ h)))
theorem zsubt4 : ∀ w ∈ tables_1_4, w ∈ lw_tbl := fun w h => List.mem_append_right _ (by unfold tables_1; exact List.mem_append_right _ (List.mem_append_right _ (List.mem_append_right _ (List.mem_append_left _ h))))
theorem zsubt5 : ∀ w ∈ tables_1_5, w ∈ lw_tbl := fun w h => List.mem_append_right _ (by unfold tables_1; exact List.mem_append_right _ (List.mem_append_right _ (List.mem_append_right _ (List.mem_append_right _ (List.mem_append_left _ h)))))
theorem zsubt6 : ∀ w ∈ tables_1_6, w ∈ lw_tbl := fun w h => List.mem_append_right _ (by unfold tables_1; exact List.mem_append_right _ (List.mem_append_right _ (List.mem_append_right _ (List.mem_append_right _ (List.mem_append_right _ (List.mem_append_left _ h))))))
theorem zsubt7 : ∀ w ∈ tables_1_7, w ∈ lw_tbl := fun w h => List.mem_append_right _ (by unfold tables_1; exact List.mem_append_right _ (List.mem_append_right _ (List.mem_append_right _ (List.mem_append_right _ (List.mem_append_right _ (List.mem_append_right _ (List.mem_append_left _ h)))))))
theorem zsubt8 : ∀ w ∈ tables_1_8, w ∈ lw_tbl := fun w h => List.mem_append_right _ (by unfold tables_1; exact List.mem_append_right _ (List.mem_append_right _ (List.mem_append_right _ (List.mem_append_right _ (List.mem_append_right _ (List.mem_append_right _ (List.mem_append_right _ (List.mem_append_left _ h))))))))
theorem zsubt9 : ∀ w ∈ tables_1_9, w ∈ lw_tbl := fun w h => List.mem_append_right _ (by unfold tables_1; exact List.mem_append_right _ (List.mem_append_right _ (List.mem_append_right _ (List.mem_append_right _ (List.mem_append_right _ (List.mem_append_right _ (List.mem_append_right _ (List.mem_append_right _ (h)))))))))
def zcn (a : Nat) : String := zR.getD a ""
/-- how many fields a class has, and what they hold when an object is made -/
def zdef (ty : FieldType) : Value := match ty with
  | .long => .long 0
  | .object _ => .null
  | .array _ => .null
  | _ => .int 0
def zdefs (ci : Nat) : List Value := match vwCl[ci]? with
  | some q => (List.range q.2.2).map fun k => zdef (zty ci k)
  | none => []
def zF (ci k : Nat) : String × String × String × Bool := match vwCl[ci]? with
  | some q => q.2.1 k
  | none => ("", "", "", false)
def zwdF (e : Nat × Nat × Nat × Nat × Bool) : Cond := if e.2.2.2.2 = true then .fieldLinkNest (zcn e.1) e.2.1 (zF e.2.2.1 e.2.2.2.1).1 (zF e.2.2.1 e.2.2.2.1).2.1 (zF e.2.2.1 e.2.2.2.1).2.2.1 "SnowWallsModel" else .fieldLink (zcn e.1) e.2.1 (zF e.2.2.1 e.2.2.2.1).1 (zF e.2.2.1 e.2.2.2.1).2.1 (zF e.2.2.1 e.2.2.2.1).2.2.1
def zy (mi : Nat) : MethodName := match zmeth[mi]? with
  | some q => q.1
  | none => ⟨"", "", ""⟩
/-- whom a call names -/
def zyt (k t : Nat) : MethodName := if k = 10 then objectInit else if k = 11 then Lib.Math.max.name else if k = 12 then Lib.Math.min.name else if k = 13 then Lib.Math.abs.name else if k = 14 then yJ0_length_8abf5 else if k = 15 then yJ0_charAt_5068e else zy t
def zwdC (e : Nat × Nat × Nat × Nat) : Cond := if e.2.2.1 = 3 then .methodLinkNest (zcn e.1) e.2.1 (zyt e.2.2.1 e.2.2.2) "SnowWallsModel" else .methodLink (zcn e.1) e.2.1 (zyt e.2.2.1 e.2.2.2)
def zwdM (mi : Nat) : Cond := match zmeth[mi]? with
  | some q => .code q.1 q.2.1 q.2.2.1 q.2.2.2.1
  | none => .static ⟨"", "", ""⟩
def zwdK (e : Nat × Nat × Value) : Cond := match e.2.2 with
  | .int v => .constant (zcn e.1) e.2.1 v
  | .long v => .constantLong (zcn e.1) e.2.1 v
  | _ => .static ⟨"", "", ""⟩
set_option maxRecDepth 100000 in
theorem zftA_1_0_ok : zok (zftA_1_0.map zwdF) tables_1_1 = true := by decide +kernel
set_option maxRecDepth 100000 in
theorem zftA_1_1_ok : zok (zftA_1_1.map zwdF) tables_1_1 = true := by decide +kernel
set_option maxRecDepth 100000 in
theorem zftA_1_2_ok : zok (zftA_1_2.map zwdF) tables_1_1 = true := by decide +kernel
set_option maxRecDepth 100000 in
theorem zftA_2_0_ok : zok (zftA_2_0.map zwdF) tables_1_2 = true := by decide +kernel
set_option maxRecDepth 100000 in
theorem zftA_2_1_ok : zok (zftA_2_1.map zwdF) tables_1_2 = true := by decide +kernel
set_option maxRecDepth 100000 in
theorem zftA_6_0_ok : zok (zftA_6_0.map zwdF) tables_1_6 = true := by decide +kernel
set_option maxRecDepth 100000 in
theorem zftA_7_0_ok : zok (zftA_7_0.map zwdF) tables_1_7 = true := by decide +kernel
theorem zftA_in : ∀ e ∈ zftA, (zwdF) e ∈ zUW := by
  unfold zftA
  exact (List.forall_mem_append.mpr ⟨(List.forall_mem_append.mpr ⟨(List.forall_mem_append.mpr ⟨(List.forall_mem_append.mpr ⟨(List.forall_mem_append.mpr ⟨(List.forall_mem_append.mpr ⟨(fun e he => zok_in zftA_1_0_ok zsubt1 _ (List.mem_map_of_mem he)), (fun e he => zok_in zftA_1_1_ok zsubt1 _ (List.mem_map_of_mem he))⟩), (fun e he => zok_in zftA_1_2_ok zsubt1 _ (List.mem_map_of_mem he))⟩), (fun e he => zok_in zftA_2_0_ok zsubt2 _ (List.mem_map_of_mem he))⟩), (fun e he => zok_in zftA_2_1_ok zsubt2 _ (List.mem_map_of_mem he))⟩), (fun e he => zok_in zftA_6_0_ok zsubt6 _ (List.mem_map_of_mem he))⟩), (fun e he => zok_in zftA_7_0_ok zsubt7 _ (List.mem_map_of_mem he))⟩)
set_option maxRecDepth 100000 in
theorem zftN_6_0_ok : zsub (zftN_6_0.map zwdF) tables_1_6 = true := by decide +kernel
set_option maxRecDepth 100000 in
theorem zftN_7_0_ok : zsub (zftN_7_0.map zwdF) tables_1_7 = true := by decide +kernel
theorem zftN_in : ∀ e ∈ zftN, (zwdF) e ∈ lw_tbl := by
  unfold zftN
  exact (List.forall_mem_append.mpr ⟨(fun e he => zsub_in zftN_6_0_ok zsubt6 _ (List.mem_map_of_mem he)), (fun e he => zsub_in zftN_7_0_ok zsubt7 _ (List.mem_map_of_mem he))⟩)
set_option maxRecDepth 100000 in
theorem zctA_1_0_ok : zok (zctA_1_0.map zwdC) tables_1_1 = true := by decide +kernel
set_option maxRecDepth 100000 in
theorem zctA_2_0_ok : zok (zctA_2_0.map zwdC) tables_1_2 = true := by decide +kernel
set_option maxRecDepth 100000 in
theorem zctA_3_0_ok : zok (zctA_3_0.map zwdC) tables_1_3 = true := by decide +kernel
set_option maxRecDepth 100000 in
theorem zctA_3_1_ok : zok (zctA_3_1.map zwdC) tables_1_3 = true := by decide +kernel
set_option maxRecDepth 100000 in
theorem zctA_4_0_ok : zok (zctA_4_0.map zwdC) tables_1_4 = true := by decide +kernel
set_option maxRecDepth 100000 in
theorem zctA_4_1_ok : zok (zctA_4_1.map zwdC) tables_1_4 = true := by decide +kernel
set_option maxRecDepth 100000 in
theorem zctA_5_0_ok : zok (zctA_5_0.map zwdC) tables_1_5 = true := by decide +kernel
set_option maxRecDepth 100000 in
theorem zctA_5_1_ok : zok (zctA_5_1.map zwdC) tables_1_5 = true := by decide +kernel
set_option maxRecDepth 100000 in
theorem zctA_6_0_ok : zok (zctA_6_0.map zwdC) tables_1_6 = true := by decide +kernel
set_option maxRecDepth 100000 in
theorem zctA_7_0_ok : zok (zctA_7_0.map zwdC) tables_1_7 = true := by decide +kernel
set_option maxRecDepth 100000 in
theorem zctA_8_0_ok : zok (zctA_8_0.map zwdC) tables_1_8 = true := by decide +kernel
set_option maxRecDepth 100000 in
theorem zctA_9_0_ok : zok (zctA_9_0.map zwdC) tables_1_9 = true := by decide +kernel
theorem zctA_in : ∀ e ∈ zctA, (zwdC) e ∈ zUW := by
  unfold zctA
  exact (List.forall_mem_append.mpr ⟨(List.forall_mem_append.mpr ⟨(List.forall_mem_append.mpr ⟨(List.forall_mem_append.mpr ⟨(List.forall_mem_append.mpr ⟨(List.forall_mem_append.mpr ⟨(List.forall_mem_append.mpr ⟨(List.forall_mem_append.mpr ⟨(List.forall_mem_append.mpr ⟨(List.forall_mem_append.mpr ⟨(List.forall_mem_append.mpr ⟨(fun e he => zok_in zctA_1_0_ok zsubt1 _ (List.mem_map_of_mem he)), (fun e he => zok_in zctA_2_0_ok zsubt2 _ (List.mem_map_of_mem he))⟩), (fun e he => zok_in zctA_3_0_ok zsubt3 _ (List.mem_map_of_mem he))⟩), (fun e he => zok_in zctA_3_1_ok zsubt3 _ (List.mem_map_of_mem he))⟩), (fun e he => zok_in zctA_4_0_ok zsubt4 _ (List.mem_map_of_mem he))⟩), (fun e he => zok_in zctA_4_1_ok zsubt4 _ (List.mem_map_of_mem he))⟩), (fun e he => zok_in zctA_5_0_ok zsubt5 _ (List.mem_map_of_mem he))⟩), (fun e he => zok_in zctA_5_1_ok zsubt5 _ (List.mem_map_of_mem he))⟩), (fun e he => zok_in zctA_6_0_ok zsubt6 _ (List.mem_map_of_mem he))⟩), (fun e he => zok_in zctA_7_0_ok zsubt7 _ (List.mem_map_of_mem he))⟩), (fun e he => zok_in zctA_8_0_ok zsubt8 _ (List.mem_map_of_mem he))⟩), (fun e he => zok_in zctA_9_0_ok zsubt9 _ (List.mem_map_of_mem he))⟩)
set_option maxRecDepth 100000 in
theorem zctN_6_0_ok : zsub (zctN_6_0.map zwdC) tables_1_6 = true := by decide +kernel
theorem zctN_in : ∀ e ∈ zctN, (zwdC) e ∈ lw_tbl := by
  unfold zctN
  exact (fun e he => zsub_in zctN_6_0_ok zsubt6 _ (List.mem_map_of_mem he))
set_option maxRecDepth 100000 in
theorem znt_1_0_ok : zok (znt_1_0.map (fun e => Cond.classLink (zcn e.1) e.2.1 (zcn e.2.2))) tables_1_1 = true := by decide +kernel
set_option maxRecDepth 100000 in
theorem znt_2_0_ok : zok (znt_2_0.map (fun e => Cond.classLink (zcn e.1) e.2.1 (zcn e.2.2))) tables_1_2 = true := by decide +kernel
set_option maxRecDepth 100000 in
theorem znt_6_0_ok : zok (znt_6_0.map (fun e => Cond.classLink (zcn e.1) e.2.1 (zcn e.2.2))) tables_1_6 = true := by decide +kernel
theorem znt_in : ∀ e ∈ znt, ((fun e => Cond.classLink (zcn e.1) e.2.1 (zcn e.2.2))) e ∈ zUW := by
  unfold znt
  exact (List.forall_mem_append.mpr ⟨(List.forall_mem_append.mpr ⟨(fun e he => zok_in znt_1_0_ok zsubt1 _ (List.mem_map_of_mem he)), (fun e he => zok_in znt_2_0_ok zsubt2 _ (List.mem_map_of_mem he))⟩), (fun e he => zok_in znt_6_0_ok zsubt6 _ (List.mem_map_of_mem he))⟩)
set_option maxRecDepth 100000 in
theorem zat_2_0_ok : zok (zat_2_0.map (fun e => Cond.classLink (zcn e.1) e.2 RX2)) tables_1_2 = true := by decide +kernel
theorem zat_in : ∀ e ∈ zat, ((fun e => Cond.classLink (zcn e.1) e.2 RX2)) e ∈ zUW := by
  unfold zat
  exact (fun e he => zok_in zat_2_0_ok zsubt2 _ (List.mem_map_of_mem he))
set_option maxRecDepth 100000 in
theorem zktA_3_0_ok : zok (zktA_3_0.map zwdK) tables_1_3 = true := by decide +kernel
set_option maxRecDepth 100000 in
theorem zktA_4_0_ok : zok (zktA_4_0.map zwdK) tables_1_4 = true := by decide +kernel
set_option maxRecDepth 100000 in
theorem zktA_5_0_ok : zok (zktA_5_0.map zwdK) tables_1_5 = true := by decide +kernel
set_option maxRecDepth 100000 in
theorem zktA_7_0_ok : zok (zktA_7_0.map zwdK) tables_1_7 = true := by decide +kernel
set_option maxRecDepth 100000 in
theorem zktA_8_0_ok : zok (zktA_8_0.map zwdK) tables_1_8 = true := by decide +kernel
set_option maxRecDepth 100000 in
theorem zktA_9_0_ok : zok (zktA_9_0.map zwdK) tables_1_9 = true := by decide +kernel
theorem zktA_in : ∀ e ∈ zktA, (zwdK) e ∈ zUW := by
  unfold zktA
  exact (List.forall_mem_append.mpr ⟨(List.forall_mem_append.mpr ⟨(List.forall_mem_append.mpr ⟨(List.forall_mem_append.mpr ⟨(List.forall_mem_append.mpr ⟨(fun e he => zok_in zktA_3_0_ok zsubt3 _ (List.mem_map_of_mem he)), (fun e he => zok_in zktA_4_0_ok zsubt4 _ (List.mem_map_of_mem he))⟩), (fun e he => zok_in zktA_5_0_ok zsubt5 _ (List.mem_map_of_mem he))⟩), (fun e he => zok_in zktA_7_0_ok zsubt7 _ (List.mem_map_of_mem he))⟩), (fun e he => zok_in zktA_8_0_ok zsubt8 _ (List.mem_map_of_mem he))⟩), (fun e he => zok_in zktA_9_0_ok zsubt9 _ (List.mem_map_of_mem he))⟩)
set_option maxRecDepth 100000 in
theorem zwI_1_0_ok : zok (zwI_1_0.map (fun mi => Cond.instanceMethod (zy mi))) tables_1_1 = true := by decide +kernel
set_option maxRecDepth 100000 in
theorem zwI_2_0_ok : zok (zwI_2_0.map (fun mi => Cond.instanceMethod (zy mi))) tables_1_2 = true := by decide +kernel
set_option maxRecDepth 100000 in
theorem zwI_3_0_ok : zok (zwI_3_0.map (fun mi => Cond.instanceMethod (zy mi))) tables_1_3 = true := by decide +kernel
set_option maxRecDepth 100000 in
theorem zwI_4_0_ok : zok (zwI_4_0.map (fun mi => Cond.instanceMethod (zy mi))) tables_1_4 = true := by decide +kernel
set_option maxRecDepth 100000 in
theorem zwI_4_1_ok : zok (zwI_4_1.map (fun mi => Cond.instanceMethod (zy mi))) tables_1_4 = true := by decide +kernel
set_option maxRecDepth 100000 in
theorem zwI_5_0_ok : zok (zwI_5_0.map (fun mi => Cond.instanceMethod (zy mi))) tables_1_5 = true := by decide +kernel
set_option maxRecDepth 100000 in
theorem zwI_5_1_ok : zok (zwI_5_1.map (fun mi => Cond.instanceMethod (zy mi))) tables_1_5 = true := by decide +kernel
set_option maxRecDepth 100000 in
theorem zwI_6_0_ok : zok (zwI_6_0.map (fun mi => Cond.instanceMethod (zy mi))) tables_1_6 = true := by decide +kernel
set_option maxRecDepth 100000 in
theorem zwI_7_0_ok : zok (zwI_7_0.map (fun mi => Cond.instanceMethod (zy mi))) tables_1_7 = true := by decide +kernel
set_option maxRecDepth 100000 in
theorem zwI_8_0_ok : zok (zwI_8_0.map (fun mi => Cond.instanceMethod (zy mi))) tables_1_8 = true := by decide +kernel
set_option maxRecDepth 100000 in
theorem zwI_8_1_ok : zok (zwI_8_1.map (fun mi => Cond.instanceMethod (zy mi))) tables_1_8 = true := by decide +kernel
set_option maxRecDepth 100000 in
theorem zwI_9_0_ok : zok (zwI_9_0.map (fun mi => Cond.instanceMethod (zy mi))) tables_1_9 = true := by decide +kernel
set_option maxRecDepth 100000 in
theorem zwI_9_1_ok : zok (zwI_9_1.map (fun mi => Cond.instanceMethod (zy mi))) tables_1_9 = true := by decide +kernel
theorem zwI_in : ∀ e ∈ zwI, ((fun mi => Cond.instanceMethod (zy mi))) e ∈ zUW := by
  unfold zwI
  exact (List.forall_mem_append.mpr ⟨(List.forall_mem_append.mpr ⟨(List.forall_mem_append.mpr ⟨(List.forall_mem_append.mpr ⟨(List.forall_mem_append.mpr ⟨(List.forall_mem_append.mpr ⟨(List.forall_mem_append.mpr ⟨(List.forall_mem_append.mpr ⟨(List.forall_mem_append.mpr ⟨(List.forall_mem_append.mpr ⟨(List.forall_mem_append.mpr ⟨(List.forall_mem_append.mpr ⟨(fun e he => zok_in zwI_1_0_ok zsubt1 _ (List.mem_map_of_mem he)), (fun e he => zok_in zwI_2_0_ok zsubt2 _ (List.mem_map_of_mem he))⟩), (fun e he => zok_in zwI_3_0_ok zsubt3 _ (List.mem_map_of_mem he))⟩), (fun e he => zok_in zwI_4_0_ok zsubt4 _ (List.mem_map_of_mem he))⟩), (fun e he => zok_in zwI_4_1_ok zsubt4 _ (List.mem_map_of_mem he))⟩), (fun e he => zok_in zwI_5_0_ok zsubt5 _ (List.mem_map_of_mem he))⟩), (fun e he => zok_in zwI_5_1_ok zsubt5 _ (List.mem_map_of_mem he))⟩), (fun e he => zok_in zwI_6_0_ok zsubt6 _ (List.mem_map_of_mem he))⟩), (fun e he => zok_in zwI_7_0_ok zsubt7 _ (List.mem_map_of_mem he))⟩), (fun e he => zok_in zwI_8_0_ok zsubt8 _ (List.mem_map_of_mem he))⟩), (fun e he => zok_in zwI_8_1_ok zsubt8 _ (List.mem_map_of_mem he))⟩), (fun e he => zok_in zwI_9_0_ok zsubt9 _ (List.mem_map_of_mem he))⟩), (fun e he => zok_in zwI_9_1_ok zsubt9 _ (List.mem_map_of_mem he))⟩)
set_option maxRecDepth 100000 in
theorem zwS_3_0_ok : zok (zwS_3_0.map (fun mi => Cond.static (zy mi))) tables_1_3 = true := by decide +kernel
set_option maxRecDepth 100000 in
theorem zwS_4_0_ok : zok (zwS_4_0.map (fun mi => Cond.static (zy mi))) tables_1_4 = true := by decide +kernel
set_option maxRecDepth 100000 in
theorem zwS_5_0_ok : zok (zwS_5_0.map (fun mi => Cond.static (zy mi))) tables_1_5 = true := by decide +kernel
set_option maxRecDepth 100000 in
theorem zwS_7_0_ok : zok (zwS_7_0.map (fun mi => Cond.static (zy mi))) tables_1_7 = true := by decide +kernel
set_option maxRecDepth 100000 in
theorem zwS_8_0_ok : zok (zwS_8_0.map (fun mi => Cond.static (zy mi))) tables_1_8 = true := by decide +kernel
theorem zwS_in : ∀ e ∈ zwS, ((fun mi => Cond.static (zy mi))) e ∈ zUW := by
  unfold zwS
  exact (List.forall_mem_append.mpr ⟨(List.forall_mem_append.mpr ⟨(List.forall_mem_append.mpr ⟨(List.forall_mem_append.mpr ⟨(fun e he => zok_in zwS_3_0_ok zsubt3 _ (List.mem_map_of_mem he)), (fun e he => zok_in zwS_4_0_ok zsubt4 _ (List.mem_map_of_mem he))⟩), (fun e he => zok_in zwS_5_0_ok zsubt5 _ (List.mem_map_of_mem he))⟩), (fun e he => zok_in zwS_7_0_ok zsubt7 _ (List.mem_map_of_mem he))⟩), (fun e he => zok_in zwS_8_0_ok zsubt8 _ (List.mem_map_of_mem he))⟩)
set_option maxRecDepth 100000 in
theorem zwV_0_0_ok : zok (zwV_0_0.map (fun mi => Cond.selects (zy mi).cls (zy mi) (zy mi))) (k2_sels lw_privs) = true := by decide +kernel
set_option maxRecDepth 100000 in
theorem zwV_0_1_ok : zok (zwV_0_1.map (fun mi => Cond.selects (zy mi).cls (zy mi) (zy mi))) (k2_sels lw_privs) = true := by decide +kernel
set_option maxRecDepth 100000 in
theorem zwV_0_2_ok : zok (zwV_0_2.map (fun mi => Cond.selects (zy mi).cls (zy mi) (zy mi))) (k2_sels lw_privs) = true := by decide +kernel
set_option maxRecDepth 100000 in
theorem zwV_0_3_ok : zok (zwV_0_3.map (fun mi => Cond.selects (zy mi).cls (zy mi) (zy mi))) (k2_sels lw_privs) = true := by decide +kernel
set_option maxRecDepth 100000 in
theorem zwV_3_0_ok : zok (zwV_3_0.map (fun mi => Cond.selects (zy mi).cls (zy mi) (zy mi))) tables_1_3 = true := by decide +kernel
set_option maxRecDepth 100000 in
theorem zwV_4_0_ok : zok (zwV_4_0.map (fun mi => Cond.selects (zy mi).cls (zy mi) (zy mi))) tables_1_4 = true := by decide +kernel
set_option maxRecDepth 100000 in
theorem zwV_5_0_ok : zok (zwV_5_0.map (fun mi => Cond.selects (zy mi).cls (zy mi) (zy mi))) tables_1_5 = true := by decide +kernel
set_option maxRecDepth 100000 in
theorem zwV_6_0_ok : zok (zwV_6_0.map (fun mi => Cond.selects (zy mi).cls (zy mi) (zy mi))) tables_1_6 = true := by decide +kernel
set_option maxRecDepth 100000 in
theorem zwV_7_0_ok : zok (zwV_7_0.map (fun mi => Cond.selects (zy mi).cls (zy mi) (zy mi))) tables_1_7 = true := by decide +kernel
set_option maxRecDepth 100000 in
theorem zwV_8_0_ok : zok (zwV_8_0.map (fun mi => Cond.selects (zy mi).cls (zy mi) (zy mi))) tables_1_8 = true := by decide +kernel
set_option maxRecDepth 100000 in
theorem zwV_9_0_ok : zok (zwV_9_0.map (fun mi => Cond.selects (zy mi).cls (zy mi) (zy mi))) tables_1_9 = true := by decide +kernel
theorem zwV_in : ∀ e ∈ zwV, ((fun mi => Cond.selects (zy mi).cls (zy mi) (zy mi))) e ∈ zUW := by
  unfold zwV
  exact (List.forall_mem_append.mpr ⟨(List.forall_mem_append.mpr ⟨(List.forall_mem_append.mpr ⟨(List.forall_mem_append.mpr ⟨(List.forall_mem_append.mpr ⟨(List.forall_mem_append.mpr ⟨(List.forall_mem_append.mpr ⟨(List.forall_mem_append.mpr ⟨(List.forall_mem_append.mpr ⟨(List.forall_mem_append.mpr ⟨(fun e he => zok_in zwV_0_0_ok zsubt0 _ (List.mem_map_of_mem he)), (fun e he => zok_in zwV_0_1_ok zsubt0 _ (List.mem_map_of_mem he))⟩), (fun e he => zok_in zwV_0_2_ok zsubt0 _ (List.mem_map_of_mem he))⟩), (fun e he => zok_in zwV_0_3_ok zsubt0 _ (List.mem_map_of_mem he))⟩), (fun e he => zok_in zwV_3_0_ok zsubt3 _ (List.mem_map_of_mem he))⟩), (fun e he => zok_in zwV_4_0_ok zsubt4 _ (List.mem_map_of_mem he))⟩), (fun e he => zok_in zwV_5_0_ok zsubt5 _ (List.mem_map_of_mem he))⟩), (fun e he => zok_in zwV_6_0_ok zsubt6 _ (List.mem_map_of_mem he))⟩), (fun e he => zok_in zwV_7_0_ok zsubt7 _ (List.mem_map_of_mem he))⟩), (fun e he => zok_in zwV_8_0_ok zsubt8 _ (List.mem_map_of_mem he))⟩), (fun e he => zok_in zwV_9_0_ok zsubt9 _ (List.mem_map_of_mem he))⟩)
set_option maxRecDepth 100000 in
theorem zwN_1_0_ok : zok (zwN_1_0.map (fun ci => Cond.initialized (zcn ci))) tables_1_1 = true := by decide +kernel
theorem zwN_in : ∀ e ∈ zwN, ((fun ci => Cond.initialized (zcn ci))) e ∈ zUW := by
  unfold zwN
  exact (fun e he => zok_in zwN_1_0_ok zsubt1 _ (List.mem_map_of_mem he))
set_option maxRecDepth 100000 in
theorem zwL_1_0_ok : zok (zwL_1_0.map (fun q => u_lay (zcn q.1) (fun k => zF q.1 k) q.2)) tables_1_1 = true := by decide +kernel
set_option maxRecDepth 100000 in
theorem zwL_2_0_ok : zok (zwL_2_0.map (fun q => u_lay (zcn q.1) (fun k => zF q.1 k) q.2)) tables_1_2 = true := by decide +kernel
set_option maxRecDepth 100000 in
theorem zwL_2_1_ok : zok (zwL_2_1.map (fun q => u_lay (zcn q.1) (fun k => zF q.1 k) q.2)) tables_1_2 = true := by decide +kernel
set_option maxRecDepth 100000 in
theorem zwL_6_0_ok : zok (zwL_6_0.map (fun q => u_lay (zcn q.1) (fun k => zF q.1 k) q.2)) tables_1_6 = true := by decide +kernel
set_option maxRecDepth 100000 in
theorem zwL_7_0_ok : zok (zwL_7_0.map (fun q => u_lay (zcn q.1) (fun k => zF q.1 k) q.2)) tables_1_7 = true := by decide +kernel
set_option maxRecDepth 100000 in
theorem zwL_7_1_ok : zok (zwL_7_1.map (fun q => u_lay (zcn q.1) (fun k => zF q.1 k) q.2)) tables_1_7 = true := by decide +kernel
theorem zwL_in : ∀ e ∈ zwL, ((fun q => u_lay (zcn q.1) (fun k => zF q.1 k) q.2)) e ∈ zUW := by
  unfold zwL
  exact (List.forall_mem_append.mpr ⟨(List.forall_mem_append.mpr ⟨(List.forall_mem_append.mpr ⟨(List.forall_mem_append.mpr ⟨(List.forall_mem_append.mpr ⟨(fun e he => zok_in zwL_1_0_ok zsubt1 _ (List.mem_map_of_mem he)), (fun e he => zok_in zwL_2_0_ok zsubt2 _ (List.mem_map_of_mem he))⟩), (fun e he => zok_in zwL_2_1_ok zsubt2 _ (List.mem_map_of_mem he))⟩), (fun e he => zok_in zwL_6_0_ok zsubt6 _ (List.mem_map_of_mem he))⟩), (fun e he => zok_in zwL_7_0_ok zsubt7 _ (List.mem_map_of_mem he))⟩), (fun e he => zok_in zwL_7_1_ok zsubt7 _ (List.mem_map_of_mem he))⟩)
set_option maxRecDepth 100000 in
theorem zwB_1_0_ok : zok (zwB_1_0.map (fun ci => Cond.instantiable (zcn ci) (zdefs ci).length)) tables_1_1 = true := by decide +kernel
set_option maxRecDepth 100000 in
theorem zwB_2_0_ok : zok (zwB_2_0.map (fun ci => Cond.instantiable (zcn ci) (zdefs ci).length)) tables_1_2 = true := by decide +kernel
set_option maxRecDepth 100000 in
theorem zwB_6_0_ok : zok (zwB_6_0.map (fun ci => Cond.instantiable (zcn ci) (zdefs ci).length)) tables_1_6 = true := by decide +kernel
theorem zwB_in : ∀ e ∈ zwB, ((fun ci => Cond.instantiable (zcn ci) (zdefs ci).length)) e ∈ zUW := by
  unfold zwB
  exact (List.forall_mem_append.mpr ⟨(List.forall_mem_append.mpr ⟨(fun e he => zok_in zwB_1_0_ok zsubt1 _ (List.mem_map_of_mem he)), (fun e he => zok_in zwB_2_0_ok zsubt2 _ (List.mem_map_of_mem he))⟩), (fun e he => zok_in zwB_6_0_ok zsubt6 _ (List.mem_map_of_mem he))⟩)
theorem zJ0 : (Cond.arrayClass .int : Cond) ∈ zUW := zUW_at (i := 174) (by decide +kernel) rfl
theorem zJ1 : (Cond.arrayClass .long : Cond) ∈ zUW := zUW_at (i := 452) (by decide +kernel) rfl
theorem zJ2 : (Cond.arrayClass .byte : Cond) ∈ zUW := zUW_at (i := 904) (by decide +kernel) rfl
theorem zJ3 : (Cond.arrayClass .boolean : Cond) ∈ zUW := zUW_at (i := 1511) (by decide +kernel) rfl
theorem zJ4 : (Cond.instanceMethod objectInit : Cond) ∈ zUW := zUW_at (i := 156) (by decide +kernel) rfl
theorem zJ5 : (Cond.initialized "java/lang/Math" : Cond) ∈ zUW := zUW_at (i := 140) (by decide +kernel) rfl
theorem zJ6 : (Cond.static Lib.Math.max.name : Cond) ∈ zUW := zUW_at (i := 969) (by decide +kernel) rfl
theorem zJ7 : (Cond.static Lib.Math.min.name : Cond) ∈ zUW := zUW_at (i := 644) (by decide +kernel) rfl
theorem zJ8 : (Cond.static Lib.Math.abs.name : Cond) ∈ zUW := zUW_at (i := 965) (by decide +kernel) rfl
theorem zJ9 : (Cond.instanceMethod yJ0_length_8abf5 : Cond) ∈ zUW := zUW_at (i := 663) (by decide +kernel) rfl
theorem zJ10 : (Cond.instanceMethod yJ0_charAt_5068e : Cond) ∈ zUW := zUW_at (i := 673) (by decide +kernel) rfl
theorem zJ11 : (Cond.initialized "java/lang/String" : Cond) ∈ zUW := zUW_at (i := 141) (by decide +kernel) rfl
theorem zJ12 : (Cond.selects "java/lang/String" yJ0_length_8abf5 yJ0_length_8abf5 : Cond) ∈ zUW := zUW_at (i := 664) (by decide +kernel) rfl
theorem zJ13 : (Cond.selects "java/lang/String" yJ0_charAt_5068e yJ0_charAt_5068e : Cond) ∈ zUW := zUW_at (i := 674) (by decide +kernel) rfl
theorem zJc0 : (Cond.code objectInit ⟨#[0xb1]⟩ 1 none) ∈ zUW := zUW_at (i := 157) (by decide +kernel) rfl
theorem zJc1 : (Cond.code Lib.Math.max.name Lib.Math.max.code 2 (some .int)) ∈ zUW := zUW_at (i := 970) (by decide +kernel) rfl
theorem zJc2 : (Cond.code Lib.Math.min.name Lib.Math.min.code 2 (some .int)) ∈ zUW := zUW_at (i := 645) (by decide +kernel) rfl
theorem zJc3 : (Cond.code Lib.Math.abs.name Lib.Math.abs.code 1 (some .int)) ∈ zUW := zUW_at (i := 966) (by decide +kernel) rfl
