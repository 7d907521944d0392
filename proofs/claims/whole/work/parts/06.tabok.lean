/-! the printed tables, checked against the Statement's: each kind of word in one pass -/
def zUW : List Cond := lw_tbl.filter goodWord
def zsub : List Cond → List Cond → Bool
  | [], _ => true
  | _ :: _, [] => false
  | a :: as, b :: bs => if a = b then zsub as bs else zsub (a :: as) bs
theorem zsub_mem : ∀ (bs as : List Cond), zsub as bs = true → ∀ w ∈ as, w ∈ bs
  | bs, [], _ => fun w hw => absurd hw List.not_mem_nil
  | [], a :: as, h => by simp [zsub] at h
  | b :: bs, a :: as, h => by
    intro w hw
    unfold zsub at h
    split at h
    · rename_i hab
      rcases List.mem_cons.mp hw with rfl | hw
      · rw [hab]; exact List.mem_cons_self
      · exact List.mem_cons_of_mem _ (zsub_mem bs as h w hw)
    · exact List.mem_cons_of_mem _ (zsub_mem bs (a :: as) h w hw)
/-- a list of words is in the tables, in their order, and good -/
def zok (ws : List Cond) : Bool := zsub ws lw_tbl && ws.all goodWord
theorem zok_in {ws : List Cond} (h : zok ws = true) : ∀ w ∈ ws, w ∈ zUW := by
  intro w hw
  simp only [zok, Bool.and_eq_true] at h
  exact List.mem_filter.mpr ⟨zsub_mem _ _ h.1 w hw, List.all_eq_true.mp h.2 w hw⟩
def zF (ci k : Nat) : String × String × String × Bool := match vwCl[ci]? with
  | some q => q.2.1 k
  | none => ("", "", "", false)
def zwdF (e : Nat × Nat × Nat × Nat × Bool) : Cond := if e.2.2.2.2 = true then .fieldLinkNest (zcn e.1) e.2.1 (zF e.2.2.1 e.2.2.2.1).1 (zF e.2.2.1 e.2.2.2.1).2.1 (zF e.2.2.1 e.2.2.2.1).2.2.1 "SnowWallsModel" else .fieldLink (zcn e.1) e.2.1 (zF e.2.2.1 e.2.2.2.1).1 (zF e.2.2.1 e.2.2.2.1).2.1 (zF e.2.2.1 e.2.2.2.1).2.2.1
def zy (mi : Nat) : MethodName := match zmeth[mi]? with
  | some q => q.1
  | none => ⟨"", "", ""⟩
/-- whom a call names -/
def zyt (k t : Nat) : MethodName := if k = 10 then objectInit else if k = 11 then Lib.Math.max.name else if k = 12 then Lib.Math.min.name else if k = 13 then Lib.Math.abs.name else if k = 14 then yJ0_length_8abf5 else if k = 15 then yJ0_charAt_5068e else zy t
def zwdC (e : Nat × Nat × Nat × Nat) : Cond := if e.2.2.1 = 3 then .methodLinkNest (zcn e.1) e.2.1 (zyt e.2.2.1 e.2.2.2) "SnowWallsModel" else .methodLink (zcn e.1) e.2.1 (zyt e.2.2.1 e.2.2.2)
def zwdM (mi : Nat) : Cond := match zmeth[mi]? with
  | some q => .code q.1 q.2.1 q.2.2.1 q.2.2.2.1
  | none => .static ⟨"", "", ""⟩
def zwdK (e : Nat × Nat × Value) : Cond := match e.2.2 with
  | .int v => .constant (zcn e.1) e.2.1 v
  | .long v => .constantLong (zcn e.1) e.2.1 v
  | _ => .static ⟨"", "", ""⟩
set_option maxRecDepth 100000 in
theorem zokF : zok (zft.map zwdF) = true := by decide +kernel
set_option maxRecDepth 100000 in
theorem zokC : zok (zct.map zwdC) = true := by decide +kernel
set_option maxRecDepth 100000 in
theorem zokI : zok (zwI.map fun mi => .instanceMethod (zy mi)) = true := by decide +kernel
set_option maxRecDepth 100000 in
theorem zokS : zok (zwS.map fun mi => .static (zy mi)) = true := by decide +kernel
set_option maxRecDepth 100000 in
theorem zokM : zok (zwC.map zwdM) = true := by decide +kernel
set_option maxRecDepth 100000 in
theorem zokV : zok (zwV.map fun mi => .selects (zy mi).cls (zy mi) (zy mi)) = true := by decide +kernel
set_option maxRecDepth 100000 in
theorem zokN : zok (zwN.map fun ci => .initialized (zcn ci)) = true := by decide +kernel
set_option maxRecDepth 100000 in
theorem zokL : zok (zwL.map fun q => u_lay (zcn q.1) (fun k => zF q.1 k) q.2) = true := by decide +kernel
set_option maxRecDepth 100000 in
theorem zokB : zok (zwB.map fun ci => .instantiable (zcn ci) (zdefs ci).length) = true := by decide +kernel
set_option maxRecDepth 100000 in
theorem zokW : zok (znt.map fun e => .classLink (zcn e.1) e.2.1 (zcn e.2.2)) = true := by decide +kernel
set_option maxRecDepth 100000 in
theorem zokA : zok (zat.map fun e => .classLink (zcn e.1) e.2 RX2) = true := by decide +kernel
set_option maxRecDepth 100000 in
theorem zokK : zok ((zkt.filter fun e => match e.2.2 with
  | .ref _ => false
  | _ => true).map zwdK) = true := by decide +kernel
set_option maxRecDepth 100000 in
theorem zokJ : zok [.initialized "java/lang/Math", .static Lib.Math.max.name, .code Lib.Math.max.name Lib.Math.max.code 2 (some .int)] = true := by decide +kernel
