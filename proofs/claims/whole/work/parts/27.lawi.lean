/-! led: the law's own static -/
section ZLI1
def zledW : Cond := Cond.codeWith yL_led cL_led 4 (some .int) [(0, 9, 12, 13)]
def zledA : List Cond := [Cond.methodLink R_law 195 yL_led, Cond.static yL_led, Cond.initialized R_law, Cond.methodLink R_law 7 (zy 145), Cond.classLink R_law 13 zthX, Cond.instanceMethod (zy 145), Cond.selects (zy 145).cls (zy 145) (zy 145), zledW]
set_option maxRecDepth 100000 in
theorem zledA_t : zledA.all (fun w => decide (w ∈ lw_tbl) && goodWord w) = true := by decide +kernel
theorem zledA_in : ∀ w ∈ zledA, w ∈ zUW := fun w hw => by
  have := List.all_eq_true.mp zledA_t w hw
  rw [Bool.and_eq_true, decide_eq_true_eq] at this
  exact List.mem_filter.mpr this
end ZLI1
