/-! led: the law's own static -/
section ZLI1
def zwL : Cond := Cond.codeWith yL_led cL_led 4 (some .int) [(0, 9, 12, 13)]
theorem zwL_t : zwL ∈ lw_tbl ∧ goodWord zwL = true := by decide +kernel
theorem wl_195 : Cond.methodLink R_law 195 yL_led ∈ zUW ∧ Cond.static yL_led ∈ zUW ∧ Cond.initialized R_law ∈ zUW ∧ Cond.methodLink R_law 7 (zy 145) ∈ zUW ∧ Cond.classLink R_law 13 zthX ∈ zUW := by decide +kernel
end ZLI1
