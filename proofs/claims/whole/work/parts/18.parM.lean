/-! THE TEXT: a MATCH of both out of what is told -/
section ZPM
variable {S Sm S' Sm' : zS} {L Lm L' Lm' : zL}
theorem zMD_of {N : Nat} (h : zPA_162 11 N S Sm L Lm) (h0 : ¬ S 4 0 = 0) (h1 : ¬ S 5 3 = 0) (h2 : ¬ S 12 7 = 0) : ∃ c, zMD c S Sm := by
  obtain ⟨c0, c1, c2, c3, c4, c5, c6, k, -, hlw, hrf, ⟨a0, a1, a2, a3⟩, ⟨b0, b1, b2, b3⟩, ⟨d0, d1, d2, d3⟩, ⟨e0, e1, e2, e3⟩, ⟨f0, f1, f2, f3⟩, ⟨g0, g1, g2, g3, g4, g5⟩, ⟨i0, i1, i2, i3⟩, -, -⟩ := h
  have hc0 : c0 ≠ 0 := fun e => h2 (by subst e; exact a1)
  have hc5 : c5 ≠ 0 := fun e => h1 (by subst e; exact g1)
  have hlw := hlw.resolve_left fun h => h0 h.1
  refine ⟨fun i => match i with | 0 => c0 | 1 => c1 | 2 => c2 | 3 => c3 | 4 => c4 | 5 => c5 | _ => c6, ⟨by show 1 ≤ c0; omega, a0, b0, d0, e0, f0, by show 1 ≤ c5; omega, g0, i0⟩, ⟨a1, b1, d1, e1, f1, g1, i1⟩, ⟨a2, b2, d2, e2, f2, g2, i2⟩, hlw.2, hrf, a3, fun k hk => ?_, d3, e3, f3, i3, g3, g4, (g5 (by omega))⟩
  obtain ⟨x1, x2, x3, x4, x5, x6, x7, v, -, hv, ev⟩ := b3 k hk
  exact ⟨x1, x2, x3, x4, x5, x6, x7, v, hv, ev⟩
end ZPM
