/-! GAMES: reading methods, side by side -/
section ZG1
variable {c : Nat → Nat} {S Sm : zS} {L Lm : zL} {rd : Value}
theorem t214 {p : Nat} (hp : p < 8) : zcall 214 [.ref 0, .int (nI p)] (zRm1 rd) Sm Lm = some (some (.int (if Sm 2 (33 + p) = 1 then 1 else 0)), zRm1 rd, Sm, Lm) := by
  unfold zcall
  simp (disch := omega) only [S214, layM1, zT0, zT1, zT2, if_true, if_false]
  split <;> rfl
theorem t15 {side : Int32} (hM : zMD c S Sm) (hG : zGD 168 c S Sm) : ∃ r, zcall 15 [.ref 168, .int side] zRc S L = some (some (.int r), zRc, S, L) ∧ zcall 215 [.ref 0, .int side] (zRm1 rd) Sm Lm = some (some (.int r), zRm1 rd, Sm, Lm) := by
  obtain ⟨⟨b0, b1, -⟩, ⟨a0, -⟩, ⟨m0, -⟩, -, -, hp, -⟩ := hM
  obtain ⟨g0, -⟩ := hG
  have key : ∀ d p, p + d = c 0 → ∀ many, ∃ r, zgo 15 4 [.ref 168, .int side, .int many, .int (nI p)] [] zRc S L = some (some (.int r), zRc, S, L) ∧ zgo 215 4 [.ref 0, .int side, .int many, .int (nI p)] [] (zRm1 rd) Sm Lm = some (some (.int r), zRm1 rd, Sm, Lm) := by
    intro d
    induction d with
    | zero =>
      intro p hd many
      rw [s15_4, s215_4]
      simp (disch := omega) only [S15, S215, layC, layM1, rowsC, t214, zT0, zT1, zT2, a0, m0, if_true, if_false]
      exact ⟨many, rfl, rfl⟩
    | succ d ih =>
      intro p hd many
      have hpc : p < c 0 := by omega
      obtain ⟨e1, -⟩ := hp p hpc
      obtain ⟨-, -, -, e2, -, -, e3⟩ := g0 p hpc
      rw [s15_4, s215_4]
      simp (disch := omega) only [S15, S215, layC, layM1, rowsC, t214, zT0, zT1, zT2, a0, m0, if_true, if_false]
      rw [show S 176 p = Sm 2 (33 + p) from e2, e1]
      have e3 : Sm 2 (33 + p) = 0 ∨ Sm 2 (33 + p) = 1 := by rw [← show S 176 p = Sm 2 (33 + p) from e2]; exact e3
      trace_state
      sorry
  sorry
end ZG1
