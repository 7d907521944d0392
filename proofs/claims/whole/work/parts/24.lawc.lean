/-! THE LAW: what both objects answer to each call -/
section ZLC
def zPI (tC tM : Nat) (as : List Value) : Prop := ∀ (S : zS) (L : zL) (R : List zE) (Sm : zS) (Lm : zL), zRel S R Sm → ∃ (w : Int32) (S' : zS) (L' : zL) (R' : List zE) (Sm' : zS) (Lm' : zL), zcall tC (.ref 0 :: as) zRc S L = some (some (.int w), zRc, S', L') ∧ zcall tM (.ref 0 :: as) R Sm Lm = some (some (.int w), R', Sm', Lm') ∧ zFin S' R' Sm' Lm' ∧ R'.length ≤ R.length + 30 ∧ zsz R' ≤ zsz R + 1000
def zPL (tC tM : Nat) (as : List Value) : Prop := ∀ (S : zS) (L : zL) (R : List zE) (Sm : zS) (Lm : zL), zRel S R Sm → ∃ (w : Int64) (S' : zS) (L' : zL) (R' : List zE) (Sm' : zS) (Lm' : zL), zcall tC (.ref 0 :: as) zRc S L = some (some (.long w), zRc, S', L') ∧ zcall tM (.ref 0 :: as) R Sm Lm = some (some (.long w), R', Sm', Lm') ∧ zFin S' R' Sm' Lm' ∧ R'.length ≤ R.length + 30 ∧ zsz R' ≤ zsz R + 1000
theorem zbd {R : List zE} : R.length ≤ R.length + 30 ∧ zsz R ≤ zsz R + 1000 := ⟨Nat.le_add_right _ _, Nat.le_add_right _ _⟩
theorem zpi_103 {a0 a1 a2 a3 a4 : Int32} : zPI 103 203 [.int a0, .int a1, .int a2, .int a3, .int a4] := by
  intro S L R Sm Lm ⟨rd, h⟩
  rcases h with ⟨rfl, hrd, h⟩ | ⟨rfl, hrd, c, h⟩
  · obtain ⟨w, S', Sm', h1, h2, h3⟩ := u_103 (a := a0) (b := a1) (d := a2) (e := a3) (g := a4) (L := L) (Lm := Lm) (rd := rd) h
    exact ⟨_, S', L, _, Sm', Lm, h1, h2, zFin_id ⟨rd, .inl ⟨rfl, hrd, h3⟩⟩, zbd⟩
  · obtain ⟨w, S', Sm', h1, h2, h3⟩ := m_103 (a := a0) (b := a1) (d := a2) (e := a3) (g := a4) (L := L) (Lm := Lm) (rd := rd) h
    exact ⟨_, S', L, _, Sm', Lm, h1, h2, zFin_id ⟨rd, .inr ⟨rfl, hrd, c, h3⟩⟩, zbd⟩
theorem zpi_104 {a0 : Int32} : zPI 104 204 [.int a0] := by
  intro S L R Sm Lm ⟨rd, h⟩
  rcases h with ⟨rfl, hrd, h⟩ | ⟨rfl, hrd, c, h⟩
  · obtain ⟨w, S', L', R', Sm', Lm', h1, h2, h3⟩ := u_104 (v := a0) (L := L) (Lm := Lm) hrd.1 h
    refine ⟨w, S', L', R', Sm', Lm', h1, h2, ?_⟩
    rcases h3 with ⟨rfl, h3⟩ | ⟨rfl, h3⟩ | ⟨rfl, c, h3⟩
    · exact ⟨zFin_id ⟨rd, .inl ⟨rfl, hrd, h3⟩⟩, zbd⟩
    · exact ⟨zFin_p0 h3, (by decide : 41 ≤ 11 + 30), by rw [show zsz (zRm0 rd) = zsz (zRm0 .null) from rfl]; decide +kernel⟩
    · exact ⟨zFin_id ⟨.ref 11, .inr ⟨rfl, ⟨.inr ⟨_, rfl⟩, fun k hk => by cases hk; exact .inl (by decide)⟩, c, h3⟩⟩, (by decide : 41 ≤ 11 + 30), by rw [show zsz (zRm0 rd) = zsz (zRm0 .null) from rfl]; decide +kernel⟩
  · obtain ⟨w, S', L', R', Sm', Lm', h1, h2, h3⟩ := m_104 (v := a0) (L := L) (Lm := Lm) hrd.1 h
    refine ⟨w, S', L', R', Sm', Lm', h1, h2, ?_⟩
    rcases h3 with ⟨rfl, h3⟩ | ⟨rfl, h3⟩ | ⟨rfl, c, h3⟩
    · exact ⟨zFin_id ⟨rd, .inr ⟨rfl, hrd, c, h3⟩⟩, zbd⟩
    · exact ⟨zFin_p1 h3, (by decide : 71 ≤ 41 + 30), by rw [show zsz (zRm1 rd) = zsz (zRm1 .null) from rfl]; decide +kernel⟩
    · exact ⟨zFin_s1 h3, (by decide : 71 ≤ 41 + 30), by rw [show zsz (zRm1 rd) = zsz (zRm1 .null) from rfl]; decide +kernel⟩
theorem zpi_105 : zPI 105 205 [] := by
  intro S L R Sm Lm ⟨rd, h⟩
  rcases h with ⟨rfl, hrd, h⟩ | ⟨rfl, hrd, c, h⟩
  · obtain ⟨w, Sm', h1, h2, h3⟩ := u_105  (L := L) (Lm := Lm) (rd := rd) h
    exact ⟨_, S, L, _, Sm', Lm, h1, h2, zFin_id ⟨rd, .inl ⟨rfl, hrd, h3⟩⟩, zbd⟩
  · obtain ⟨w, Sm', h1, h2, h3⟩ := m_105  (L := L) (Lm := Lm) (rd := rd) h
    exact ⟨_, S, L, _, Sm', Lm, h1, h2, zFin_id ⟨rd, .inr ⟨rfl, hrd, c, h3⟩⟩, zbd⟩
theorem zpi_106 : zPI 106 206 [] := by
  intro S L R Sm Lm ⟨rd, h⟩
  rcases h with ⟨rfl, hrd, h⟩ | ⟨rfl, hrd, c, h⟩
  · obtain ⟨w, Sm', h1, h2, h3⟩ := u_106  (L := L) (Lm := Lm) (rd := rd) h
    exact ⟨_, S, L, _, Sm', Lm, h1, h2, zFin_id ⟨rd, .inl ⟨rfl, hrd, h3⟩⟩, zbd⟩
  · obtain ⟨w, Sm', h1, h2, h3⟩ := m_106  (L := L) (Lm := Lm) (rd := rd) h
    exact ⟨_, S, L, _, Sm', Lm, h1, h2, zFin_id ⟨rd, .inr ⟨rfl, hrd, c, h3⟩⟩, zbd⟩
theorem zpi_107 {a0 : Int32} : zPI 107 208 [.int a0] := by
  intro S L R Sm Lm ⟨rd, h⟩
  rcases h with ⟨rfl, hrd, h⟩ | ⟨rfl, hrd, c, h⟩
  · obtain ⟨S', Sm', h1, h2, h3⟩ := u_107 (a := a0) (L := L) (Lm := Lm) (rd := rd) h
    exact ⟨_, S', L, _, Sm', Lm, h1, h2, zFin_id ⟨rd, .inl ⟨rfl, hrd, h3⟩⟩, zbd⟩
  · obtain ⟨w, S', Sm', h1, h2, h3⟩ := m_107 (v := a0) (L := L) (Lm := Lm) (rd := rd) h
    exact ⟨_, S', L, _, Sm', Lm, h1, h2, zFin_id ⟨rd, .inr ⟨rfl, hrd, c, h3⟩⟩, zbd⟩
theorem zpi_108 {a0 : Int32} : zPI 108 210 [.int a0] := by
  intro S L R Sm Lm ⟨rd, h⟩
  rcases h with ⟨rfl, hrd, h⟩ | ⟨rfl, hrd, c, h⟩
  · obtain ⟨S', Sm', h1, h2, h3⟩ := u_108 (a := a0) (L := L) (Lm := Lm) (rd := rd) h
    exact ⟨_, S', L, _, Sm', Lm, h1, h2, zFin_id ⟨rd, .inl ⟨rfl, hrd, h3⟩⟩, zbd⟩
  · obtain ⟨w, S', Sm', h1, h2, h3⟩ := m_108 (v := a0) (L := L) (Lm := Lm) (rd := rd) h
    exact ⟨_, S', L, _, Sm', Lm, h1, h2, zFin_id ⟨rd, .inr ⟨rfl, hrd, c, h3⟩⟩, zbd⟩
theorem zpi_109 : zPI 109 230 [] := by
  intro S L R Sm Lm ⟨rd, h⟩
  rcases h with ⟨rfl, hrd, h⟩ | ⟨rfl, hrd, c, h⟩
  · obtain ⟨S', Sm', h1, h2, h3⟩ := u_109  (L := L) (Lm := Lm) (rd := rd) h
    exact ⟨_, S', L, _, Sm', Lm, h1, h2, zFin_id ⟨rd, .inl ⟨rfl, hrd, h3⟩⟩, zbd⟩
  · obtain ⟨w, S', Sm', h1, h2, h3⟩ := m_109  (L := L) (Lm := Lm) (rd := rd) h
    exact ⟨_, S', L, _, Sm', Lm, h1, h2, zFin_id ⟨rd, .inr ⟨rfl, hrd, c, h3⟩⟩, zbd⟩
theorem zpi_110 : zPI 110 232 [] := by
  intro S L R Sm Lm ⟨rd, h⟩
  rcases h with ⟨rfl, hrd, h⟩ | ⟨rfl, hrd, c, h⟩
  · obtain ⟨S', Sm', h1, h2, h3⟩ := u_110  (L := L) (Lm := Lm) (rd := rd) h
    exact ⟨_, S', L, _, Sm', Lm, h1, h2, zFin_id ⟨rd, .inl ⟨rfl, hrd, h3⟩⟩, zbd⟩
  · obtain ⟨w, S', Sm', h1, h2, h3⟩ := m_110  (L := L) (Lm := Lm) (rd := rd) h
    exact ⟨_, S', L, _, Sm', Lm, h1, h2, zFin_id ⟨rd, .inr ⟨rfl, hrd, c, h3⟩⟩, zbd⟩
theorem zpi_111 : zPI 111 233 [] := by
  intro S L R Sm Lm ⟨rd, h⟩
  rcases h with ⟨rfl, hrd, h⟩ | ⟨rfl, hrd, c, h⟩
  · obtain ⟨S', Sm', h1, h2, h3⟩ := u_111  (L := L) (Lm := Lm) (rd := rd) h
    exact ⟨_, S', L, _, Sm', Lm, h1, h2, zFin_id ⟨rd, .inl ⟨rfl, hrd, h3⟩⟩, zbd⟩
  · obtain ⟨w, S', Sm', h1, h2, h3⟩ := m_111  (L := L) (Lm := Lm) (rd := rd) h
    exact ⟨_, S', L, _, Sm', Lm, h1, h2, zFin_id ⟨rd, .inr ⟨rfl, hrd, c, h3⟩⟩, zbd⟩
theorem zpi_112 : zPI 112 235 [] := by
  intro S L R Sm Lm ⟨rd, h⟩
  rcases h with ⟨rfl, hrd, h⟩ | ⟨rfl, hrd, c, h⟩
  · obtain ⟨S', Sm', h1, h2, h3⟩ := u_112  (L := L) (Lm := Lm) (rd := rd) h
    exact ⟨_, S', L, _, Sm', Lm, h1, h2, zFin_id ⟨rd, .inl ⟨rfl, hrd, h3⟩⟩, zbd⟩
  · obtain ⟨w, S', Sm', h1, h2, h3⟩ := m_112  (L := L) (Lm := Lm) (rd := rd) h
    exact ⟨_, S', L, _, Sm', Lm, h1, h2, zFin_id ⟨rd, .inr ⟨rfl, hrd, c, h3⟩⟩, zbd⟩
theorem zpi_113 {a0 a1 : Int32} : zPI 113 238 [.int a0, .int a1] := by
  intro S L R Sm Lm ⟨rd, h⟩
  rcases h with ⟨rfl, hrd, h⟩ | ⟨rfl, hrd, c, h⟩
  · obtain ⟨S', Sm', h1, h2, h3⟩ := u_113 (a := a0) (b := a1) (L := L) (Lm := Lm) (rd := rd) h
    exact ⟨_, S', L, _, Sm', Lm, h1, h2, zFin_id ⟨rd, .inl ⟨rfl, hrd, h3⟩⟩, zbd⟩
  · obtain ⟨w, S', Sm', h1, h2, h3⟩ := m_113 (p := a0) (v := a1) (L := L) (Lm := Lm) (rd := rd) h
    exact ⟨_, S', L, _, Sm', Lm, h1, h2, zFin_id ⟨rd, .inr ⟨rfl, hrd, c, h3⟩⟩, zbd⟩
theorem zpi_114 {a0 : Int32} : zPI 114 239 [.int a0] := by
  intro S L R Sm Lm ⟨rd, h⟩
  rcases h with ⟨rfl, hrd, h⟩ | ⟨rfl, hrd, c, h⟩
  · obtain ⟨S', Sm', h1, h2, h3⟩ := u_114 (a := a0) (L := L) (Lm := Lm) (rd := rd) h
    exact ⟨_, S', L, _, Sm', Lm, h1, h2, zFin_id ⟨rd, .inl ⟨rfl, hrd, h3⟩⟩, zbd⟩
  · obtain ⟨w, S', Sm', h1, h2, h3⟩ := m_114 (p := a0) (L := L) (Lm := Lm) (rd := rd) h
    exact ⟨_, S', L, _, Sm', Lm, h1, h2, zFin_id ⟨rd, .inr ⟨rfl, hrd, c, h3⟩⟩, zbd⟩
theorem zpi_115 {a0 : Int32} : zPI 115 241 [.int a0] := by
  intro S L R Sm Lm ⟨rd, h⟩
  rcases h with ⟨rfl, hrd, h⟩ | ⟨rfl, hrd, c, h⟩
  · obtain ⟨S', Sm', h1, h2, h3⟩ := u_115 (a := a0) (L := L) (Lm := Lm) (rd := rd) h
    exact ⟨_, S', L, _, Sm', Lm, h1, h2, zFin_id ⟨rd, .inl ⟨rfl, hrd, h3⟩⟩, zbd⟩
  · obtain ⟨w, S', Sm', h1, h2, h3⟩ := m_115 (v := a0) (L := L) (Lm := Lm) (rd := rd) h
    exact ⟨_, S', L, _, Sm', Lm, h1, h2, zFin_id ⟨rd, .inr ⟨rfl, hrd, c, h3⟩⟩, zbd⟩
theorem zpi_116 {a0 : Int32} : zPI 116 242 [.int a0] := by
  intro S L R Sm Lm ⟨rd, h⟩
  rcases h with ⟨rfl, hrd, h⟩ | ⟨rfl, hrd, c, h⟩
  · obtain ⟨S', Sm', h1, h2, h3⟩ := u_116 (a := a0) (L := L) (Lm := Lm) (rd := rd) h
    exact ⟨_, S', L, _, Sm', Lm, h1, h2, zFin_id ⟨rd, .inl ⟨rfl, hrd, h3⟩⟩, zbd⟩
  · obtain ⟨w, S', Sm', h1, h2, h3⟩ := m_116 (v := a0) (L := L) (Lm := Lm) (rd := rd) h
    exact ⟨_, S', L, _, Sm', Lm, h1, h2, zFin_id ⟨rd, .inr ⟨rfl, hrd, c, h3⟩⟩, zbd⟩
theorem zpi_117 {a0 : Int32} : zPI 117 243 [.int a0] := by
  intro S L R Sm Lm ⟨rd, h⟩
  rcases h with ⟨rfl, hrd, h⟩ | ⟨rfl, hrd, c, h⟩
  · obtain ⟨S', Sm', h1, h2, h3⟩ := u_117 (a := a0) (L := L) (Lm := Lm) (rd := rd) h
    exact ⟨_, S', L, _, Sm', Lm, h1, h2, zFin_id ⟨rd, .inl ⟨rfl, hrd, h3⟩⟩, zbd⟩
  · obtain ⟨w, S', Sm', h1, h2, h3⟩ := m_117 (v := a0) (L := L) (Lm := Lm) (rd := rd) h
    exact ⟨_, S', L, _, Sm', Lm, h1, h2, zFin_id ⟨rd, .inr ⟨rfl, hrd, c, h3⟩⟩, zbd⟩
theorem zpi_118 : zPI 118 244 [] := by
  intro S L R Sm Lm ⟨rd, h⟩
  rcases h with ⟨rfl, hrd, h⟩ | ⟨rfl, hrd, c, h⟩
  · obtain ⟨S', Sm', h1, h2, h3⟩ := u_118  (L := L) (Lm := Lm) (rd := rd) h
    exact ⟨_, S', L, _, Sm', Lm, h1, h2, zFin_id ⟨rd, .inl ⟨rfl, hrd, h3⟩⟩, zbd⟩
  · obtain ⟨w, S', Sm', h1, h2, h3⟩ := m_118  (L := L) (Lm := Lm) (rd := rd) h
    exact ⟨_, S', L, _, Sm', Lm, h1, h2, zFin_id ⟨rd, .inr ⟨rfl, hrd, c, h3⟩⟩, zbd⟩
theorem zpi_119 : zPI 119 245 [] := by
  intro S L R Sm Lm ⟨rd, h⟩
  rcases h with ⟨rfl, hrd, h⟩ | ⟨rfl, hrd, c, h⟩
  · obtain ⟨S', Sm', h1, h2, h3⟩ := u_119  (L := L) (Lm := Lm) (rd := rd) h
    exact ⟨_, S', L, _, Sm', Lm, h1, h2, zFin_id ⟨rd, .inl ⟨rfl, hrd, h3⟩⟩, zbd⟩
  · obtain ⟨w, S', Sm', h1, h2, h3⟩ := m_119  (L := L) (Lm := Lm) (rd := rd) h
    exact ⟨_, S', L, _, Sm', Lm, h1, h2, zFin_id ⟨rd, .inr ⟨rfl, hrd, c, h3⟩⟩, zbd⟩
theorem zpi_120 {a0 : Int32} : zPI 120 246 [.int a0] := by
  intro S L R Sm Lm ⟨rd, h⟩
  rcases h with ⟨rfl, hrd, h⟩ | ⟨rfl, hrd, c, h⟩
  · obtain ⟨S', Sm', h1, h2, h3⟩ := u_120 (a := a0) (L := L) (Lm := Lm) (rd := rd) h
    exact ⟨_, S', L, _, Sm', Lm, h1, h2, zFin_id ⟨rd, .inl ⟨rfl, hrd, h3⟩⟩, zbd⟩
  · obtain ⟨w, S', Sm', h1, h2, h3⟩ := m_120 (v := a0) (L := L) (Lm := Lm) (rd := rd) h
    exact ⟨_, S', L, _, Sm', Lm, h1, h2, zFin_id ⟨rd, .inr ⟨rfl, hrd, c, h3⟩⟩, zbd⟩
theorem zpi_121 {a0 a1 : Int32} : zPI 121 248 [.int a0, .int a1] := by
  intro S L R Sm Lm ⟨rd, h⟩
  rcases h with ⟨rfl, hrd, h⟩ | ⟨rfl, hrd, c, h⟩
  · obtain ⟨S', Sm', h1, h2, h3⟩ := u_121 (a := a0) (b := a1) (L := L) (Lm := Lm) (rd := rd) h
    exact ⟨_, S', L, _, Sm', Lm, h1, h2, zFin_id ⟨rd, .inl ⟨rfl, hrd, h3⟩⟩, zbd⟩
  · obtain ⟨w, S', Sm', h1, h2, h3⟩ := m_121 (p := a0) (v := a1) (L := L) (Lm := Lm) (rd := rd) h
    exact ⟨_, S', L, _, Sm', Lm, h1, h2, zFin_id ⟨rd, .inr ⟨rfl, hrd, c, h3⟩⟩, zbd⟩
theorem zpi_122 {a0 : Int32} : zPI 122 249 [.int a0] := by
  intro S L R Sm Lm ⟨rd, h⟩
  rcases h with ⟨rfl, hrd, h⟩ | ⟨rfl, hrd, c, h⟩
  · obtain ⟨S', Sm', h1, h2, h3⟩ := u_122 (a := a0) (L := L) (Lm := Lm) (rd := rd) h
    exact ⟨_, S', L, _, Sm', Lm, h1, h2, zFin_id ⟨rd, .inl ⟨rfl, hrd, h3⟩⟩, zbd⟩
  · obtain ⟨w, S', Sm', h1, h2, h3⟩ := m_122 (v := a0) (L := L) (Lm := Lm) (rd := rd) h
    exact ⟨_, S', L, _, Sm', Lm, h1, h2, zFin_id ⟨rd, .inr ⟨rfl, hrd, c, h3⟩⟩, zbd⟩
theorem zpi_123 {a0 a1 a2 : Int32} (hhi : a2 = 0 ∨ a2 = 1) : zPI 123 251 [.int a0, .int a1, .int a2] := by
  intro S L R Sm Lm ⟨rd, h⟩
  rcases h with ⟨rfl, hrd, h⟩ | ⟨rfl, hrd, c, h⟩
  · obtain ⟨S', Sm', h1, h2, h3⟩ := u_123 (a := a0) (b := a1) (c := a2) (L := L) (Lm := Lm) (rd := rd) h
    exact ⟨_, S', L, _, Sm', Lm, h1, h2, zFin_id ⟨rd, .inl ⟨rfl, hrd, h3⟩⟩, zbd⟩
  · obtain ⟨w, S', Sm', h1, h2, h3⟩ := m_123 (p := a0) (q := a1) (hi := a2) (L := L) (Lm := Lm) (rd := rd) hhi h
    exact ⟨_, S', L, _, Sm', Lm, h1, h2, zFin_id ⟨rd, .inr ⟨rfl, hrd, c, h3⟩⟩, zbd⟩
theorem zpi_124 {a0 a1 : Int32} : zPI 124 252 [.int a0, .int a1] := by
  intro S L R Sm Lm ⟨rd, h⟩
  rcases h with ⟨rfl, hrd, h⟩ | ⟨rfl, hrd, c, h⟩
  · obtain ⟨S', Sm', h1, h2, h3⟩ := u_124 (a := a0) (b := a1) (L := L) (Lm := Lm) (rd := rd) h
    exact ⟨_, S', L, _, Sm', Lm, h1, h2, zFin_id ⟨rd, .inl ⟨rfl, hrd, h3⟩⟩, zbd⟩
  · obtain ⟨w, S', Sm', h1, h2, h3⟩ := m_124 (p := a0) (q := a1) (L := L) (Lm := Lm) (rd := rd) h
    exact ⟨_, S', L, _, Sm', Lm, h1, h2, zFin_id ⟨rd, .inr ⟨rfl, hrd, c, h3⟩⟩, zbd⟩
theorem zpi_125 {a0 a1 a2 : Int32} (hhi : a2 = 0 ∨ a2 = 1) : zPI 125 254 [.int a0, .int a1, .int a2] := by
  intro S L R Sm Lm ⟨rd, h⟩
  rcases h with ⟨rfl, hrd, h⟩ | ⟨rfl, hrd, c, h⟩
  · obtain ⟨S', Sm', h1, h2, h3⟩ := u_125 (a := a0) (b := a1) (c := a2) (L := L) (Lm := Lm) (rd := rd) h
    exact ⟨_, S', L, _, Sm', Lm, h1, h2, zFin_id ⟨rd, .inl ⟨rfl, hrd, h3⟩⟩, zbd⟩
  · obtain ⟨w, S', Sm', h1, h2, h3⟩ := m_125 (p := a0) (q := a1) (hi := a2) (L := L) (Lm := Lm) (rd := rd) hhi h
    exact ⟨_, S', L, _, Sm', Lm, h1, h2, zFin_id ⟨rd, .inr ⟨rfl, hrd, c, h3⟩⟩, zbd⟩
theorem zpi_126 {a0 a1 a2 : Int32} : zPI 126 257 [.int a0, .int a1, .int a2] := by
  intro S L R Sm Lm ⟨rd, h⟩
  rcases h with ⟨rfl, hrd, h⟩ | ⟨rfl, hrd, c, h⟩
  · obtain ⟨S', Sm', h1, h2, h3⟩ := u_126 (a := a0) (b := a1) (c := a2) (L := L) (Lm := Lm) (rd := rd) h
    exact ⟨_, S', L, _, Sm', Lm, h1, h2, zFin_id ⟨rd, .inl ⟨rfl, hrd, h3⟩⟩, zbd⟩
  · obtain ⟨w, S', Sm', h1, h2, h3⟩ := m_126 (p := a0) (r := a1) (q := a2) (L := L) (Lm := Lm) (rd := rd) h
    exact ⟨_, S', L, _, Sm', Lm, h1, h2, zFin_id ⟨rd, .inr ⟨rfl, hrd, c, h3⟩⟩, zbd⟩
theorem zpi_127 {a0 a1 a2 : Int32} : zPI 127 258 [.int a0, .int a1, .int a2] := by
  intro S L R Sm Lm ⟨rd, h⟩
  rcases h with ⟨rfl, hrd, h⟩ | ⟨rfl, hrd, c, h⟩
  · obtain ⟨S', Sm', h1, h2, h3⟩ := u_127 (a := a0) (b := a1) (c := a2) (L := L) (Lm := Lm) (rd := rd) h
    exact ⟨_, S', L, _, Sm', Lm, h1, h2, zFin_id ⟨rd, .inl ⟨rfl, hrd, h3⟩⟩, zbd⟩
  · obtain ⟨w, S', Sm', h1, h2, h3⟩ := m_127 (p := a0) (r := a1) (q := a2) (L := L) (Lm := Lm) (rd := rd) h
    exact ⟨_, S', L, _, Sm', Lm, h1, h2, zFin_id ⟨rd, .inr ⟨rfl, hrd, c, h3⟩⟩, zbd⟩
theorem zpi_128 {a0 a1 a2 : Int32} : zPL 128 260 [.int a0, .int a1, .int a2] := by
  intro S L R Sm Lm ⟨rd, h⟩
  rcases h with ⟨rfl, hrd, h⟩ | ⟨rfl, hrd, c, h⟩
  · obtain ⟨w, S', Sm', Lm', h1, h2, h3⟩ := u_128 (r := a0) (v := a1) (w := a2) (L := L) (Lm := Lm) (rd := rd) h
    exact ⟨_, S', L, _, Sm', Lm', h1, h2, zFin_id ⟨rd, .inl ⟨rfl, hrd, h3⟩⟩, zbd⟩
  · obtain ⟨w, S', Sm', Lm', h1, h2, h3⟩ := m_128 (r := a0) (v := a1) (w := a2) (L := L) (Lm := Lm) (rd := rd) h
    exact ⟨_, S', L, _, Sm', Lm', h1, h2, zFin_id ⟨rd, .inr ⟨rfl, hrd, c, h3⟩⟩, zbd⟩
theorem zpi_129 {a0 a1 a2 : Int32} : zPI 129 261 [.int a0, .int a1, .int a2] := by
  intro S L R Sm Lm ⟨rd, h⟩
  rcases h with ⟨rfl, hrd, h⟩ | ⟨rfl, hrd, c, h⟩
  · obtain ⟨w, S', Sm', Lm', h1, h2, h3⟩ := u_129 (v := a0) (w := a1) (x := a2) (L := L) (Lm := Lm) (rd := rd) h
    exact ⟨_, S', L, _, Sm', Lm', h1, h2, zFin_id ⟨rd, .inl ⟨rfl, hrd, h3⟩⟩, zbd⟩
  · obtain ⟨w, S', Sm', Lm', h1, h2, h3⟩ := m_129 (v := a0) (w := a1) (x := a2) (L := L) (Lm := Lm) (rd := rd) h
    exact ⟨_, S', L, _, Sm', Lm', h1, h2, zFin_id ⟨rd, .inr ⟨rfl, hrd, c, h3⟩⟩, zbd⟩
theorem zpi_130 {a0 : Int32} : zPI 130 265 [.int a0] := by
  intro S L R Sm Lm ⟨rd, h⟩
  rcases h with ⟨rfl, hrd, h⟩ | ⟨rfl, hrd, c, h⟩
  · obtain ⟨S', Sm', h1, h2, h3⟩ := u_130 (a := a0) (L := L) (Lm := Lm) (rd := rd) h
    exact ⟨_, S', L, _, Sm', Lm, h1, h2, zFin_id ⟨rd, .inl ⟨rfl, hrd, h3⟩⟩, zbd⟩
  · obtain ⟨w, S', Sm', h1, h2, h3⟩ := m_130 (v := a0) (L := L) (Lm := Lm) (rd := rd) h
    exact ⟨_, S', L, _, Sm', Lm, h1, h2, zFin_id ⟨rd, .inr ⟨rfl, hrd, c, h3⟩⟩, zbd⟩
theorem zpi_131 {a0 a1 : Int32} : zPI 131 267 [.int a0, .int a1] := by
  intro S L R Sm Lm ⟨rd, h⟩
  rcases h with ⟨rfl, hrd, h⟩ | ⟨rfl, hrd, c, h⟩
  · obtain ⟨S', Sm', h1, h2, h3⟩ := u_131 (a := a0) (b := a1) (L := L) (Lm := Lm) (rd := rd) h
    exact ⟨_, S', L, _, Sm', Lm, h1, h2, zFin_id ⟨rd, .inl ⟨rfl, hrd, h3⟩⟩, zbd⟩
  · obtain ⟨w, S', Sm', h1, h2, h3⟩ := m_131 (p := a0) (v := a1) (L := L) (Lm := Lm) (rd := rd) h
    exact ⟨_, S', L, _, Sm', Lm, h1, h2, zFin_id ⟨rd, .inr ⟨rfl, hrd, c, h3⟩⟩, zbd⟩
theorem zpi_132 {a0 a1 : Int32} : zPI 132 269 [.int a0, .int a1] := by
  intro S L R Sm Lm ⟨rd, h⟩
  rcases h with ⟨rfl, hrd, h⟩ | ⟨rfl, hrd, c, h⟩
  · obtain ⟨S', Sm', h1, h2, h3⟩ := u_132 (a := a0) (b := a1) (L := L) (Lm := Lm) (rd := rd) h
    exact ⟨_, S', L, _, Sm', Lm, h1, h2, zFin_id ⟨rd, .inl ⟨rfl, hrd, h3⟩⟩, zbd⟩
  · obtain ⟨w, S', Sm', h1, h2, h3⟩ := m_132 (p := a0) (q := a1) (L := L) (Lm := Lm) (rd := rd) h
    exact ⟨_, S', L, _, Sm', Lm, h1, h2, zFin_id ⟨rd, .inr ⟨rfl, hrd, c, h3⟩⟩, zbd⟩
theorem zpi_133 {a0 a1 : Int32} : zPI 133 270 [.int a0, .int a1] := by
  intro S L R Sm Lm ⟨rd, h⟩
  rcases h with ⟨rfl, hrd, h⟩ | ⟨rfl, hrd, c, h⟩
  · obtain ⟨S', Sm', h1, h2, h3⟩ := u_133 (a := a0) (b := a1) (L := L) (Lm := Lm) (rd := rd) h
    exact ⟨_, S', L, _, Sm', Lm, h1, h2, zFin_id ⟨rd, .inl ⟨rfl, hrd, h3⟩⟩, zbd⟩
  · obtain ⟨w, S', Sm', h1, h2, h3⟩ := m_133 (p := a0) (q := a1) (L := L) (Lm := Lm) (rd := rd) h
    exact ⟨_, S', L, _, Sm', Lm, h1, h2, zFin_id ⟨rd, .inr ⟨rfl, hrd, c, h3⟩⟩, zbd⟩
theorem zpi_134 {a0 a1 : Int32} : zPI 134 273 [.int a0, .int a1] := by
  intro S L R Sm Lm ⟨rd, h⟩
  rcases h with ⟨rfl, hrd, h⟩ | ⟨rfl, hrd, c, h⟩
  · obtain ⟨S', Sm', h1, h2, h3⟩ := u_134 (a := a0) (b := a1) (L := L) (Lm := Lm) (rd := rd) h
    exact ⟨_, S', L, _, Sm', Lm, h1, h2, zFin_id ⟨rd, .inl ⟨rfl, hrd, h3⟩⟩, zbd⟩
  · obtain ⟨w, S', Sm', h1, h2, h3⟩ := m_134 (p := a0) (q := a1) (L := L) (Lm := Lm) (rd := rd) h
    exact ⟨_, S', L, _, Sm', Lm, h1, h2, zFin_id ⟨rd, .inr ⟨rfl, hrd, c, h3⟩⟩, zbd⟩
theorem zpi_135 {a0 a1 : Int32} : zPI 135 274 [.int a0, .int a1] := by
  intro S L R Sm Lm ⟨rd, h⟩
  rcases h with ⟨rfl, hrd, h⟩ | ⟨rfl, hrd, c, h⟩
  · obtain ⟨S', Sm', h1, h2, h3⟩ := u_135 (a := a0) (b := a1) (L := L) (Lm := Lm) (rd := rd) h
    exact ⟨_, S', L, _, Sm', Lm, h1, h2, zFin_id ⟨rd, .inl ⟨rfl, hrd, h3⟩⟩, zbd⟩
  · obtain ⟨w, S', Sm', h1, h2, h3⟩ := m_135 (p := a0) (q := a1) (L := L) (Lm := Lm) (rd := rd) h
    exact ⟨_, S', L, _, Sm', Lm, h1, h2, zFin_id ⟨rd, .inr ⟨rfl, hrd, c, h3⟩⟩, zbd⟩
theorem zpi_136 {a0 a1 : Int32} : zPI 136 275 [.int a0, .int a1] := by
  intro S L R Sm Lm ⟨rd, h⟩
  rcases h with ⟨rfl, hrd, h⟩ | ⟨rfl, hrd, c, h⟩
  · obtain ⟨S', Sm', h1, h2, h3⟩ := u_136 (a := a0) (b := a1) (L := L) (Lm := Lm) (rd := rd) h
    exact ⟨_, S', L, _, Sm', Lm, h1, h2, zFin_id ⟨rd, .inl ⟨rfl, hrd, h3⟩⟩, zbd⟩
  · obtain ⟨w, S', Sm', h1, h2, h3⟩ := m_136 (p := a0) (v := a1) (L := L) (Lm := Lm) (rd := rd) h
    exact ⟨_, S', L, _, Sm', Lm, h1, h2, zFin_id ⟨rd, .inr ⟨rfl, hrd, c, h3⟩⟩, zbd⟩
theorem zpi_137 {a0 a1 : Int32} : zPI 137 276 [.int a0, .int a1] := by
  intro S L R Sm Lm ⟨rd, h⟩
  rcases h with ⟨rfl, hrd, h⟩ | ⟨rfl, hrd, c, h⟩
  · obtain ⟨S', Sm', h1, h2, h3⟩ := u_137 (a := a0) (b := a1) (L := L) (Lm := Lm) (rd := rd) h
    exact ⟨_, S', L, _, Sm', Lm, h1, h2, zFin_id ⟨rd, .inl ⟨rfl, hrd, h3⟩⟩, zbd⟩
  · obtain ⟨w, S', Sm', h1, h2, h3⟩ := m_137 (p := a0) (v := a1) (L := L) (Lm := Lm) (rd := rd) h
    exact ⟨_, S', L, _, Sm', Lm, h1, h2, zFin_id ⟨rd, .inr ⟨rfl, hrd, c, h3⟩⟩, zbd⟩
theorem zpi_138 {a0 : Int32} : zPI 138 277 [.int a0] := by
  intro S L R Sm Lm ⟨rd, h⟩
  rcases h with ⟨rfl, hrd, h⟩ | ⟨rfl, hrd, c, h⟩
  · obtain ⟨S', Sm', h1, h2, h3⟩ := u_138 (a := a0) (L := L) (Lm := Lm) (rd := rd) h
    exact ⟨_, S', L, _, Sm', Lm, h1, h2, zFin_id ⟨rd, .inl ⟨rfl, hrd, h3⟩⟩, zbd⟩
  · obtain ⟨w, S', Sm', h1, h2, h3⟩ := m_138 (p := a0) (L := L) (Lm := Lm) (rd := rd) h
    exact ⟨_, S', L, _, Sm', Lm, h1, h2, zFin_id ⟨rd, .inr ⟨rfl, hrd, c, h3⟩⟩, zbd⟩
theorem zpi_139 {a0 : Int32} : zPI 139 280 [.int a0] := by
  intro S L R Sm Lm ⟨rd, h⟩
  rcases h with ⟨rfl, hrd, h⟩ | ⟨rfl, hrd, c, h⟩
  · obtain ⟨S', Sm', h1, h2, h3⟩ := u_139 (a := a0) (L := L) (Lm := Lm) (rd := rd) h
    exact ⟨_, S', L, _, Sm', Lm, h1, h2, zFin_id ⟨rd, .inl ⟨rfl, hrd, h3⟩⟩, zbd⟩
  · obtain ⟨w, S', Sm', h1, h2, h3⟩ := m_139 (v := a0) (L := L) (Lm := Lm) (rd := rd) h
    exact ⟨_, S', L, _, Sm', Lm, h1, h2, zFin_id ⟨rd, .inr ⟨rfl, hrd, c, h3⟩⟩, zbd⟩
theorem zpi_140 {a0 a1 : Int32} : zPI 140 281 [.int a0, .int a1] := by
  intro S L R Sm Lm ⟨rd, h⟩
  rcases h with ⟨rfl, hrd, h⟩ | ⟨rfl, hrd, c, h⟩
  · obtain ⟨S', Sm', h1, h2, h3⟩ := u_140 (a := a0) (b := a1) (L := L) (Lm := Lm) (rd := rd) h
    exact ⟨_, S', L, _, Sm', Lm, h1, h2, zFin_id ⟨rd, .inl ⟨rfl, hrd, h3⟩⟩, zbd⟩
  · obtain ⟨w, S', Sm', h1, h2, h3⟩ := m_140 (p := a0) (v := a1) (L := L) (Lm := Lm) (rd := rd) h
    exact ⟨_, S', L, _, Sm', Lm, h1, h2, zFin_id ⟨rd, .inr ⟨rfl, hrd, c, h3⟩⟩, zbd⟩
theorem zpi_141 {a0 : Int32} : zPI 141 282 [.int a0] := by
  intro S L R Sm Lm ⟨rd, h⟩
  rcases h with ⟨rfl, hrd, h⟩ | ⟨rfl, hrd, c, h⟩
  · obtain ⟨S', Sm', h1, h2, h3⟩ := u_141 (a := a0) (L := L) (Lm := Lm) (rd := rd) h
    exact ⟨_, S', L, _, Sm', Lm, h1, h2, zFin_id ⟨rd, .inl ⟨rfl, hrd, h3⟩⟩, zbd⟩
  · obtain ⟨w, S', Sm', h1, h2, h3⟩ := m_141 (v := a0) (L := L) (Lm := Lm) (rd := rd) h
    exact ⟨_, S', L, _, Sm', Lm, h1, h2, zFin_id ⟨rd, .inr ⟨rfl, hrd, c, h3⟩⟩, zbd⟩
theorem zpi_142 {a0 : Int32} : zPL 142 285 [.int a0] := by
  intro S L R Sm Lm ⟨rd, h⟩
  rcases h with ⟨rfl, hrd, h⟩ | ⟨rfl, hrd, c, h⟩
  · obtain ⟨S', Sm', h1, h2, h3⟩ := u_142 (a := a0) (L := L) (Lm := Lm) (rd := rd) h
    exact ⟨_, S', L, _, Sm', Lm, h1, h2, zFin_id ⟨rd, .inl ⟨rfl, hrd, h3⟩⟩, zbd⟩
  · obtain ⟨w, S', Sm', h1, h2, h3⟩ := m_142 (p := a0) (L := L) (Lm := Lm) (rd := rd) h
    exact ⟨_, S', L, _, Sm', Lm, h1, h2, zFin_id ⟨rd, .inr ⟨rfl, hrd, c, h3⟩⟩, zbd⟩
theorem zpi_143 : zPI 143 287 [] := by
  intro S L R Sm Lm ⟨rd, h⟩
  rcases h with ⟨rfl, hrd, h⟩ | ⟨rfl, hrd, c, h⟩
  · obtain ⟨S', Sm', h1, h2, h3⟩ := u_143  (L := L) (Lm := Lm) (rd := rd) h
    exact ⟨_, S', L, _, Sm', Lm, h1, h2, zFin_id ⟨rd, .inl ⟨rfl, hrd, h3⟩⟩, zbd⟩
  · obtain ⟨w, S', Sm', h1, h2, h3⟩ := m_143  (L := L) (Lm := Lm) (rd := rd) h
    exact ⟨_, S', L, _, Sm', Lm, h1, h2, zFin_id ⟨rd, .inr ⟨rfl, hrd, c, h3⟩⟩, zbd⟩
theorem zpi_144 : zPI 144 288 [] := by
  intro S L R Sm Lm ⟨rd, h⟩
  rcases h with ⟨rfl, hrd, h⟩ | ⟨rfl, hrd, c, h⟩
  · obtain ⟨S', Sm', h1, h2, h3⟩ := u_144  (L := L) (Lm := Lm) (rd := rd) h
    exact ⟨_, S', L, _, Sm', Lm, h1, h2, zFin_id ⟨rd, .inl ⟨rfl, hrd, h3⟩⟩, zbd⟩
  · obtain ⟨w, S', Sm', h1, h2, h3⟩ := m_144  (L := L) (Lm := Lm) (rd := rd) h
    exact ⟨_, S', L, _, Sm', Lm, h1, h2, zFin_id ⟨rd, .inr ⟨rfl, hrd, c, h3⟩⟩, zbd⟩
theorem zpi_146 {a0 : Int32} : zPI 146 290 [.int a0] := by
  intro S L R Sm Lm ⟨rd, h⟩
  rcases h with ⟨rfl, hrd, h⟩ | ⟨rfl, hrd, c, h⟩
  · obtain ⟨w, Sm', h1, h2, h3⟩ := u_146 (a := a0) (L := L) (Lm := Lm) (rd := rd) h
    exact ⟨_, S, L, _, Sm', Lm, h1, h2, zFin_id ⟨rd, .inl ⟨rfl, hrd, h3⟩⟩, zbd⟩
  · obtain ⟨w, Sm', h1, h2, h3⟩ := m_146 (a := a0) (L := L) (Lm := Lm) (rd := rd) h
    exact ⟨_, S, L, _, Sm', Lm, h1, h2, zFin_id ⟨rd, .inr ⟨rfl, hrd, c, h3⟩⟩, zbd⟩
theorem zpi_147 : zPI 147 291 [] := by
  intro S L R Sm Lm ⟨rd, h⟩
  rcases h with ⟨rfl, hrd, h⟩ | ⟨rfl, hrd, c, h⟩
  · obtain ⟨w, Sm', h1, h2, h3⟩ := u_147  (L := L) (Lm := Lm) (rd := rd) h
    exact ⟨_, S, L, _, Sm', Lm, h1, h2, zFin_id ⟨rd, .inl ⟨rfl, hrd, h3⟩⟩, zbd⟩
  · obtain ⟨w, Sm', h1, h2, h3⟩ := m_147  (L := L) (Lm := Lm) (rd := rd) h
    exact ⟨_, S, L, _, Sm', Lm, h1, h2, zFin_id ⟨rd, .inr ⟨rfl, hrd, c, h3⟩⟩, zbd⟩
end ZLC
