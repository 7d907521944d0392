/-! A MATCH is told: marks -/
section ZT6
variable {c : Nat → Nat} {S Sm : zS} {L Lm : zL} {rd : Value}
/-- what a copy of a GAME does -/
def zCP (d s : Nat) (S S' : zS) : Prop :=
  (∀ j k, (j < d ∨ d + 12 < j) → S' j k = S j k) ∧ (∀ k, k < 8 → S' (d + 2) k = S (s + 2) k ∧ S' (d + 4) k = S (s + 4) k ∧ S' (d + 6) k = S (s + 6) k ∧ S' (d + 8) k = S (s + 8) k ∧ S' (d + 10) k = S (s + 10) k) ∧ (∀ k, k < 5 → S' (d + 12) k = S (s + 12) k) ∧ S' d 7 = S s 7 ∧ S' d 8 = S s 8 ∧ S' d 9 = S s 9 ∧ S' d 10 = S s 10
theorem t13_209_168 : ∃ S', zcall 13 [.ref 209, .ref 168] zRc S L = some (none, zRc, S', L) ∧ zCP 209 168 S S' := by
  refine ⟨zup (zup (zup (zup (zcopy (zcopy (zcopy (zcopy (zcopy (zcopy S 211 8 170 8) 213 8 172 8) 215 8 174 8) 217 8 176 8) 219 8 178 8) 221 5 180 5) 209 7 (S 168 7)) 209 8 (S 168 8)) 209 9 (S 168 9)) 209 10 (S 168 10), ?_, fun j k hj => ?_, fun k hk => ⟨?_, ?_, ?_, ?_, ?_⟩, fun k hk => ?_, ?_, ?_, ?_, ?_⟩
  · have z : ∀ j k, (j = 209 ∨ j = 168) → zcopy (zcopy (zcopy (zcopy (zcopy (zcopy S 211 8 170 8) 213 8 172 8) 215 8 174 8) 217 8 176 8) 219 8 178 8) 221 5 180 5 j k = S j k := fun j k hj => by
      rw [zcopy_ne (by omega), zcopy_ne (by omega), zcopy_ne (by omega), zcopy_ne (by omega), zcopy_ne (by omega), zcopy_ne (by omega)]
    have z7 := z 168 7 (.inr rfl)
    have z8 := z 168 8 (.inr rfl)
    have z9 := z 168 9 (.inr rfl)
    have z10 := z 168 10 (.inr rfl)
    unfold zcall
    simp (config := {maxSteps := 1000000}) (disch := omega) only [↓reduceIte, Int32.reduceLT, Int32.reduceLE, Int32.reduceToNatClampNeg, Int32.reduceAdd, Int32.reduceSub, Int32.reduceMul, Nat.reduceLeDiff, zEL, zup_ne, zup_eq, zT0, zT1, zT2, if_true, if_false, g168, g209, ze_13, s13_0, s13_1, s13_4, s13_5, s13_8, s13_11, s13_12, s13_15, s13_16, s13_19, s13_22, s13_23, s13_26, s13_27, s13_30, s13_33, s13_34, s13_37, s13_38, s13_41, s13_44, s13_45, s13_48, s13_49, s13_52, s13_55, s13_56, s13_59, s13_60, s13_63, s13_66, s13_67, s13_68, s13_71, s13_74, s13_75, s13_76, s13_79, s13_82, s13_83, s13_84, s13_87, s13_90, s13_91, s13_92, s13_95, s13_98, z7, z8, z9, z10]
  · rw [zup_ne (by omega), zup_ne (by omega), zup_ne (by omega), zup_ne (by omega), zcopy_ne (by omega), zcopy_ne (by omega), zcopy_ne (by omega), zcopy_ne (by omega), zcopy_ne (by omega), zcopy_ne (by omega)]
  · rw [zup_ne (by omega), zup_ne (by omega), zup_ne (by omega), zup_ne (by omega), zcopy_ne (by omega), zcopy_ne (by omega), zcopy_ne (by omega), zcopy_ne (by omega), zcopy_ne (by omega), zcopy_eq rfl (by omega) (by omega)]
  · rw [zup_ne (by omega), zup_ne (by omega), zup_ne (by omega), zup_ne (by omega), zcopy_ne (by omega), zcopy_ne (by omega), zcopy_ne (by omega), zcopy_ne (by omega), zcopy_eq rfl (by omega) (by omega), zcopy_ne (by omega)]
  · rw [zup_ne (by omega), zup_ne (by omega), zup_ne (by omega), zup_ne (by omega), zcopy_ne (by omega), zcopy_ne (by omega), zcopy_ne (by omega), zcopy_eq rfl (by omega) (by omega), zcopy_ne (by omega), zcopy_ne (by omega)]
  · rw [zup_ne (by omega), zup_ne (by omega), zup_ne (by omega), zup_ne (by omega), zcopy_ne (by omega), zcopy_ne (by omega), zcopy_eq rfl (by omega) (by omega), zcopy_ne (by omega), zcopy_ne (by omega), zcopy_ne (by omega)]
  · rw [zup_ne (by omega), zup_ne (by omega), zup_ne (by omega), zup_ne (by omega), zcopy_ne (by omega), zcopy_eq rfl (by omega) (by omega), zcopy_ne (by omega), zcopy_ne (by omega), zcopy_ne (by omega), zcopy_ne (by omega)]
  · rw [zup_ne (by omega), zup_ne (by omega), zup_ne (by omega), zup_ne (by omega), zcopy_eq rfl (by omega) (by omega), zcopy_ne (by omega), zcopy_ne (by omega), zcopy_ne (by omega), zcopy_ne (by omega), zcopy_ne (by omega)]
  · rw [zup_ne (by omega), zup_ne (by omega), zup_ne (by omega), zup_eq rfl rfl]
  · rw [zup_ne (by omega), zup_ne (by omega), zup_eq rfl rfl]
  · rw [zup_ne (by omega), zup_eq rfl rfl]
  · rw [zup_eq rfl rfl]
theorem t13_228_168 : ∃ S', zcall 13 [.ref 228, .ref 168] zRc S L = some (none, zRc, S', L) ∧ zCP 228 168 S S' := by
  refine ⟨zup (zup (zup (zup (zcopy (zcopy (zcopy (zcopy (zcopy (zcopy S 230 8 170 8) 232 8 172 8) 234 8 174 8) 236 8 176 8) 238 8 178 8) 240 5 180 5) 228 7 (S 168 7)) 228 8 (S 168 8)) 228 9 (S 168 9)) 228 10 (S 168 10), ?_, fun j k hj => ?_, fun k hk => ⟨?_, ?_, ?_, ?_, ?_⟩, fun k hk => ?_, ?_, ?_, ?_, ?_⟩
  · have z : ∀ j k, (j = 228 ∨ j = 168) → zcopy (zcopy (zcopy (zcopy (zcopy (zcopy S 230 8 170 8) 232 8 172 8) 234 8 174 8) 236 8 176 8) 238 8 178 8) 240 5 180 5 j k = S j k := fun j k hj => by
      rw [zcopy_ne (by omega), zcopy_ne (by omega), zcopy_ne (by omega), zcopy_ne (by omega), zcopy_ne (by omega), zcopy_ne (by omega)]
    have z7 := z 168 7 (.inr rfl)
    have z8 := z 168 8 (.inr rfl)
    have z9 := z 168 9 (.inr rfl)
    have z10 := z 168 10 (.inr rfl)
    unfold zcall
    simp (config := {maxSteps := 1000000}) (disch := omega) only [↓reduceIte, Int32.reduceLT, Int32.reduceLE, Int32.reduceToNatClampNeg, Int32.reduceAdd, Int32.reduceSub, Int32.reduceMul, Nat.reduceLeDiff, zEL, zup_ne, zup_eq, zT0, zT1, zT2, if_true, if_false, g168, g228, ze_13, s13_0, s13_1, s13_4, s13_5, s13_8, s13_11, s13_12, s13_15, s13_16, s13_19, s13_22, s13_23, s13_26, s13_27, s13_30, s13_33, s13_34, s13_37, s13_38, s13_41, s13_44, s13_45, s13_48, s13_49, s13_52, s13_55, s13_56, s13_59, s13_60, s13_63, s13_66, s13_67, s13_68, s13_71, s13_74, s13_75, s13_76, s13_79, s13_82, s13_83, s13_84, s13_87, s13_90, s13_91, s13_92, s13_95, s13_98, z7, z8, z9, z10]
  · rw [zup_ne (by omega), zup_ne (by omega), zup_ne (by omega), zup_ne (by omega), zcopy_ne (by omega), zcopy_ne (by omega), zcopy_ne (by omega), zcopy_ne (by omega), zcopy_ne (by omega), zcopy_ne (by omega)]
  · rw [zup_ne (by omega), zup_ne (by omega), zup_ne (by omega), zup_ne (by omega), zcopy_ne (by omega), zcopy_ne (by omega), zcopy_ne (by omega), zcopy_ne (by omega), zcopy_ne (by omega), zcopy_eq rfl (by omega) (by omega)]
  · rw [zup_ne (by omega), zup_ne (by omega), zup_ne (by omega), zup_ne (by omega), zcopy_ne (by omega), zcopy_ne (by omega), zcopy_ne (by omega), zcopy_ne (by omega), zcopy_eq rfl (by omega) (by omega), zcopy_ne (by omega)]
  · rw [zup_ne (by omega), zup_ne (by omega), zup_ne (by omega), zup_ne (by omega), zcopy_ne (by omega), zcopy_ne (by omega), zcopy_ne (by omega), zcopy_eq rfl (by omega) (by omega), zcopy_ne (by omega), zcopy_ne (by omega)]
  · rw [zup_ne (by omega), zup_ne (by omega), zup_ne (by omega), zup_ne (by omega), zcopy_ne (by omega), zcopy_ne (by omega), zcopy_eq rfl (by omega) (by omega), zcopy_ne (by omega), zcopy_ne (by omega), zcopy_ne (by omega)]
  · rw [zup_ne (by omega), zup_ne (by omega), zup_ne (by omega), zup_ne (by omega), zcopy_ne (by omega), zcopy_eq rfl (by omega) (by omega), zcopy_ne (by omega), zcopy_ne (by omega), zcopy_ne (by omega), zcopy_ne (by omega)]
  · rw [zup_ne (by omega), zup_ne (by omega), zup_ne (by omega), zup_ne (by omega), zcopy_eq rfl (by omega) (by omega), zcopy_ne (by omega), zcopy_ne (by omega), zcopy_ne (by omega), zcopy_ne (by omega), zcopy_ne (by omega)]
  · rw [zup_ne (by omega), zup_ne (by omega), zup_ne (by omega), zup_eq rfl rfl]
  · rw [zup_ne (by omega), zup_ne (by omega), zup_eq rfl rfl]
  · rw [zup_ne (by omega), zup_eq rfl rfl]
  · rw [zup_eq rfl rfl]
theorem t13_247_168 : ∃ S', zcall 13 [.ref 247, .ref 168] zRc S L = some (none, zRc, S', L) ∧ zCP 247 168 S S' := by
  refine ⟨zup (zup (zup (zup (zcopy (zcopy (zcopy (zcopy (zcopy (zcopy S 249 8 170 8) 251 8 172 8) 253 8 174 8) 255 8 176 8) 257 8 178 8) 259 5 180 5) 247 7 (S 168 7)) 247 8 (S 168 8)) 247 9 (S 168 9)) 247 10 (S 168 10), ?_, fun j k hj => ?_, fun k hk => ⟨?_, ?_, ?_, ?_, ?_⟩, fun k hk => ?_, ?_, ?_, ?_, ?_⟩
  · have z : ∀ j k, (j = 247 ∨ j = 168) → zcopy (zcopy (zcopy (zcopy (zcopy (zcopy S 249 8 170 8) 251 8 172 8) 253 8 174 8) 255 8 176 8) 257 8 178 8) 259 5 180 5 j k = S j k := fun j k hj => by
      rw [zcopy_ne (by omega), zcopy_ne (by omega), zcopy_ne (by omega), zcopy_ne (by omega), zcopy_ne (by omega), zcopy_ne (by omega)]
    have z7 := z 168 7 (.inr rfl)
    have z8 := z 168 8 (.inr rfl)
    have z9 := z 168 9 (.inr rfl)
    have z10 := z 168 10 (.inr rfl)
    unfold zcall
    simp (config := {maxSteps := 1000000}) (disch := omega) only [↓reduceIte, Int32.reduceLT, Int32.reduceLE, Int32.reduceToNatClampNeg, Int32.reduceAdd, Int32.reduceSub, Int32.reduceMul, Nat.reduceLeDiff, zEL, zup_ne, zup_eq, zT0, zT1, zT2, if_true, if_false, g168, g247, ze_13, s13_0, s13_1, s13_4, s13_5, s13_8, s13_11, s13_12, s13_15, s13_16, s13_19, s13_22, s13_23, s13_26, s13_27, s13_30, s13_33, s13_34, s13_37, s13_38, s13_41, s13_44, s13_45, s13_48, s13_49, s13_52, s13_55, s13_56, s13_59, s13_60, s13_63, s13_66, s13_67, s13_68, s13_71, s13_74, s13_75, s13_76, s13_79, s13_82, s13_83, s13_84, s13_87, s13_90, s13_91, s13_92, s13_95, s13_98, z7, z8, z9, z10]
  · rw [zup_ne (by omega), zup_ne (by omega), zup_ne (by omega), zup_ne (by omega), zcopy_ne (by omega), zcopy_ne (by omega), zcopy_ne (by omega), zcopy_ne (by omega), zcopy_ne (by omega), zcopy_ne (by omega)]
  · rw [zup_ne (by omega), zup_ne (by omega), zup_ne (by omega), zup_ne (by omega), zcopy_ne (by omega), zcopy_ne (by omega), zcopy_ne (by omega), zcopy_ne (by omega), zcopy_ne (by omega), zcopy_eq rfl (by omega) (by omega)]
  · rw [zup_ne (by omega), zup_ne (by omega), zup_ne (by omega), zup_ne (by omega), zcopy_ne (by omega), zcopy_ne (by omega), zcopy_ne (by omega), zcopy_ne (by omega), zcopy_eq rfl (by omega) (by omega), zcopy_ne (by omega)]
  · rw [zup_ne (by omega), zup_ne (by omega), zup_ne (by omega), zup_ne (by omega), zcopy_ne (by omega), zcopy_ne (by omega), zcopy_ne (by omega), zcopy_eq rfl (by omega) (by omega), zcopy_ne (by omega), zcopy_ne (by omega)]
  · rw [zup_ne (by omega), zup_ne (by omega), zup_ne (by omega), zup_ne (by omega), zcopy_ne (by omega), zcopy_ne (by omega), zcopy_eq rfl (by omega) (by omega), zcopy_ne (by omega), zcopy_ne (by omega), zcopy_ne (by omega)]
  · rw [zup_ne (by omega), zup_ne (by omega), zup_ne (by omega), zup_ne (by omega), zcopy_ne (by omega), zcopy_eq rfl (by omega) (by omega), zcopy_ne (by omega), zcopy_ne (by omega), zcopy_ne (by omega), zcopy_ne (by omega)]
  · rw [zup_ne (by omega), zup_ne (by omega), zup_ne (by omega), zup_ne (by omega), zcopy_eq rfl (by omega) (by omega), zcopy_ne (by omega), zcopy_ne (by omega), zcopy_ne (by omega), zcopy_ne (by omega), zcopy_ne (by omega)]
  · rw [zup_ne (by omega), zup_ne (by omega), zup_ne (by omega), zup_eq rfl rfl]
  · rw [zup_ne (by omega), zup_ne (by omega), zup_eq rfl rfl]
  · rw [zup_ne (by omega), zup_eq rfl rfl]
  · rw [zup_eq rfl rfl]
theorem t13_266_168 : ∃ S', zcall 13 [.ref 266, .ref 168] zRc S L = some (none, zRc, S', L) ∧ zCP 266 168 S S' := by
  refine ⟨zup (zup (zup (zup (zcopy (zcopy (zcopy (zcopy (zcopy (zcopy S 268 8 170 8) 270 8 172 8) 272 8 174 8) 274 8 176 8) 276 8 178 8) 278 5 180 5) 266 7 (S 168 7)) 266 8 (S 168 8)) 266 9 (S 168 9)) 266 10 (S 168 10), ?_, fun j k hj => ?_, fun k hk => ⟨?_, ?_, ?_, ?_, ?_⟩, fun k hk => ?_, ?_, ?_, ?_, ?_⟩
  · have z : ∀ j k, (j = 266 ∨ j = 168) → zcopy (zcopy (zcopy (zcopy (zcopy (zcopy S 268 8 170 8) 270 8 172 8) 272 8 174 8) 274 8 176 8) 276 8 178 8) 278 5 180 5 j k = S j k := fun j k hj => by
      rw [zcopy_ne (by omega), zcopy_ne (by omega), zcopy_ne (by omega), zcopy_ne (by omega), zcopy_ne (by omega), zcopy_ne (by omega)]
    have z7 := z 168 7 (.inr rfl)
    have z8 := z 168 8 (.inr rfl)
    have z9 := z 168 9 (.inr rfl)
    have z10 := z 168 10 (.inr rfl)
    unfold zcall
    simp (config := {maxSteps := 1000000}) (disch := omega) only [↓reduceIte, Int32.reduceLT, Int32.reduceLE, Int32.reduceToNatClampNeg, Int32.reduceAdd, Int32.reduceSub, Int32.reduceMul, Nat.reduceLeDiff, zEL, zup_ne, zup_eq, zT0, zT1, zT2, if_true, if_false, g168, g266, ze_13, s13_0, s13_1, s13_4, s13_5, s13_8, s13_11, s13_12, s13_15, s13_16, s13_19, s13_22, s13_23, s13_26, s13_27, s13_30, s13_33, s13_34, s13_37, s13_38, s13_41, s13_44, s13_45, s13_48, s13_49, s13_52, s13_55, s13_56, s13_59, s13_60, s13_63, s13_66, s13_67, s13_68, s13_71, s13_74, s13_75, s13_76, s13_79, s13_82, s13_83, s13_84, s13_87, s13_90, s13_91, s13_92, s13_95, s13_98, z7, z8, z9, z10]
  · rw [zup_ne (by omega), zup_ne (by omega), zup_ne (by omega), zup_ne (by omega), zcopy_ne (by omega), zcopy_ne (by omega), zcopy_ne (by omega), zcopy_ne (by omega), zcopy_ne (by omega), zcopy_ne (by omega)]
  · rw [zup_ne (by omega), zup_ne (by omega), zup_ne (by omega), zup_ne (by omega), zcopy_ne (by omega), zcopy_ne (by omega), zcopy_ne (by omega), zcopy_ne (by omega), zcopy_ne (by omega), zcopy_eq rfl (by omega) (by omega)]
  · rw [zup_ne (by omega), zup_ne (by omega), zup_ne (by omega), zup_ne (by omega), zcopy_ne (by omega), zcopy_ne (by omega), zcopy_ne (by omega), zcopy_ne (by omega), zcopy_eq rfl (by omega) (by omega), zcopy_ne (by omega)]
  · rw [zup_ne (by omega), zup_ne (by omega), zup_ne (by omega), zup_ne (by omega), zcopy_ne (by omega), zcopy_ne (by omega), zcopy_ne (by omega), zcopy_eq rfl (by omega) (by omega), zcopy_ne (by omega), zcopy_ne (by omega)]
  · rw [zup_ne (by omega), zup_ne (by omega), zup_ne (by omega), zup_ne (by omega), zcopy_ne (by omega), zcopy_ne (by omega), zcopy_eq rfl (by omega) (by omega), zcopy_ne (by omega), zcopy_ne (by omega), zcopy_ne (by omega)]
  · rw [zup_ne (by omega), zup_ne (by omega), zup_ne (by omega), zup_ne (by omega), zcopy_ne (by omega), zcopy_eq rfl (by omega) (by omega), zcopy_ne (by omega), zcopy_ne (by omega), zcopy_ne (by omega), zcopy_ne (by omega)]
  · rw [zup_ne (by omega), zup_ne (by omega), zup_ne (by omega), zup_ne (by omega), zcopy_eq rfl (by omega) (by omega), zcopy_ne (by omega), zcopy_ne (by omega), zcopy_ne (by omega), zcopy_ne (by omega), zcopy_ne (by omega)]
  · rw [zup_ne (by omega), zup_ne (by omega), zup_ne (by omega), zup_eq rfl rfl]
  · rw [zup_ne (by omega), zup_ne (by omega), zup_eq rfl rfl]
  · rw [zup_ne (by omega), zup_eq rfl rfl]
  · rw [zup_eq rfl rfl]
theorem t13_168_209 : ∃ S', zcall 13 [.ref 168, .ref 209] zRc S L = some (none, zRc, S', L) ∧ zCP 168 209 S S' := by
  refine ⟨zup (zup (zup (zup (zcopy (zcopy (zcopy (zcopy (zcopy (zcopy S 170 8 211 8) 172 8 213 8) 174 8 215 8) 176 8 217 8) 178 8 219 8) 180 5 221 5) 168 7 (S 209 7)) 168 8 (S 209 8)) 168 9 (S 209 9)) 168 10 (S 209 10), ?_, fun j k hj => ?_, fun k hk => ⟨?_, ?_, ?_, ?_, ?_⟩, fun k hk => ?_, ?_, ?_, ?_, ?_⟩
  · have z : ∀ j k, (j = 168 ∨ j = 209) → zcopy (zcopy (zcopy (zcopy (zcopy (zcopy S 170 8 211 8) 172 8 213 8) 174 8 215 8) 176 8 217 8) 178 8 219 8) 180 5 221 5 j k = S j k := fun j k hj => by
      rw [zcopy_ne (by omega), zcopy_ne (by omega), zcopy_ne (by omega), zcopy_ne (by omega), zcopy_ne (by omega), zcopy_ne (by omega)]
    have z7 := z 209 7 (.inr rfl)
    have z8 := z 209 8 (.inr rfl)
    have z9 := z 209 9 (.inr rfl)
    have z10 := z 209 10 (.inr rfl)
    unfold zcall
    simp (config := {maxSteps := 1000000}) (disch := omega) only [↓reduceIte, Int32.reduceLT, Int32.reduceLE, Int32.reduceToNatClampNeg, Int32.reduceAdd, Int32.reduceSub, Int32.reduceMul, Nat.reduceLeDiff, zEL, zup_ne, zup_eq, zT0, zT1, zT2, if_true, if_false, g168, g209, ze_13, s13_0, s13_1, s13_4, s13_5, s13_8, s13_11, s13_12, s13_15, s13_16, s13_19, s13_22, s13_23, s13_26, s13_27, s13_30, s13_33, s13_34, s13_37, s13_38, s13_41, s13_44, s13_45, s13_48, s13_49, s13_52, s13_55, s13_56, s13_59, s13_60, s13_63, s13_66, s13_67, s13_68, s13_71, s13_74, s13_75, s13_76, s13_79, s13_82, s13_83, s13_84, s13_87, s13_90, s13_91, s13_92, s13_95, s13_98, z7, z8, z9, z10]
  · rw [zup_ne (by omega), zup_ne (by omega), zup_ne (by omega), zup_ne (by omega), zcopy_ne (by omega), zcopy_ne (by omega), zcopy_ne (by omega), zcopy_ne (by omega), zcopy_ne (by omega), zcopy_ne (by omega)]
  · rw [zup_ne (by omega), zup_ne (by omega), zup_ne (by omega), zup_ne (by omega), zcopy_ne (by omega), zcopy_ne (by omega), zcopy_ne (by omega), zcopy_ne (by omega), zcopy_ne (by omega), zcopy_eq rfl (by omega) (by omega)]
  · rw [zup_ne (by omega), zup_ne (by omega), zup_ne (by omega), zup_ne (by omega), zcopy_ne (by omega), zcopy_ne (by omega), zcopy_ne (by omega), zcopy_ne (by omega), zcopy_eq rfl (by omega) (by omega), zcopy_ne (by omega)]
  · rw [zup_ne (by omega), zup_ne (by omega), zup_ne (by omega), zup_ne (by omega), zcopy_ne (by omega), zcopy_ne (by omega), zcopy_ne (by omega), zcopy_eq rfl (by omega) (by omega), zcopy_ne (by omega), zcopy_ne (by omega)]
  · rw [zup_ne (by omega), zup_ne (by omega), zup_ne (by omega), zup_ne (by omega), zcopy_ne (by omega), zcopy_ne (by omega), zcopy_eq rfl (by omega) (by omega), zcopy_ne (by omega), zcopy_ne (by omega), zcopy_ne (by omega)]
  · rw [zup_ne (by omega), zup_ne (by omega), zup_ne (by omega), zup_ne (by omega), zcopy_ne (by omega), zcopy_eq rfl (by omega) (by omega), zcopy_ne (by omega), zcopy_ne (by omega), zcopy_ne (by omega), zcopy_ne (by omega)]
  · rw [zup_ne (by omega), zup_ne (by omega), zup_ne (by omega), zup_ne (by omega), zcopy_eq rfl (by omega) (by omega), zcopy_ne (by omega), zcopy_ne (by omega), zcopy_ne (by omega), zcopy_ne (by omega), zcopy_ne (by omega)]
  · rw [zup_ne (by omega), zup_ne (by omega), zup_ne (by omega), zup_eq rfl rfl]
  · rw [zup_ne (by omega), zup_ne (by omega), zup_eq rfl rfl]
  · rw [zup_ne (by omega), zup_eq rfl rfl]
  · rw [zup_eq rfl rfl]
theorem t13_168_228 : ∃ S', zcall 13 [.ref 168, .ref 228] zRc S L = some (none, zRc, S', L) ∧ zCP 168 228 S S' := by
  refine ⟨zup (zup (zup (zup (zcopy (zcopy (zcopy (zcopy (zcopy (zcopy S 170 8 230 8) 172 8 232 8) 174 8 234 8) 176 8 236 8) 178 8 238 8) 180 5 240 5) 168 7 (S 228 7)) 168 8 (S 228 8)) 168 9 (S 228 9)) 168 10 (S 228 10), ?_, fun j k hj => ?_, fun k hk => ⟨?_, ?_, ?_, ?_, ?_⟩, fun k hk => ?_, ?_, ?_, ?_, ?_⟩
  · have z : ∀ j k, (j = 168 ∨ j = 228) → zcopy (zcopy (zcopy (zcopy (zcopy (zcopy S 170 8 230 8) 172 8 232 8) 174 8 234 8) 176 8 236 8) 178 8 238 8) 180 5 240 5 j k = S j k := fun j k hj => by
      rw [zcopy_ne (by omega), zcopy_ne (by omega), zcopy_ne (by omega), zcopy_ne (by omega), zcopy_ne (by omega), zcopy_ne (by omega)]
    have z7 := z 228 7 (.inr rfl)
    have z8 := z 228 8 (.inr rfl)
    have z9 := z 228 9 (.inr rfl)
    have z10 := z 228 10 (.inr rfl)
    unfold zcall
    simp (config := {maxSteps := 1000000}) (disch := omega) only [↓reduceIte, Int32.reduceLT, Int32.reduceLE, Int32.reduceToNatClampNeg, Int32.reduceAdd, Int32.reduceSub, Int32.reduceMul, Nat.reduceLeDiff, zEL, zup_ne, zup_eq, zT0, zT1, zT2, if_true, if_false, g168, g228, ze_13, s13_0, s13_1, s13_4, s13_5, s13_8, s13_11, s13_12, s13_15, s13_16, s13_19, s13_22, s13_23, s13_26, s13_27, s13_30, s13_33, s13_34, s13_37, s13_38, s13_41, s13_44, s13_45, s13_48, s13_49, s13_52, s13_55, s13_56, s13_59, s13_60, s13_63, s13_66, s13_67, s13_68, s13_71, s13_74, s13_75, s13_76, s13_79, s13_82, s13_83, s13_84, s13_87, s13_90, s13_91, s13_92, s13_95, s13_98, z7, z8, z9, z10]
  · rw [zup_ne (by omega), zup_ne (by omega), zup_ne (by omega), zup_ne (by omega), zcopy_ne (by omega), zcopy_ne (by omega), zcopy_ne (by omega), zcopy_ne (by omega), zcopy_ne (by omega), zcopy_ne (by omega)]
  · rw [zup_ne (by omega), zup_ne (by omega), zup_ne (by omega), zup_ne (by omega), zcopy_ne (by omega), zcopy_ne (by omega), zcopy_ne (by omega), zcopy_ne (by omega), zcopy_ne (by omega), zcopy_eq rfl (by omega) (by omega)]
  · rw [zup_ne (by omega), zup_ne (by omega), zup_ne (by omega), zup_ne (by omega), zcopy_ne (by omega), zcopy_ne (by omega), zcopy_ne (by omega), zcopy_ne (by omega), zcopy_eq rfl (by omega) (by omega), zcopy_ne (by omega)]
  · rw [zup_ne (by omega), zup_ne (by omega), zup_ne (by omega), zup_ne (by omega), zcopy_ne (by omega), zcopy_ne (by omega), zcopy_ne (by omega), zcopy_eq rfl (by omega) (by omega), zcopy_ne (by omega), zcopy_ne (by omega)]
  · rw [zup_ne (by omega), zup_ne (by omega), zup_ne (by omega), zup_ne (by omega), zcopy_ne (by omega), zcopy_ne (by omega), zcopy_eq rfl (by omega) (by omega), zcopy_ne (by omega), zcopy_ne (by omega), zcopy_ne (by omega)]
  · rw [zup_ne (by omega), zup_ne (by omega), zup_ne (by omega), zup_ne (by omega), zcopy_ne (by omega), zcopy_eq rfl (by omega) (by omega), zcopy_ne (by omega), zcopy_ne (by omega), zcopy_ne (by omega), zcopy_ne (by omega)]
  · rw [zup_ne (by omega), zup_ne (by omega), zup_ne (by omega), zup_ne (by omega), zcopy_eq rfl (by omega) (by omega), zcopy_ne (by omega), zcopy_ne (by omega), zcopy_ne (by omega), zcopy_ne (by omega), zcopy_ne (by omega)]
  · rw [zup_ne (by omega), zup_ne (by omega), zup_ne (by omega), zup_eq rfl rfl]
  · rw [zup_ne (by omega), zup_ne (by omega), zup_eq rfl rfl]
  · rw [zup_ne (by omega), zup_eq rfl rfl]
  · rw [zup_eq rfl rfl]
theorem t13_168_247 : ∃ S', zcall 13 [.ref 168, .ref 247] zRc S L = some (none, zRc, S', L) ∧ zCP 168 247 S S' := by
  refine ⟨zup (zup (zup (zup (zcopy (zcopy (zcopy (zcopy (zcopy (zcopy S 170 8 249 8) 172 8 251 8) 174 8 253 8) 176 8 255 8) 178 8 257 8) 180 5 259 5) 168 7 (S 247 7)) 168 8 (S 247 8)) 168 9 (S 247 9)) 168 10 (S 247 10), ?_, fun j k hj => ?_, fun k hk => ⟨?_, ?_, ?_, ?_, ?_⟩, fun k hk => ?_, ?_, ?_, ?_, ?_⟩
  · have z : ∀ j k, (j = 168 ∨ j = 247) → zcopy (zcopy (zcopy (zcopy (zcopy (zcopy S 170 8 249 8) 172 8 251 8) 174 8 253 8) 176 8 255 8) 178 8 257 8) 180 5 259 5 j k = S j k := fun j k hj => by
      rw [zcopy_ne (by omega), zcopy_ne (by omega), zcopy_ne (by omega), zcopy_ne (by omega), zcopy_ne (by omega), zcopy_ne (by omega)]
    have z7 := z 247 7 (.inr rfl)
    have z8 := z 247 8 (.inr rfl)
    have z9 := z 247 9 (.inr rfl)
    have z10 := z 247 10 (.inr rfl)
    unfold zcall
    simp (config := {maxSteps := 1000000}) (disch := omega) only [↓reduceIte, Int32.reduceLT, Int32.reduceLE, Int32.reduceToNatClampNeg, Int32.reduceAdd, Int32.reduceSub, Int32.reduceMul, Nat.reduceLeDiff, zEL, zup_ne, zup_eq, zT0, zT1, zT2, if_true, if_false, g168, g247, ze_13, s13_0, s13_1, s13_4, s13_5, s13_8, s13_11, s13_12, s13_15, s13_16, s13_19, s13_22, s13_23, s13_26, s13_27, s13_30, s13_33, s13_34, s13_37, s13_38, s13_41, s13_44, s13_45, s13_48, s13_49, s13_52, s13_55, s13_56, s13_59, s13_60, s13_63, s13_66, s13_67, s13_68, s13_71, s13_74, s13_75, s13_76, s13_79, s13_82, s13_83, s13_84, s13_87, s13_90, s13_91, s13_92, s13_95, s13_98, z7, z8, z9, z10]
  · rw [zup_ne (by omega), zup_ne (by omega), zup_ne (by omega), zup_ne (by omega), zcopy_ne (by omega), zcopy_ne (by omega), zcopy_ne (by omega), zcopy_ne (by omega), zcopy_ne (by omega), zcopy_ne (by omega)]
  · rw [zup_ne (by omega), zup_ne (by omega), zup_ne (by omega), zup_ne (by omega), zcopy_ne (by omega), zcopy_ne (by omega), zcopy_ne (by omega), zcopy_ne (by omega), zcopy_ne (by omega), zcopy_eq rfl (by omega) (by omega)]
  · rw [zup_ne (by omega), zup_ne (by omega), zup_ne (by omega), zup_ne (by omega), zcopy_ne (by omega), zcopy_ne (by omega), zcopy_ne (by omega), zcopy_ne (by omega), zcopy_eq rfl (by omega) (by omega), zcopy_ne (by omega)]
  · rw [zup_ne (by omega), zup_ne (by omega), zup_ne (by omega), zup_ne (by omega), zcopy_ne (by omega), zcopy_ne (by omega), zcopy_ne (by omega), zcopy_eq rfl (by omega) (by omega), zcopy_ne (by omega), zcopy_ne (by omega)]
  · rw [zup_ne (by omega), zup_ne (by omega), zup_ne (by omega), zup_ne (by omega), zcopy_ne (by omega), zcopy_ne (by omega), zcopy_eq rfl (by omega) (by omega), zcopy_ne (by omega), zcopy_ne (by omega), zcopy_ne (by omega)]
  · rw [zup_ne (by omega), zup_ne (by omega), zup_ne (by omega), zup_ne (by omega), zcopy_ne (by omega), zcopy_eq rfl (by omega) (by omega), zcopy_ne (by omega), zcopy_ne (by omega), zcopy_ne (by omega), zcopy_ne (by omega)]
  · rw [zup_ne (by omega), zup_ne (by omega), zup_ne (by omega), zup_ne (by omega), zcopy_eq rfl (by omega) (by omega), zcopy_ne (by omega), zcopy_ne (by omega), zcopy_ne (by omega), zcopy_ne (by omega), zcopy_ne (by omega)]
  · rw [zup_ne (by omega), zup_ne (by omega), zup_ne (by omega), zup_eq rfl rfl]
  · rw [zup_ne (by omega), zup_ne (by omega), zup_eq rfl rfl]
  · rw [zup_ne (by omega), zup_eq rfl rfl]
  · rw [zup_eq rfl rfl]
theorem t13_168_266 : ∃ S', zcall 13 [.ref 168, .ref 266] zRc S L = some (none, zRc, S', L) ∧ zCP 168 266 S S' := by
  refine ⟨zup (zup (zup (zup (zcopy (zcopy (zcopy (zcopy (zcopy (zcopy S 170 8 268 8) 172 8 270 8) 174 8 272 8) 176 8 274 8) 178 8 276 8) 180 5 278 5) 168 7 (S 266 7)) 168 8 (S 266 8)) 168 9 (S 266 9)) 168 10 (S 266 10), ?_, fun j k hj => ?_, fun k hk => ⟨?_, ?_, ?_, ?_, ?_⟩, fun k hk => ?_, ?_, ?_, ?_, ?_⟩
  · have z : ∀ j k, (j = 168 ∨ j = 266) → zcopy (zcopy (zcopy (zcopy (zcopy (zcopy S 170 8 268 8) 172 8 270 8) 174 8 272 8) 176 8 274 8) 178 8 276 8) 180 5 278 5 j k = S j k := fun j k hj => by
      rw [zcopy_ne (by omega), zcopy_ne (by omega), zcopy_ne (by omega), zcopy_ne (by omega), zcopy_ne (by omega), zcopy_ne (by omega)]
    have z7 := z 266 7 (.inr rfl)
    have z8 := z 266 8 (.inr rfl)
    have z9 := z 266 9 (.inr rfl)
    have z10 := z 266 10 (.inr rfl)
    unfold zcall
    simp (config := {maxSteps := 1000000}) (disch := omega) only [↓reduceIte, Int32.reduceLT, Int32.reduceLE, Int32.reduceToNatClampNeg, Int32.reduceAdd, Int32.reduceSub, Int32.reduceMul, Nat.reduceLeDiff, zEL, zup_ne, zup_eq, zT0, zT1, zT2, if_true, if_false, g168, g266, ze_13, s13_0, s13_1, s13_4, s13_5, s13_8, s13_11, s13_12, s13_15, s13_16, s13_19, s13_22, s13_23, s13_26, s13_27, s13_30, s13_33, s13_34, s13_37, s13_38, s13_41, s13_44, s13_45, s13_48, s13_49, s13_52, s13_55, s13_56, s13_59, s13_60, s13_63, s13_66, s13_67, s13_68, s13_71, s13_74, s13_75, s13_76, s13_79, s13_82, s13_83, s13_84, s13_87, s13_90, s13_91, s13_92, s13_95, s13_98, z7, z8, z9, z10]
  · rw [zup_ne (by omega), zup_ne (by omega), zup_ne (by omega), zup_ne (by omega), zcopy_ne (by omega), zcopy_ne (by omega), zcopy_ne (by omega), zcopy_ne (by omega), zcopy_ne (by omega), zcopy_ne (by omega)]
  · rw [zup_ne (by omega), zup_ne (by omega), zup_ne (by omega), zup_ne (by omega), zcopy_ne (by omega), zcopy_ne (by omega), zcopy_ne (by omega), zcopy_ne (by omega), zcopy_ne (by omega), zcopy_eq rfl (by omega) (by omega)]
  · rw [zup_ne (by omega), zup_ne (by omega), zup_ne (by omega), zup_ne (by omega), zcopy_ne (by omega), zcopy_ne (by omega), zcopy_ne (by omega), zcopy_ne (by omega), zcopy_eq rfl (by omega) (by omega), zcopy_ne (by omega)]
  · rw [zup_ne (by omega), zup_ne (by omega), zup_ne (by omega), zup_ne (by omega), zcopy_ne (by omega), zcopy_ne (by omega), zcopy_ne (by omega), zcopy_eq rfl (by omega) (by omega), zcopy_ne (by omega), zcopy_ne (by omega)]
  · rw [zup_ne (by omega), zup_ne (by omega), zup_ne (by omega), zup_ne (by omega), zcopy_ne (by omega), zcopy_ne (by omega), zcopy_eq rfl (by omega) (by omega), zcopy_ne (by omega), zcopy_ne (by omega), zcopy_ne (by omega)]
  · rw [zup_ne (by omega), zup_ne (by omega), zup_ne (by omega), zup_ne (by omega), zcopy_ne (by omega), zcopy_eq rfl (by omega) (by omega), zcopy_ne (by omega), zcopy_ne (by omega), zcopy_ne (by omega), zcopy_ne (by omega)]
  · rw [zup_ne (by omega), zup_ne (by omega), zup_ne (by omega), zup_ne (by omega), zcopy_eq rfl (by omega) (by omega), zcopy_ne (by omega), zcopy_ne (by omega), zcopy_ne (by omega), zcopy_ne (by omega), zcopy_ne (by omega)]
  · rw [zup_ne (by omega), zup_ne (by omega), zup_ne (by omega), zup_eq rfl rfl]
  · rw [zup_ne (by omega), zup_ne (by omega), zup_eq rfl rfl]
  · rw [zup_ne (by omega), zup_eq rfl rfl]
  · rw [zup_eq rfl rfl]
theorem zGD_cp {d s : Nat} {f f' : Nat → Int32} {S' : zS} (h : zGD s c S f) (b0 : c 0 ≤ 8) (b1 : c 1 ≤ 8) (hd : 13 ≤ d) (hc : zCP d s S S') (h2 : ∀ k, k < 49 → f' k = f k) : zGD d c S' f' := by
  obtain ⟨g0, g1, g2, ⟨g3, g3'⟩, ⟨g4, g4'⟩, ⟨g5, g5'⟩, ⟨i, hh, i1, i2, i3, i4, i5, i6⟩⟩ := h
  obtain ⟨c1, c2, c3, c7, c8, c9, c10⟩ := hc
  refine ⟨fun p hp => ?_, fun b hb => ?_, fun k hk => ?_, ?_, ?_, ?_, ⟨i, hh, i1, i2, ?_, ?_, ?_, ?_⟩⟩
  · obtain ⟨x1, x2, x3, x4, -⟩ := c2 p (by omega)
    rw [x1, x2, x3, x4, h2 _ (by omega), h2 _ (by omega), h2 _ (by omega), h2 _ (by omega)]
    exact g0 p hp
  · obtain ⟨-, -, -, -, x5⟩ := c2 b (by omega)
    rw [x5, h2 _ (by omega)]
    exact g1 b hb
  · rw [c3 k hk, h2 _ (by omega)]
    exact g2 k hk
  · rw [c7, h2 _ (by omega)]
    exact ⟨g3, g3'⟩
  · rw [c8, h2 _ (by omega)]
    exact ⟨g4, g4'⟩
  · rw [c10, h2 _ (by omega)]
    exact ⟨g5, g5'⟩
  · rw [c9]
    exact i3
  · rw [c1 7 i (by omega)]
    exact i4
  · rw [h2 _ (by omega)]
    exact i5
  · intro j h3 h4
    rw [c1 7 j (by omega)]
    exact i6 j h3 h4
theorem t245 {mk : Nat} (hmk : mk < 4) (h : Sm 0 22 = nI mk) : ∃ X : zS, zgo 245 34 [.ref 0, .int (nI 0)] [] (zRm1 rd) Sm Lm = zgo 245 66 [.ref 0, .int (nI 49)] [] (zRm1 rd) X Lm ∧ (∀ j k, (j ≠ 3 ∨ k < 49 * mk ∨ 49 * mk + 49 ≤ k) → X j k = Sm j k) ∧ ∀ k, k < 49 → X 3 (49 * mk + k) = Sm 2 k := by
  have key : ∀ d i, i + d = 49 → ∀ X : zS, (∀ j k, (j ≠ 3 ∨ k < 49 * mk ∨ 49 * mk + 49 ≤ k) → X j k = Sm j k) → (∀ k, k < i → X 3 (49 * mk + k) = Sm 2 k) → ∃ X' : zS, zgo 245 34 [.ref 0, .int (nI i)] [] (zRm1 rd) X Lm = zgo 245 66 [.ref 0, .int (nI 49)] [] (zRm1 rd) X' Lm ∧ (∀ j k, (j ≠ 3 ∨ k < 49 * mk ∨ 49 * mk + 49 ≤ k) → X' j k = Sm j k) ∧ ∀ k, k < 49 → X' 3 (49 * mk + k) = Sm 2 k := by
    intro d
    induction d with
    | zero =>
      intro i hd X hX hk
      have hi : i = 49 := by omega
      subst hi
      refine ⟨X, ?_, hX, hk⟩
      rw [s245_34]
      simp (config := {maxSteps := 1000000}) (disch := omega) only [↓reduceIte, Int32.reduceLT, Int32.reduceLE, Int32.reduceToNatClampNeg, Int32.reduceAdd, Int32.reduceSub, Int32.reduceMul, Nat.reduceLeDiff, zEL, zup_ne, zup_eq, zT0, zT1, zT2, if_true, if_false, zneq_f, true_and, and_true, false_and, and_false, zKL, eq_self, Nat.reduceEqDiff, zite0, ite_not, zaddr, zaddl, zputr, zsb1, zsb2, zsb0, zsbm, znm1, layM1, s245_35, s245_37, s245_40, s245_41, s245_44, s245_46, s245_47, s245_50, s245_51, s245_52, s245_53, s245_54, s245_57, s245_58, s245_59, s245_60, s245_63, show ((49 : Int32) ≤ nI 49) = True from eq_true (by decide)]
    | succ d ih =>
      intro i hd X hX hk
      obtain ⟨X', r1, r2⟩ := ih (i + 1) (by omega) (zup X 3 (49 * mk + i) (Sm 2 i)) (fun j k h => by rw [zup_ne (by omega)]; exact hX j k h) (fun k h2 => by
        by_cases e : k = i
        · rw [zup_eq rfl (by omega), e]
        · rw [zup_ne (by omega)]
          exact hk k (by omega))
      refine ⟨X', ?_, r2⟩
      have x2 : X 2 i = Sm 2 i := hX 2 i (by omega)
      have x22 : X 0 22 = nI mk := (hX 0 22 (by omega)).trans h
      have e49 : (49 : Int32) * nI mk = nI (49 * mk) := by rw [show (49 : Int32) = nI 49 from rfl, znI_mul (by omega)]
      have h49 : ((49 : Int32) ≤ nI i) = False := eq_false (by rw [show (49 : Int32) = nI 49 from rfl, znI_le (by omega) (by omega)]; omega)
      rw [← r1, s245_34]
      simp (config := {maxSteps := 1000000}) (disch := omega) only [↓reduceIte, Int32.reduceLT, Int32.reduceLE, Int32.reduceToNatClampNeg, Int32.reduceAdd, Int32.reduceSub, Int32.reduceMul, Nat.reduceLeDiff, zEL, zup_ne, zup_eq, zT0, zT1, zT2, if_true, if_false, zneq_f, true_and, and_true, false_and, and_false, zKL, eq_self, Nat.reduceEqDiff, zite0, ite_not, zaddr, zaddl, zputr, zsb1, zsb2, zsb0, zsbm, znm1, layM1, s245_35, s245_37, s245_40, s245_41, s245_44, s245_46, s245_47, s245_50, s245_51, s245_52, s245_53, s245_54, s245_57, s245_58, s245_59, s245_60, s245_63, h49, x2, x22, e49, zadd_nI]
  exact key 49 0 (by omega) Sm (fun _ _ _ => rfl) (fun k h => by omega)
theorem t246 {i1 : Int32} {m : Nat} (hm : m < 4) (e1 : i1 = nI m) : ∃ X : zS, zgo 246 32 [.ref 0, .int i1, .int (nI 0)] [] (zRm1 rd) Sm Lm = zgo 246 61 [.ref 0, .int i1, .int (nI 49)] [] (zRm1 rd) X Lm ∧ (∀ j k, j ≠ 2 → X j k = Sm j k) ∧ ∀ k, k < 49 → X 2 k = Sm 3 (49 * m + k) := by
  subst e1
  have key : ∀ d i, i + d = 49 → ∀ X : zS, (∀ j k, j ≠ 2 → X j k = Sm j k) → (∀ k, k < i → X 2 k = Sm 3 (49 * m + k)) → ∃ X' : zS, zgo 246 32 [.ref 0, .int (nI m), .int (nI i)] [] (zRm1 rd) X Lm = zgo 246 61 [.ref 0, .int (nI m), .int (nI 49)] [] (zRm1 rd) X' Lm ∧ (∀ j k, j ≠ 2 → X' j k = Sm j k) ∧ ∀ k, k < 49 → X' 2 k = Sm 3 (49 * m + k) := by
    intro d
    induction d with
    | zero =>
      intro i hd X hX hk
      have hi : i = 49 := by omega
      subst hi
      refine ⟨X, ?_, hX, hk⟩
      rw [s246_32]
      simp (config := {maxSteps := 1000000}) (disch := omega) only [↓reduceIte, Int32.reduceLT, Int32.reduceLE, Int32.reduceToNatClampNeg, Int32.reduceAdd, Int32.reduceSub, Int32.reduceMul, Nat.reduceLeDiff, zEL, zup_ne, zup_eq, zT0, zT1, zT2, if_true, if_false, zneq_f, true_and, and_true, false_and, and_false, zKL, eq_self, Nat.reduceEqDiff, zite0, ite_not, zaddr, zaddl, zputr, zsb1, zsb2, zsb0, zsbm, znm1, layM1, s246_33, s246_35, s246_38, s246_39, s246_42, s246_43, s246_44, s246_47, s246_49, s246_50, s246_51, s246_52, s246_53, s246_54, s246_55, s246_58, show ((49 : Int32) ≤ nI 49) = True from eq_true (by decide)]
    | succ d ih =>
      intro i hd X hX hk
      obtain ⟨X', r1, r2⟩ := ih (i + 1) (by omega) (zup X 2 i (Sm 3 (49 * m + i))) (fun j k h => by rw [zup_ne (by omega)]; exact hX j k h) (fun k h2 => by
        by_cases e : k = i
        · rw [zup_eq rfl (by omega), e]
        · rw [zup_ne (by omega)]
          exact hk k (by omega))
      refine ⟨X', ?_, r2⟩
      have x2 : X 3 (49 * m + i) = Sm 3 (49 * m + i) := hX 3 _ (by omega)
      have e49 : (49 : Int32) * nI m = nI (49 * m) := by rw [show (49 : Int32) = nI 49 from rfl, znI_mul (by omega)]
      have h49 : ((49 : Int32) ≤ nI i) = False := eq_false (by rw [show (49 : Int32) = nI 49 from rfl, znI_le (by omega) (by omega)]; omega)
      rw [← r1, s246_32]
      simp (config := {maxSteps := 1000000}) (disch := omega) only [↓reduceIte, Int32.reduceLT, Int32.reduceLE, Int32.reduceToNatClampNeg, Int32.reduceAdd, Int32.reduceSub, Int32.reduceMul, Nat.reduceLeDiff, zEL, zup_ne, zup_eq, zT0, zT1, zT2, if_true, if_false, zneq_f, true_and, and_true, false_and, and_false, zKL, eq_self, Nat.reduceEqDiff, zite0, ite_not, zaddr, zaddl, zputr, zsb1, zsb2, zsb0, zsbm, znm1, layM1, s246_33, s246_35, s246_38, s246_39, s246_42, s246_43, s246_44, s246_47, s246_49, s246_50, s246_51, s246_52, s246_53, s246_54, s246_55, s246_58, h49, x2, e49, zadd_nI]
  exact key 49 0 (by omega) Sm (fun _ _ _ => rfl) (fun k h => by omega)
theorem zmarks {m : Nat} (hm : m < 4) : zaref zRc 208 (nI m) = some (.ref (209 + 19 * m)) := by
  rcases (show m = 0 ∨ m = 1 ∨ m = 2 ∨ m = 3 by omega) with rfl | rfl | rfl | rfl <;> rfl
theorem t13m {m : Nat} (hm : m < 4) : zrc zRc (209 + 19 * m) 2 = true ∧ ∃ S', zcall 13 [.ref (209 + 19 * m), .ref 168] zRc S L = some (none, zRc, S', L) ∧ zCP (209 + 19 * m) 168 S S' := by
  rcases (show m = 0 ∨ m = 1 ∨ m = 2 ∨ m = 3 by omega) with rfl | rfl | rfl | rfl
  · exact ⟨rfl, t13_209_168⟩
  · exact ⟨rfl, t13_228_168⟩
  · exact ⟨rfl, t13_247_168⟩
  · exact ⟨rfl, t13_266_168⟩
theorem t13b {m : Nat} (hm : m < 4) : ∃ S', zcall 13 [.ref 168, .ref (209 + 19 * m)] zRc S L = some (none, zRc, S', L) ∧ zCP 168 (209 + 19 * m) S S' := by
  rcases (show m = 0 ∨ m = 1 ∨ m = 2 ∨ m = 3 by omega) with rfl | rfl | rfl | rfl
  · exact t13_168_209
  · exact t13_168_228
  · exact t13_168_247
  · exact t13_168_266
theorem m_119 (h : zTM c S Sm) : ∃ w : Int32, ∃ S' Sm' : zS, zcall 119 [.ref 0] zRc S L = some (some (.int w), zRc, S', L) ∧ zcall 245 [.ref 0] (zRm1 rd) Sm Lm = some (some (.int w), zRm1 rd, Sm', Lm) ∧ zTM c S' Sm' := by
  obtain ⟨X, hX⟩ : ∃ X, X = zup Sm 0 0 0 := ⟨_, rfl⟩
  have h' := zTM_t (v := 0) h
  rw [← hX] at h'
  have b1 := h.2.1
  have hh := h'
  obtain ⟨⟨a1, a2, a3, n, hn, a4, a5, a6⟩, -, hM, hG, ⟨mk, hmk, m1, m2, m3⟩, ⟨se, hse, s1, s2, s3, s4⟩, ro⟩ := h'
  have b0 : c 0 ≤ 8 := hM.1.2.1
  have b2 : c 1 ≤ 8 := hM.1.2.2.1
  by_cases hmk4 : mk = 4
  · subst hmk4
    refine ⟨-1, _, _, ?_, ?_, zTM_d 3 (by decide) hh⟩ <;> unfold zcall
    · simp (config := {maxSteps := 1000000}) (disch := omega) only [↓reduceIte, Int32.reduceLT, Int32.reduceLE, Int32.reduceToNatClampNeg, Int32.reduceAdd, Int32.reduceSub, Int32.reduceMul, Nat.reduceLeDiff, zEL, zup_ne, zup_eq, zT0, zT1, zT2, if_true, if_false, zneq_f, true_and, and_true, false_and, and_false, zKL, eq_self, Nat.reduceEqDiff, zite0, ite_not, zaddr, zaddl, zputr, zsb1, zsb2, zsb0, zsbm, znm1, gX, g168, tEC, S119, b1, m1]
    · simp (config := {maxSteps := 1000000}) (disch := omega) only [↓reduceIte, Int32.reduceLT, Int32.reduceLE, Int32.reduceToNatClampNeg, Int32.reduceAdd, Int32.reduceSub, Int32.reduceMul, Nat.reduceLeDiff, zEL, zup_ne, zup_eq, zT0, zT1, zT2, if_true, if_false, zneq_f, true_and, and_true, false_and, and_false, zKL, eq_self, Nat.reduceEqDiff, zite0, ite_not, zaddr, zaddl, zputr, zsb1, zsb2, zsb0, zsbm, znm1, layM1, tEM1, ze_245, s245_0, s245_1, s245_2, s245_5, s245_6, s245_9, s245_9N, s245_12, s245_13, s245_14, s245_17, s245_18, s245_19, s245_22, s245_23, s245_26, s245_27, s245_28, s245_31, s245_32, s245_33, ← hX, m2]
  · obtain ⟨hz, S1, r1, r2⟩ := t13m (m := mk) (S := S) (L := L) (by omega)
    obtain ⟨X1, q1, q2, q3⟩ := t245 (Lm := Lm) (rd := rd) (show mk < 4 by omega) m2
    have f1 : ∀ j k, j < 209 → S1 j k = S j k := fun j k hj => r2.1 j k (by omega)
    have h1 : zTM c (zup S1 0 11 (nI (mk + 1))) (zup X1 0 22 (nI (mk + 1))) := by
      have e1 : ∀ k, k ≠ 11 → zup S1 0 11 (nI (mk + 1)) 0 k = S 0 k := fun k hk => by rw [zup_ne (by omega)]; exact f1 0 k (by omega)
      have e2 : ∀ k, k ≠ 22 → zup X1 0 22 (nI (mk + 1)) 0 k = X 0 k := fun k hk => by rw [zup_ne (by omega)]; exact q2 0 k (by omega)
      have e3 : ∀ j k, j ≠ 0 → zup X1 0 22 (nI (mk + 1)) j k = X1 j k := fun j k hk => zup_ne (by omega)
      have e4 : ∀ j k, j ≠ 0 → zup S1 0 11 (nI (mk + 1)) j k = S1 j k := fun j k hk => zup_ne (by omega)
      refine ⟨⟨?_, ?_, ?_, n, hn, ?_, ?_, fun i hi => ?_⟩, ?_, ?_, ?_, ⟨mk + 1, by omega, zup_eq rfl rfl, zup_eq rfl rfl, fun m hm => ?_⟩, ⟨se, hse, ?_, ?_, fun k hk => ?_, fun a ha => ?_⟩, zRO_fr ro (fun j k hj => by rw [e4 _ _ (by omega)]; exact f1 j k (by omega))⟩
      · rw [e1 _ (by decide), e2 _ (by decide)]
        exact a1
      · rw [e1 _ (by decide), e1 _ (by decide), e2 _ (by decide)]
        exact a2
      · rw [e1 _ (by decide), e2 _ (by decide)]
        exact a3
      · rw [e4 _ _ (by decide), f1 _ _ (by decide)]
        exact a4
      · rw [e2 _ (by decide)]
        exact a5
      · rw [e4 _ _ (by decide), f1 _ _ (by decide), e3 _ _ (by decide), q2 _ _ (by omega)]
        exact a6 i hi
      · rw [e1 _ (by decide)]
        exact b1
      · exact zMD_fr2 hM (fun j k hj => by rw [e4 _ _ (by omega)]; exact f1 j k (by omega)) (fun j k hj => by rw [e3 _ _ (by omega)]; exact q2 j k (by omega))
      · exact zGD_fr hG b0 b2 (fun j k hj => by rw [e4 _ _ (by omega)]; exact f1 j k (by omega)) (fun k hk => by rw [e3 _ _ (by omega)]; exact q2 2 k (by omega))
      · by_cases e : m = mk
        · subst e
          have := zGD_cp (d := 209 + 19 * m) (f' := fun k => X1 3 (49 * m + k)) hG b0 b2 (by omega) r2 (fun k hk => q3 k hk)
          exact zGD_fr this b0 b2 (fun j k hj => e4 j k (by omega)) (fun k hk => e3 3 _ (by omega))
        · exact zGD_fr (m3 m (by omega)) b0 b2 (fun j k hj => by rw [e4 _ _ (by omega)]; exact r2.1 j k (by omega)) (fun k hk => by rw [e3 _ _ (by omega)]; exact q2 3 _ (by omega))
      · rw [e1 _ (by decide)]
        exact s1
      · rw [e2 _ (by decide)]
        exact s2
      · rw [e3 _ _ (by decide), q2 _ _ (by omega)]
        exact s3 k hk
      · rw [e4 _ _ (by decide), r2.1 _ _ (by omega)]
        have e : zup X1 0 22 (nI (mk + 1)) 10 = X 10 := funext fun k => by rw [e3 _ _ (by decide), q2 _ _ (by omega)]
        rw [e]
        exact s4 a ha
    refine ⟨nI mk, _, _, ?_, ?_, zTM_d 0 (by decide) h1⟩ <;> unfold zcall
    · have u1 : S1 0 11 = nI mk := (f1 0 11 (by omega)).trans m1
      have hz2 := zmarks (m := mk) (by omega)
      have h4 : (Int32.ofNat 4 ≤ nI mk) = False := eq_false (by rw [show Int32.ofNat 4 = nI 4 from rfl, znI_le (by omega) (by omega)]; omega)
      have h4' : (nI 4 ≤ nI mk) = False := h4
      simp (config := {maxSteps := 1000000}) (disch := omega) only [↓reduceIte, Int32.reduceLT, Int32.reduceLE, Int32.reduceToNatClampNeg, Int32.reduceAdd, Int32.reduceSub, Int32.reduceMul, Nat.reduceLeDiff, zEL, zup_ne, zup_eq, zT0, zT1, zT2, if_true, if_false, zneq_f, true_and, and_true, false_and, and_false, zKL, eq_self, Nat.reduceEqDiff, zite0, ite_not, zaddr, zaddl, zputr, zsb1, zsb2, zsb0, zsbm, znm1, gX, g168, tEC, S119, b1, m1, lca_208, h4, h4', hz2, hz, r1, u1]
    · have u2 : X1 0 22 = nI mk := (q2 0 22 (by omega)).trans m2
      have h4 : (nI mk = 4) = False := eq_false (by rw [show (4 : Int32) = nI 4 from rfl, znI_inj (by omega) (by omega)]; omega)
      simp (config := {maxSteps := 1000000}) (disch := omega) only [↓reduceIte, Int32.reduceLT, Int32.reduceLE, Int32.reduceToNatClampNeg, Int32.reduceAdd, Int32.reduceSub, Int32.reduceMul, Nat.reduceLeDiff, zEL, zup_ne, zup_eq, zT0, zT1, zT2, if_true, if_false, zneq_f, true_and, and_true, false_and, and_false, zKL, eq_self, Nat.reduceEqDiff, zite0, ite_not, zaddr, zaddl, zputr, zsb1, zsb2, zsb0, zsbm, znm1, layM1, tEM1, ze_245, s245_0, s245_1, s245_2, s245_5, s245_6, s245_9, s245_9N, s245_12, s245_13, s245_14, s245_17, s245_18, s245_19, s245_22, s245_23, s245_26, s245_27, s245_28, s245_31, s245_32, s245_33, ← hX, m2, h4]
      have q1 : zgo 245 34 [.ref 0, .int 0] [] (zRm1 rd) X Lm = zgo 245 66 [.ref 0, .int (nI 49)] [] (zRm1 rd) X1 Lm := q1
      rw [q1]
      simp (config := {maxSteps := 1000000}) (disch := omega) only [↓reduceIte, Int32.reduceLT, Int32.reduceLE, Int32.reduceToNatClampNeg, Int32.reduceAdd, Int32.reduceSub, Int32.reduceMul, Nat.reduceLeDiff, zEL, zup_ne, zup_eq, zT0, zT1, zT2, if_true, if_false, zneq_f, true_and, and_true, false_and, and_false, zKL, eq_self, Nat.reduceEqDiff, zite0, ite_not, zaddr, zaddl, zputr, zsb1, zsb2, zsb0, zsbm, znm1, layM1, tEM1, s245_66, s245_67, s245_68, s245_71, s245_72, s245_73, s245_76, s245_77, s245_78, s245_81, s245_82, s245_83, s245_86, u2]
theorem m_120 {v : Int32} (h : zTM c S Sm) : ∃ w : Int32, ∃ S' Sm' : zS, zcall 120 [.ref 0, .int v] zRc S L = some (some (.int w), zRc, S', L) ∧ zcall 246 [.ref 0, .int v] (zRm1 rd) Sm Lm = some (some (.int w), zRm1 rd, Sm', Lm) ∧ zTM c S' Sm' := by
  obtain ⟨X, hX⟩ : ∃ X, X = zup Sm 0 0 0 := ⟨_, rfl⟩
  have h' := zTM_t (v := 0) h
  rw [← hX] at h'
  obtain ⟨mk, hmk, m1, m2, m3⟩ := h'.2.2.2.2.1
  have b0 : c 0 ≤ 8 := h'.2.2.1.1.2.1
  have b2 : c 1 ≤ 8 := h'.2.2.1.1.2.2.1
  rcases zidx v (n := mk) (by omega) with ⟨m, hm, rfl⟩ | ⟨a1, a2⟩ | ⟨a1, a2⟩
  · obtain ⟨S1, r1, r2⟩ := t13b (m := m) (S := S) (L := L) (by omega)
    obtain ⟨X1, q1, q2, q3⟩ := t246 (Sm := X) (Lm := Lm) (rd := rd) (show m < 4 by omega) rfl
    have h1 : zTM c S1 X1 := zTM_g h' (zMD_fr2 h'.2.2.1 (fun j k hj => r2.1 j k (by omega)) (fun j k hj => q2 j k (by omega))) (zGD_cp (m3 m hm) b0 b2 (by omega) r2 (fun k hk => q3 k hk)) (fun j k hj => r2.1 j k (by omega)) (fun j k h2 _ _ => q2 j k h2)
    refine ⟨1, _, _, ?_, ?_, zTM_d 0 (by decide) h1⟩ <;> unfold zcall
    · have hz2 := zmarks (m := m) (by omega)
      have h4 : (nI m < Int32.ofNat 4) = True := eq_true (by rw [show Int32.ofNat 4 = nI 4 from rfl, znI_lt (by omega) (by omega)]; omega)
      have h4' : (nI m < nI 4) = True := h4
      simp (config := {maxSteps := 1000000}) (disch := omega) only [↓reduceIte, Int32.reduceLT, Int32.reduceLE, Int32.reduceToNatClampNeg, Int32.reduceAdd, Int32.reduceSub, Int32.reduceMul, Nat.reduceLeDiff, zEL, zup_ne, zup_eq, zT0, zT1, zT2, if_true, if_false, zneq_f, true_and, and_true, false_and, and_false, zKL, eq_self, Nat.reduceEqDiff, zite0, ite_not, zaddr, zaddl, zputr, zsb1, zsb2, zsb0, zsbm, znm1, gX, g168, tEC, S120, m1, lca_208, h4, h4', hz2, r1]
    · simp (config := {maxSteps := 1000000}) (disch := omega) only [↓reduceIte, Int32.reduceLT, Int32.reduceLE, Int32.reduceToNatClampNeg, Int32.reduceAdd, Int32.reduceSub, Int32.reduceMul, Nat.reduceLeDiff, zEL, zup_ne, zup_eq, zT0, zT1, zT2, if_true, if_false, zneq_f, true_and, and_true, false_and, and_false, zKL, eq_self, Nat.reduceEqDiff, zite0, ite_not, zaddr, zaddl, zputr, zsb1, zsb2, zsb0, zsbm, znm1, layM1, tEM1, ze_246, s246_0, s246_1, s246_2, s246_5, s246_6, s246_9, s246_9N, s246_12, s246_13, s246_16, s246_17, s246_18, s246_21, s246_24, s246_25, s246_26, s246_29, s246_30, s246_31, ← hX, m2]
      have q1 : zgo 246 32 [.ref 0, .int (nI m), .int 0] [] (zRm1 rd) X Lm = zgo 246 61 [.ref 0, .int (nI m), .int (nI 49)] [] (zRm1 rd) X1 Lm := q1
      rw [q1]
      simp (config := {maxSteps := 1000000}) (disch := omega) only [↓reduceIte, Int32.reduceLT, Int32.reduceLE, Int32.reduceToNatClampNeg, Int32.reduceAdd, Int32.reduceSub, Int32.reduceMul, Nat.reduceLeDiff, zEL, zup_ne, zup_eq, zT0, zT1, zT2, if_true, if_false, zneq_f, true_and, and_true, false_and, and_false, zKL, eq_self, Nat.reduceEqDiff, zite0, ite_not, zaddr, zaddl, zputr, zsb1, zsb2, zsb0, zsbm, znm1, layM1, tEM1, s246_61, s246_62, s246_65]
  · refine ⟨0, _, _, ?_, ?_, zTM_d 1 (by decide) h'⟩ <;> unfold zcall
    · simp (config := {maxSteps := 1000000}) (disch := omega) only [↓reduceIte, Int32.reduceLT, Int32.reduceLE, Int32.reduceToNatClampNeg, Int32.reduceAdd, Int32.reduceSub, Int32.reduceMul, Nat.reduceLeDiff, zEL, zup_ne, zup_eq, zT0, zT1, zT2, if_true, if_false, zneq_f, true_and, and_true, false_and, and_false, zKL, eq_self, Nat.reduceEqDiff, zite0, ite_not, zaddr, zaddl, zputr, zsb1, zsb2, zsb0, zsbm, znm1, gX, g168, tEC, S120, a1]
    · simp (config := {maxSteps := 1000000}) (disch := omega) only [↓reduceIte, Int32.reduceLT, Int32.reduceLE, Int32.reduceToNatClampNeg, Int32.reduceAdd, Int32.reduceSub, Int32.reduceMul, Nat.reduceLeDiff, zEL, zup_ne, zup_eq, zT0, zT1, zT2, if_true, if_false, zneq_f, true_and, and_true, false_and, and_false, zKL, eq_self, Nat.reduceEqDiff, zite0, ite_not, zaddr, zaddl, zputr, zsb1, zsb2, zsb0, zsbm, znm1, layM1, tEM1, S246, ← hX, a1]
  · refine ⟨0, _, _, ?_, ?_, zTM_d 1 (by decide) h'⟩ <;> unfold zcall
    · simp (config := {maxSteps := 1000000}) (disch := omega) only [↓reduceIte, Int32.reduceLT, Int32.reduceLE, Int32.reduceToNatClampNeg, Int32.reduceAdd, Int32.reduceSub, Int32.reduceMul, Nat.reduceLeDiff, zEL, zup_ne, zup_eq, zT0, zT1, zT2, if_true, if_false, zneq_f, true_and, and_true, false_and, and_false, zKL, eq_self, Nat.reduceEqDiff, zite0, ite_not, zaddr, zaddl, zputr, zsb1, zsb2, zsb0, zsbm, znm1, gX, g168, tEC, S120, m1, a1, a2]
    · have a3 : (v < nI mk) = False := eq_false (Int32.not_lt.mpr (of_eq_true a2))
      simp (config := {maxSteps := 1000000}) (disch := omega) only [↓reduceIte, Int32.reduceLT, Int32.reduceLE, Int32.reduceToNatClampNeg, Int32.reduceAdd, Int32.reduceSub, Int32.reduceMul, Nat.reduceLeDiff, zEL, zup_ne, zup_eq, zT0, zT1, zT2, if_true, if_false, zneq_f, true_and, and_true, false_and, and_false, zKL, eq_self, Nat.reduceEqDiff, zite0, ite_not, zaddr, zaddl, zputr, zsb1, zsb2, zsb0, zsbm, znm1, layM1, tEM1, S246, ← hX, m2, a1, a3]
end ZT6
