set_option maxRecDepth 100000 in
theorem zwC_1_0_ok : zok (zwC_1_0.map zwdM) tables_1_1 = true := by decide +kernel
set_option maxRecDepth 100000 in
theorem zwC_2_0_ok : zok (zwC_2_0.map zwdM) tables_1_2 = true := by decide +kernel
set_option maxRecDepth 100000 in
theorem zwC_3_0_ok : zok (zwC_3_0.map zwdM) tables_1_3 = true := by decide +kernel
set_option maxRecDepth 100000 in
theorem zwC_3_1_ok : zok (zwC_3_1.map zwdM) tables_1_3 = true := by decide +kernel
set_option maxRecDepth 100000 in
theorem zwC_3_2_ok : zok (zwC_3_2.map zwdM) tables_1_3 = true := by decide +kernel
set_option maxRecDepth 100000 in
theorem zwC_3_3_ok : zok (zwC_3_3.map zwdM) tables_1_3 = true := by decide +kernel
set_option maxRecDepth 100000 in
theorem zwC_4_0_ok : zok (zwC_4_0.map zwdM) tables_1_4 = true := by decide +kernel
set_option maxRecDepth 100000 in
theorem zwC_4_1_ok : zok (zwC_4_1.map zwdM) tables_1_4 = true := by decide +kernel
set_option maxRecDepth 100000 in
theorem zwC_4_2_ok : zok (zwC_4_2.map zwdM) tables_1_4 = true := by decide +kernel
set_option maxRecDepth 100000 in
theorem zwC_4_3_ok : zok (zwC_4_3.map zwdM) tables_1_4 = true := by decide +kernel
set_option maxRecDepth 100000 in
theorem zwC_4_4_ok : zok (zwC_4_4.map zwdM) tables_1_4 = true := by decide +kernel
set_option maxRecDepth 100000 in
theorem zwC_4_5_ok : zok (zwC_4_5.map zwdM) tables_1_4 = true := by decide +kernel
set_option maxRecDepth 100000 in
theorem zwC_5_0_ok : zok (zwC_5_0.map zwdM) tables_1_5 = true := by decide +kernel
set_option maxRecDepth 100000 in
theorem zwC_5_1_ok : zok (zwC_5_1.map zwdM) tables_1_5 = true := by decide +kernel
set_option maxRecDepth 100000 in
theorem zwC_5_2_ok : zok (zwC_5_2.map zwdM) tables_1_5 = true := by decide +kernel
set_option maxRecDepth 100000 in
theorem zwC_5_3_ok : zok (zwC_5_3.map zwdM) tables_1_5 = true := by decide +kernel
set_option maxRecDepth 100000 in
theorem zwC_5_4_ok : zok (zwC_5_4.map zwdM) tables_1_5 = true := by decide +kernel
set_option maxRecDepth 100000 in
theorem zwC_5_5_ok : zok (zwC_5_5.map zwdM) tables_1_5 = true := by decide +kernel
set_option maxRecDepth 100000 in
theorem zwC_6_0_ok : zok (zwC_6_0.map zwdM) tables_1_6 = true := by decide +kernel
set_option maxRecDepth 100000 in
theorem zwC_6_1_ok : zok (zwC_6_1.map zwdM) tables_1_6 = true := by decide +kernel
set_option maxRecDepth 100000 in
theorem zwC_7_0_ok : zok (zwC_7_0.map zwdM) tables_1_7 = true := by decide +kernel
set_option maxRecDepth 100000 in
theorem zwC_7_1_ok : zok (zwC_7_1.map zwdM) tables_1_7 = true := by decide +kernel
set_option maxRecDepth 100000 in
theorem zwC_7_2_ok : zok (zwC_7_2.map zwdM) tables_1_7 = true := by decide +kernel
set_option maxRecDepth 100000 in
theorem zwC_8_0_ok : zok (zwC_8_0.map zwdM) tables_1_8 = true := by decide +kernel
set_option maxRecDepth 100000 in
theorem zwC_8_1_ok : zok (zwC_8_1.map zwdM) tables_1_8 = true := by decide +kernel
set_option maxRecDepth 100000 in
theorem zwC_8_2_ok : zok (zwC_8_2.map zwdM) tables_1_8 = true := by decide +kernel
set_option maxRecDepth 100000 in
theorem zwC_8_3_ok : zok (zwC_8_3.map zwdM) tables_1_8 = true := by decide +kernel
set_option maxRecDepth 100000 in
theorem zwC_8_4_ok : zok (zwC_8_4.map zwdM) tables_1_8 = true := by decide +kernel
set_option maxRecDepth 100000 in
theorem zwC_8_5_ok : zok (zwC_8_5.map zwdM) tables_1_8 = true := by decide +kernel
set_option maxRecDepth 100000 in
theorem zwC_9_0_ok : zok (zwC_9_0.map zwdM) tables_1_9 = true := by decide +kernel
set_option maxRecDepth 100000 in
theorem zwC_9_1_ok : zok (zwC_9_1.map zwdM) tables_1_9 = true := by decide +kernel
set_option maxRecDepth 100000 in
theorem zwC_9_2_ok : zok (zwC_9_2.map zwdM) tables_1_9 = true := by decide +kernel
set_option maxRecDepth 100000 in
theorem zwC_9_3_ok : zok (zwC_9_3.map zwdM) tables_1_9 = true := by decide +kernel
set_option maxRecDepth 100000 in
theorem zwC_9_4_ok : zok (zwC_9_4.map zwdM) tables_1_9 = true := by decide +kernel
theorem zwC_in : ∀ e ∈ zwC, (zwdM) e ∈ zUW := by
  unfold zwC
  exact (List.forall_mem_append.mpr ⟨(List.forall_mem_append.mpr ⟨(List.forall_mem_append.mpr ⟨(List.forall_mem_append.mpr ⟨(List.forall_mem_append.mpr ⟨(List.forall_mem_append.mpr ⟨(List.forall_mem_append.mpr ⟨(List.forall_mem_append.mpr ⟨(List.forall_mem_append.mpr ⟨(List.forall_mem_append.mpr ⟨(List.forall_mem_append.mpr ⟨(List.forall_mem_append.mpr ⟨(List.forall_mem_append.mpr ⟨(List.forall_mem_append.mpr ⟨(List.forall_mem_append.mpr ⟨(List.forall_mem_append.mpr ⟨(List.forall_mem_append.mpr ⟨(List.forall_mem_append.mpr ⟨(List.forall_mem_append.mpr ⟨(List.forall_mem_append.mpr ⟨(List.forall_mem_append.mpr ⟨(List.forall_mem_append.mpr ⟨(List.forall_mem_append.mpr ⟨(List.forall_mem_append.mpr ⟨(List.forall_mem_append.mpr ⟨(List.forall_mem_append.mpr ⟨(List.forall_mem_append.mpr ⟨(List.forall_mem_append.mpr ⟨(List.forall_mem_append.mpr ⟨(List.forall_mem_append.mpr ⟨(List.forall_mem_append.mpr ⟨(List.forall_mem_append.mpr ⟨(List.forall_mem_append.mpr ⟨(fun e he => zok_in zwC_1_0_ok zsubt1 _ (List.mem_map_of_mem he)), (fun e he => zok_in zwC_2_0_ok zsubt2 _ (List.mem_map_of_mem he))⟩), (fun e he => zok_in zwC_3_0_ok zsubt3 _ (List.mem_map_of_mem he))⟩), (fun e he => zok_in zwC_3_1_ok zsubt3 _ (List.mem_map_of_mem he))⟩), (fun e he => zok_in zwC_3_2_ok zsubt3 _ (List.mem_map_of_mem he))⟩), (fun e he => zok_in zwC_3_3_ok zsubt3 _ (List.mem_map_of_mem he))⟩), (fun e he => zok_in zwC_4_0_ok zsubt4 _ (List.mem_map_of_mem he))⟩), (fun e he => zok_in zwC_4_1_ok zsubt4 _ (List.mem_map_of_mem he))⟩), (fun e he => zok_in zwC_4_2_ok zsubt4 _ (List.mem_map_of_mem he))⟩), (fun e he => zok_in zwC_4_3_ok zsubt4 _ (List.mem_map_of_mem he))⟩), (fun e he => zok_in zwC_4_4_ok zsubt4 _ (List.mem_map_of_mem he))⟩), (fun e he => zok_in zwC_4_5_ok zsubt4 _ (List.mem_map_of_mem he))⟩), (fun e he => zok_in zwC_5_0_ok zsubt5 _ (List.mem_map_of_mem he))⟩), (fun e he => zok_in zwC_5_1_ok zsubt5 _ (List.mem_map_of_mem he))⟩), (fun e he => zok_in zwC_5_2_ok zsubt5 _ (List.mem_map_of_mem he))⟩), (fun e he => zok_in zwC_5_3_ok zsubt5 _ (List.mem_map_of_mem he))⟩), (fun e he => zok_in zwC_5_4_ok zsubt5 _ (List.mem_map_of_mem he))⟩), (fun e he => zok_in zwC_5_5_ok zsubt5 _ (List.mem_map_of_mem he))⟩), (fun e he => zok_in zwC_6_0_ok zsubt6 _ (List.mem_map_of_mem he))⟩), (fun e he => zok_in zwC_6_1_ok zsubt6 _ (List.mem_map_of_mem he))⟩), (fun e he => zok_in zwC_7_0_ok zsubt7 _ (List.mem_map_of_mem he))⟩), (fun e he => zok_in zwC_7_1_ok zsubt7 _ (List.mem_map_of_mem he))⟩), (fun e he => zok_in zwC_7_2_ok zsubt7 _ (List.mem_map_of_mem he))⟩), (fun e he => zok_in zwC_8_0_ok zsubt8 _ (List.mem_map_of_mem he))⟩), (fun e he => zok_in zwC_8_1_ok zsubt8 _ (List.mem_map_of_mem he))⟩), (fun e he => zok_in zwC_8_2_ok zsubt8 _ (List.mem_map_of_mem he))⟩), (fun e he => zok_in zwC_8_3_ok zsubt8 _ (List.mem_map_of_mem he))⟩), (fun e he => zok_in zwC_8_4_ok zsubt8 _ (List.mem_map_of_mem he))⟩), (fun e he => zok_in zwC_8_5_ok zsubt8 _ (List.mem_map_of_mem he))⟩), (fun e he => zok_in zwC_9_0_ok zsubt9 _ (List.mem_map_of_mem he))⟩), (fun e he => zok_in zwC_9_1_ok zsubt9 _ (List.mem_map_of_mem he))⟩), (fun e he => zok_in zwC_9_2_ok zsubt9 _ (List.mem_map_of_mem he))⟩), (fun e he => zok_in zwC_9_3_ok zsubt9 _ (List.mem_map_of_mem he))⟩), (fun e he => zok_in zwC_9_4_ok zsubt9 _ (List.mem_map_of_mem he))⟩)
