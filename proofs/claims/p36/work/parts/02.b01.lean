set_option maxRecDepth 20000 in
theorem wsL_in_r1_0 : ∀ w ∈ ((wsL_law0_r1.drop 0).take 8), w ∈ lw_tbl := fun w h => (goodIn_p ((wsL_law0_r1.drop 0).take 8) [291] (by decide +kernel) (by decide +kernel) w h).1
set_option maxRecDepth 20000 in
theorem wsL_in_r1_1 : ∀ w ∈ ((wsL_law0_r1.drop 8).take 8), w ∈ lw_tbl := fun w h => (goodIn_p ((wsL_law0_r1.drop 8).take 8) [44, 47] (by decide +kernel) (by decide +kernel) w h).1
set_option maxRecDepth 20000 in
theorem wsL_in_r1_2 : ∀ w ∈ ((wsL_law0_r1.drop 16).take 8), w ∈ lw_tbl := fun w h => (goodIn_p ((wsL_law0_r1.drop 16).take 8) [] (by decide +kernel) (by decide +kernel) w h).1
theorem wsL_in_r1 : ∀ w ∈ wsL_law0_r1, w ∈ lw_tbl := List.forall_mem_append.mpr ⟨wsL_in_r1_0, List.forall_mem_append.mpr ⟨wsL_in_r1_1, wsL_in_r1_2⟩⟩
set_option maxRecDepth 20000 in
theorem wsL_in_r2_0 : ∀ w ∈ ((wsL_law0_r2.drop 0).take 8), w ∈ lw_tbl := fun w h => (goodIn_p ((wsL_law0_r2.drop 0).take 8) [52] (by decide +kernel) (by decide +kernel) w h).1
set_option maxRecDepth 20000 in
theorem wsL_in_r2_1 : ∀ w ∈ ((wsL_law0_r2.drop 8).take 8), w ∈ lw_tbl := fun w h => (goodIn_p ((wsL_law0_r2.drop 8).take 8) [81] (by decide +kernel) (by decide +kernel) w h).1
set_option maxRecDepth 20000 in
theorem wsL_in_r2_2 : ∀ w ∈ ((wsL_law0_r2.drop 16).take 8), w ∈ lw_tbl := fun w h => (goodIn_p ((wsL_law0_r2.drop 16).take 8) [633] (by decide +kernel) (by decide +kernel) w h).1
theorem wsL_in_r2 : ∀ w ∈ wsL_law0_r2, w ∈ lw_tbl := List.forall_mem_append.mpr ⟨wsL_in_r2_0, List.forall_mem_append.mpr ⟨wsL_in_r2_1, wsL_in_r2_2⟩⟩
set_option maxRecDepth 20000 in
theorem wsL_in_r3_0 : ∀ w ∈ ((wsL_law0_r3.drop 0).take 8), w ∈ lw_tbl := fun w h => (goodIn_p ((wsL_law0_r3.drop 0).take 8) [638] (by decide +kernel) (by decide +kernel) w h).1
set_option maxRecDepth 20000 in
theorem wsL_in_r3_1 : ∀ w ∈ ((wsL_law0_r3.drop 8).take 8), w ∈ lw_tbl := fun w h => (goodIn_p ((wsL_law0_r3.drop 8).take 8) [561, 557] (by decide +kernel) (by decide +kernel) w h).1
set_option maxRecDepth 20000 in
theorem wsL_in_r3_2 : ∀ w ∈ ((wsL_law0_r3.drop 16).take 8), w ∈ lw_tbl := fun w h => (goodIn_p ((wsL_law0_r3.drop 16).take 8) [505, 571] (by decide +kernel) (by decide +kernel) w h).1
theorem wsL_in_r3 : ∀ w ∈ wsL_law0_r3, w ∈ lw_tbl := List.forall_mem_append.mpr ⟨wsL_in_r3_0, List.forall_mem_append.mpr ⟨wsL_in_r3_1, wsL_in_r3_2⟩⟩
set_option maxRecDepth 20000 in
theorem wsL_in_r4_0 : ∀ w ∈ ((wsL_law0_r4.drop 0).take 8), w ∈ lw_tbl := fun w h => (goodIn_p ((wsL_law0_r4.drop 0).take 8) [575] (by decide +kernel) (by decide +kernel) w h).1
set_option maxRecDepth 20000 in
theorem wsL_in_r4_1 : ∀ w ∈ ((wsL_law0_r4.drop 8).take 8), w ∈ lw_tbl := fun w h => (goodIn_p ((wsL_law0_r4.drop 8).take 8) [579, 584] (by decide +kernel) (by decide +kernel) w h).1
set_option maxRecDepth 20000 in
theorem wsL_in_r4_2 : ∀ w ∈ ((wsL_law0_r4.drop 16).take 8), w ∈ lw_tbl := fun w h => (goodIn_p ((wsL_law0_r4.drop 16).take 8) [588, 127] (by decide +kernel) (by decide +kernel) w h).1
theorem wsL_in_r4 : ∀ w ∈ wsL_law0_r4, w ∈ lw_tbl := List.forall_mem_append.mpr ⟨wsL_in_r4_0, List.forall_mem_append.mpr ⟨wsL_in_r4_1, wsL_in_r4_2⟩⟩
set_option maxRecDepth 20000 in
theorem wsL_in_r5_0 : ∀ w ∈ ((wsL_law0_r5.drop 0).take 8), w ∈ lw_tbl := fun w h => (goodIn_p ((wsL_law0_r5.drop 0).take 8) [199] (by decide +kernel) (by decide +kernel) w h).1
set_option maxRecDepth 20000 in
theorem wsL_in_r5_1 : ∀ w ∈ ((wsL_law0_r5.drop 8).take 8), w ∈ lw_tbl := fun w h => (goodIn_p ((wsL_law0_r5.drop 8).take 8) [495, 597] (by decide +kernel) (by decide +kernel) w h).1
set_option maxRecDepth 20000 in
theorem wsL_in_r5_2 : ∀ w ∈ ((wsL_law0_r5.drop 16).take 8), w ∈ lw_tbl := fun w h => (goodIn_p ((wsL_law0_r5.drop 16).take 8) [601, 426] (by decide +kernel) (by decide +kernel) w h).1
theorem wsL_in_r5 : ∀ w ∈ wsL_law0_r5, w ∈ lw_tbl := List.forall_mem_append.mpr ⟨wsL_in_r5_0, List.forall_mem_append.mpr ⟨wsL_in_r5_1, wsL_in_r5_2⟩⟩
set_option maxRecDepth 20000 in
theorem wsL_in_r6_0 : ∀ w ∈ ((wsL_law0_r6.drop 0).take 8), w ∈ lw_tbl := fun w h => (goodIn_p ((wsL_law0_r6.drop 0).take 8) [605] (by decide +kernel) (by decide +kernel) w h).1
set_option maxRecDepth 20000 in
theorem wsL_in_r6_1 : ∀ w ∈ ((wsL_law0_r6.drop 8).take 8), w ∈ lw_tbl := fun w h => (goodIn_p ((wsL_law0_r6.drop 8).take 8) [240, 243] (by decide +kernel) (by decide +kernel) w h).1
set_option maxRecDepth 20000 in
theorem wsL_in_r6_2 : ∀ w ∈ ((wsL_law0_r6.drop 16).take 8), w ∈ lw_tbl := fun w h => (goodIn_p ((wsL_law0_r6.drop 16).take 8) [247, 251] (by decide +kernel) (by decide +kernel) w h).1
theorem wsL_in_r6 : ∀ w ∈ wsL_law0_r6, w ∈ lw_tbl := List.forall_mem_append.mpr ⟨wsL_in_r6_0, List.forall_mem_append.mpr ⟨wsL_in_r6_1, wsL_in_r6_2⟩⟩
set_option maxRecDepth 20000 in
theorem wsL_in_r7_0 : ∀ w ∈ ((wsL_law0_r7.drop 0).take 8), w ∈ lw_tbl := fun w h => (goodIn_p ((wsL_law0_r7.drop 0).take 8) [610, 614] (by decide +kernel) (by decide +kernel) w h).1
set_option maxRecDepth 20000 in
theorem wsL_in_r7_1 : ∀ w ∈ ((wsL_law0_r7.drop 8).take 8), w ∈ lw_tbl := fun w h => (goodIn_p ((wsL_law0_r7.drop 8).take 8) [618, 466] (by decide +kernel) (by decide +kernel) w h).1
set_option maxRecDepth 20000 in
theorem wsL_in_r7_2 : ∀ w ∈ ((wsL_law0_r7.drop 16).take 8), w ∈ lw_tbl := fun w h => (goodIn_p ((wsL_law0_r7.drop 16).take 8) [346, 222] (by decide +kernel) (by decide +kernel) w h).1
theorem wsL_in_r7 : ∀ w ∈ wsL_law0_r7, w ∈ lw_tbl := List.forall_mem_append.mpr ⟨wsL_in_r7_0, List.forall_mem_append.mpr ⟨wsL_in_r7_1, wsL_in_r7_2⟩⟩
set_option maxRecDepth 20000 in
theorem wsL_in_r8_0 : ∀ w ∈ ((wsL_law0_r8.drop 0).take 8), w ∈ lw_tbl := fun w h => (goodIn_p ((wsL_law0_r8.drop 0).take 8) [259, 502] (by decide +kernel) (by decide +kernel) w h).1
set_option maxRecDepth 20000 in
theorem wsL_in_r8_1 : ∀ w ∈ ((wsL_law0_r8.drop 8).take 2), w ∈ lw_tbl := fun w h => (goodIn_p ((wsL_law0_r8.drop 8).take 2) [] (by decide +kernel) (by decide +kernel) w h).1
set_option maxRecDepth 100000 in
theorem wsL_in_r8_2 : ∀ w ∈ ((wsL_law0_r8.drop 10).take 1), w ∈ lw_tbl := by
  intro w h
  have e : w = Cond.codeWith yL_act cL_act 10 (some .boolean) [(155, 161, 164, 31), (232, 240, 243, 31), (309, 319, 322, 31), (497, 505, 508, 31), (554, 564, 567, 31)] := List.mem_singleton.mp h
  rw [e]
  exact List.mem_append_right _ (List.mem_of_getElem? (i := 539) rfl)
set_option maxRecDepth 20000 in
theorem wsL_in_r8_3 : ∀ w ∈ ((wsL_law0_r8.drop 11).take 8), w ∈ lw_tbl := fun w h => (goodIn_p ((wsL_law0_r8.drop 11).take 8) [592] (by decide +kernel) (by decide +kernel) w h).1
set_option maxRecDepth 20000 in
theorem wsL_in_r8_4 : ∀ w ∈ ((wsL_law0_r8.drop 19).take 5), w ∈ lw_tbl := fun w h => (goodIn_p ((wsL_law0_r8.drop 19).take 5) [487, 491] (by decide +kernel) (by decide +kernel) w h).1
theorem wsL_in_r8 : ∀ w ∈ wsL_law0_r8, w ∈ lw_tbl := List.forall_mem_append.mpr ⟨wsL_in_r8_0, List.forall_mem_append.mpr ⟨wsL_in_r8_1, List.forall_mem_append.mpr ⟨wsL_in_r8_2, List.forall_mem_append.mpr ⟨wsL_in_r8_3, wsL_in_r8_4⟩⟩⟩⟩
set_option maxRecDepth 20000 in
theorem wsL_in_r9_0 : ∀ w ∈ ((wsL_law0_r9.drop 0).take 8), w ∈ lw_tbl := fun w h => (goodIn_p ((wsL_law0_r9.drop 0).take 8) [123] (by decide +kernel) (by decide +kernel) w h).1
set_option maxRecDepth 20000 in
theorem wsL_in_r9_1 : ∀ w ∈ ((wsL_law0_r9.drop 8).take 8), w ∈ lw_tbl := fun w h => (goodIn_p ((wsL_law0_r9.drop 8).take 8) [219] (by decide +kernel) (by decide +kernel) w h).1
set_option maxRecDepth 20000 in
theorem wsL_in_r9_2 : ∀ w ∈ ((wsL_law0_r9.drop 16).take 8), w ∈ lw_tbl := fun w h => (goodIn_p ((wsL_law0_r9.drop 16).take 8) [229, 232] (by decide +kernel) (by decide +kernel) w h).1
theorem wsL_in_r9 : ∀ w ∈ wsL_law0_r9, w ∈ lw_tbl := List.forall_mem_append.mpr ⟨wsL_in_r9_0, List.forall_mem_append.mpr ⟨wsL_in_r9_1, wsL_in_r9_2⟩⟩
set_option maxRecDepth 20000 in
theorem wsL_in_r10_0 : ∀ w ∈ ((wsL_law0_r10.drop 0).take 8), w ∈ lw_tbl := fun w h => (goodIn_p ((wsL_law0_r10.drop 0).take 8) [236, 255] (by decide +kernel) (by decide +kernel) w h).1
set_option maxRecDepth 20000 in
theorem wsL_in_r10_1 : ∀ w ∈ ((wsL_law0_r10.drop 8).take 8), w ∈ lw_tbl := fun w h => (goodIn_p ((wsL_law0_r10.drop 8).take 8) [532, 524] (by decide +kernel) (by decide +kernel) w h).1
set_option maxRecDepth 20000 in
theorem wsL_in_r10_2 : ∀ w ∈ ((wsL_law0_r10.drop 16).take 8), w ∈ lw_tbl := fun w h => (goodIn_p ((wsL_law0_r10.drop 16).take 8) [625, 629] (by decide +kernel) (by decide +kernel) w h).1
theorem wsL_in_r10 : ∀ w ∈ wsL_law0_r10, w ∈ lw_tbl := List.forall_mem_append.mpr ⟨wsL_in_r10_0, List.forall_mem_append.mpr ⟨wsL_in_r10_1, wsL_in_r10_2⟩⟩
set_option maxRecDepth 20000 in
theorem wsL_in_r11_0 : ∀ w ∈ ((wsL_law0_r11.drop 0).take 8), w ∈ lw_tbl := fun w h => (goodIn_p ((wsL_law0_r11.drop 0).take 8) [288] (by decide +kernel) (by decide +kernel) w h).1
