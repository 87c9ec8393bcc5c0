set_option maxRecDepth 20000 in
theorem wsL_in_r11_1 : ∀ w ∈ ((wsL_law0_r11.drop 8).take 8), w ∈ lw_tbl := fun w h => (goodIn_p ((wsL_law0_r11.drop 8).take 8) [263, 283] (by decide +kernel) (by decide +kernel) w h).1
set_option maxRecDepth 20000 in
theorem wsL_in_r11_2 : ∀ w ∈ ((wsL_law0_r11.drop 16).take 8), w ∈ lw_tbl := fun w h => (goodIn_p ((wsL_law0_r11.drop 16).take 8) [294, 298] (by decide +kernel) (by decide +kernel) w h).1
theorem wsL_in_r11 : ∀ w ∈ wsL_law0_r11, w ∈ lw_tbl := List.forall_mem_append.mpr ⟨wsL_in_r11_0, List.forall_mem_append.mpr ⟨wsL_in_r11_1, wsL_in_r11_2⟩⟩
set_option maxRecDepth 20000 in
theorem wsL_in_r12_0 : ∀ w ∈ ((wsL_law0_r12.drop 0).take 8), w ∈ lw_tbl := fun w h => (goodIn_p ((wsL_law0_r12.drop 0).take 8) [302, 306] (by decide +kernel) (by decide +kernel) w h).1
set_option maxRecDepth 20000 in
theorem wsL_in_r12_1 : ∀ w ∈ ((wsL_law0_r12.drop 8).take 8), w ∈ lw_tbl := fun w h => (goodIn_p ((wsL_law0_r12.drop 8).take 8) [310, 314] (by decide +kernel) (by decide +kernel) w h).1
set_option maxRecDepth 20000 in
theorem wsL_in_r12_2 : ∀ w ∈ ((wsL_law0_r12.drop 16).take 8), w ∈ lw_tbl := fun w h => (goodIn_p ((wsL_law0_r12.drop 16).take 8) [509, 513] (by decide +kernel) (by decide +kernel) w h).1
theorem wsL_in_r12 : ∀ w ∈ wsL_law0_r12, w ∈ lw_tbl := List.forall_mem_append.mpr ⟨wsL_in_r12_0, List.forall_mem_append.mpr ⟨wsL_in_r12_1, wsL_in_r12_2⟩⟩
set_option maxRecDepth 20000 in
theorem wsL_in_r13_0 : ∀ w ∈ ((wsL_law0_r13.drop 0).take 8), w ∈ lw_tbl := fun w h => (goodIn_p ((wsL_law0_r13.drop 0).take 8) [517, 520] (by decide +kernel) (by decide +kernel) w h).1
set_option maxRecDepth 20000 in
theorem wsL_in_r13_1 : ∀ w ∈ ((wsL_law0_r13.drop 8).take 8), w ∈ lw_tbl := fun w h => (goodIn_p ((wsL_law0_r13.drop 8).take 8) [443, 318] (by decide +kernel) (by decide +kernel) w h).1
set_option maxRecDepth 20000 in
theorem wsL_in_r13_2 : ∀ w ∈ ((wsL_law0_r13.drop 16).take 8), w ∈ lw_tbl := fun w h => (goodIn_p ((wsL_law0_r13.drop 16).take 8) [322, 451] (by decide +kernel) (by decide +kernel) w h).1
theorem wsL_in_r13 : ∀ w ∈ wsL_law0_r13, w ∈ lw_tbl := List.forall_mem_append.mpr ⟨wsL_in_r13_0, List.forall_mem_append.mpr ⟨wsL_in_r13_1, wsL_in_r13_2⟩⟩
set_option maxRecDepth 20000 in
theorem wsL_in_r14_0 : ∀ w ∈ ((wsL_law0_r14.drop 0).take 8), w ∈ lw_tbl := fun w h => (goodIn_p ((wsL_law0_r14.drop 0).take 8) [406, 410] (by decide +kernel) (by decide +kernel) w h).1
set_option maxRecDepth 20000 in
theorem wsL_in_r14_1 : ∀ w ∈ ((wsL_law0_r14.drop 8).take 8), w ∈ lw_tbl := fun w h => (goodIn_p ((wsL_law0_r14.drop 8).take 8) [380, 414] (by decide +kernel) (by decide +kernel) w h).1
set_option maxRecDepth 20000 in
theorem wsL_in_r14_2 : ∀ w ∈ ((wsL_law0_r14.drop 16).take 8), w ∈ lw_tbl := fun w h => (goodIn_p ((wsL_law0_r14.drop 16).take 8) [458, 462] (by decide +kernel) (by decide +kernel) w h).1
theorem wsL_in_r14 : ∀ w ∈ wsL_law0_r14, w ∈ lw_tbl := List.forall_mem_append.mpr ⟨wsL_in_r14_0, List.forall_mem_append.mpr ⟨wsL_in_r14_1, wsL_in_r14_2⟩⟩
set_option maxRecDepth 20000 in
theorem wsL_in_r15_0 : ∀ w ∈ ((wsL_law0_r15.drop 0).take 8), w ∈ lw_tbl := fun w h => (goodIn_p ((wsL_law0_r15.drop 0).take 8) [472, 476] (by decide +kernel) (by decide +kernel) w h).1
set_option maxRecDepth 20000 in
theorem wsL_in_r15_1 : ∀ w ∈ ((wsL_law0_r15.drop 8).take 8), w ∈ lw_tbl := fun w h => (goodIn_p ((wsL_law0_r15.drop 8).take 8) [326, 330] (by decide +kernel) (by decide +kernel) w h).1
set_option maxRecDepth 20000 in
theorem wsL_in_r15_2 : ∀ w ∈ ((wsL_law0_r15.drop 16).take 8), w ∈ lw_tbl := fun w h => (goodIn_p ((wsL_law0_r15.drop 16).take 8) [334] (by decide +kernel) (by decide +kernel) w h).1
theorem wsL_in_r15 : ∀ w ∈ wsL_law0_r15, w ∈ lw_tbl := List.forall_mem_append.mpr ⟨wsL_in_r15_0, List.forall_mem_append.mpr ⟨wsL_in_r15_1, wsL_in_r15_2⟩⟩
set_option maxRecDepth 20000 in
theorem wsL_in_r16_0 : ∀ w ∈ ((wsL_law0_r16.drop 0).take 8), w ∈ lw_tbl := fun w h => (goodIn_p ((wsL_law0_r16.drop 0).take 8) [355, 364] (by decide +kernel) (by decide +kernel) w h).1
set_option maxRecDepth 20000 in
theorem wsL_in_r16_1 : ∀ w ∈ ((wsL_law0_r16.drop 8).take 8), w ∈ lw_tbl := fun w h => (goodIn_p ((wsL_law0_r16.drop 8).take 8) [368, 376] (by decide +kernel) (by decide +kernel) w h).1
set_option maxRecDepth 20000 in
theorem wsL_in_r16_2 : ∀ w ∈ ((wsL_law0_r16.drop 16).take 8), w ∈ lw_tbl := fun w h => (goodIn_p ((wsL_law0_r16.drop 16).take 8) [384, 388] (by decide +kernel) (by decide +kernel) w h).1
theorem wsL_in_r16 : ∀ w ∈ wsL_law0_r16, w ∈ lw_tbl := List.forall_mem_append.mpr ⟨wsL_in_r16_0, List.forall_mem_append.mpr ⟨wsL_in_r16_1, wsL_in_r16_2⟩⟩
set_option maxRecDepth 20000 in
theorem wsL_in_r17_0 : ∀ w ∈ ((wsL_law0_r17.drop 0).take 8), w ∈ lw_tbl := fun w h => (goodIn_p ((wsL_law0_r17.drop 0).take 8) [351, 338] (by decide +kernel) (by decide +kernel) w h).1
set_option maxRecDepth 20000 in
theorem wsL_in_r17_1 : ∀ w ∈ ((wsL_law0_r17.drop 8).take 8), w ∈ lw_tbl := fun w h => (goodIn_p ((wsL_law0_r17.drop 8).take 8) [372] (by decide +kernel) (by decide +kernel) w h).1
set_option maxRecDepth 20000 in
theorem wsL_in_r17_2 : ∀ w ∈ ((wsL_law0_r17.drop 16).take 8), w ∈ lw_tbl := fun w h => (goodIn_p ((wsL_law0_r17.drop 16).take 8) [342, 392] (by decide +kernel) (by decide +kernel) w h).1
theorem wsL_in_r17 : ∀ w ∈ wsL_law0_r17, w ∈ lw_tbl := List.forall_mem_append.mpr ⟨wsL_in_r17_0, List.forall_mem_append.mpr ⟨wsL_in_r17_1, wsL_in_r17_2⟩⟩
set_option maxRecDepth 20000 in
theorem wsL_in_r18_0 : ∀ w ∈ ((wsL_law0_r18.drop 0).take 8), w ∈ lw_tbl := fun w h => (goodIn_p ((wsL_law0_r18.drop 0).take 8) [397] (by decide +kernel) (by decide +kernel) w h).1
set_option maxRecDepth 20000 in
theorem wsL_in_r18_1 : ∀ w ∈ ((wsL_law0_r18.drop 8).take 8), w ∈ lw_tbl := fun w h => (goodIn_p ((wsL_law0_r18.drop 8).take 8) [359, 401] (by decide +kernel) (by decide +kernel) w h).1
set_option maxRecDepth 20000 in
theorem wsL_in_r18_2 : ∀ w ∈ ((wsL_law0_r18.drop 16).take 8), w ∈ lw_tbl := fun w h => (goodIn_p ((wsL_law0_r18.drop 16).take 8) [431] (by decide +kernel) (by decide +kernel) w h).1
theorem wsL_in_r18 : ∀ w ∈ wsL_law0_r18, w ∈ lw_tbl := List.forall_mem_append.mpr ⟨wsL_in_r18_0, List.forall_mem_append.mpr ⟨wsL_in_r18_1, wsL_in_r18_2⟩⟩
set_option maxRecDepth 20000 in
theorem wsL_in_r19_0 : ∀ w ∈ ((wsL_law0_r19.drop 0).take 8), w ∈ lw_tbl := fun w h => (goodIn_p ((wsL_law0_r19.drop 0).take 8) [435, 439] (by decide +kernel) (by decide +kernel) w h).1
set_option maxRecDepth 20000 in
theorem wsL_in_r19_1 : ∀ w ∈ ((wsL_law0_r19.drop 8).take 8), w ∈ lw_tbl := fun w h => (goodIn_p ((wsL_law0_r19.drop 8).take 8) [418, 422] (by decide +kernel) (by decide +kernel) w h).1
set_option maxRecDepth 20000 in
theorem wsL_in_r19_2 : ∀ w ∈ ((wsL_law0_r19.drop 16).take 8), w ∈ lw_tbl := fun w h => (goodIn_p ((wsL_law0_r19.drop 16).take 8) [528] (by decide +kernel) (by decide +kernel) w h).1
theorem wsL_in_r19 : ∀ w ∈ wsL_law0_r19, w ∈ lw_tbl := List.forall_mem_append.mpr ⟨wsL_in_r19_0, List.forall_mem_append.mpr ⟨wsL_in_r19_1, wsL_in_r19_2⟩⟩
set_option maxRecDepth 20000 in
theorem wsL_in_r20_0 : ∀ w ∈ ((wsL_law0_r20.drop 0).take 8), w ∈ lw_tbl := fun w h => (goodIn_p ((wsL_law0_r20.drop 0).take 8) [] (by decide +kernel) (by decide +kernel) w h).1
set_option maxRecDepth 20000 in
theorem wsL_in_r20_1 : ∀ w ∈ ((wsL_law0_r20.drop 8).take 8), w ∈ lw_tbl := fun w h => (goodIn_p ((wsL_law0_r20.drop 8).take 8) [] (by decide +kernel) (by decide +kernel) w h).1
set_option maxRecDepth 20000 in
theorem wsL_in_r20_2 : ∀ w ∈ ((wsL_law0_r20.drop 16).take 1), w ∈ lw_tbl := fun w h => (goodIn_p ((wsL_law0_r20.drop 16).take 1) [554] (by decide +kernel) (by decide +kernel) w h).1
theorem wsL_in_r20 : ∀ w ∈ wsL_law0_r20, w ∈ lw_tbl := List.forall_mem_append.mpr ⟨wsL_in_r20_0, List.forall_mem_append.mpr ⟨wsL_in_r20_1, wsL_in_r20_2⟩⟩
theorem wsL_in_wsX20 : ∀ w ∈ wsX20, w ∈ lw_tbl := by decide +kernel
theorem wsL_in_wsX10 : ∀ w ∈ wsX10, w ∈ lw_tbl := by decide +kernel
theorem wsL_in_wsX00 : ∀ w ∈ wsX00, w ∈ lw_tbl := by decide +kernel
theorem wsL_in_wsX30 : ∀ w ∈ wsX30, w ∈ lw_tbl := by decide +kernel
theorem wsL_law_in0 : ∀ w ∈ wsL_law0, w ∈ lw_tbl := List.forall_mem_append.mpr ⟨List.forall_mem_append.mpr ⟨List.forall_mem_append.mpr ⟨List.forall_mem_append.mpr ⟨List.forall_mem_append.mpr ⟨List.forall_mem_append.mpr ⟨wsL_in_r1, List.forall_mem_append.mpr ⟨wsL_in_r2, List.forall_mem_append.mpr ⟨wsL_in_r3, List.forall_mem_append.mpr ⟨wsL_in_r4, List.forall_mem_append.mpr ⟨wsL_in_r5, List.forall_mem_append.mpr ⟨wsL_in_r6, List.forall_mem_append.mpr ⟨wsL_in_r7, List.forall_mem_append.mpr ⟨wsL_in_r8, List.forall_mem_append.mpr ⟨wsL_in_r9, List.forall_mem_append.mpr ⟨wsL_in_r10, List.forall_mem_append.mpr ⟨wsL_in_r11, List.forall_mem_append.mpr ⟨wsL_in_r12, List.forall_mem_append.mpr ⟨wsL_in_r13, List.forall_mem_append.mpr ⟨wsL_in_r14, List.forall_mem_append.mpr ⟨wsL_in_r15, List.forall_mem_append.mpr ⟨wsL_in_r16, List.forall_mem_append.mpr ⟨wsL_in_r17, List.forall_mem_append.mpr ⟨wsL_in_r18, List.forall_mem_append.mpr ⟨wsL_in_r19, wsL_in_r20⟩⟩⟩⟩⟩⟩⟩⟩⟩⟩⟩⟩⟩⟩⟩⟩⟩⟩⟩, wsL_in_wsX20⟩, wsL_in_wsX10⟩, wsL_in_wsX00⟩, wsL_in_wsX30⟩, fun _ h => nomatch h⟩
