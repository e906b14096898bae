/-! ===== the law's words among the tables' words ===== -/
set_option maxRecDepth 100000 in
theorem lwi_wsL_law0_r1 : ∀ w ∈ wsL_law0_r1, w ∈ lw_tbl := fun w h => (goodIn_p wsL_law0_r1 [153, 56, 59] (by decide +kernel) (by decide +kernel) w h).1
set_option maxRecDepth 100000 in
theorem lwi_wsL_law0_r2 : ∀ w ∈ wsL_law0_r2, w ∈ lw_tbl := fun w h => (goodIn_p wsL_law0_r2 [66, 69, 74] (by decide +kernel) (by decide +kernel) w h).1
set_option maxRecDepth 100000 in
theorem lwi_wsL_law0_r3 : ∀ w ∈ wsL_law0_r3, w ∈ lw_tbl := fun w h => (goodIn_p wsL_law0_r3 [658] (by decide +kernel) (by decide +kernel) w h).1
set_option maxRecDepth 100000 in
theorem lwi_wsL_law0_r4 : ∀ w ∈ wsL_law0_r4, w ∈ lw_tbl := fun w h => (goodIn_p wsL_law0_r4 [662, 162] (by decide +kernel) (by decide +kernel) w h).1
set_option maxRecDepth 100000 in
theorem lwi_wsL_law0_r5 : ∀ w ∈ wsL_law0_r5, w ∈ lw_tbl := fun w h => (goodIn_p wsL_law0_r5 [165, 255] (by decide +kernel) (by decide +kernel) w h).1
set_option maxRecDepth 100000 in
theorem lwi_wsL_law0_r6 : ∀ w ∈ wsL_law0_r6, w ∈ lw_tbl := fun w h => (goodIn_p wsL_law0_r6 [259, 771, 774, 767] (by decide +kernel) (by decide +kernel) w h).1
set_option maxRecDepth 100000 in
theorem lwi_wsL_law0_r7 : ∀ w ∈ wsL_law0_r7, w ∈ lw_tbl := fun w h => (goodIn_p wsL_law0_r7 [315, 319, 340, 344] (by decide +kernel) (by decide +kernel) w h).1
set_option maxRecDepth 100000 in
theorem lwi_wsL_law0_r8 : ∀ w ∈ wsL_law0_r8, w ∈ lw_tbl := fun w h => (goodIn_p wsL_law0_r8 [364, 368, 373, 377, 381] (by decide +kernel) (by decide +kernel) w h).1
set_option maxRecDepth 100000 in
theorem lwi_wsL_law0_r9 : ∀ w ∈ wsL_law0_r9, w ∈ lw_tbl := fun w h => (goodIn_p wsL_law0_r9 [385, 388, 411, 395, 399] (by decide +kernel) (by decide +kernel) w h).1
set_option maxRecDepth 100000 in
theorem lwi_wsL_law0_r10 : ∀ w ∈ wsL_law0_r10, w ∈ lw_tbl := fun w h => (goodIn_p wsL_law0_r10 [403, 407, 778, 782, 786, 790] (by decide +kernel) (by decide +kernel) w h).1
set_option maxRecDepth 100000 in
theorem lwi_wsL_law0_r11 : ∀ w ∈ wsL_law0_r11, w ∈ lw_tbl := fun w h => (goodIn_p wsL_law0_r11 [794, 798, 803, 807, 810] (by decide +kernel) (by decide +kernel) w h).1
set_option maxRecDepth 100000 in
theorem lwi_wsL_law0_r12 : ∀ w ∈ wsL_law0_r12, w ∈ lw_tbl := fun w h => (goodIn_p wsL_law0_r12 [814, 818, 822, 826, 442] (by decide +kernel) (by decide +kernel) w h).1
set_option maxRecDepth 100000 in
theorem lwi_wsL_law0_r13 : ∀ w ∈ wsL_law0_r13, w ∈ lw_tbl := fun w h => (goodIn_p wsL_law0_r13 [830, 453, 834] (by decide +kernel) (by decide +kernel) w h).1
set_option maxRecDepth 100000 in
theorem lwi_wsL_law0_r14 : ∀ w ∈ wsL_law0_r14, w ∈ lw_tbl := fun w h => (goodIn_p wsL_law0_r14 [460, 838, 467, 842] (by decide +kernel) (by decide +kernel) w h).1
set_option maxRecDepth 100000 in
theorem lwi_wsL_law0_r15 : ∀ w ∈ wsL_law0_r15, w ∈ lw_tbl := fun w h => (goodIn_p wsL_law0_r15 [475, 480, 846] (by decide +kernel) (by decide +kernel) w h).1
set_option maxRecDepth 100000 in
theorem lwi_wsL_law0_r16 : ∀ w ∈ wsL_law0_r16, w ∈ lw_tbl := fun w h => (goodIn_p wsL_law0_r16 [528, 532, 537, 543, 547] (by decide +kernel) (by decide +kernel) w h).1
set_option maxRecDepth 100000 in
theorem lwi_wsL_law0_r17 : ∀ w ∈ wsL_law0_r17, w ∈ lw_tbl := fun w h => (goodIn_p wsL_law0_r17 [552, 556, 562, 566, 850] (by decide +kernel) (by decide +kernel) w h).1
set_option maxRecDepth 100000 in
theorem lwi_wsL_law0_r18 : ∀ w ∈ wsL_law0_r18, w ∈ lw_tbl := fun w h => (goodIn_p wsL_law0_r18 [854, 858, 862, 866, 870, 874] (by decide +kernel) (by decide +kernel) w h).1
set_option maxRecDepth 100000 in
theorem lwi_wsL_law0_r19 : ∀ w ∈ wsL_law0_r19, w ∈ lw_tbl := fun w h => (goodIn_p wsL_law0_r19 [574, 878, 581, 584, 589] (by decide +kernel) (by decide +kernel) w h).1
set_option maxRecDepth 100000 in
theorem lwi_wsL_law0_r20 : ∀ w ∈ wsL_law0_r20, w ∈ lw_tbl := fun w h => (goodIn_p wsL_law0_r20 [882, 596, 600, 886, 890] (by decide +kernel) (by decide +kernel) w h).1
set_option maxRecDepth 100000 in
theorem lwi_wsL_law0_r21 : ∀ w ∈ wsL_law0_r21, w ∈ lw_tbl := fun w h => (goodIn_p wsL_law0_r21 [609, 894, 898, 616] (by decide +kernel) (by decide +kernel) w h).1
set_option maxRecDepth 100000 in
theorem lwi_wsL_law0_r22 : ∀ w ∈ wsL_law0_r22, w ∈ lw_tbl := fun w h => (goodIn_p wsL_law0_r22 [902, 623, 628, 906] (by decide +kernel) (by decide +kernel) w h).1
set_option maxRecDepth 100000 in
theorem lwi_wsL_law0_r23 : ∀ w ∈ wsL_law0_r23, w ∈ lw_tbl := fun w h => (goodIn_p wsL_law0_r23 [636, 640, 645, 910, 652] (by decide +kernel) (by decide +kernel) w h).1
set_option maxRecDepth 100000 in
theorem lwi_wsL_law0_r24 : ∀ w ∈ wsL_law0_r24, w ∈ lw_tbl := fun w h => (goodIn_p wsL_law0_r24 [914, 146, 150, 918] (by decide +kernel) (by decide +kernel) w h).1
set_option maxRecDepth 100000 in
theorem lwi_X3 : ∀ w ∈ wsX30, w ∈ lw_tbl := by decide +kernel
set_option maxRecDepth 100000 in
theorem lwi_X4 : ∀ w ∈ wsX40, w ∈ lw_tbl := by decide +kernel
set_option maxRecDepth 100000 in
theorem lwi_X2 : ∀ w ∈ wsX20, w ∈ lw_tbl := by decide +kernel
set_option maxRecDepth 100000 in
theorem lwi_X0 : ∀ w ∈ wsX00, w ∈ lw_tbl := by decide +kernel
set_option maxRecDepth 100000 in
theorem lwi_X1 : ∀ w ∈ wsX10, w ∈ lw_tbl := by decide +kernel
set_option maxRecDepth 100000 in
theorem lwi_Jx00060 : ∀ w ∈ wsJx000600, w ∈ lw_tbl := by decide +kernel
theorem wsL_law_in0 : ∀ w ∈ wsL_law0, w ∈ lw_tbl := fun w h => (List.mem_append.mp h).elim (fun h => (List.mem_append.mp h).elim (fun h => (List.mem_append.mp h).elim (fun h => (List.mem_append.mp h).elim (fun h => (List.mem_append.mp h).elim (fun h => (List.mem_append.mp h).elim (fun h => (List.mem_append.mp h).elim (fun h => (List.mem_append.mp h).elim (fun h => lwi_wsL_law0_r1 w h) (fun h => (List.mem_append.mp h).elim (fun h => lwi_wsL_law0_r2 w h) (fun h => (List.mem_append.mp h).elim (fun h => lwi_wsL_law0_r3 w h) (fun h => (List.mem_append.mp h).elim (fun h => lwi_wsL_law0_r4 w h) (fun h => (List.mem_append.mp h).elim (fun h => lwi_wsL_law0_r5 w h) (fun h => (List.mem_append.mp h).elim (fun h => lwi_wsL_law0_r6 w h) (fun h => (List.mem_append.mp h).elim (fun h => lwi_wsL_law0_r7 w h) (fun h => (List.mem_append.mp h).elim (fun h => lwi_wsL_law0_r8 w h) (fun h => (List.mem_append.mp h).elim (fun h => lwi_wsL_law0_r9 w h) (fun h => (List.mem_append.mp h).elim (fun h => lwi_wsL_law0_r10 w h) (fun h => (List.mem_append.mp h).elim (fun h => lwi_wsL_law0_r11 w h) (fun h => (List.mem_append.mp h).elim (fun h => lwi_wsL_law0_r12 w h) (fun h => (List.mem_append.mp h).elim (fun h => lwi_wsL_law0_r13 w h) (fun h => (List.mem_append.mp h).elim (fun h => lwi_wsL_law0_r14 w h) (fun h => (List.mem_append.mp h).elim (fun h => lwi_wsL_law0_r15 w h) (fun h => (List.mem_append.mp h).elim (fun h => lwi_wsL_law0_r16 w h) (fun h => (List.mem_append.mp h).elim (fun h => lwi_wsL_law0_r17 w h) (fun h => (List.mem_append.mp h).elim (fun h => lwi_wsL_law0_r18 w h) (fun h => (List.mem_append.mp h).elim (fun h => lwi_wsL_law0_r19 w h) (fun h => (List.mem_append.mp h).elim (fun h => lwi_wsL_law0_r20 w h) (fun h => (List.mem_append.mp h).elim (fun h => lwi_wsL_law0_r21 w h) (fun h => (List.mem_append.mp h).elim (fun h => lwi_wsL_law0_r22 w h) (fun h => (List.mem_append.mp h).elim (fun h => lwi_wsL_law0_r23 w h) (fun h => lwi_wsL_law0_r24 w h)))))))))))))))))))))))) (fun h => lwi_X3 w h)) (fun h => lwi_X4 w h)) (fun h => lwi_X2 w h)) (fun h => lwi_X0 w h)) (fun h => lwi_X1 w h)) (fun h => lwi_Jx00060 w h)) (fun h => absurd h List.not_mem_nil)
set_option maxRecDepth 100000 in
theorem wsL_law_x0 : ∀ w ∈ (vx_atM "java/lang/ArrayIndexOutOfBoundsException" ["java/lang/IndexOutOfBoundsException", "java/lang/RuntimeException", "java/lang/Exception"]).filter goodWord, w ∈ lw_tbl := by decide +kernel
set_option maxRecDepth 100000 in
theorem wsL_law_x1 : ∀ w ∈ (vx_atS RX3 76 "java/lang/IllegalArgumentException" ["java/lang/RuntimeException", "java/lang/Exception"]).filter goodWord, w ∈ lw_tbl := by decide +kernel
set_option maxRecDepth 100000 in
theorem wsL_law_x2 : ∀ w ∈ (vx_atS RX3 83 "java/lang/UnsupportedOperationException" ["java/lang/RuntimeException", "java/lang/Exception"]).filter goodWord, w ∈ lw_tbl := by decide +kernel
set_option maxRecDepth 100000 in
theorem wsL_law_x3 : ∀ w ∈ (vx_atS RX3 101 "java/lang/IllegalStateException" ["java/lang/RuntimeException", "java/lang/Exception"]).filter goodWord, w ∈ lw_tbl := by decide +kernel
set_option maxRecDepth 100000 in
theorem wsL_law_x4 : ∀ w ∈ vx_n13.filter goodWord, w ∈ lw_tbl := by decide +kernel
theorem wsL_law_in : ∀ w ∈ wsL_law, w ∈ lw_tbl := fun w h => (List.mem_append.mp h).elim (fun h => (List.mem_append.mp h).elim (fun h => (List.mem_append.mp h).elim (fun h => (List.mem_append.mp h).elim (fun h => (List.mem_append.mp h).elim (fun h => wsL_law_in0 w h) (fun h => wsL_law_x0 w h)) (fun h => wsL_law_x1 w h)) (fun h => wsL_law_x2 w h)) (fun h => wsL_law_x3 w h)) (fun h => wsL_law_x4 w h)
