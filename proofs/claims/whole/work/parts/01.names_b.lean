set_option maxRecDepth 20000 in
theorem wsL_law0_r1_g : GoodIn lw_tbl wsL_law0_r1 := goodIn_p _ [49, 52] (by decide +kernel) (by decide +kernel)
set_option maxRecDepth 20000 in
theorem wsL_law0_r2_g : GoodIn lw_tbl wsL_law0_r2 := goodIn_p _ [57, 60, 63, 84] (by decide +kernel) (by decide +kernel)
set_option maxRecDepth 20000 in
theorem wsL_law0_r3_g : GoodIn lw_tbl wsL_law0_r3 := goodIn_p _ [88, 98, 615] (by decide +kernel) (by decide +kernel)
set_option maxRecDepth 20000 in
theorem wsL_law0_r4_g : GoodIn lw_tbl wsL_law0_r4 := goodIn_p _ [191] (by decide +kernel) (by decide +kernel)
set_option maxRecDepth 20000 in
theorem wsL_law0_r5_g : GoodIn lw_tbl wsL_law0_r5 := goodIn_p _ [663, 666, 670, 659, 282] (by decide +kernel) (by decide +kernel)
set_option maxRecDepth 20000 in
theorem wsL_law0_r6_g : GoodIn lw_tbl wsL_law0_r6 := goodIn_p _ [286, 139, 291, 295, 299] (by decide +kernel) (by decide +kernel)
set_option maxRecDepth 20000 in
theorem wsL_law0_r7_g : GoodIn lw_tbl wsL_law0_r7 := goodIn_p _ [303, 309, 306, 313, 316] (by decide +kernel) (by decide +kernel)
set_option maxRecDepth 20000 in
theorem wsL_law0_r8_g : GoodIn lw_tbl wsL_law0_r8 := goodIn_p _ [331, 675, 680, 135, 684] (by decide +kernel) (by decide +kernel)
set_option maxRecDepth 20000 in
theorem wsL_law0_r9_g : GoodIn lw_tbl wsL_law0_r9 := goodIn_p _ [344, 348, 160, 163] (by decide +kernel) (by decide +kernel)
set_option maxRecDepth 20000 in
theorem wsL_law0_r10_g : GoodIn lw_tbl wsL_law0_r10 := goodIn_p _ [166, 170, 688, 692, 371, 696] (by decide +kernel) (by decide +kernel)
set_option maxRecDepth 20000 in
theorem wsL_law0_r11_g : GoodIn lw_tbl wsL_law0_r11 := goodIn_p _ [379, 383, 387, 700, 703] (by decide +kernel) (by decide +kernel)
set_option maxRecDepth 20000 in
theorem wsL_law0_r12_g : GoodIn lw_tbl wsL_law0_r12 := goodIn_p _ [394, 182, 707, 710, 404] (by decide +kernel) (by decide +kernel)
set_option maxRecDepth 20000 in
theorem wsL_law0_r13_g : GoodIn lw_tbl wsL_law0_r13 := goodIn_p _ [407, 714, 717, 720, 416, 419] (by decide +kernel) (by decide +kernel)
set_option maxRecDepth 20000 in
theorem wsL_law0_r14_g : GoodIn lw_tbl wsL_law0_r14 := goodIn_p _ [724, 727, 426, 430, 434] (by decide +kernel) (by decide +kernel)
set_option maxRecDepth 20000 in
theorem wsL_law0_r15_g : GoodIn lw_tbl wsL_law0_r15 := goodIn_p _ [437, 442, 445, 449, 452] (by decide +kernel) (by decide +kernel)
set_option maxRecDepth 20000 in
theorem wsL_law0_r16_g : GoodIn lw_tbl wsL_law0_r16 := goodIn_p _ [456, 459, 731, 735, 495] (by decide +kernel) (by decide +kernel)
set_option maxRecDepth 20000 in
theorem wsL_law0_r17_g : GoodIn lw_tbl wsL_law0_r17 := goodIn_p _ [499, 504, 739, 743, 143] (by decide +kernel) (by decide +kernel)
set_option maxRecDepth 20000 in
theorem wsL_law0_r18_g : GoodIn lw_tbl wsL_law0_r18 := goodIn_p _ [747, 511, 751, 755, 759] (by decide +kernel) (by decide +kernel)
set_option maxRecDepth 20000 in
theorem wsL_law0_r19_g : GoodIn lw_tbl wsL_law0_r19 := goodIn_p _ [518, 178, 763, 767] (by decide +kernel) (by decide +kernel)
set_option maxRecDepth 20000 in
theorem wsL_law0_r20_g : GoodIn lw_tbl wsL_law0_r20 := goodIn_p _ [527, 771, 775, 779, 534] (by decide +kernel) (by decide +kernel)
set_option maxRecDepth 20000 in
theorem wsL_law0_r21_g : GoodIn lw_tbl wsL_law0_r21 := goodIn_p _ [783, 541, 787, 549, 553] (by decide +kernel) (by decide +kernel)
set_option maxRecDepth 20000 in
theorem wsL_law0_r22_g : GoodIn lw_tbl wsL_law0_r22 := goodIn_p _ [556, 560, 791, 795, 567] (by decide +kernel) (by decide +kernel)
set_option maxRecDepth 20000 in
theorem wsL_law0_r23_g : GoodIn lw_tbl wsL_law0_r23 := goodIn_p _ [799, 574, 578, 582, 586] (by decide +kernel) (by decide +kernel)
set_option maxRecDepth 20000 in
theorem wsL_law0_r24_g : GoodIn lw_tbl wsL_law0_r24 := goodIn_p _ [803, 807, 594, 811] (by decide +kernel) (by decide +kernel)
set_option maxRecDepth 20000 in
theorem wsL_law0_r25_g : GoodIn lw_tbl wsL_law0_r25 := goodIn_p _ [602, 815, 610, 819, 147, 823] (by decide +kernel) (by decide +kernel)
set_option maxRecDepth 20000 in
theorem wsL_law0_r26_g : GoodIn lw_tbl wsL_law0_r26 := goodIn_p _ [151, 155, 174, 827, 831] (by decide +kernel) (by decide +kernel)
theorem wsL_law_in0 : ∀ w ∈ wsL_law0, w ∈ lw_tbl := fun w h => (show GoodIn lw_tbl wsL_law0 from goodIn_app wsL_law0_r1_g (goodIn_app wsL_law0_r2_g (goodIn_app wsL_law0_r3_g (goodIn_app wsL_law0_r4_g (goodIn_app wsL_law0_r5_g (goodIn_app wsL_law0_r6_g (goodIn_app wsL_law0_r7_g (goodIn_app wsL_law0_r8_g (goodIn_app wsL_law0_r9_g (goodIn_app wsL_law0_r10_g (goodIn_app wsL_law0_r11_g (goodIn_app wsL_law0_r12_g (goodIn_app wsL_law0_r13_g (goodIn_app wsL_law0_r14_g (goodIn_app wsL_law0_r15_g (goodIn_app wsL_law0_r16_g (goodIn_app wsL_law0_r17_g (goodIn_app wsL_law0_r18_g (goodIn_app wsL_law0_r19_g (goodIn_app wsL_law0_r20_g (goodIn_app wsL_law0_r21_g (goodIn_app wsL_law0_r22_g (goodIn_app wsL_law0_r23_g (goodIn_app wsL_law0_r24_g (goodIn_app wsL_law0_r25_g (wsL_law0_r26_g)))))))))))))))))))))))))) w h |>.1
theorem wsL_law_x0 : ∀ w ∈ (vx_atS RX2 49 "java/lang/IllegalArgumentException" ["java/lang/RuntimeException", "java/lang/Exception"]).filter goodWord, w ∈ lw_tbl := by decide +kernel
theorem wsL_law_x1 : ∀ w ∈ (vx_atS RX2 56 "java/lang/IllegalStateException" ["java/lang/RuntimeException", "java/lang/Exception"]).filter goodWord, w ∈ lw_tbl := by decide +kernel
theorem wsL_law_x2 : ∀ w ∈ (vx_atS RX2 79 "java/lang/IndexOutOfBoundsException" ["java/lang/RuntimeException", "java/lang/Exception"]).filter goodWord, w ∈ lw_tbl := by decide +kernel
theorem wsL_law_in : ∀ w ∈ wsL_law, w ∈ lw_tbl := fun w h => (List.mem_append.mp h).elim (fun h => (List.mem_append.mp h).elim (fun h => (List.mem_append.mp h).elim (fun h => wsL_law_in0 w h) (fun h => wsL_law_x0 w h)) (fun h => wsL_law_x1 w h)) (fun h => wsL_law_x2 w h)
theorem inlX0 : ∀ w ∈ wsX00, w ∈ wsL_law := fun _ h => List.mem_append_left _ (List.mem_append_left _ (List.mem_append_left _ (List.mem_append_left _ (List.mem_append_right _ h))))
theorem inX0 : ∀ w ∈ wsX00, w ∈ lw_tbl := fun w h => wsL_law_in w (inlX0 w h)
theorem inlX1 : ∀ w ∈ wsX10, w ∈ wsL_law := fun _ h => List.mem_append_left _ (List.mem_append_left _ (List.mem_append_left _ (List.mem_append_left _ (List.mem_append_left _ (List.mem_append_right _ h)))))
theorem inX1 : ∀ w ∈ wsX10, w ∈ lw_tbl := fun w h => wsL_law_in w (inlX1 w h)
theorem inlX2 : ∀ w ∈ wsX20, w ∈ wsL_law := fun _ h => List.mem_append_left _ (List.mem_append_left _ (List.mem_append_left _ (List.mem_append_left _ (List.mem_append_left _ (List.mem_append_left _ (List.mem_append_left _ (List.mem_append_left _ (List.mem_append_right _ h))))))))
theorem inX2 : ∀ w ∈ wsX20, w ∈ lw_tbl := fun w h => wsL_law_in w (inlX2 w h)
theorem inlX3 : ∀ w ∈ wsX30, w ∈ wsL_law := fun _ h => List.mem_append_left _ (List.mem_append_left _ (List.mem_append_left _ (List.mem_append_left _ (List.mem_append_left _ (List.mem_append_left _ (List.mem_append_left _ (List.mem_append_right _ h)))))))
theorem inX3 : ∀ w ∈ wsX30, w ∈ lw_tbl := fun w h => wsL_law_in w (inlX3 w h)
theorem inJx145de : ∀ w ∈ wsJx145de0, w ∈ lw_tbl := by decide +kernel
theorem inJx8e188 : ∀ w ∈ wsJx8e1880, w ∈ lw_tbl := by decide +kernel
theorem inJxab1ab : ∀ w ∈ wsJxab1ab0, w ∈ lw_tbl := by decide +kernel
theorem inJ9 : ∀ w ∈ wsJ90, w ∈ lw_tbl := by decide +kernel
theorem inJ0 : ∀ w ∈ wsJ00, w ∈ lw_tbl := by decide +kernel
theorem inJ10 : ∀ w ∈ wsJ100, w ∈ lw_tbl := by decide +kernel
theorem inJxa1e45 : ∀ w ∈ wsJxa1e450, w ∈ lw_tbl := by decide +kernel
theorem inJxc12de : ∀ w ∈ wsJxc12de0, w ∈ lw_tbl := by decide +kernel
theorem inlJx4a65c : ∀ w ∈ wsJx4a65c0, w ∈ wsL_law := fun _ h => List.mem_append_left _ (List.mem_append_left _ (List.mem_append_left _ (List.mem_append_left _ (List.mem_append_left _ (List.mem_append_left _ (List.mem_append_right _ h))))))
theorem inJx4a65c : ∀ w ∈ wsJx4a65c0, w ∈ lw_tbl := fun w h => wsL_law_in w (inlJx4a65c w h)
theorem inJ7 : ∀ w ∈ wsJ70, w ∈ lw_tbl := by decide +kernel
theorem inJx5ef63 : ∀ w ∈ wsJx5ef630, w ∈ lw_tbl := by decide +kernel
theorem inJxbd725 : ∀ w ∈ wsJxbd7250, w ∈ lw_tbl := by decide +kernel
theorem inJ15 : ∀ w ∈ wsJ150, w ∈ lw_tbl := by decide +kernel
theorem inJxf0a74 : ∀ w ∈ wsJxf0a740, w ∈ lw_tbl := by decide +kernel
theorem inJxa66e6 : ∀ w ∈ wsJxa66e60, w ∈ lw_tbl := by decide +kernel
theorem inJ8 : ∀ w ∈ wsJ80, w ∈ lw_tbl := by decide +kernel
theorem inJ3 : ∀ w ∈ wsJ30, w ∈ lw_tbl := by decide +kernel
