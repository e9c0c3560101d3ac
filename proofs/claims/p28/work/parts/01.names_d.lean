theorem dX2_instructions_0 : decode cX2_instructions 0 = .ok (.aload_n 0, 1) := by decide +kernel
theorem dX2_instructions_1 : decode cX2_instructions 1 = .ok (.iload_n 1, 1) := by decide +kernel
theorem dX2_instructions_2 : decode cX2_instructions 2 = .ok (.invokevirtual 120, 3) := by decide +kernel
theorem dX2_instructions_5 : decode cX2_instructions 5 = .ok (.getfield 142, 3) := by decide +kernel
theorem dX2_instructions_8 : decode cX2_instructions 8 = .ok (.arraylength, 1) := by decide +kernel
theorem dX2_instructions_9 : decode cX2_instructions 9 = .ok (.ireturn, 1) := by decide +kernel
set_option maxRecDepth 20000 in
theorem ggX2_instruction_X2_patchOf : GoodIn wsX2_instruction wsX2_patchOf := goodIn_ca (goodIn_r _ [8, 1, 2, 9, 10, 11, 12, 13, 14, 15, 16, 17, 18, 19, 20, 21, 22, 23, 24, 25, 26, 27, 28, 29, 30, 31, 32, 33, 55, 56, 57, 58, 59, 60, 61, 62, 63, 64, 65] (by decide +kernel) (by decide +kernel)) (goodIn_sub (fun _ h => List.mem_cons_of_mem _ (List.mem_append_right _ h)) (by decide +kernel))
set_option maxRecDepth 20000 in
theorem gX2_instruction_X2_patchOf : GoodIn wsX2_instruction (wsV RX2 120 RX2 yX2_patchOf wsX2_patchOf) := goodIn_app (goodIn_of _ (by decide +kernel)) ggX2_instruction_X2_patchOf
set_option maxRecDepth 20000 in
theorem ggX2_instruction_X0_tell : GoodIn wsX2_instruction wsX0_tell := goodIn_r _ [38, 39, 40, 41, 42, 43, 44, 45, 46, 47, 48, 49, 50, 51, 52, 53, 54, 66] (by decide +kernel) (by decide +kernel)
set_option maxRecDepth 20000 in
theorem gX2_instruction_X0_tell : GoodIn wsX2_instruction (wsV RX2 149 RX0 yX0_tell wsX0_tell) := goodIn_app (goodIn_of _ (by decide +kernel)) ggX2_instruction_X0_tell
theorem dX2_instruction_0 : decode cX2_instruction 0 = .ok (.aload_n 0, 1) := by decide +kernel
theorem dX2_instruction_1 : decode cX2_instruction 1 = .ok (.iload_n 1, 1) := by decide +kernel
theorem dX2_instruction_2 : decode cX2_instruction 2 = .ok (.invokevirtual 120, 3) := by decide +kernel
theorem dX2_instruction_5 : decode cX2_instruction 5 = .ok (.astore 4, 2) := by decide +kernel
theorem dX2_instruction_7 : decode cX2_instruction 7 = .ok (.iload_n 2, 1) := by decide +kernel
theorem dX2_instruction_8 : decode cX2_instruction 8 = .ok (.ifCond .lt 13, 3) := by decide +kernel
theorem dX2_instruction_11 : decode cX2_instruction 11 = .ok (.iload_n 2, 1) := by decide +kernel
theorem dX2_instruction_12 : decode cX2_instruction 12 = .ok (.aload 4, 2) := by decide +kernel
theorem dX2_instruction_14 : decode cX2_instruction 14 = .ok (.getfield 142, 3) := by decide +kernel
theorem dX2_instruction_17 : decode cX2_instruction 17 = .ok (.arraylength, 1) := by decide +kernel
theorem dX2_instruction_18 : decode cX2_instruction 18 = .ok (.if_icmp .lt 13, 3) := by decide +kernel
theorem dX2_instruction_21 : decode cX2_instruction 21 = .ok (.new 75, 3) := by decide +kernel
theorem dX2_instruction_24 : decode cX2_instruction 24 = .ok (.dup, 1) := by decide +kernel
theorem dX2_instruction_25 : decode cX2_instruction 25 = .ok (.ldc 145, 2) := by decide +kernel
theorem dX2_instruction_27 : decode cX2_instruction 27 = .ok (.invokespecial 79, 3) := by decide +kernel
theorem dX2_instruction_30 : decode cX2_instruction 30 = .ok (.athrow, 1) := by decide +kernel
theorem dX2_instruction_31 : decode cX2_instruction 31 = .ok (.iload_n 3, 1) := by decide +kernel
theorem dX2_instruction_32 : decode cX2_instruction 32 = .ok (.ifCond .lt 8, 3) := by decide +kernel
theorem dX2_instruction_35 : decode cX2_instruction 35 = .ok (.iload_n 3, 1) := by decide +kernel
theorem dX2_instruction_36 : decode cX2_instruction 36 = .ok (.iconst 3, 1) := by decide +kernel
theorem dX2_instruction_37 : decode cX2_instruction 37 = .ok (.if_icmp .le 13, 3) := by decide +kernel
theorem dX2_instruction_40 : decode cX2_instruction 40 = .ok (.new 75, 3) := by decide +kernel
theorem dX2_instruction_43 : decode cX2_instruction 43 = .ok (.dup, 1) := by decide +kernel
theorem dX2_instruction_44 : decode cX2_instruction 44 = .ok (.ldc 147, 2) := by decide +kernel
theorem dX2_instruction_46 : decode cX2_instruction 46 = .ok (.invokespecial 79, 3) := by decide +kernel
theorem dX2_instruction_49 : decode cX2_instruction 49 = .ok (.athrow, 1) := by decide +kernel
theorem dX2_instruction_50 : decode cX2_instruction 50 = .ok (.aload 4, 2) := by decide +kernel
theorem dX2_instruction_52 : decode cX2_instruction 52 = .ok (.iload_n 2, 1) := by decide +kernel
theorem dX2_instruction_53 : decode cX2_instruction 53 = .ok (.iload_n 3, 1) := by decide +kernel
theorem dX2_instruction_54 : decode cX2_instruction 54 = .ok (.invokevirtual 149, 3) := by decide +kernel
theorem dX2_instruction_57 : decode cX2_instruction 57 = .ok (.ireturn, 1) := by decide +kernel
set_option maxRecDepth 20000 in
theorem ggX2_cost_X2_patchOf : GoodIn wsX2_cost wsX2_patchOf := goodIn_ca (goodIn_r _ [6, 7, 8, 9, 10, 11, 12, 13, 14, 15, 16, 17, 18, 19, 20, 21, 22, 23, 24, 25, 26, 27, 28, 29, 30, 31, 32, 33, 41, 42, 43, 44, 45, 46, 47, 48, 49, 50, 51] (by decide +kernel) (by decide +kernel)) (goodIn_sub (fun _ h => List.mem_cons_of_mem _ (List.mem_append_right _ h)) (by decide +kernel))
set_option maxRecDepth 20000 in
theorem gX2_cost_X2_patchOf : GoodIn wsX2_cost (wsV RX2 120 RX2 yX2_patchOf wsX2_patchOf) := goodIn_app (goodIn_of _ (by decide +kernel)) ggX2_cost_X2_patchOf
theorem dX2_cost_0 : decode cX2_cost 0 = .ok (.aload_n 0, 1) := by decide +kernel
theorem dX2_cost_1 : decode cX2_cost 1 = .ok (.iload_n 1, 1) := by decide +kernel
theorem dX2_cost_2 : decode cX2_cost 2 = .ok (.invokevirtual 120, 3) := by decide +kernel
theorem dX2_cost_5 : decode cX2_cost 5 = .ok (.getfield 152, 3) := by decide +kernel
theorem dX2_cost_8 : decode cX2_cost 8 = .ok (.ireturn, 1) := by decide +kernel
set_option maxRecDepth 20000 in
theorem ggX2_newness_X2_patchOf : GoodIn wsX2_newness wsX2_patchOf := goodIn_ca (goodIn_r _ [7, 8, 9, 10, 11, 12, 13, 14, 15, 16, 17, 18, 19, 20, 21, 22, 23, 24, 25, 26, 27, 28, 29, 30, 31, 32, 33, 34, 42, 43, 44, 45, 46, 47, 48, 49, 50, 51, 52] (by decide +kernel) (by decide +kernel)) (goodIn_sub (fun _ h => List.mem_cons_of_mem _ (List.mem_append_right _ h)) (by decide +kernel))
set_option maxRecDepth 20000 in
theorem gX2_newness_X2_patchOf : GoodIn wsX2_newness (wsV RX2 120 RX2 yX2_patchOf wsX2_patchOf) := goodIn_app (goodIn_of _ (by decide +kernel)) ggX2_newness_X2_patchOf
theorem dX2_newness_0 : decode cX2_newness 0 = .ok (.aload_n 0, 1) := by decide +kernel
theorem dX2_newness_1 : decode cX2_newness 1 = .ok (.iload_n 1, 1) := by decide +kernel
theorem dX2_newness_2 : decode cX2_newness 2 = .ok (.invokevirtual 120, 3) := by decide +kernel
theorem dX2_newness_5 : decode cX2_newness 5 = .ok (.astore_n 2, 1) := by decide +kernel
theorem dX2_newness_6 : decode cX2_newness 6 = .ok (.aload_n 2, 1) := by decide +kernel
theorem dX2_newness_7 : decode cX2_newness 7 = .ok (.getfield 132, 3) := by decide +kernel
theorem dX2_newness_10 : decode cX2_newness 10 = .ok (.arraylength, 1) := by decide +kernel
theorem dX2_newness_11 : decode cX2_newness 11 = .ok (.istore_n 3, 1) := by decide +kernel
theorem dX2_newness_12 : decode cX2_newness 12 = .ok (.iload_n 3, 1) := by decide +kernel
theorem dX2_newness_13 : decode cX2_newness 13 = .ok (.ifCond .ne 7, 3) := by decide +kernel
theorem dX2_newness_16 : decode cX2_newness 16 = .ok (.dconst 0, 1) := by decide +kernel
theorem dX2_newness_17 : decode cX2_newness 17 = .ok (.goto 11, 3) := by decide +kernel
theorem dX2_newness_20 : decode cX2_newness 20 = .ok (.aload_n 2, 1) := by decide +kernel
theorem dX2_newness_21 : decode cX2_newness 21 = .ok (.getfield 155, 3) := by decide +kernel
theorem dX2_newness_24 : decode cX2_newness 24 = .ok (.i2d, 1) := by decide +kernel
theorem dX2_newness_25 : decode cX2_newness 25 = .ok (.iload_n 3, 1) := by decide +kernel
theorem dX2_newness_26 : decode cX2_newness 26 = .ok (.i2d, 1) := by decide +kernel
theorem dX2_newness_27 : decode cX2_newness 27 = .ok (.ddiv, 1) := by decide +kernel
theorem dX2_newness_28 : decode cX2_newness 28 = .ok (.dreturn, 1) := by decide +kernel
set_option maxRecDepth 20000 in
theorem ggX2_steps_X2_leastWay : GoodIn wsX2_steps wsX2_leastWay := goodIn_ca (goodIn_r _ [5, 6, 7, 8, 9, 10, 11, 12, 4, 13, 14, 15, 16, 17, 18, 19, 20, 21, 22, 23, 24, 25, 26, 27, 28, 29, 30, 31, 32, 33, 34, 35, 36, 37, 38, 39, 40, 41, 42, 43, 44, 45, 46, 47, 48, 49, 50, 51, 52, 53, 54, 55, 56, 57, 58, 59, 60, 61, 62, 63, 64, 65, 66, 67, 68, 69, 70, 71, 72, 73, 74, 75, 76, 77, 78, 79, 80, 81, 82, 83] (by decide +kernel) (by decide +kernel)) (goodIn_sub (fun _ h => List.mem_cons_of_mem _ (List.mem_append_right _ h)) (by decide +kernel))
set_option maxRecDepth 20000 in
theorem gX2_steps_X2_leastWay : GoodIn wsX2_steps (wsV RX2 160 RX2 yX2_leastWay wsX2_leastWay) := goodIn_app (goodIn_of _ (by decide +kernel)) ggX2_steps_X2_leastWay
theorem dX2_steps_0 : decode cX2_steps 0 = .ok (.aload_n 0, 1) := by decide +kernel
theorem dX2_steps_1 : decode cX2_steps 1 = .ok (.iload_n 1, 1) := by decide +kernel
theorem dX2_steps_2 : decode cX2_steps 2 = .ok (.iload_n 2, 1) := by decide +kernel
theorem dX2_steps_3 : decode cX2_steps 3 = .ok (.iconst 0, 1) := by decide +kernel
theorem dX2_steps_4 : decode cX2_steps 4 = .ok (.invokevirtual 160, 3) := by decide +kernel
theorem dX2_steps_7 : decode cX2_steps 7 = .ok (.ireturn, 1) := by decide +kernel
set_option maxRecDepth 20000 in
theorem ggX2_leastCost_X2_leastWay : GoodIn wsX2_leastCost wsX2_leastWay := goodIn_ca (goodIn_r _ [5, 6, 7, 8, 9, 10, 11, 12, 4, 13, 14, 15, 16, 17, 18, 19, 20, 21, 22, 23, 24, 25, 26, 27, 28, 29, 30, 31, 32, 33, 34, 35, 36, 37, 38, 39, 40, 41, 42, 43, 44, 45, 46, 47, 48, 49, 50, 51, 52, 53, 54, 55, 56, 57, 58, 59, 60, 61, 62, 63, 64, 65, 66, 67, 68, 69, 70, 71, 72, 73, 74, 75, 76, 77, 78, 79, 80, 81, 82, 83] (by decide +kernel) (by decide +kernel)) (goodIn_sub (fun _ h => List.mem_cons_of_mem _ (List.mem_append_right _ h)) (by decide +kernel))
set_option maxRecDepth 20000 in
theorem gX2_leastCost_X2_leastWay : GoodIn wsX2_leastCost (wsV RX2 160 RX2 yX2_leastWay wsX2_leastWay) := goodIn_app (goodIn_of _ (by decide +kernel)) ggX2_leastCost_X2_leastWay
theorem dX2_leastCost_0 : decode cX2_leastCost 0 = .ok (.aload_n 0, 1) := by decide +kernel
theorem dX2_leastCost_1 : decode cX2_leastCost 1 = .ok (.iload_n 1, 1) := by decide +kernel
theorem dX2_leastCost_2 : decode cX2_leastCost 2 = .ok (.iload_n 2, 1) := by decide +kernel
theorem dX2_leastCost_3 : decode cX2_leastCost 3 = .ok (.iconst 1, 1) := by decide +kernel
theorem dX2_leastCost_4 : decode cX2_leastCost 4 = .ok (.invokevirtual 160, 3) := by decide +kernel
theorem dX2_leastCost_7 : decode cX2_leastCost 7 = .ok (.ireturn, 1) := by decide +kernel
set_option maxRecDepth 20000 in
theorem ggX2_installVersion_X2_rowOf : GoodIn wsX2_installVersion wsX2_rowOf := goodIn_ca (goodIn_r _ [5, 6, 7, 8, 9, 10, 11, 12, 13, 14, 15, 16, 17, 18, 19, 20, 21, 22, 23, 24, 25, 26, 27, 28, 29, 30, 31, 32, 101, 102, 103, 104, 105, 106, 107, 108, 109, 110, 111] (by decide +kernel) (by decide +kernel)) (goodIn_sub (fun _ h => List.mem_cons_of_mem _ (List.mem_append_right _ h)) (by decide +kernel))
set_option maxRecDepth 20000 in
theorem gX2_installVersion_X2_rowOf : GoodIn wsX2_installVersion (wsV RX2 68 RX2 yX2_rowOf wsX2_rowOf) := goodIn_app (goodIn_of _ (by decide +kernel)) ggX2_installVersion_X2_rowOf
set_option maxRecDepth 20000 in
theorem ggX2_installVersion_X2_install : GoodIn wsX2_installVersion wsX2_install := goodIn_r _ [36, 37, 38, 10, 11, 12, 13, 14, 15, 39, 40, 41, 42, 32, 20, 21, 22, 23, 24, 25, 26, 27, 43, 44, 45, 46, 47, 48, 49, 50, 51, 52, 53, 54, 55, 56, 57, 58, 59, 60, 61, 62, 63, 64, 65, 66, 67, 68, 69, 70, 71, 72, 73, 74, 75, 76, 77, 78, 79, 80, 81, 82, 83, 84, 85, 86, 87, 88, 89, 90, 91, 92, 93, 94, 95, 96, 97, 98, 99, 100, 101, 102, 103, 104, 105, 106, 107, 108, 109, 110, 111] (by decide +kernel) (by decide +kernel)
set_option maxRecDepth 20000 in
theorem gX2_installVersion_X2_install : GoodIn wsX2_installVersion (wsV RX2 164 RX2 yX2_install wsX2_install) := goodIn_app (goodIn_of _ (by decide +kernel)) ggX2_installVersion_X2_install
theorem dX2_installVersion_0 : decode cX2_installVersion 0 = .ok (.aload_n 0, 1) := by decide +kernel
theorem dX2_installVersion_1 : decode cX2_installVersion 1 = .ok (.aload_n 0, 1) := by decide +kernel
theorem dX2_installVersion_2 : decode cX2_installVersion 2 = .ok (.iload_n 1, 1) := by decide +kernel
theorem dX2_installVersion_3 : decode cX2_installVersion 3 = .ok (.invokevirtual 68, 3) := by decide +kernel
theorem dX2_installVersion_6 : decode cX2_installVersion 6 = .ok (.invokevirtual 164, 3) := by decide +kernel
theorem dX2_installVersion_9 : decode cX2_installVersion 9 = .ok (.ireturn, 1) := by decide +kernel
set_option maxRecDepth 20000 in
theorem ggX2_installPatch_X2_patchOf : GoodIn wsX2_installPatch wsX2_patchOf := goodIn_ca (goodIn_r _ [10, 11, 12, 13, 14, 15, 16, 17, 18, 19, 20, 21, 22, 23, 24, 25, 26, 27, 28, 29, 30, 31, 32, 33, 34, 35, 36, 37, 121, 122, 123, 124, 125, 126, 127, 128, 136, 137, 138] (by decide +kernel) (by decide +kernel)) (goodIn_sub (fun _ h => List.mem_cons_of_mem _ (List.mem_append_right _ h)) (by decide +kernel))
set_option maxRecDepth 20000 in
theorem gX2_installPatch_X2_patchOf : GoodIn wsX2_installPatch (wsV RX2 120 RX2 yX2_patchOf wsX2_patchOf) := goodIn_app (goodIn_of _ (by decide +kernel)) ggX2_installPatch_X2_patchOf
set_option maxRecDepth 20000 in
theorem ggX2_installPatch_X2_rowOf : GoodIn wsX2_installPatch wsX2_rowOf := goodIn_ca (goodIn_r _ [41, 11, 12, 42, 43, 15, 16, 17, 18, 19, 20, 21, 22, 23, 24, 25, 26, 27, 28, 29, 30, 31, 32, 33, 34, 35, 36, 37, 121, 122, 123, 124, 125, 126, 127, 128, 136, 137, 138] (by decide +kernel) (by decide +kernel)) (goodIn_sub (fun _ h => List.mem_cons_of_mem _ (List.mem_append_right _ h)) (by decide +kernel))
set_option maxRecDepth 20000 in
theorem gX2_installPatch_X2_rowOf : GoodIn wsX2_installPatch (wsV RX2 68 RX2 yX2_rowOf wsX2_rowOf) := goodIn_app (goodIn_of _ (by decide +kernel)) ggX2_installPatch_X2_rowOf
set_option maxRecDepth 20000 in
theorem ggX2_installPatch_X1_hasBytesOf : GoodIn wsX2_installPatch wsX1_hasBytesOf := goodIn_r _ [48, 49, 50, 51, 52, 47, 53, 139] (by decide +kernel) (by decide +kernel)
set_option maxRecDepth 20000 in
theorem gX2_installPatch_X1_hasBytesOf : GoodIn wsX2_installPatch (wsV RX2 80 RX1 yX1_hasBytesOf wsX1_hasBytesOf) := goodIn_app (goodIn_of _ (by decide +kernel)) ggX2_installPatch_X1_hasBytesOf
set_option maxRecDepth 20000 in
theorem ggX2_installPatch_X2_install : GoodIn wsX2_installPatch wsX2_install := goodIn_r _ [57, 58, 3, 15, 16, 17, 18, 19, 20, 59, 60, 61, 62, 37, 25, 26, 27, 28, 29, 30, 31, 32, 63, 64, 65, 66, 67, 68, 69, 70, 71, 72, 73, 74, 75, 76, 77, 78, 79, 80, 81, 82, 83, 84, 85, 86, 87, 88, 89, 90, 91, 92, 93, 94, 95, 96, 97, 98, 99, 100, 101, 102, 103, 104, 105, 106, 107, 108, 109, 110, 111, 112, 113, 114, 115, 116, 117, 118, 119, 120, 121, 122, 123, 124, 125, 126, 127, 128, 136, 137, 138] (by decide +kernel) (by decide +kernel)
set_option maxRecDepth 20000 in
theorem gX2_installPatch_X2_install : GoodIn wsX2_installPatch (wsV RX2 164 RX2 yX2_install wsX2_install) := goodIn_app (goodIn_of _ (by decide +kernel)) ggX2_installPatch_X2_install
theorem dX2_installPatch_0 : decode cX2_installPatch 0 = .ok (.aload_n 0, 1) := by decide +kernel
theorem dX2_installPatch_1 : decode cX2_installPatch 1 = .ok (.iload_n 1, 1) := by decide +kernel
theorem dX2_installPatch_2 : decode cX2_installPatch 2 = .ok (.invokevirtual 120, 3) := by decide +kernel
theorem dX2_installPatch_5 : decode cX2_installPatch 5 = .ok (.astore_n 2, 1) := by decide +kernel
theorem dX2_installPatch_6 : decode cX2_installPatch 6 = .ok (.aload_n 0, 1) := by decide +kernel
theorem dX2_installPatch_7 : decode cX2_installPatch 7 = .ok (.getfield 32, 3) := by decide +kernel
theorem dX2_installPatch_10 : decode cX2_installPatch 10 = .ok (.aload_n 0, 1) := by decide +kernel
theorem dX2_installPatch_11 : decode cX2_installPatch 11 = .ok (.aload_n 2, 1) := by decide +kernel
theorem dX2_installPatch_12 : decode cX2_installPatch 12 = .ok (.getfield 127, 3) := by decide +kernel
theorem dX2_installPatch_15 : decode cX2_installPatch 15 = .ok (.invokevirtual 68, 3) := by decide +kernel
theorem dX2_installPatch_18 : decode cX2_installPatch 18 = .ok (.invokevirtual 80, 3) := by decide +kernel
theorem dX2_installPatch_21 : decode cX2_installPatch 21 = .ok (.ifCond .ne 13, 3) := by decide +kernel
theorem dX2_installPatch_24 : decode cX2_installPatch 24 = .ok (.new 45, 3) := by decide +kernel
theorem dX2_installPatch_27 : decode cX2_installPatch 27 = .ok (.dup, 1) := by decide +kernel
theorem dX2_installPatch_28 : decode cX2_installPatch 28 = .ok (.ldc 168, 2) := by decide +kernel
theorem dX2_installPatch_30 : decode cX2_installPatch 30 = .ok (.invokespecial 49, 3) := by decide +kernel
theorem dX2_installPatch_33 : decode cX2_installPatch 33 = .ok (.athrow, 1) := by decide +kernel
theorem dX2_installPatch_34 : decode cX2_installPatch 34 = .ok (.aload_n 0, 1) := by decide +kernel
theorem dX2_installPatch_35 : decode cX2_installPatch 35 = .ok (.aload_n 2, 1) := by decide +kernel
theorem dX2_installPatch_36 : decode cX2_installPatch 36 = .ok (.getfield 139, 3) := by decide +kernel
theorem dX2_installPatch_39 : decode cX2_installPatch 39 = .ok (.invokevirtual 164, 3) := by decide +kernel
theorem dX2_installPatch_42 : decode cX2_installPatch 42 = .ok (.ireturn, 1) := by decide +kernel
set_option maxRecDepth 20000 in
theorem ggX2_rollBack_Jx4a65c_size_8abf5 : GoodIn wsX2_rollBack wsJx4a65c_size_8abf5 := goodIn_r _ [10, 11, 51, 52, 53] (by decide +kernel) (by decide +kernel)
set_option maxRecDepth 20000 in
theorem gX2_rollBack_Jx4a65c_size_8abf5 : GoodIn wsX2_rollBack (wsV RX2 64 RJx4a65c yJx4a65c_size_8abf5 wsJx4a65c_size_8abf5) := goodIn_app (goodIn_of _ (by decide +kernel)) ggX2_rollBack_Jx4a65c_size_8abf5
set_option maxRecDepth 20000 in
theorem ggX2_rollBack_Jx4a65c_get_915e3 : GoodIn wsX2_rollBack wsJx4a65c_get_915e3 := goodIn_r _ [15, 11, 16, 17, 18, 19, 20, 21, 22, 23, 24, 25, 26, 9, 27, 28, 51, 52, 53] (by decide +kernel) (by decide +kernel)
set_option maxRecDepth 20000 in
theorem gX2_rollBack_Jx4a65c_get_915e3 : GoodIn wsX2_rollBack (wsV RX2 172 RJx4a65c yJx4a65c_get_915e3 wsJx4a65c_get_915e3) := goodIn_app (goodIn_of _ (by decide +kernel)) ggX2_rollBack_Jx4a65c_get_915e3
set_option maxRecDepth 20000 in
theorem ggX2_rollBack_Jx4a65c_remove_915e3 : GoodIn wsX2_rollBack wsJx4a65c_remove_915e3 := goodIn_r _ [32, 11, 28, 16, 17, 18, 19, 20, 21, 22, 23, 33, 34, 35, 9, 36, 37, 38, 39, 40, 41, 42, 51, 52, 53] (by decide +kernel) (by decide +kernel)
set_option maxRecDepth 20000 in
theorem gX2_rollBack_Jx4a65c_remove_915e3 : GoodIn wsX2_rollBack (wsV RX2 176 RJx4a65c yJx4a65c_remove_915e3 wsJx4a65c_remove_915e3) := goodIn_app (goodIn_of _ (by decide +kernel)) ggX2_rollBack_Jx4a65c_remove_915e3
theorem dX2_rollBack_0 : decode cX2_rollBack 0 = .ok (.aload_n 0, 1) := by decide +kernel
theorem dX2_rollBack_1 : decode cX2_rollBack 1 = .ok (.getfield 36, 3) := by decide +kernel
theorem dX2_rollBack_4 : decode cX2_rollBack 4 = .ok (.invokevirtual 64, 3) := by decide +kernel
theorem dX2_rollBack_7 : decode cX2_rollBack 7 = .ok (.iconst 1, 1) := by decide +kernel
theorem dX2_rollBack_8 : decode cX2_rollBack 8 = .ok (.isub, 1) := by decide +kernel
theorem dX2_rollBack_9 : decode cX2_rollBack 9 = .ok (.istore_n 1, 1) := by decide +kernel
theorem dX2_rollBack_10 : decode cX2_rollBack 10 = .ok (.iload_n 1, 1) := by decide +kernel
theorem dX2_rollBack_11 : decode cX2_rollBack 11 = .ok (.ifCond .ge 13, 3) := by decide +kernel
theorem dX2_rollBack_14 : decode cX2_rollBack 14 = .ok (.new 52, 3) := by decide +kernel
theorem dX2_rollBack_17 : decode cX2_rollBack 17 = .ok (.dup, 1) := by decide +kernel
theorem dX2_rollBack_18 : decode cX2_rollBack 18 = .ok (.ldc 170, 2) := by decide +kernel
theorem dX2_rollBack_20 : decode cX2_rollBack 20 = .ok (.invokespecial 56, 3) := by decide +kernel
theorem dX2_rollBack_23 : decode cX2_rollBack 23 = .ok (.athrow, 1) := by decide +kernel
theorem dX2_rollBack_24 : decode cX2_rollBack 24 = .ok (.aload_n 0, 1) := by decide +kernel
theorem dX2_rollBack_25 : decode cX2_rollBack 25 = .ok (.aload_n 0, 1) := by decide +kernel
theorem dX2_rollBack_26 : decode cX2_rollBack 26 = .ok (.getfield 36, 3) := by decide +kernel
theorem dX2_rollBack_29 : decode cX2_rollBack 29 = .ok (.iload_n 1, 1) := by decide +kernel
theorem dX2_rollBack_30 : decode cX2_rollBack 30 = .ok (.invokevirtual 172, 3) := by decide +kernel
theorem dX2_rollBack_33 : decode cX2_rollBack 33 = .ok (.checkcast 27, 3) := by decide +kernel
theorem dX2_rollBack_36 : decode cX2_rollBack 36 = .ok (.putfield 32, 3) := by decide +kernel
theorem dX2_rollBack_39 : decode cX2_rollBack 39 = .ok (.aload_n 0, 1) := by decide +kernel
theorem dX2_rollBack_40 : decode cX2_rollBack 40 = .ok (.getfield 36, 3) := by decide +kernel
theorem dX2_rollBack_43 : decode cX2_rollBack 43 = .ok (.iload_n 1, 1) := by decide +kernel
theorem dX2_rollBack_44 : decode cX2_rollBack 44 = .ok (.invokevirtual 176, 3) := by decide +kernel
theorem dX2_rollBack_47 : decode cX2_rollBack 47 = .ok (.pop, 1) := by decide +kernel
theorem dX2_rollBack_48 : decode cX2_rollBack 48 = .ok (.iload_n 1, 1) := by decide +kernel
theorem dX2_rollBack_49 : decode cX2_rollBack 49 = .ok (.ireturn, 1) := by decide +kernel
set_option maxRecDepth 20000 in
theorem ggX2_isInstalled_X2_rowOf : GoodIn wsX2_isInstalled wsX2_rowOf := goodIn_ca (goodIn_r _ [6, 7, 8, 9, 10, 11, 12, 13, 14, 15, 16, 17, 18, 19, 20, 21, 22, 23, 24, 25, 26, 27, 28, 29, 30, 31, 32, 33, 44, 45, 46, 47, 48, 49, 50, 51, 52, 53, 54] (by decide +kernel) (by decide +kernel)) (goodIn_sub (fun _ h => List.mem_cons_of_mem _ (List.mem_append_right _ h)) (by decide +kernel))
set_option maxRecDepth 20000 in
theorem gX2_isInstalled_X2_rowOf : GoodIn wsX2_isInstalled (wsV RX2 68 RX2 yX2_rowOf wsX2_rowOf) := goodIn_app (goodIn_of _ (by decide +kernel)) ggX2_isInstalled_X2_rowOf
set_option maxRecDepth 20000 in
theorem ggX2_isInstalled_X1_hasBytesOf : GoodIn wsX2_isInstalled wsX1_hasBytesOf := goodIn_r _ [38, 39, 40, 41, 42, 37, 43, 55] (by decide +kernel) (by decide +kernel)
set_option maxRecDepth 20000 in
theorem gX2_isInstalled_X1_hasBytesOf : GoodIn wsX2_isInstalled (wsV RX2 80 RX1 yX1_hasBytesOf wsX1_hasBytesOf) := goodIn_app (goodIn_of _ (by decide +kernel)) ggX2_isInstalled_X1_hasBytesOf
theorem dX2_isInstalled_0 : decode cX2_isInstalled 0 = .ok (.aload_n 0, 1) := by decide +kernel
theorem dX2_isInstalled_1 : decode cX2_isInstalled 1 = .ok (.iload_n 1, 1) := by decide +kernel
theorem dX2_isInstalled_2 : decode cX2_isInstalled 2 = .ok (.invokevirtual 68, 3) := by decide +kernel
theorem dX2_isInstalled_5 : decode cX2_isInstalled 5 = .ok (.aload_n 0, 1) := by decide +kernel
theorem dX2_isInstalled_6 : decode cX2_isInstalled 6 = .ok (.getfield 32, 3) := by decide +kernel
theorem dX2_isInstalled_9 : decode cX2_isInstalled 9 = .ok (.invokevirtual 80, 3) := by decide +kernel
theorem dX2_isInstalled_12 : decode cX2_isInstalled 12 = .ok (.ireturn, 1) := by decide +kernel
theorem dX2_installedLength_0 : decode cX2_installedLength 0 = .ok (.aload_n 0, 1) := by decide +kernel
theorem dX2_installedLength_1 : decode cX2_installedLength 1 = .ok (.getfield 32, 3) := by decide +kernel
theorem dX2_installedLength_4 : decode cX2_installedLength 4 = .ok (.getfield 72, 3) := by decide +kernel
theorem dX2_installedLength_7 : decode cX2_installedLength 7 = .ok (.arraylength, 1) := by decide +kernel
theorem dX2_installedLength_8 : decode cX2_installedLength 8 = .ok (.ireturn, 1) := by decide +kernel
set_option maxRecDepth 20000 in
theorem ggX2_rowOf_Jx4a65c_size_8abf5 : GoodIn wsX2_rowOf wsJx4a65c_size_8abf5 := goodIn_r _ [9, 10, 36, 37, 38] (by decide +kernel) (by decide +kernel)
set_option maxRecDepth 20000 in
theorem gX2_rowOf_Jx4a65c_size_8abf5 : GoodIn wsX2_rowOf (wsV RX2 64 RJx4a65c yJx4a65c_size_8abf5 wsJx4a65c_size_8abf5) := goodIn_app (goodIn_of _ (by decide +kernel)) ggX2_rowOf_Jx4a65c_size_8abf5
set_option maxRecDepth 20000 in
theorem ggX2_rowOf_Jx4a65c_get_915e3 : GoodIn wsX2_rowOf wsJx4a65c_get_915e3 := goodIn_r _ [14, 10, 15, 16, 17, 18, 19, 20, 21, 22, 23, 24, 25, 8, 26, 27, 36, 37, 38] (by decide +kernel) (by decide +kernel)
set_option maxRecDepth 20000 in
theorem gX2_rowOf_Jx4a65c_get_915e3 : GoodIn wsX2_rowOf (wsV RX2 172 RJx4a65c yJx4a65c_get_915e3 wsJx4a65c_get_915e3) := goodIn_app (goodIn_of _ (by decide +kernel)) ggX2_rowOf_Jx4a65c_get_915e3
theorem dX2_rowOf_0 : decode cX2_rowOf 0 = .ok (.iload_n 1, 1) := by decide +kernel
theorem dX2_rowOf_1 : decode cX2_rowOf 1 = .ok (.ifCond .lt 14, 3) := by decide +kernel
theorem dX2_rowOf_4 : decode cX2_rowOf 4 = .ok (.iload_n 1, 1) := by decide +kernel
theorem dX2_rowOf_5 : decode cX2_rowOf 5 = .ok (.aload_n 0, 1) := by decide +kernel
theorem dX2_rowOf_6 : decode cX2_rowOf 6 = .ok (.getfield 20, 3) := by decide +kernel
theorem dX2_rowOf_9 : decode cX2_rowOf 9 = .ok (.invokevirtual 64, 3) := by decide +kernel
theorem dX2_rowOf_12 : decode cX2_rowOf 12 = .ok (.if_icmp .lt 13, 3) := by decide +kernel
theorem dX2_rowOf_15 : decode cX2_rowOf 15 = .ok (.new 75, 3) := by decide +kernel
theorem dX2_rowOf_18 : decode cX2_rowOf 18 = .ok (.dup, 1) := by decide +kernel
theorem dX2_rowOf_19 : decode cX2_rowOf 19 = .ok (.ldc 191, 2) := by decide +kernel
theorem dX2_rowOf_21 : decode cX2_rowOf 21 = .ok (.invokespecial 79, 3) := by decide +kernel
theorem dX2_rowOf_24 : decode cX2_rowOf 24 = .ok (.athrow, 1) := by decide +kernel
theorem dX2_rowOf_25 : decode cX2_rowOf 25 = .ok (.aload_n 0, 1) := by decide +kernel
theorem dX2_rowOf_26 : decode cX2_rowOf 26 = .ok (.getfield 20, 3) := by decide +kernel
theorem dX2_rowOf_29 : decode cX2_rowOf 29 = .ok (.iload_n 1, 1) := by decide +kernel
theorem dX2_rowOf_30 : decode cX2_rowOf 30 = .ok (.invokevirtual 172, 3) := by decide +kernel
theorem dX2_rowOf_33 : decode cX2_rowOf 33 = .ok (.checkcast 27, 3) := by decide +kernel
theorem dX2_rowOf_36 : decode cX2_rowOf 36 = .ok (.areturn, 1) := by decide +kernel
set_option maxRecDepth 20000 in
theorem ggX2_patchOf_Jx4a65c_size_8abf5 : GoodIn wsX2_patchOf wsJx4a65c_size_8abf5 := goodIn_r _ [9, 10, 36, 37, 38] (by decide +kernel) (by decide +kernel)
set_option maxRecDepth 20000 in
theorem gX2_patchOf_Jx4a65c_size_8abf5 : GoodIn wsX2_patchOf (wsV RX2 64 RJx4a65c yJx4a65c_size_8abf5 wsJx4a65c_size_8abf5) := goodIn_app (goodIn_of _ (by decide +kernel)) ggX2_patchOf_Jx4a65c_size_8abf5
set_option maxRecDepth 20000 in
theorem ggX2_patchOf_Jx4a65c_get_915e3 : GoodIn wsX2_patchOf wsJx4a65c_get_915e3 := goodIn_r _ [14, 10, 15, 16, 17, 18, 19, 20, 21, 22, 23, 24, 25, 8, 26, 27, 36, 37, 38] (by decide +kernel) (by decide +kernel)
set_option maxRecDepth 20000 in
theorem gX2_patchOf_Jx4a65c_get_915e3 : GoodIn wsX2_patchOf (wsV RX2 172 RJx4a65c yJx4a65c_get_915e3 wsJx4a65c_get_915e3) := goodIn_app (goodIn_of _ (by decide +kernel)) ggX2_patchOf_Jx4a65c_get_915e3
theorem dX2_patchOf_0 : decode cX2_patchOf 0 = .ok (.iload_n 1, 1) := by decide +kernel
theorem dX2_patchOf_1 : decode cX2_patchOf 1 = .ok (.ifCond .lt 14, 3) := by decide +kernel
theorem dX2_patchOf_4 : decode cX2_patchOf 4 = .ok (.iload_n 1, 1) := by decide +kernel
theorem dX2_patchOf_5 : decode cX2_patchOf 5 = .ok (.aload_n 0, 1) := by decide +kernel
theorem dX2_patchOf_6 : decode cX2_patchOf 6 = .ok (.getfield 24, 3) := by decide +kernel
theorem dX2_patchOf_9 : decode cX2_patchOf 9 = .ok (.invokevirtual 64, 3) := by decide +kernel
theorem dX2_patchOf_12 : decode cX2_patchOf 12 = .ok (.if_icmp .lt 13, 3) := by decide +kernel
theorem dX2_patchOf_15 : decode cX2_patchOf 15 = .ok (.new 75, 3) := by decide +kernel
theorem dX2_patchOf_18 : decode cX2_patchOf 18 = .ok (.dup, 1) := by decide +kernel
theorem dX2_patchOf_19 : decode cX2_patchOf 19 = .ok (.ldc 193, 2) := by decide +kernel
theorem dX2_patchOf_21 : decode cX2_patchOf 21 = .ok (.invokespecial 79, 3) := by decide +kernel
theorem dX2_patchOf_24 : decode cX2_patchOf 24 = .ok (.athrow, 1) := by decide +kernel
theorem dX2_patchOf_25 : decode cX2_patchOf 25 = .ok (.aload_n 0, 1) := by decide +kernel
theorem dX2_patchOf_26 : decode cX2_patchOf 26 = .ok (.getfield 24, 3) := by decide +kernel
theorem dX2_patchOf_29 : decode cX2_patchOf 29 = .ok (.iload_n 1, 1) := by decide +kernel
theorem dX2_patchOf_30 : decode cX2_patchOf 30 = .ok (.invokevirtual 172, 3) := by decide +kernel
theorem dX2_patchOf_33 : decode cX2_patchOf 33 = .ok (.checkcast 111, 3) := by decide +kernel
theorem dX2_patchOf_36 : decode cX2_patchOf 36 = .ok (.areturn, 1) := by decide +kernel
theorem dX2_checkSize_0 : decode cX2_checkSize 0 = .ok (.iload_n 0, 1) := by decide +kernel
theorem dX2_checkSize_1 : decode cX2_checkSize 1 = .ok (.iconst 2, 1) := by decide +kernel
theorem dX2_checkSize_2 : decode cX2_checkSize 2 = .ok (.if_icmp .lt 9, 3) := by decide +kernel
theorem dX2_checkSize_5 : decode cX2_checkSize 5 = .ok (.iload_n 0, 1) := by decide +kernel
theorem dX2_checkSize_6 : decode cX2_checkSize 6 = .ok (.bipush 32, 2) := by decide +kernel
theorem dX2_checkSize_8 : decode cX2_checkSize 8 = .ok (.if_icmp .le 13, 3) := by decide +kernel
theorem dX2_checkSize_11 : decode cX2_checkSize 11 = .ok (.new 45, 3) := by decide +kernel
theorem dX2_checkSize_14 : decode cX2_checkSize 14 = .ok (.dup, 1) := by decide +kernel
theorem dX2_checkSize_15 : decode cX2_checkSize 15 = .ok (.ldc 195, 2) := by decide +kernel
theorem dX2_checkSize_17 : decode cX2_checkSize 17 = .ok (.invokespecial 49, 3) := by decide +kernel
theorem dX2_checkSize_20 : decode cX2_checkSize 20 = .ok (.athrow, 1) := by decide +kernel
theorem dX2_checkSize_21 : decode cX2_checkSize 21 = .ok (.return_, 1) := by decide +kernel
set_option maxRecDepth 20000 in
theorem ggX2_checkRoomForVersion_Jx4a65c_size_8abf5 : GoodIn wsX2_checkRoomForVersion wsJx4a65c_size_8abf5 := goodIn_r _ [8, 9, 18, 19, 20] (by decide +kernel) (by decide +kernel)
set_option maxRecDepth 20000 in
theorem gX2_checkRoomForVersion_Jx4a65c_size_8abf5 : GoodIn wsX2_checkRoomForVersion (wsV RX2 64 RJx4a65c yJx4a65c_size_8abf5 wsJx4a65c_size_8abf5) := goodIn_app (goodIn_of _ (by decide +kernel)) ggX2_checkRoomForVersion_Jx4a65c_size_8abf5
theorem dX2_checkRoomForVersion_0 : decode cX2_checkRoomForVersion 0 = .ok (.aload_n 0, 1) := by decide +kernel
theorem dX2_checkRoomForVersion_1 : decode cX2_checkRoomForVersion 1 = .ok (.getfield 20, 3) := by decide +kernel
theorem dX2_checkRoomForVersion_4 : decode cX2_checkRoomForVersion 4 = .ok (.invokevirtual 64, 3) := by decide +kernel
theorem dX2_checkRoomForVersion_7 : decode cX2_checkRoomForVersion 7 = .ok (.bipush 12, 2) := by decide +kernel
theorem dX2_checkRoomForVersion_9 : decode cX2_checkRoomForVersion 9 = .ok (.if_icmp .lt 13, 3) := by decide +kernel
theorem dX2_checkRoomForVersion_12 : decode cX2_checkRoomForVersion 12 = .ok (.new 52, 3) := by decide +kernel
theorem dX2_checkRoomForVersion_15 : decode cX2_checkRoomForVersion 15 = .ok (.dup, 1) := by decide +kernel
theorem dX2_checkRoomForVersion_16 : decode cX2_checkRoomForVersion 16 = .ok (.ldc 197, 2) := by decide +kernel
theorem dX2_checkRoomForVersion_18 : decode cX2_checkRoomForVersion 18 = .ok (.invokespecial 56, 3) := by decide +kernel
theorem dX2_checkRoomForVersion_21 : decode cX2_checkRoomForVersion 21 = .ok (.athrow, 1) := by decide +kernel
theorem dX2_checkRoomForVersion_22 : decode cX2_checkRoomForVersion 22 = .ok (.return_, 1) := by decide +kernel
set_option maxRecDepth 20000 in
theorem ggX2_checkRoomForPatch_Jx4a65c_size_8abf5 : GoodIn wsX2_checkRoomForPatch wsJx4a65c_size_8abf5 := goodIn_r _ [8, 9, 18, 19, 20] (by decide +kernel) (by decide +kernel)
set_option maxRecDepth 20000 in
theorem gX2_checkRoomForPatch_Jx4a65c_size_8abf5 : GoodIn wsX2_checkRoomForPatch (wsV RX2 64 RJx4a65c yJx4a65c_size_8abf5 wsJx4a65c_size_8abf5) := goodIn_app (goodIn_of _ (by decide +kernel)) ggX2_checkRoomForPatch_Jx4a65c_size_8abf5
theorem dX2_checkRoomForPatch_0 : decode cX2_checkRoomForPatch 0 = .ok (.aload_n 0, 1) := by decide +kernel
theorem dX2_checkRoomForPatch_1 : decode cX2_checkRoomForPatch 1 = .ok (.getfield 24, 3) := by decide +kernel
theorem dX2_checkRoomForPatch_4 : decode cX2_checkRoomForPatch 4 = .ok (.invokevirtual 64, 3) := by decide +kernel
theorem dX2_checkRoomForPatch_7 : decode cX2_checkRoomForPatch 7 = .ok (.bipush 12, 2) := by decide +kernel
theorem dX2_checkRoomForPatch_9 : decode cX2_checkRoomForPatch 9 = .ok (.if_icmp .lt 13, 3) := by decide +kernel
theorem dX2_checkRoomForPatch_12 : decode cX2_checkRoomForPatch 12 = .ok (.new 52, 3) := by decide +kernel
theorem dX2_checkRoomForPatch_15 : decode cX2_checkRoomForPatch 15 = .ok (.dup, 1) := by decide +kernel
theorem dX2_checkRoomForPatch_16 : decode cX2_checkRoomForPatch 16 = .ok (.ldc 199, 2) := by decide +kernel
theorem dX2_checkRoomForPatch_18 : decode cX2_checkRoomForPatch 18 = .ok (.invokespecial 56, 3) := by decide +kernel
theorem dX2_checkRoomForPatch_21 : decode cX2_checkRoomForPatch 21 = .ok (.athrow, 1) := by decide +kernel
theorem dX2_checkRoomForPatch_22 : decode cX2_checkRoomForPatch 22 = .ok (.return_, 1) := by decide +kernel
set_option maxRecDepth 20000 in
theorem ggX2_firstLike_X2_rowOf : GoodIn wsX2_firstLike wsX2_rowOf := goodIn_ca (goodIn_r _ [5, 6, 7, 8, 9, 10, 11, 12, 13, 14, 15, 16, 17, 18, 19, 20, 21, 22, 23, 24, 25, 26, 27, 28, 29, 30, 31, 32, 43, 44, 45, 46, 47, 48, 49, 50, 51, 52, 53] (by decide +kernel) (by decide +kernel)) (goodIn_sub (fun _ h => List.mem_cons_of_mem _ (List.mem_append_right _ h)) (by decide +kernel))
set_option maxRecDepth 20000 in
theorem gX2_firstLike_X2_rowOf : GoodIn wsX2_firstLike (wsV RX2 68 RX2 yX2_rowOf wsX2_rowOf) := goodIn_app (goodIn_of _ (by decide +kernel)) ggX2_firstLike_X2_rowOf
set_option maxRecDepth 20000 in
theorem ggX2_firstLike_X1_hasBytesOf : GoodIn wsX2_firstLike wsX1_hasBytesOf := goodIn_r _ [37, 38, 39, 40, 41, 36, 42, 54] (by decide +kernel) (by decide +kernel)
set_option maxRecDepth 20000 in
theorem gX2_firstLike_X1_hasBytesOf : GoodIn wsX2_firstLike (wsV RX2 80 RX1 yX1_hasBytesOf wsX1_hasBytesOf) := goodIn_app (goodIn_of _ (by decide +kernel)) ggX2_firstLike_X1_hasBytesOf
theorem dX2_firstLike_0 : decode cX2_firstLike 0 = .ok (.aload_n 0, 1) := by decide +kernel
theorem dX2_firstLike_1 : decode cX2_firstLike 1 = .ok (.iload_n 1, 1) := by decide +kernel
theorem dX2_firstLike_2 : decode cX2_firstLike 2 = .ok (.invokevirtual 68, 3) := by decide +kernel
theorem dX2_firstLike_5 : decode cX2_firstLike 5 = .ok (.astore_n 2, 1) := by decide +kernel
theorem dX2_firstLike_6 : decode cX2_firstLike 6 = .ok (.iconst 0, 1) := by decide +kernel
theorem dX2_firstLike_7 : decode cX2_firstLike 7 = .ok (.istore_n 3, 1) := by decide +kernel
theorem dX2_firstLike_8 : decode cX2_firstLike 8 = .ok (.iload_n 3, 1) := by decide +kernel
theorem dX2_firstLike_9 : decode cX2_firstLike 9 = .ok (.iload_n 1, 1) := by decide +kernel
theorem dX2_firstLike_10 : decode cX2_firstLike 10 = .ok (.if_icmp .ge 23, 3) := by decide +kernel
theorem dX2_firstLike_13 : decode cX2_firstLike 13 = .ok (.aload_n 0, 1) := by decide +kernel
theorem dX2_firstLike_14 : decode cX2_firstLike 14 = .ok (.iload_n 3, 1) := by decide +kernel
theorem dX2_firstLike_15 : decode cX2_firstLike 15 = .ok (.invokevirtual 68, 3) := by decide +kernel
theorem dX2_firstLike_18 : decode cX2_firstLike 18 = .ok (.aload_n 2, 1) := by decide +kernel
theorem dX2_firstLike_19 : decode cX2_firstLike 19 = .ok (.invokevirtual 80, 3) := by decide +kernel
theorem dX2_firstLike_22 : decode cX2_firstLike 22 = .ok (.ifCond .eq 5, 3) := by decide +kernel
theorem dX2_firstLike_25 : decode cX2_firstLike 25 = .ok (.iload_n 3, 1) := by decide +kernel
theorem dX2_firstLike_26 : decode cX2_firstLike 26 = .ok (.ireturn, 1) := by decide +kernel
theorem dX2_firstLike_27 : decode cX2_firstLike 27 = .ok (.iinc 3 1, 3) := by decide +kernel
theorem dX2_firstLike_30 : decode cX2_firstLike 30 = .ok (.goto (-22), 3) := by decide +kernel
theorem dX2_firstLike_33 : decode cX2_firstLike 33 = .ok (.iload_n 1, 1) := by decide +kernel
theorem dX2_firstLike_34 : decode cX2_firstLike 34 = .ok (.ireturn, 1) := by decide +kernel
set_option maxRecDepth 20000 in
theorem ggX2_firstBlock_X1_hasStretch : GoodIn wsX2_firstBlock wsX1_hasStretch := goodIn_r _ [6, 7, 8] (by decide +kernel) (by decide +kernel)
set_option maxRecDepth 20000 in
theorem gX2_firstBlock_X1_hasStretch : GoodIn wsX2_firstBlock (wsV RX2 96 RX1 yX1_hasStretch wsX1_hasStretch) := goodIn_app (goodIn_of _ (by decide +kernel)) ggX2_firstBlock_X1_hasStretch
theorem dX2_firstBlock_0 : decode cX2_firstBlock 0 = .ok (.aload_n 0, 1) := by decide +kernel
theorem dX2_firstBlock_1 : decode cX2_firstBlock 1 = .ok (.getfield 72, 3) := by decide +kernel
theorem dX2_firstBlock_4 : decode cX2_firstBlock 4 = .ok (.arraylength, 1) := by decide +kernel
theorem dX2_firstBlock_5 : decode cX2_firstBlock 5 = .ok (.iload_n 3, 1) := by decide +kernel
theorem dX2_firstBlock_6 : decode cX2_firstBlock 6 = .ok (.idiv, 1) := by decide +kernel
theorem dX2_firstBlock_7 : decode cX2_firstBlock 7 = .ok (.istore 4, 2) := by decide +kernel
theorem dX2_firstBlock_9 : decode cX2_firstBlock 9 = .ok (.iconst 0, 1) := by decide +kernel
theorem dX2_firstBlock_10 : decode cX2_firstBlock 10 = .ok (.istore 5, 2) := by decide +kernel
theorem dX2_firstBlock_12 : decode cX2_firstBlock 12 = .ok (.iload 5, 2) := by decide +kernel
theorem dX2_firstBlock_14 : decode cX2_firstBlock 14 = .ok (.iload 4, 2) := by decide +kernel
theorem dX2_firstBlock_16 : decode cX2_firstBlock 16 = .ok (.if_icmp .ge 26, 3) := by decide +kernel
theorem dX2_firstBlock_19 : decode cX2_firstBlock 19 = .ok (.aload_n 0, 1) := by decide +kernel
theorem dX2_firstBlock_20 : decode cX2_firstBlock 20 = .ok (.iload 5, 2) := by decide +kernel
theorem dX2_firstBlock_22 : decode cX2_firstBlock 22 = .ok (.iload_n 3, 1) := by decide +kernel
theorem dX2_firstBlock_23 : decode cX2_firstBlock 23 = .ok (.imul, 1) := by decide +kernel
theorem dX2_firstBlock_24 : decode cX2_firstBlock 24 = .ok (.aload_n 1, 1) := by decide +kernel
theorem dX2_firstBlock_25 : decode cX2_firstBlock 25 = .ok (.iload_n 2, 1) := by decide +kernel
theorem dX2_firstBlock_26 : decode cX2_firstBlock 26 = .ok (.iload_n 3, 1) := by decide +kernel
theorem dX2_firstBlock_27 : decode cX2_firstBlock 27 = .ok (.invokevirtual 96, 3) := by decide +kernel
theorem dX2_firstBlock_30 : decode cX2_firstBlock 30 = .ok (.ifCond .eq 6, 3) := by decide +kernel
theorem dX2_firstBlock_33 : decode cX2_firstBlock 33 = .ok (.iload 5, 2) := by decide +kernel
theorem dX2_firstBlock_35 : decode cX2_firstBlock 35 = .ok (.ireturn, 1) := by decide +kernel
theorem dX2_firstBlock_36 : decode cX2_firstBlock 36 = .ok (.iinc 5 1, 3) := by decide +kernel
theorem dX2_firstBlock_39 : decode cX2_firstBlock 39 = .ok (.goto (-27), 3) := by decide +kernel
theorem dX2_firstBlock_42 : decode cX2_firstBlock 42 = .ok (.iconst (-1), 1) := by decide +kernel
theorem dX2_firstBlock_43 : decode cX2_firstBlock 43 = .ok (.ireturn, 1) := by decide +kernel
set_option maxRecDepth 20000 in
theorem ggX2_blockToCopy_X1_hasStretch : GoodIn wsX2_blockToCopy wsX1_hasStretch := goodIn_r _ [6, 7, 12] (by decide +kernel) (by decide +kernel)
set_option maxRecDepth 20000 in
theorem gX2_blockToCopy_X1_hasStretch : GoodIn wsX2_blockToCopy (wsV RX2 96 RX1 yX1_hasStretch wsX1_hasStretch) := goodIn_app (goodIn_of _ (by decide +kernel)) ggX2_blockToCopy_X1_hasStretch
set_option maxRecDepth 20000 in
theorem ggX2_blockToCopy_X2_firstBlock : GoodIn wsX2_blockToCopy wsX2_firstBlock := goodIn_r _ [11, 1, 2, 3, 4, 5, 6, 7, 12] (by decide +kernel) (by decide +kernel)
set_option maxRecDepth 20000 in
theorem gX2_blockToCopy_X2_firstBlock : GoodIn wsX2_blockToCopy (va_wsS RX2 100 yX2_firstBlock wsX2_firstBlock) := goodIn_app (goodIn_of _ (by decide +kernel)) ggX2_blockToCopy_X2_firstBlock
theorem dX2_blockToCopy_0 : decode cX2_blockToCopy 0 = .ok (.iload_n 2, 1) := by decide +kernel
theorem dX2_blockToCopy_1 : decode cX2_blockToCopy 1 = .ok (.aload_n 1, 1) := by decide +kernel
theorem dX2_blockToCopy_2 : decode cX2_blockToCopy 2 = .ok (.getfield 72, 3) := by decide +kernel
theorem dX2_blockToCopy_5 : decode cX2_blockToCopy 5 = .ok (.arraylength, 1) := by decide +kernel
theorem dX2_blockToCopy_6 : decode cX2_blockToCopy 6 = .ok (.iload_n 3, 1) := by decide +kernel
theorem dX2_blockToCopy_7 : decode cX2_blockToCopy 7 = .ok (.isub, 1) := by decide +kernel
theorem dX2_blockToCopy_8 : decode cX2_blockToCopy 8 = .ok (.if_icmp .le 5, 3) := by decide +kernel
theorem dX2_blockToCopy_11 : decode cX2_blockToCopy 11 = .ok (.iconst (-1), 1) := by decide +kernel
theorem dX2_blockToCopy_12 : decode cX2_blockToCopy 12 = .ok (.ireturn, 1) := by decide +kernel
theorem dX2_blockToCopy_13 : decode cX2_blockToCopy 13 = .ok (.iload 4, 2) := by decide +kernel
theorem dX2_blockToCopy_15 : decode cX2_blockToCopy 15 = .ok (.iconst 1, 1) := by decide +kernel
theorem dX2_blockToCopy_16 : decode cX2_blockToCopy 16 = .ok (.iadd, 1) := by decide +kernel
theorem dX2_blockToCopy_17 : decode cX2_blockToCopy 17 = .ok (.istore 5, 2) := by decide +kernel
theorem dX2_blockToCopy_19 : decode cX2_blockToCopy 19 = .ok (.iload 4, 2) := by decide +kernel
theorem dX2_blockToCopy_21 : decode cX2_blockToCopy 21 = .ok (.iconst (-1), 1) := by decide +kernel
theorem dX2_blockToCopy_22 : decode cX2_blockToCopy 22 = .ok (.if_icmp .eq 32, 3) := by decide +kernel
theorem dX2_blockToCopy_25 : decode cX2_blockToCopy 25 = .ok (.iload 5, 2) := by decide +kernel
theorem dX2_blockToCopy_27 : decode cX2_blockToCopy 27 = .ok (.aload_n 0, 1) := by decide +kernel
theorem dX2_blockToCopy_28 : decode cX2_blockToCopy 28 = .ok (.getfield 72, 3) := by decide +kernel
theorem dX2_blockToCopy_31 : decode cX2_blockToCopy 31 = .ok (.arraylength, 1) := by decide +kernel
theorem dX2_blockToCopy_32 : decode cX2_blockToCopy 32 = .ok (.iload_n 3, 1) := by decide +kernel
theorem dX2_blockToCopy_33 : decode cX2_blockToCopy 33 = .ok (.idiv, 1) := by decide +kernel
theorem dX2_blockToCopy_34 : decode cX2_blockToCopy 34 = .ok (.if_icmp .ge 20, 3) := by decide +kernel
theorem dX2_blockToCopy_37 : decode cX2_blockToCopy 37 = .ok (.aload_n 0, 1) := by decide +kernel
theorem dX2_blockToCopy_38 : decode cX2_blockToCopy 38 = .ok (.iload 5, 2) := by decide +kernel
theorem dX2_blockToCopy_40 : decode cX2_blockToCopy 40 = .ok (.iload_n 3, 1) := by decide +kernel
theorem dX2_blockToCopy_41 : decode cX2_blockToCopy 41 = .ok (.imul, 1) := by decide +kernel
theorem dX2_blockToCopy_42 : decode cX2_blockToCopy 42 = .ok (.aload_n 1, 1) := by decide +kernel
theorem dX2_blockToCopy_43 : decode cX2_blockToCopy 43 = .ok (.iload_n 2, 1) := by decide +kernel
theorem dX2_blockToCopy_44 : decode cX2_blockToCopy 44 = .ok (.iload_n 3, 1) := by decide +kernel
theorem dX2_blockToCopy_45 : decode cX2_blockToCopy 45 = .ok (.invokevirtual 96, 3) := by decide +kernel
theorem dX2_blockToCopy_48 : decode cX2_blockToCopy 48 = .ok (.ifCond .eq 6, 3) := by decide +kernel
theorem dX2_blockToCopy_51 : decode cX2_blockToCopy 51 = .ok (.iload 5, 2) := by decide +kernel
theorem dX2_blockToCopy_53 : decode cX2_blockToCopy 53 = .ok (.ireturn, 1) := by decide +kernel
theorem dX2_blockToCopy_54 : decode cX2_blockToCopy 54 = .ok (.aload_n 0, 1) := by decide +kernel
theorem dX2_blockToCopy_55 : decode cX2_blockToCopy 55 = .ok (.aload_n 1, 1) := by decide +kernel
theorem dX2_blockToCopy_56 : decode cX2_blockToCopy 56 = .ok (.iload_n 2, 1) := by decide +kernel
theorem dX2_blockToCopy_57 : decode cX2_blockToCopy 57 = .ok (.iload_n 3, 1) := by decide +kernel
theorem dX2_blockToCopy_58 : decode cX2_blockToCopy 58 = .ok (.invokestatic 100, 3) := by decide +kernel
theorem dX2_blockToCopy_61 : decode cX2_blockToCopy 61 = .ok (.ireturn, 1) := by decide +kernel
set_option maxRecDepth 20000 in
theorem ggX2_originsByBlocks_X2_blockToCopy : GoodIn wsX2_originsByBlocks wsX2_blockToCopy := goodIn_r _ [6, 1, 7, 8, 9, 10, 11, 12, 13, 14, 5, 15, 16] (by decide +kernel) (by decide +kernel)
set_option maxRecDepth 20000 in
theorem gX2_originsByBlocks_X2_blockToCopy : GoodIn wsX2_originsByBlocks (va_wsS RX2 201 yX2_blockToCopy wsX2_blockToCopy) := goodIn_app (goodIn_of _ (by decide +kernel)) ggX2_originsByBlocks_X2_blockToCopy
theorem dX2_originsByBlocks_0 : decode cX2_originsByBlocks 0 = .ok (.aload_n 1, 1) := by decide +kernel
theorem dX2_originsByBlocks_1 : decode cX2_originsByBlocks 1 = .ok (.getfield 72, 3) := by decide +kernel
theorem dX2_originsByBlocks_4 : decode cX2_originsByBlocks 4 = .ok (.arraylength, 1) := by decide +kernel
theorem dX2_originsByBlocks_5 : decode cX2_originsByBlocks 5 = .ok (.newarray .int, 2) := by decide +kernel
theorem dX2_originsByBlocks_7 : decode cX2_originsByBlocks 7 = .ok (.astore_n 3, 1) := by decide +kernel
theorem dX2_originsByBlocks_8 : decode cX2_originsByBlocks 8 = .ok (.iconst (-1), 1) := by decide +kernel
theorem dX2_originsByBlocks_9 : decode cX2_originsByBlocks 9 = .ok (.istore 4, 2) := by decide +kernel
theorem dX2_originsByBlocks_11 : decode cX2_originsByBlocks 11 = .ok (.iconst 0, 1) := by decide +kernel
theorem dX2_originsByBlocks_12 : decode cX2_originsByBlocks 12 = .ok (.istore 5, 2) := by decide +kernel
theorem dX2_originsByBlocks_14 : decode cX2_originsByBlocks 14 = .ok (.iconst 0, 1) := by decide +kernel
theorem dX2_originsByBlocks_15 : decode cX2_originsByBlocks 15 = .ok (.istore 6, 2) := by decide +kernel
theorem dX2_originsByBlocks_17 : decode cX2_originsByBlocks 17 = .ok (.iload 6, 2) := by decide +kernel
theorem dX2_originsByBlocks_19 : decode cX2_originsByBlocks 19 = .ok (.aload_n 3, 1) := by decide +kernel
theorem dX2_originsByBlocks_20 : decode cX2_originsByBlocks 20 = .ok (.arraylength, 1) := by decide +kernel
theorem dX2_originsByBlocks_21 : decode cX2_originsByBlocks 21 = .ok (.if_icmp .ge 68, 3) := by decide +kernel
theorem dX2_originsByBlocks_24 : decode cX2_originsByBlocks 24 = .ok (.iload 5, 2) := by decide +kernel
theorem dX2_originsByBlocks_26 : decode cX2_originsByBlocks 26 = .ok (.ifCond .ne 28, 3) := by decide +kernel
theorem dX2_originsByBlocks_29 : decode cX2_originsByBlocks 29 = .ok (.aload_n 0, 1) := by decide +kernel
theorem dX2_originsByBlocks_30 : decode cX2_originsByBlocks 30 = .ok (.aload_n 1, 1) := by decide +kernel
theorem dX2_originsByBlocks_31 : decode cX2_originsByBlocks 31 = .ok (.iload 6, 2) := by decide +kernel
theorem dX2_originsByBlocks_33 : decode cX2_originsByBlocks 33 = .ok (.iload_n 2, 1) := by decide +kernel
theorem dX2_originsByBlocks_34 : decode cX2_originsByBlocks 34 = .ok (.iload 4, 2) := by decide +kernel
theorem dX2_originsByBlocks_36 : decode cX2_originsByBlocks 36 = .ok (.invokestatic 201, 3) := by decide +kernel
theorem dX2_originsByBlocks_39 : decode cX2_originsByBlocks 39 = .ok (.istore 7, 2) := by decide +kernel
theorem dX2_originsByBlocks_41 : decode cX2_originsByBlocks 41 = .ok (.iload 7, 2) := by decide +kernel
theorem dX2_originsByBlocks_43 : decode cX2_originsByBlocks 43 = .ok (.iconst (-1), 1) := by decide +kernel
theorem dX2_originsByBlocks_44 : decode cX2_originsByBlocks 44 = .ok (.if_icmp .eq 10, 3) := by decide +kernel
theorem dX2_originsByBlocks_47 : decode cX2_originsByBlocks 47 = .ok (.iload 7, 2) := by decide +kernel
theorem dX2_originsByBlocks_49 : decode cX2_originsByBlocks 49 = .ok (.istore 4, 2) := by decide +kernel
theorem dX2_originsByBlocks_51 : decode cX2_originsByBlocks 51 = .ok (.iload_n 2, 1) := by decide +kernel
theorem dX2_originsByBlocks_52 : decode cX2_originsByBlocks 52 = .ok (.istore 5, 2) := by decide +kernel
theorem dX2_originsByBlocks_54 : decode cX2_originsByBlocks 54 = .ok (.iload 5, 2) := by decide +kernel
theorem dX2_originsByBlocks_56 : decode cX2_originsByBlocks 56 = .ok (.ifCond .ne 11, 3) := by decide +kernel
theorem dX2_originsByBlocks_59 : decode cX2_originsByBlocks 59 = .ok (.aload_n 3, 1) := by decide +kernel
theorem dX2_originsByBlocks_60 : decode cX2_originsByBlocks 60 = .ok (.iload 6, 2) := by decide +kernel
theorem dX2_originsByBlocks_62 : decode cX2_originsByBlocks 62 = .ok (.iconst (-1), 1) := by decide +kernel
theorem dX2_originsByBlocks_63 : decode cX2_originsByBlocks 63 = .ok (.iastore, 1) := by decide +kernel
theorem dX2_originsByBlocks_64 : decode cX2_originsByBlocks 64 = .ok (.goto 19, 3) := by decide +kernel
theorem dX2_originsByBlocks_67 : decode cX2_originsByBlocks 67 = .ok (.aload_n 3, 1) := by decide +kernel
theorem dX2_originsByBlocks_68 : decode cX2_originsByBlocks 68 = .ok (.iload 6, 2) := by decide +kernel
theorem dX2_originsByBlocks_70 : decode cX2_originsByBlocks 70 = .ok (.iload 4, 2) := by decide +kernel
theorem dX2_originsByBlocks_72 : decode cX2_originsByBlocks 72 = .ok (.iconst 1, 1) := by decide +kernel
theorem dX2_originsByBlocks_73 : decode cX2_originsByBlocks 73 = .ok (.iadd, 1) := by decide +kernel
theorem dX2_originsByBlocks_74 : decode cX2_originsByBlocks 74 = .ok (.iload_n 2, 1) := by decide +kernel
theorem dX2_originsByBlocks_75 : decode cX2_originsByBlocks 75 = .ok (.imul, 1) := by decide +kernel
theorem dX2_originsByBlocks_76 : decode cX2_originsByBlocks 76 = .ok (.iload 5, 2) := by decide +kernel
theorem dX2_originsByBlocks_78 : decode cX2_originsByBlocks 78 = .ok (.isub, 1) := by decide +kernel
theorem dX2_originsByBlocks_79 : decode cX2_originsByBlocks 79 = .ok (.iastore, 1) := by decide +kernel
theorem dX2_originsByBlocks_80 : decode cX2_originsByBlocks 80 = .ok (.iinc 5 (-1), 3) := by decide +kernel
theorem dX2_originsByBlocks_83 : decode cX2_originsByBlocks 83 = .ok (.iinc 6 1, 3) := by decide +kernel
theorem dX2_originsByBlocks_86 : decode cX2_originsByBlocks 86 = .ok (.goto (-69), 3) := by decide +kernel
theorem dX2_originsByBlocks_89 : decode cX2_originsByBlocks 89 = .ok (.aload_n 3, 1) := by decide +kernel
theorem dX2_originsByBlocks_90 : decode cX2_originsByBlocks 90 = .ok (.areturn, 1) := by decide +kernel
theorem dX2_originsThrough_0 : decode cX2_originsThrough 0 = .ok (.aload_n 1, 1) := by decide +kernel
theorem dX2_originsThrough_1 : decode cX2_originsThrough 1 = .ok (.arraylength, 1) := by decide +kernel
theorem dX2_originsThrough_2 : decode cX2_originsThrough 2 = .ok (.newarray .int, 2) := by decide +kernel
theorem dX2_originsThrough_4 : decode cX2_originsThrough 4 = .ok (.astore_n 2, 1) := by decide +kernel
theorem dX2_originsThrough_5 : decode cX2_originsThrough 5 = .ok (.iconst 0, 1) := by decide +kernel
theorem dX2_originsThrough_6 : decode cX2_originsThrough 6 = .ok (.istore_n 3, 1) := by decide +kernel
theorem dX2_originsThrough_7 : decode cX2_originsThrough 7 = .ok (.iload_n 3, 1) := by decide +kernel
theorem dX2_originsThrough_8 : decode cX2_originsThrough 8 = .ok (.aload_n 2, 1) := by decide +kernel
theorem dX2_originsThrough_9 : decode cX2_originsThrough 9 = .ok (.arraylength, 1) := by decide +kernel
theorem dX2_originsThrough_10 : decode cX2_originsThrough 10 = .ok (.if_icmp .ge 37, 3) := by decide +kernel
theorem dX2_originsThrough_13 : decode cX2_originsThrough 13 = .ok (.aload_n 1, 1) := by decide +kernel
theorem dX2_originsThrough_14 : decode cX2_originsThrough 14 = .ok (.iload_n 3, 1) := by decide +kernel
theorem dX2_originsThrough_15 : decode cX2_originsThrough 15 = .ok (.iaload, 1) := by decide +kernel
theorem dX2_originsThrough_16 : decode cX2_originsThrough 16 = .ok (.istore 4, 2) := by decide +kernel
theorem dX2_originsThrough_18 : decode cX2_originsThrough 18 = .ok (.aload_n 2, 1) := by decide +kernel
theorem dX2_originsThrough_19 : decode cX2_originsThrough 19 = .ok (.iload_n 3, 1) := by decide +kernel
theorem dX2_originsThrough_20 : decode cX2_originsThrough 20 = .ok (.iload 4, 2) := by decide +kernel
theorem dX2_originsThrough_22 : decode cX2_originsThrough 22 = .ok (.ifCond .lt 17, 3) := by decide +kernel
theorem dX2_originsThrough_25 : decode cX2_originsThrough 25 = .ok (.iload 4, 2) := by decide +kernel
theorem dX2_originsThrough_27 : decode cX2_originsThrough 27 = .ok (.aload_n 0, 1) := by decide +kernel
theorem dX2_originsThrough_28 : decode cX2_originsThrough 28 = .ok (.arraylength, 1) := by decide +kernel
theorem dX2_originsThrough_29 : decode cX2_originsThrough 29 = .ok (.if_icmp .ge 10, 3) := by decide +kernel
theorem dX2_originsThrough_32 : decode cX2_originsThrough 32 = .ok (.aload_n 0, 1) := by decide +kernel
theorem dX2_originsThrough_33 : decode cX2_originsThrough 33 = .ok (.iload 4, 2) := by decide +kernel
theorem dX2_originsThrough_35 : decode cX2_originsThrough 35 = .ok (.iaload, 1) := by decide +kernel
theorem dX2_originsThrough_36 : decode cX2_originsThrough 36 = .ok (.goto 4, 3) := by decide +kernel
theorem dX2_originsThrough_39 : decode cX2_originsThrough 39 = .ok (.iconst (-1), 1) := by decide +kernel
theorem dX2_originsThrough_40 : decode cX2_originsThrough 40 = .ok (.iastore, 1) := by decide +kernel
theorem dX2_originsThrough_41 : decode cX2_originsThrough 41 = .ok (.iinc 3 1, 3) := by decide +kernel
theorem dX2_originsThrough_44 : decode cX2_originsThrough 44 = .ok (.goto (-37), 3) := by decide +kernel
theorem dX2_originsThrough_47 : decode cX2_originsThrough 47 = .ok (.aload_n 2, 1) := by decide +kernel
theorem dX2_originsThrough_48 : decode cX2_originsThrough 48 = .ok (.areturn, 1) := by decide +kernel
set_option maxRecDepth 20000 in
theorem ggX2_leastWay_X2_firstLike : GoodIn wsX2_leastWay wsX2_firstLike := goodIn_ca (goodIn_r _ [9, 10, 11, 12, 8, 13, 14, 15, 16, 17, 18, 19, 20, 21, 22, 23, 24, 25, 26, 27, 28, 29, 30, 31, 32, 33, 34, 35, 36, 37, 38, 39, 40, 41, 42, 43, 44, 45, 46, 47, 48, 49, 50, 61, 62, 63, 64, 65, 66, 67, 68, 76, 77, 78, 79] (by decide +kernel) (by decide +kernel)) (goodIn_sub (fun _ h => List.mem_cons_of_mem _ (List.mem_append_right _ h)) (by decide +kernel))
set_option maxRecDepth 20000 in
theorem gX2_leastWay_X2_firstLike : GoodIn wsX2_leastWay (wsV RX2 113 RX2 yX2_firstLike wsX2_firstLike) := goodIn_app (goodIn_of _ (by decide +kernel)) ggX2_leastWay_X2_firstLike
set_option maxRecDepth 20000 in
theorem ggX2_leastWay_J7_fill_53178 : GoodIn wsX2_leastWay wsJ7_fill_53178 := goodIn_r _ [54] (by decide +kernel) (by decide +kernel)
set_option maxRecDepth 20000 in
theorem gX2_leastWay_J7_fill_53178 : GoodIn wsX2_leastWay (va_wsS RX2 205 yJ7_fill_53178 wsJ7_fill_53178) := goodIn_app (goodIn_of _ (by decide +kernel)) ggX2_leastWay_J7_fill_53178
set_option maxRecDepth 20000 in
theorem ggX2_leastWay_Jx4a65c_size_8abf5 : GoodIn wsX2_leastWay wsJx4a65c_size_8abf5 := goodIn_r _ [22, 23, 76, 77, 78] (by decide +kernel) (by decide +kernel)
set_option maxRecDepth 20000 in
theorem gX2_leastWay_Jx4a65c_size_8abf5 : GoodIn wsX2_leastWay (wsV RX2 64 RJx4a65c yJx4a65c_size_8abf5 wsJx4a65c_size_8abf5) := goodIn_app (goodIn_of _ (by decide +kernel)) ggX2_leastWay_Jx4a65c_size_8abf5
set_option maxRecDepth 20000 in
theorem ggX2_leastWay_Jx4a65c_get_915e3 : GoodIn wsX2_leastWay wsJx4a65c_get_915e3 := goodIn_r _ [27, 23, 28, 29, 30, 31, 32, 33, 34, 35, 36, 37, 38, 21, 39, 40, 76, 77, 78] (by decide +kernel) (by decide +kernel)
set_option maxRecDepth 20000 in
theorem gX2_leastWay_Jx4a65c_get_915e3 : GoodIn wsX2_leastWay (wsV RX2 172 RJx4a65c yJx4a65c_get_915e3 wsJx4a65c_get_915e3) := goodIn_app (goodIn_of _ (by decide +kernel)) ggX2_leastWay_Jx4a65c_get_915e3
set_option maxRecDepth 20000 in
theorem ggX2_leastWay_X2_reachBy : GoodIn wsX2_leastWay wsX2_reachBy := goodIn_r _ [58, 1, 59, 60, 61, 62, 63, 64, 65, 66, 67, 68, 69, 70, 71, 72, 73, 74, 75] (by decide +kernel) (by decide +kernel)
set_option maxRecDepth 20000 in
theorem gX2_leastWay_X2_reachBy : GoodIn wsX2_leastWay (wsV RX2 210 RX2 yX2_reachBy wsX2_reachBy) := goodIn_app (goodIn_of _ (by decide +kernel)) ggX2_leastWay_X2_reachBy
theorem dX2_leastWay_0 : decode cX2_leastWay 0 = .ok (.aload_n 0, 1) := by decide +kernel
theorem dX2_leastWay_1 : decode cX2_leastWay 1 = .ok (.iload_n 1, 1) := by decide +kernel
theorem dX2_leastWay_2 : decode cX2_leastWay 2 = .ok (.invokevirtual 113, 3) := by decide +kernel
theorem dX2_leastWay_5 : decode cX2_leastWay 5 = .ok (.istore 4, 2) := by decide +kernel
theorem dX2_leastWay_7 : decode cX2_leastWay 7 = .ok (.aload_n 0, 1) := by decide +kernel
theorem dX2_leastWay_8 : decode cX2_leastWay 8 = .ok (.iload_n 2, 1) := by decide +kernel
theorem dX2_leastWay_9 : decode cX2_leastWay 9 = .ok (.invokevirtual 113, 3) := by decide +kernel
theorem dX2_leastWay_12 : decode cX2_leastWay 12 = .ok (.istore 5, 2) := by decide +kernel
theorem dX2_leastWay_14 : decode cX2_leastWay 14 = .ok (.aload_n 0, 1) := by decide +kernel
theorem dX2_leastWay_15 : decode cX2_leastWay 15 = .ok (.getfield 42, 3) := by decide +kernel
theorem dX2_leastWay_18 : decode cX2_leastWay 18 = .ok (.iconst (-1), 1) := by decide +kernel
theorem dX2_leastWay_19 : decode cX2_leastWay 19 = .ok (.invokestatic 205, 3) := by decide +kernel
theorem dX2_leastWay_22 : decode cX2_leastWay 22 = .ok (.aload_n 0, 1) := by decide +kernel
theorem dX2_leastWay_23 : decode cX2_leastWay 23 = .ok (.getfield 42, 3) := by decide +kernel
theorem dX2_leastWay_26 : decode cX2_leastWay 26 = .ok (.iload 4, 2) := by decide +kernel
theorem dX2_leastWay_28 : decode cX2_leastWay 28 = .ok (.iconst 0, 1) := by decide +kernel
theorem dX2_leastWay_29 : decode cX2_leastWay 29 = .ok (.iastore, 1) := by decide +kernel
theorem dX2_leastWay_30 : decode cX2_leastWay 30 = .ok (.iconst 0, 1) := by decide +kernel
theorem dX2_leastWay_31 : decode cX2_leastWay 31 = .ok (.istore 6, 2) := by decide +kernel
theorem dX2_leastWay_33 : decode cX2_leastWay 33 = .ok (.iload 6, 2) := by decide +kernel
theorem dX2_leastWay_35 : decode cX2_leastWay 35 = .ok (.aload_n 0, 1) := by decide +kernel
theorem dX2_leastWay_36 : decode cX2_leastWay 36 = .ok (.getfield 24, 3) := by decide +kernel
theorem dX2_leastWay_39 : decode cX2_leastWay 39 = .ok (.invokevirtual 64, 3) := by decide +kernel
theorem dX2_leastWay_42 : decode cX2_leastWay 42 = .ok (.if_icmp .ge 63, 3) := by decide +kernel
theorem dX2_leastWay_45 : decode cX2_leastWay 45 = .ok (.iconst 0, 1) := by decide +kernel
theorem dX2_leastWay_46 : decode cX2_leastWay 46 = .ok (.istore 7, 2) := by decide +kernel
theorem dX2_leastWay_48 : decode cX2_leastWay 48 = .ok (.iload 7, 2) := by decide +kernel
theorem dX2_leastWay_50 : decode cX2_leastWay 50 = .ok (.aload_n 0, 1) := by decide +kernel
theorem dX2_leastWay_51 : decode cX2_leastWay 51 = .ok (.getfield 24, 3) := by decide +kernel
theorem dX2_leastWay_54 : decode cX2_leastWay 54 = .ok (.invokevirtual 64, 3) := by decide +kernel
theorem dX2_leastWay_57 : decode cX2_leastWay 57 = .ok (.if_icmp .ge 42, 3) := by decide +kernel
theorem dX2_leastWay_60 : decode cX2_leastWay 60 = .ok (.aload_n 0, 1) := by decide +kernel
theorem dX2_leastWay_61 : decode cX2_leastWay 61 = .ok (.getfield 24, 3) := by decide +kernel
theorem dX2_leastWay_64 : decode cX2_leastWay 64 = .ok (.iload 7, 2) := by decide +kernel
theorem dX2_leastWay_66 : decode cX2_leastWay 66 = .ok (.invokevirtual 172, 3) := by decide +kernel
theorem dX2_leastWay_69 : decode cX2_leastWay 69 = .ok (.checkcast 111, 3) := by decide +kernel
theorem dX2_leastWay_72 : decode cX2_leastWay 72 = .ok (.astore 8, 2) := by decide +kernel
theorem dX2_leastWay_74 : decode cX2_leastWay 74 = .ok (.aload_n 0, 1) := by decide +kernel
theorem dX2_leastWay_75 : decode cX2_leastWay 75 = .ok (.aload 8, 2) := by decide +kernel
theorem dX2_leastWay_77 : decode cX2_leastWay 77 = .ok (.iload_n 3, 1) := by decide +kernel
theorem dX2_leastWay_78 : decode cX2_leastWay 78 = .ok (.ifCond .eq 11, 3) := by decide +kernel
theorem dX2_leastWay_81 : decode cX2_leastWay 81 = .ok (.aload 8, 2) := by decide +kernel
theorem dX2_leastWay_83 : decode cX2_leastWay 83 = .ok (.getfield 152, 3) := by decide +kernel
theorem dX2_leastWay_86 : decode cX2_leastWay 86 = .ok (.goto 4, 3) := by decide +kernel
theorem dX2_leastWay_89 : decode cX2_leastWay 89 = .ok (.iconst 1, 1) := by decide +kernel
theorem dX2_leastWay_90 : decode cX2_leastWay 90 = .ok (.invokevirtual 210, 3) := by decide +kernel
theorem dX2_leastWay_93 : decode cX2_leastWay 93 = .ok (.iinc 7 1, 3) := by decide +kernel
theorem dX2_leastWay_96 : decode cX2_leastWay 96 = .ok (.goto (-48), 3) := by decide +kernel
theorem dX2_leastWay_99 : decode cX2_leastWay 99 = .ok (.iinc 6 1, 3) := by decide +kernel
theorem dX2_leastWay_102 : decode cX2_leastWay 102 = .ok (.goto (-69), 3) := by decide +kernel
theorem dX2_leastWay_105 : decode cX2_leastWay 105 = .ok (.aload_n 0, 1) := by decide +kernel
theorem dX2_leastWay_106 : decode cX2_leastWay 106 = .ok (.getfield 42, 3) := by decide +kernel
theorem dX2_leastWay_109 : decode cX2_leastWay 109 = .ok (.iload 5, 2) := by decide +kernel
theorem dX2_leastWay_111 : decode cX2_leastWay 111 = .ok (.iaload, 1) := by decide +kernel
theorem dX2_leastWay_112 : decode cX2_leastWay 112 = .ok (.ireturn, 1) := by decide +kernel
theorem dX2_reachBy_0 : decode cX2_reachBy 0 = .ok (.aload_n 0, 1) := by decide +kernel
theorem dX2_reachBy_1 : decode cX2_reachBy 1 = .ok (.getfield 42, 3) := by decide +kernel
theorem dX2_reachBy_4 : decode cX2_reachBy 4 = .ok (.aload_n 1, 1) := by decide +kernel
theorem dX2_reachBy_5 : decode cX2_reachBy 5 = .ok (.getfield 127, 3) := by decide +kernel
theorem dX2_reachBy_8 : decode cX2_reachBy 8 = .ok (.iaload, 1) := by decide +kernel
theorem dX2_reachBy_9 : decode cX2_reachBy 9 = .ok (.istore_n 3, 1) := by decide +kernel
theorem dX2_reachBy_10 : decode cX2_reachBy 10 = .ok (.iload_n 3, 1) := by decide +kernel
theorem dX2_reachBy_11 : decode cX2_reachBy 11 = .ok (.iconst (-1), 1) := by decide +kernel
theorem dX2_reachBy_12 : decode cX2_reachBy 12 = .ok (.if_icmp .ne 4, 3) := by decide +kernel
theorem dX2_reachBy_15 : decode cX2_reachBy 15 = .ok (.return_, 1) := by decide +kernel
theorem dX2_reachBy_16 : decode cX2_reachBy 16 = .ok (.aload_n 0, 1) := by decide +kernel
theorem dX2_reachBy_17 : decode cX2_reachBy 17 = .ok (.getfield 42, 3) := by decide +kernel
theorem dX2_reachBy_20 : decode cX2_reachBy 20 = .ok (.aload_n 1, 1) := by decide +kernel
theorem dX2_reachBy_21 : decode cX2_reachBy 21 = .ok (.getfield 124, 3) := by decide +kernel
theorem dX2_reachBy_24 : decode cX2_reachBy 24 = .ok (.iaload, 1) := by decide +kernel
theorem dX2_reachBy_25 : decode cX2_reachBy 25 = .ok (.istore 4, 2) := by decide +kernel
theorem dX2_reachBy_27 : decode cX2_reachBy 27 = .ok (.iload 4, 2) := by decide +kernel
theorem dX2_reachBy_29 : decode cX2_reachBy 29 = .ok (.iconst (-1), 1) := by decide +kernel
theorem dX2_reachBy_30 : decode cX2_reachBy 30 = .ok (.if_icmp .eq 11, 3) := by decide +kernel
theorem dX2_reachBy_33 : decode cX2_reachBy 33 = .ok (.iload_n 3, 1) := by decide +kernel
theorem dX2_reachBy_34 : decode cX2_reachBy 34 = .ok (.iload_n 2, 1) := by decide +kernel
theorem dX2_reachBy_35 : decode cX2_reachBy 35 = .ok (.iadd, 1) := by decide +kernel
theorem dX2_reachBy_36 : decode cX2_reachBy 36 = .ok (.iload 4, 2) := by decide +kernel
theorem dX2_reachBy_38 : decode cX2_reachBy 38 = .ok (.if_icmp .ge 15, 3) := by decide +kernel
theorem dX2_reachBy_41 : decode cX2_reachBy 41 = .ok (.aload_n 0, 1) := by decide +kernel
theorem dX2_reachBy_42 : decode cX2_reachBy 42 = .ok (.getfield 42, 3) := by decide +kernel
theorem dX2_reachBy_45 : decode cX2_reachBy 45 = .ok (.aload_n 1, 1) := by decide +kernel
theorem dX2_reachBy_46 : decode cX2_reachBy 46 = .ok (.getfield 124, 3) := by decide +kernel
theorem dX2_reachBy_49 : decode cX2_reachBy 49 = .ok (.iload_n 3, 1) := by decide +kernel
theorem dX2_reachBy_50 : decode cX2_reachBy 50 = .ok (.iload_n 2, 1) := by decide +kernel
theorem dX2_reachBy_51 : decode cX2_reachBy 51 = .ok (.iadd, 1) := by decide +kernel
theorem dX2_reachBy_52 : decode cX2_reachBy 52 = .ok (.iastore, 1) := by decide +kernel
theorem dX2_reachBy_53 : decode cX2_reachBy 53 = .ok (.return_, 1) := by decide +kernel
set_option maxRecDepth 20000 in
theorem ggX2_install_Jx4a65c_size_8abf5 : GoodIn wsX2_install wsJx4a65c_size_8abf5 := goodIn_r _ [7, 8, 88, 89, 90] (by decide +kernel) (by decide +kernel)
set_option maxRecDepth 20000 in
theorem gX2_install_Jx4a65c_size_8abf5 : GoodIn wsX2_install (wsV RX2 64 RJx4a65c yJx4a65c_size_8abf5 wsJx4a65c_size_8abf5) := goodIn_app (goodIn_of _ (by decide +kernel)) ggX2_install_Jx4a65c_size_8abf5
set_option maxRecDepth 20000 in
theorem ggX2_install_Jx4a65c_remove_915e3 : GoodIn wsX2_install wsJx4a65c_remove_915e3 := goodIn_r _ [12, 8, 13, 14, 15, 16, 17, 18, 19, 20, 21, 22, 23, 24, 6, 25, 26, 27, 28, 29, 30, 31, 88, 89, 90] (by decide +kernel) (by decide +kernel)
set_option maxRecDepth 20000 in
theorem gX2_install_Jx4a65c_remove_915e3 : GoodIn wsX2_install (wsV RX2 176 RJx4a65c yJx4a65c_remove_915e3 wsJx4a65c_remove_915e3) := goodIn_app (goodIn_of _ (by decide +kernel)) ggX2_install_Jx4a65c_remove_915e3
set_option maxRecDepth 20000 in
theorem ggX2_install_Jx4a65c_add_9ea2d : GoodIn wsX2_install wsJx4a65c_add_9ea2d := goodIn_r _ [35, 26, 27, 13, 8, 36, 37, 38, 6, 39, 40, 41, 42, 43, 44, 45, 46, 47, 48, 49, 50, 51, 52, 53, 54, 55, 56, 57, 58, 59, 60, 61, 62, 63, 64, 65, 66, 67, 68, 69, 70, 71, 72, 73, 74, 75, 76, 77, 78, 79, 29, 30, 31, 88, 89, 90] (by decide +kernel) (by decide +kernel)
set_option maxRecDepth 20000 in
theorem gX2_install_Jx4a65c_add_9ea2d : GoodIn wsX2_install (wsV RX2 60 RJx4a65c yJx4a65c_add_9ea2d wsJx4a65c_add_9ea2d) := goodIn_app (goodIn_of _ (by decide +kernel)) ggX2_install_Jx4a65c_add_9ea2d
theorem dX2_install_0 : decode cX2_install 0 = .ok (.aload_n 0, 1) := by decide +kernel
theorem dX2_install_1 : decode cX2_install 1 = .ok (.getfield 36, 3) := by decide +kernel
theorem dX2_install_4 : decode cX2_install 4 = .ok (.invokevirtual 64, 3) := by decide +kernel
theorem dX2_install_7 : decode cX2_install 7 = .ok (.bipush 20, 2) := by decide +kernel
theorem dX2_install_9 : decode cX2_install 9 = .ok (.if_icmp .lt 12, 3) := by decide +kernel
theorem dX2_install_12 : decode cX2_install 12 = .ok (.aload_n 0, 1) := by decide +kernel
theorem dX2_install_13 : decode cX2_install 13 = .ok (.getfield 36, 3) := by decide +kernel
theorem dX2_install_16 : decode cX2_install 16 = .ok (.iconst 0, 1) := by decide +kernel
theorem dX2_install_17 : decode cX2_install 17 = .ok (.invokevirtual 176, 3) := by decide +kernel
theorem dX2_install_20 : decode cX2_install 20 = .ok (.pop, 1) := by decide +kernel
theorem dX2_install_21 : decode cX2_install 21 = .ok (.aload_n 0, 1) := by decide +kernel
theorem dX2_install_22 : decode cX2_install 22 = .ok (.getfield 36, 3) := by decide +kernel
theorem dX2_install_25 : decode cX2_install 25 = .ok (.aload_n 0, 1) := by decide +kernel
theorem dX2_install_26 : decode cX2_install 26 = .ok (.getfield 32, 3) := by decide +kernel
theorem dX2_install_29 : decode cX2_install 29 = .ok (.invokevirtual 60, 3) := by decide +kernel
theorem dX2_install_32 : decode cX2_install 32 = .ok (.pop, 1) := by decide +kernel
theorem dX2_install_33 : decode cX2_install 33 = .ok (.aload_n 0, 1) := by decide +kernel
theorem dX2_install_34 : decode cX2_install 34 = .ok (.aload_n 1, 1) := by decide +kernel
theorem dX2_install_35 : decode cX2_install 35 = .ok (.putfield 32, 3) := by decide +kernel
theorem dX2_install_38 : decode cX2_install 38 = .ok (.aload_n 0, 1) := by decide +kernel
theorem dX2_install_39 : decode cX2_install 39 = .ok (.getfield 36, 3) := by decide +kernel
theorem dX2_install_42 : decode cX2_install 42 = .ok (.invokevirtual 64, 3) := by decide +kernel
theorem dX2_install_45 : decode cX2_install 45 = .ok (.ireturn, 1) := by decide +kernel
