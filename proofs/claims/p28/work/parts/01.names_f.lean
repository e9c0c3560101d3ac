theorem dL_below_0 : decode cL_below 0 = .ok (.iload_n 0, 1) := by decide +kernel
theorem dL_below_1 : decode cL_below 1 = .ok (.ldc 7, 2) := by decide +kernel
theorem dL_below_3 : decode cL_below 3 = .ok (.iand, 1) := by decide +kernel
theorem dL_below_4 : decode cL_below 4 = .ok (.iload_n 1, 1) := by decide +kernel
theorem dL_below_5 : decode cL_below 5 = .ok (.irem, 1) := by decide +kernel
theorem dL_below_6 : decode cL_below 6 = .ok (.ireturn, 1) := by decide +kernel
theorem dL_cell_0 : decode cL_cell 0 = .ok (.iload_n 1, 1) := by decide +kernel
theorem dL_cell_1 : decode cL_cell 1 = .ok (.aload_n 0, 1) := by decide +kernel
theorem dL_cell_2 : decode cL_cell 2 = .ok (.arraylength, 1) := by decide +kernel
theorem dL_cell_3 : decode cL_cell 3 = .ok (.if_icmp .ge 9, 3) := by decide +kernel
theorem dL_cell_6 : decode cL_cell 6 = .ok (.aload_n 0, 1) := by decide +kernel
theorem dL_cell_7 : decode cL_cell 7 = .ok (.iload_n 1, 1) := by decide +kernel
theorem dL_cell_8 : decode cL_cell 8 = .ok (.iaload, 1) := by decide +kernel
theorem dL_cell_9 : decode cL_cell 9 = .ok (.goto 9, 3) := by decide +kernel
theorem dL_cell_12 : decode cL_cell 12 = .ok (.ldc 8, 2) := by decide +kernel
theorem dL_cell_14 : decode cL_cell 14 = .ok (.iload_n 1, 1) := by decide +kernel
theorem dL_cell_15 : decode cL_cell 15 = .ok (.iconst 3, 1) := by decide +kernel
theorem dL_cell_16 : decode cL_cell 16 = .ok (.iadd, 1) := by decide +kernel
theorem dL_cell_17 : decode cL_cell 17 = .ok (.imul, 1) := by decide +kernel
theorem dL_cell_18 : decode cL_cell 18 = .ok (.ireturn, 1) := by decide +kernel
set_option maxRecDepth 20000 in
theorem ggL_row_L_cell : GoodIn wsL_row wsL_cell := goodIn_r _ [5, 6] (by decide +kernel) (by decide +kernel)
set_option maxRecDepth 20000 in
theorem gL_row_L_cell : GoodIn wsL_row (va_wsS RL 9 yL_cell wsL_cell) := goodIn_app (goodIn_of _ (by decide +kernel)) ggL_row_L_cell
set_option maxRecDepth 20000 in
theorem ggL_row_L_below : GoodIn wsL_row wsL_below := goodIn_r _ [9, 10] (by decide +kernel) (by decide +kernel)
set_option maxRecDepth 20000 in
theorem gL_row_L_below : GoodIn wsL_row (va_wsS RL 15 yL_below wsL_below) := goodIn_app (goodIn_of _ (by decide +kernel)) ggL_row_L_below
theorem dL_row_0 : decode cL_row 0 = .ok (.aload_n 0, 1) := by decide +kernel
theorem dL_row_1 : decode cL_row 1 = .ok (.iload_n 1, 1) := by decide +kernel
theorem dL_row_2 : decode cL_row 2 = .ok (.invokestatic 9, 3) := by decide +kernel
theorem dL_row_5 : decode cL_row 5 = .ok (.iload_n 2, 1) := by decide +kernel
theorem dL_row_6 : decode cL_row 6 = .ok (.iconst 1, 1) := by decide +kernel
theorem dL_row_7 : decode cL_row 7 = .ok (.iadd, 1) := by decide +kernel
theorem dL_row_8 : decode cL_row 8 = .ok (.invokestatic 15, 3) := by decide +kernel
theorem dL_row_11 : decode cL_row 11 = .ok (.newarray .int, 2) := by decide +kernel
theorem dL_row_13 : decode cL_row 13 = .ok (.astore_n 3, 1) := by decide +kernel
theorem dL_row_14 : decode cL_row 14 = .ok (.aload_n 0, 1) := by decide +kernel
theorem dL_row_15 : decode cL_row 15 = .ok (.iload_n 1, 1) := by decide +kernel
theorem dL_row_16 : decode cL_row 16 = .ok (.iconst 1, 1) := by decide +kernel
theorem dL_row_17 : decode cL_row 17 = .ok (.iadd, 1) := by decide +kernel
theorem dL_row_18 : decode cL_row 18 = .ok (.invokestatic 9, 3) := by decide +kernel
theorem dL_row_21 : decode cL_row 21 = .ok (.istore 4, 2) := by decide +kernel
theorem dL_row_23 : decode cL_row 23 = .ok (.iconst 0, 1) := by decide +kernel
theorem dL_row_24 : decode cL_row 24 = .ok (.istore 5, 2) := by decide +kernel
theorem dL_row_26 : decode cL_row 26 = .ok (.iconst 0, 1) := by decide +kernel
theorem dL_row_27 : decode cL_row 27 = .ok (.istore 6, 2) := by decide +kernel
theorem dL_row_29 : decode cL_row 29 = .ok (.iload 6, 2) := by decide +kernel
theorem dL_row_31 : decode cL_row 31 = .ok (.aload_n 3, 1) := by decide +kernel
theorem dL_row_32 : decode cL_row 32 = .ok (.arraylength, 1) := by decide +kernel
theorem dL_row_33 : decode cL_row 33 = .ok (.if_icmp .ge 90, 3) := by decide +kernel
theorem dL_row_36 : decode cL_row 36 = .ok (.iload 6, 2) := by decide +kernel
theorem dL_row_38 : decode cL_row 38 = .ok (.bipush 6, 2) := by decide +kernel
theorem dL_row_40 : decode cL_row 40 = .ok (.irem, 1) := by decide +kernel
theorem dL_row_41 : decode cL_row 41 = .ok (.ifCond .ne 25, 3) := by decide +kernel
theorem dL_row_44 : decode cL_row 44 = .ok (.iload 4, 2) := by decide +kernel
theorem dL_row_46 : decode cL_row 46 = .ok (.iload 6, 2) := by decide +kernel
theorem dL_row_48 : decode cL_row 48 = .ok (.bipush 6, 2) := by decide +kernel
theorem dL_row_50 : decode cL_row 50 = .ok (.idiv, 1) := by decide +kernel
theorem dL_row_51 : decode cL_row 51 = .ok (.bipush 9, 2) := by decide +kernel
theorem dL_row_53 : decode cL_row 53 = .ok (.irem, 1) := by decide +kernel
theorem dL_row_54 : decode cL_row 54 = .ok (.iconst 3, 1) := by decide +kernel
theorem dL_row_55 : decode cL_row 55 = .ok (.imul, 1) := by decide +kernel
theorem dL_row_56 : decode cL_row 56 = .ok (.ishr, 1) := by decide +kernel
theorem dL_row_57 : decode cL_row 57 = .ok (.iconst 5, 1) := by decide +kernel
theorem dL_row_58 : decode cL_row 58 = .ok (.invokestatic 15, 3) := by decide +kernel
theorem dL_row_61 : decode cL_row 61 = .ok (.bipush 6, 2) := by decide +kernel
theorem dL_row_63 : decode cL_row 63 = .ok (.imul, 1) := by decide +kernel
theorem dL_row_64 : decode cL_row 64 = .ok (.istore 5, 2) := by decide +kernel
theorem dL_row_66 : decode cL_row 66 = .ok (.aload_n 3, 1) := by decide +kernel
theorem dL_row_67 : decode cL_row 67 = .ok (.iload 6, 2) := by decide +kernel
theorem dL_row_69 : decode cL_row 69 = .ok (.aload_n 0, 1) := by decide +kernel
theorem dL_row_70 : decode cL_row 70 = .ok (.iload_n 1, 1) := by decide +kernel
theorem dL_row_71 : decode cL_row 71 = .ok (.invokestatic 9, 3) := by decide +kernel
theorem dL_row_74 : decode cL_row 74 = .ok (.bipush 8, 2) := by decide +kernel
theorem dL_row_76 : decode cL_row 76 = .ok (.ishr, 1) := by decide +kernel
theorem dL_row_77 : decode cL_row 77 = .ok (.iconst 3, 1) := by decide +kernel
theorem dL_row_78 : decode cL_row 78 = .ok (.invokestatic 15, 3) := by decide +kernel
theorem dL_row_81 : decode cL_row 81 = .ok (.ifCond .ne 21, 3) := by decide +kernel
theorem dL_row_84 : decode cL_row 84 = .ok (.iload 4, 2) := by decide +kernel
theorem dL_row_86 : decode cL_row 86 = .ok (.iload 6, 2) := by decide +kernel
theorem dL_row_88 : decode cL_row 88 = .ok (.sipush 7717, 3) := by decide +kernel
theorem dL_row_91 : decode cL_row 91 = .ok (.imul, 1) := by decide +kernel
theorem dL_row_92 : decode cL_row 92 = .ok (.ixor, 1) := by decide +kernel
theorem dL_row_93 : decode cL_row 93 = .ok (.sipush 256, 3) := by decide +kernel
theorem dL_row_96 : decode cL_row 96 = .ok (.invokestatic 15, 3) := by decide +kernel
theorem dL_row_99 : decode cL_row 99 = .ok (.goto 17, 3) := by decide +kernel
theorem dL_row_102 : decode cL_row 102 = .ok (.bipush 97, 2) := by decide +kernel
theorem dL_row_104 : decode cL_row 104 = .ok (.iload 5, 2) := by decide +kernel
theorem dL_row_106 : decode cL_row 106 = .ok (.iload 6, 2) := by decide +kernel
theorem dL_row_108 : decode cL_row 108 = .ok (.bipush 6, 2) := by decide +kernel
theorem dL_row_110 : decode cL_row 110 = .ok (.irem, 1) := by decide +kernel
theorem dL_row_111 : decode cL_row 111 = .ok (.iadd, 1) := by decide +kernel
theorem dL_row_112 : decode cL_row 112 = .ok (.bipush 11, 2) := by decide +kernel
theorem dL_row_114 : decode cL_row 114 = .ok (.irem, 1) := by decide +kernel
theorem dL_row_115 : decode cL_row 115 = .ok (.iadd, 1) := by decide +kernel
theorem dL_row_116 : decode cL_row 116 = .ok (.iastore, 1) := by decide +kernel
theorem dL_row_117 : decode cL_row 117 = .ok (.iinc 6 1, 3) := by decide +kernel
theorem dL_row_120 : decode cL_row 120 = .ok (.goto (-91), 3) := by decide +kernel
theorem dL_row_123 : decode cL_row 123 = .ok (.aload_n 3, 1) := by decide +kernel
theorem dL_row_124 : decode cL_row 124 = .ok (.areturn, 1) := by decide +kernel
set_option maxRecDepth 20000 in
theorem ggL_store_X2_feed : GoodIn wsL_store wsX2_feed := goodIn_ca (goodIn_ca (goodIn_r _ [10, 11, 12, 13, 14, 15, 16, 135, 136, 137, 138, 139, 140, 141, 142] (by decide +kernel) (by decide +kernel)) (goodIn_sub (fun _ h => List.mem_cons_of_mem _ (List.mem_append_left _ (List.mem_append_left _ (List.mem_append_right _ h)))) (by decide +kernel))) (goodIn_sub (fun _ h => List.mem_cons_of_mem _ (List.mem_append_left _ (List.mem_append_right _ h))) (by decide +kernel))
set_option maxRecDepth 20000 in
theorem gL_store_X2_feed : GoodIn wsL_store (wsV RL 26 RX2 yX2_feed wsX2_feed) := goodIn_app (goodIn_of _ (by decide +kernel)) ggL_store_X2_feed
set_option maxRecDepth 20000 in
theorem ggL_store_X2_store : GoodIn wsL_store wsX2_store := goodIn_ca (goodIn_r _ [20, 21, 22, 23, 24, 16, 15, 25, 26, 27, 9, 28, 13, 14, 29, 30, 31, 32, 33, 34, 35, 36, 37, 38, 39, 40, 41, 42, 43, 44, 45, 46, 47, 48, 49, 50, 51, 52, 53, 2, 3, 4, 54, 55, 56, 57, 58, 59, 60, 61, 62, 63, 64, 65, 66, 67, 68, 69, 70, 71, 72, 73, 74, 75, 76, 77, 78, 79, 80, 81, 82, 83, 84, 85, 86, 87, 88, 89, 90, 91, 92, 93, 94, 95, 96, 97, 98, 99, 100, 101, 102, 135, 136, 137, 138, 139, 140, 141, 142, 143, 144, 145, 146] (by decide +kernel) (by decide +kernel)) (goodIn_sub (fun _ h => List.mem_cons_of_mem _ (List.mem_append_left _ (List.mem_append_right _ h))) (by decide +kernel))
set_option maxRecDepth 20000 in
theorem gL_store_X2_store : GoodIn wsL_store (wsV RL 32 RX2 yX2_store wsX2_store) := goodIn_app (goodIn_of _ (by decide +kernel)) ggL_store_X2_store
set_option maxRecDepth 20000 in
theorem ggL_store_X2_length : GoodIn wsL_store wsX2_length := goodIn_ca (goodIn_r _ [106, 107, 108, 109, 110, 9, 111, 112, 113, 21, 114, 29, 30, 31, 32, 33, 34, 115, 116, 117, 118, 119, 120, 121, 122, 123, 124, 125, 126, 127, 128, 129, 130, 64, 143, 135, 136, 137, 138, 139, 140, 141, 142, 144, 145, 146] (by decide +kernel) (by decide +kernel)) (goodIn_sub (fun _ h => List.mem_cons_of_mem _ (List.mem_append_right _ h)) (by decide +kernel))
set_option maxRecDepth 20000 in
theorem gL_store_X2_length : GoodIn wsL_store (wsV RL 36 RX2 yX2_length wsX2_length) := goodIn_app (goodIn_of _ (by decide +kernel)) ggL_store_X2_length
set_option maxRecDepth 20000 in
theorem ggL_store_X2_byteAt : GoodIn wsL_store wsX2_byteAt := goodIn_ca (goodIn_r _ [134, 112, 113, 107, 108, 109, 110, 9, 111, 21, 114, 29, 30, 31, 32, 33, 34, 115, 116, 117, 118, 119, 120, 121, 122, 123, 124, 125, 126, 127, 128, 129, 130, 64, 143, 135, 136, 137, 138, 139, 140, 141, 142, 144, 145, 146] (by decide +kernel) (by decide +kernel)) (goodIn_sub (fun _ h => List.mem_cons_of_mem _ (List.mem_append_right _ h)) (by decide +kernel))
set_option maxRecDepth 20000 in
theorem gL_store_X2_byteAt : GoodIn wsL_store (wsV RL 40 RX2 yX2_byteAt wsX2_byteAt) := goodIn_app (goodIn_of _ (by decide +kernel)) ggL_store_X2_byteAt
theorem dL_store_0 : decode cL_store 0 = .ok (.iconst 0, 1) := by decide +kernel
theorem dL_store_1 : decode cL_store 1 = .ok (.istore_n 3, 1) := by decide +kernel
theorem dL_store_2 : decode cL_store 2 = .ok (.iload_n 3, 1) := by decide +kernel
theorem dL_store_3 : decode cL_store 3 = .ok (.aload_n 1, 1) := by decide +kernel
theorem dL_store_4 : decode cL_store 4 = .ok (.arraylength, 1) := by decide +kernel
theorem dL_store_5 : decode cL_store 5 = .ok (.if_icmp .ge 71, 3) := by decide +kernel
theorem dL_store_8 : decode cL_store 8 = .ok (.iload_n 2, 1) := by decide +kernel
theorem dL_store_9 : decode cL_store 9 = .ok (.aload_n 1, 1) := by decide +kernel
theorem dL_store_10 : decode cL_store 10 = .ok (.arraylength, 1) := by decide +kernel
theorem dL_store_11 : decode cL_store 11 = .ok (.iload_n 3, 1) := by decide +kernel
theorem dL_store_12 : decode cL_store 12 = .ok (.isub, 1) := by decide +kernel
theorem dL_store_13 : decode cL_store 13 = .ok (.invokestatic 19, 3) := by decide +kernel
theorem dL_store_16 : decode cL_store 16 = .ok (.istore 4, 2) := by decide +kernel
theorem dL_store_18 : decode cL_store 18 = .ok (.ldc2_w 24, 3) := by decide +kernel
theorem dL_store_21 : decode cL_store 21 = .ok (.lstore 5, 2) := by decide +kernel
theorem dL_store_23 : decode cL_store 23 = .ok (.iconst 0, 1) := by decide +kernel
theorem dL_store_24 : decode cL_store 24 = .ok (.istore 7, 2) := by decide +kernel
theorem dL_store_26 : decode cL_store 26 = .ok (.iload 7, 2) := by decide +kernel
theorem dL_store_28 : decode cL_store 28 = .ok (.iload 4, 2) := by decide +kernel
theorem dL_store_30 : decode cL_store 30 = .ok (.if_icmp .ge 24, 3) := by decide +kernel
theorem dL_store_33 : decode cL_store 33 = .ok (.lload 5, 2) := by decide +kernel
theorem dL_store_35 : decode cL_store 35 = .ok (.bipush 8, 2) := by decide +kernel
theorem dL_store_37 : decode cL_store 37 = .ok (.lshl, 1) := by decide +kernel
theorem dL_store_38 : decode cL_store 38 = .ok (.aload_n 1, 1) := by decide +kernel
theorem dL_store_39 : decode cL_store 39 = .ok (.iload_n 3, 1) := by decide +kernel
theorem dL_store_40 : decode cL_store 40 = .ok (.iload 7, 2) := by decide +kernel
theorem dL_store_42 : decode cL_store 42 = .ok (.iadd, 1) := by decide +kernel
theorem dL_store_43 : decode cL_store 43 = .ok (.iaload, 1) := by decide +kernel
theorem dL_store_44 : decode cL_store 44 = .ok (.i2l, 1) := by decide +kernel
theorem dL_store_45 : decode cL_store 45 = .ok (.lor, 1) := by decide +kernel
theorem dL_store_46 : decode cL_store 46 = .ok (.lstore 5, 2) := by decide +kernel
theorem dL_store_48 : decode cL_store 48 = .ok (.iinc 7 1, 3) := by decide +kernel
theorem dL_store_51 : decode cL_store 51 = .ok (.goto (-25), 3) := by decide +kernel
theorem dL_store_54 : decode cL_store 54 = .ok (.iload_n 3, 1) := by decide +kernel
theorem dL_store_55 : decode cL_store 55 = .ok (.iload 4, 2) := by decide +kernel
theorem dL_store_57 : decode cL_store 57 = .ok (.iadd, 1) := by decide +kernel
theorem dL_store_58 : decode cL_store 58 = .ok (.istore_n 3, 1) := by decide +kernel
theorem dL_store_59 : decode cL_store 59 = .ok (.aload_n 0, 1) := by decide +kernel
theorem dL_store_60 : decode cL_store 60 = .ok (.lload 5, 2) := by decide +kernel
theorem dL_store_62 : decode cL_store 62 = .ok (.iload 4, 2) := by decide +kernel
theorem dL_store_64 : decode cL_store 64 = .ok (.invokevirtual 26, 3) := by decide +kernel
theorem dL_store_67 : decode cL_store 67 = .ok (.iload_n 3, 1) := by decide +kernel
theorem dL_store_68 : decode cL_store 68 = .ok (.if_icmp .eq 5, 3) := by decide +kernel
theorem dL_store_71 : decode cL_store 71 = .ok (.iconst (-1), 1) := by decide +kernel
theorem dL_store_72 : decode cL_store 72 = .ok (.ireturn, 1) := by decide +kernel
theorem dL_store_73 : decode cL_store 73 = .ok (.goto (-71), 3) := by decide +kernel
theorem dL_store_76 : decode cL_store 76 = .ok (.aload_n 0, 1) := by decide +kernel
theorem dL_store_77 : decode cL_store 77 = .ok (.invokevirtual 32, 3) := by decide +kernel
theorem dL_store_80 : decode cL_store 80 = .ok (.istore 4, 2) := by decide +kernel
theorem dL_store_82 : decode cL_store 82 = .ok (.aload_n 0, 1) := by decide +kernel
theorem dL_store_83 : decode cL_store 83 = .ok (.iload 4, 2) := by decide +kernel
theorem dL_store_85 : decode cL_store 85 = .ok (.invokevirtual 36, 3) := by decide +kernel
theorem dL_store_88 : decode cL_store 88 = .ok (.aload_n 1, 1) := by decide +kernel
theorem dL_store_89 : decode cL_store 89 = .ok (.arraylength, 1) := by decide +kernel
theorem dL_store_90 : decode cL_store 90 = .ok (.if_icmp .eq 5, 3) := by decide +kernel
theorem dL_store_93 : decode cL_store 93 = .ok (.iconst (-1), 1) := by decide +kernel
theorem dL_store_94 : decode cL_store 94 = .ok (.ireturn, 1) := by decide +kernel
theorem dL_store_95 : decode cL_store 95 = .ok (.iconst 0, 1) := by decide +kernel
theorem dL_store_96 : decode cL_store 96 = .ok (.istore 5, 2) := by decide +kernel
theorem dL_store_98 : decode cL_store 98 = .ok (.iload 5, 2) := by decide +kernel
theorem dL_store_100 : decode cL_store 100 = .ok (.aload_n 1, 1) := by decide +kernel
theorem dL_store_101 : decode cL_store 101 = .ok (.arraylength, 1) := by decide +kernel
theorem dL_store_102 : decode cL_store 102 = .ok (.if_icmp .ge 26, 3) := by decide +kernel
theorem dL_store_105 : decode cL_store 105 = .ok (.aload_n 0, 1) := by decide +kernel
theorem dL_store_106 : decode cL_store 106 = .ok (.iload 4, 2) := by decide +kernel
theorem dL_store_108 : decode cL_store 108 = .ok (.iload 5, 2) := by decide +kernel
theorem dL_store_110 : decode cL_store 110 = .ok (.invokevirtual 40, 3) := by decide +kernel
theorem dL_store_113 : decode cL_store 113 = .ok (.aload_n 1, 1) := by decide +kernel
theorem dL_store_114 : decode cL_store 114 = .ok (.iload 5, 2) := by decide +kernel
theorem dL_store_116 : decode cL_store 116 = .ok (.iaload, 1) := by decide +kernel
theorem dL_store_117 : decode cL_store 117 = .ok (.if_icmp .eq 5, 3) := by decide +kernel
theorem dL_store_120 : decode cL_store 120 = .ok (.iconst (-1), 1) := by decide +kernel
theorem dL_store_121 : decode cL_store 121 = .ok (.ireturn, 1) := by decide +kernel
theorem dL_store_122 : decode cL_store 122 = .ok (.iinc 5 1, 3) := by decide +kernel
theorem dL_store_125 : decode cL_store 125 = .ok (.goto (-27), 3) := by decide +kernel
theorem dL_store_128 : decode cL_store 128 = .ok (.iload 4, 2) := by decide +kernel
theorem dL_store_130 : decode cL_store 130 = .ok (.ireturn, 1) := by decide +kernel
theorem dL_sum_0 : decode cL_sum 0 = .ok (.lconst 0, 1) := by decide +kernel
theorem dL_sum_1 : decode cL_sum 1 = .ok (.lstore_n 3, 1) := by decide +kernel
theorem dL_sum_2 : decode cL_sum 2 = .ok (.lconst 0, 1) := by decide +kernel
theorem dL_sum_3 : decode cL_sum 3 = .ok (.lstore 5, 2) := by decide +kernel
theorem dL_sum_5 : decode cL_sum 5 = .ok (.iconst 0, 1) := by decide +kernel
theorem dL_sum_6 : decode cL_sum 6 = .ok (.istore 7, 2) := by decide +kernel
theorem dL_sum_8 : decode cL_sum 8 = .ok (.iload 7, 2) := by decide +kernel
theorem dL_sum_10 : decode cL_sum 10 = .ok (.iload_n 2, 1) := by decide +kernel
theorem dL_sum_11 : decode cL_sum 11 = .ok (.if_icmp .ge 37, 3) := by decide +kernel
theorem dL_sum_14 : decode cL_sum 14 = .ok (.lload_n 3, 1) := by decide +kernel
theorem dL_sum_15 : decode cL_sum 15 = .ok (.aload_n 0, 1) := by decide +kernel
theorem dL_sum_16 : decode cL_sum 16 = .ok (.iload_n 1, 1) := by decide +kernel
theorem dL_sum_17 : decode cL_sum 17 = .ok (.iload 7, 2) := by decide +kernel
theorem dL_sum_19 : decode cL_sum 19 = .ok (.iadd, 1) := by decide +kernel
theorem dL_sum_20 : decode cL_sum 20 = .ok (.iaload, 1) := by decide +kernel
theorem dL_sum_21 : decode cL_sum 21 = .ok (.i2l, 1) := by decide +kernel
theorem dL_sum_22 : decode cL_sum 22 = .ok (.ladd, 1) := by decide +kernel
theorem dL_sum_23 : decode cL_sum 23 = .ok (.lstore_n 3, 1) := by decide +kernel
theorem dL_sum_24 : decode cL_sum 24 = .ok (.lload 5, 2) := by decide +kernel
theorem dL_sum_26 : decode cL_sum 26 = .ok (.iload_n 2, 1) := by decide +kernel
theorem dL_sum_27 : decode cL_sum 27 = .ok (.iload 7, 2) := by decide +kernel
theorem dL_sum_29 : decode cL_sum 29 = .ok (.isub, 1) := by decide +kernel
theorem dL_sum_30 : decode cL_sum 30 = .ok (.i2l, 1) := by decide +kernel
theorem dL_sum_31 : decode cL_sum 31 = .ok (.aload_n 0, 1) := by decide +kernel
theorem dL_sum_32 : decode cL_sum 32 = .ok (.iload_n 1, 1) := by decide +kernel
theorem dL_sum_33 : decode cL_sum 33 = .ok (.iload 7, 2) := by decide +kernel
theorem dL_sum_35 : decode cL_sum 35 = .ok (.iadd, 1) := by decide +kernel
theorem dL_sum_36 : decode cL_sum 36 = .ok (.iaload, 1) := by decide +kernel
theorem dL_sum_37 : decode cL_sum 37 = .ok (.i2l, 1) := by decide +kernel
theorem dL_sum_38 : decode cL_sum 38 = .ok (.lmul, 1) := by decide +kernel
theorem dL_sum_39 : decode cL_sum 39 = .ok (.ladd, 1) := by decide +kernel
theorem dL_sum_40 : decode cL_sum 40 = .ok (.lstore 5, 2) := by decide +kernel
theorem dL_sum_42 : decode cL_sum 42 = .ok (.iinc 7 1, 3) := by decide +kernel
theorem dL_sum_45 : decode cL_sum 45 = .ok (.goto (-37), 3) := by decide +kernel
theorem dL_sum_48 : decode cL_sum 48 = .ok (.lload_n 3, 1) := by decide +kernel
theorem dL_sum_49 : decode cL_sum 49 = .ok (.ldc2_w 43, 3) := by decide +kernel
theorem dL_sum_52 : decode cL_sum 52 = .ok (.lrem, 1) := by decide +kernel
theorem dL_sum_53 : decode cL_sum 53 = .ok (.ldc2_w 43, 3) := by decide +kernel
theorem dL_sum_56 : decode cL_sum 56 = .ok (.lload 5, 2) := by decide +kernel
theorem dL_sum_58 : decode cL_sum 58 = .ok (.ldc2_w 43, 3) := by decide +kernel
theorem dL_sum_61 : decode cL_sum 61 = .ok (.lrem, 1) := by decide +kernel
theorem dL_sum_62 : decode cL_sum 62 = .ok (.lmul, 1) := by decide +kernel
theorem dL_sum_63 : decode cL_sum 63 = .ok (.ladd, 1) := by decide +kernel
theorem dL_sum_64 : decode cL_sum 64 = .ok (.l2i, 1) := by decide +kernel
theorem dL_sum_65 : decode cL_sum 65 = .ok (.ireturn, 1) := by decide +kernel
theorem dL_isLike_0 : decode cL_isLike 0 = .ok (.iconst 0, 1) := by decide +kernel
theorem dL_isLike_1 : decode cL_isLike 1 = .ok (.istore 5, 2) := by decide +kernel
theorem dL_isLike_3 : decode cL_isLike 3 = .ok (.iload 5, 2) := by decide +kernel
theorem dL_isLike_5 : decode cL_isLike 5 = .ok (.iload 4, 2) := by decide +kernel
theorem dL_isLike_7 : decode cL_isLike 7 = .ok (.if_icmp .ge 26, 3) := by decide +kernel
theorem dL_isLike_10 : decode cL_isLike 10 = .ok (.aload_n 0, 1) := by decide +kernel
theorem dL_isLike_11 : decode cL_isLike 11 = .ok (.iload_n 1, 1) := by decide +kernel
theorem dL_isLike_12 : decode cL_isLike 12 = .ok (.iload 5, 2) := by decide +kernel
theorem dL_isLike_14 : decode cL_isLike 14 = .ok (.iadd, 1) := by decide +kernel
theorem dL_isLike_15 : decode cL_isLike 15 = .ok (.iaload, 1) := by decide +kernel
theorem dL_isLike_16 : decode cL_isLike 16 = .ok (.aload_n 2, 1) := by decide +kernel
theorem dL_isLike_17 : decode cL_isLike 17 = .ok (.iload_n 3, 1) := by decide +kernel
theorem dL_isLike_18 : decode cL_isLike 18 = .ok (.iload 5, 2) := by decide +kernel
theorem dL_isLike_20 : decode cL_isLike 20 = .ok (.iadd, 1) := by decide +kernel
theorem dL_isLike_21 : decode cL_isLike 21 = .ok (.iaload, 1) := by decide +kernel
theorem dL_isLike_22 : decode cL_isLike 22 = .ok (.if_icmp .eq 5, 3) := by decide +kernel
theorem dL_isLike_25 : decode cL_isLike 25 = .ok (.iconst 0, 1) := by decide +kernel
theorem dL_isLike_26 : decode cL_isLike 26 = .ok (.ireturn, 1) := by decide +kernel
theorem dL_isLike_27 : decode cL_isLike 27 = .ok (.iinc 5 1, 3) := by decide +kernel
theorem dL_isLike_30 : decode cL_isLike 30 = .ok (.goto (-27), 3) := by decide +kernel
theorem dL_isLike_33 : decode cL_isLike 33 = .ok (.iconst 1, 1) := by decide +kernel
theorem dL_isLike_34 : decode cL_isLike 34 = .ok (.ireturn, 1) := by decide +kernel
set_option maxRecDepth 20000 in
theorem ggL_law_X2_init : GoodIn wsL_law wsX2_init := goodIn_r _ [10, 11, 12, 13, 14, 15, 16, 17, 18, 19, 20, 21, 22, 23, 24, 25, 26, 27, 28, 29, 30, 31, 32, 33, 34, 35, 36, 37, 38, 39, 40, 41, 42, 43, 44, 45, 46, 47, 48, 49, 50, 51, 52, 53, 54, 55, 56, 57, 58, 59, 5, 6, 7, 60, 61, 62, 63, 338, 339, 340, 341, 342, 343, 344, 345, 346, 347, 348, 349] (by decide +kernel) (by decide +kernel)
set_option maxRecDepth 20000 in
theorem gL_law_X2_init : GoodIn wsL_law (wsX2_init) := ggL_law_X2_init
set_option maxRecDepth 20000 in
theorem ggL_law_L_row : GoodIn wsL_law wsL_row := goodIn_r _ [67, 14, 68, 69, 66, 70, 71, 72, 73, 74, 75] (by decide +kernel) (by decide +kernel)
set_option maxRecDepth 20000 in
theorem gL_law_L_row : GoodIn wsL_law (va_wsS RL 74 yL_row wsL_row) := goodIn_app (goodIn_of _ (by decide +kernel)) ggL_law_L_row
set_option maxRecDepth 20000 in
theorem ggL_law_L_store : GoodIn wsL_law wsL_store := goodIn_ca (goodIn_ca (goodIn_ca (goodIn_r _ [78, 4, 5, 6, 7, 79, 80, 81, 82, 2, 83, 84, 85, 86, 87, 16, 15, 88, 89, 90, 91, 20, 22, 23, 24, 92, 93, 94, 95, 96, 97, 98, 19, 99, 100, 44, 45, 46, 47, 12, 13, 48, 49, 50, 51, 52, 53, 54, 55, 56, 57, 58, 14, 59, 60, 61, 62, 63, 101, 102, 103, 104, 105, 106, 33, 107, 108, 109, 110, 111, 112, 113, 114, 115, 116, 117, 118, 32, 119, 120, 121, 122, 123, 124, 125, 126, 127, 128, 129, 130, 131, 132, 133, 134, 135, 136, 137, 138, 139, 140, 141, 142, 143, 144, 145, 146, 147, 148, 149, 150, 151, 152, 153, 154, 155, 156, 157, 158, 159, 160, 161, 162, 163, 164, 165, 166, 167, 168, 169, 170, 171, 172, 173, 174, 175, 338, 339, 340, 341, 342, 343, 344, 345, 349, 346, 347, 348] (by decide +kernel) (by decide +kernel)) (goodIn_sub (fun _ h => List.mem_append_left _ (List.mem_append_left _ (List.mem_append_right _ h))) (by decide +kernel))) (goodIn_sub (fun _ h => List.mem_append_left _ (List.mem_append_right _ h)) (by decide +kernel))) (goodIn_sub (fun _ h => List.mem_append_right _ h) (by decide +kernel))
set_option maxRecDepth 20000 in
theorem gL_law_L_store : GoodIn wsL_law (va_wsS RL 78 yL_store wsL_store) := goodIn_app (goodIn_of _ (by decide +kernel)) ggL_law_L_store
set_option maxRecDepth 20000 in
theorem ggL_law_L_cell : GoodIn wsL_law wsL_cell := goodIn_r _ [70, 71] (by decide +kernel) (by decide +kernel)
set_option maxRecDepth 20000 in
theorem gL_law_L_cell : GoodIn wsL_law (va_wsS RL 9 yL_cell wsL_cell) := goodIn_app (goodIn_of _ (by decide +kernel)) ggL_law_L_cell
set_option maxRecDepth 20000 in
theorem ggL_law_L_below : GoodIn wsL_law wsL_below := goodIn_r _ [74, 75] (by decide +kernel) (by decide +kernel)
set_option maxRecDepth 20000 in
theorem gL_law_L_below : GoodIn wsL_law (va_wsS RL 15 yL_below wsL_below) := goodIn_app (goodIn_of _ (by decide +kernel)) ggL_law_L_below
set_option maxRecDepth 20000 in
theorem ggL_law_X2_difference : GoodIn wsL_law wsX2_difference := goodIn_ca (goodIn_ca (goodIn_ca (goodIn_r _ [179, 21, 180, 181, 182, 149, 150, 151, 2, 152, 153, 154, 20, 155, 96, 97, 98, 19, 99, 100, 156, 157, 158, 159, 160, 161, 162, 163, 164, 165, 166, 167, 168, 169, 170, 171, 33, 183, 184, 185, 84, 85, 186, 187, 188, 189, 86, 87, 190, 191, 192, 148, 14, 193, 194, 195, 196, 197, 198, 24, 199, 48, 200, 201, 202, 203, 204, 205, 206, 207, 208, 209, 210, 211, 212, 213, 214, 215, 12, 13, 216, 217, 218, 219, 220, 221, 222, 223, 224, 225, 226, 227, 228, 229, 50, 51, 52, 53, 54, 55, 56, 57, 58, 59, 5, 6, 7, 60, 61, 62, 63, 230, 231, 232, 233, 234, 235, 101, 102, 103, 104, 105, 106, 107, 108, 109, 110, 111, 112, 113, 114, 115, 116, 117, 118, 32, 119, 120, 121, 122, 123, 124, 125, 126, 127, 128, 129, 130, 131, 132, 133, 134, 135, 136, 137, 138, 139, 140, 141, 142, 143, 338, 339, 340, 341, 342, 343, 344, 345, 350, 351, 352, 353, 354, 355, 356, 346, 347, 348, 349] (by decide +kernel) (by decide +kernel)) (goodIn_sub (fun _ h => List.mem_append_right _ h) (by decide +kernel))) (goodIn_sub (fun _ h => List.mem_append_left _ (List.mem_append_left _ (List.mem_append_right _ h))) (by decide +kernel))) (goodIn_sub (fun _ h => List.mem_append_left _ (List.mem_append_right _ h)) (by decide +kernel))
set_option maxRecDepth 20000 in
theorem gL_law_X2_difference : GoodIn wsL_law (wsV RL 81 RX2 yX2_difference wsX2_difference) := goodIn_app (goodIn_of _ (by decide +kernel)) ggL_law_X2_difference
set_option maxRecDepth 20000 in
theorem ggL_law_X2_compose : GoodIn wsL_law wsX2_compose := goodIn_ca (goodIn_ca (goodIn_ca (goodIn_r _ [239, 84, 85, 240, 241, 242, 21, 180, 181, 182, 243, 244, 245, 246, 2, 247, 153, 154, 248, 96, 97, 98, 19, 99, 100, 156, 157, 158, 159, 160, 161, 162, 163, 164, 165, 166, 167, 168, 169, 170, 171, 33, 186, 187, 188, 189, 86, 87, 249, 250, 251, 14, 212, 213, 214, 215, 12, 13, 216, 217, 218, 219, 220, 221, 222, 223, 224, 225, 226, 227, 228, 229, 50, 51, 52, 53, 54, 55, 56, 57, 58, 59, 5, 6, 7, 60, 61, 62, 63, 230, 231, 232, 233, 234, 235, 101, 102, 103, 104, 105, 106, 107, 108, 109, 110, 111, 112, 113, 114, 115, 116, 117, 118, 32, 119, 120, 121, 122, 123, 124, 125, 126, 127, 128, 129, 130, 131, 132, 133, 134, 135, 136, 137, 138, 139, 140, 141, 142, 143, 350, 351, 352, 353, 354, 355, 356, 338, 339, 340, 341, 342, 343, 344, 345, 346, 347, 348] (by decide +kernel) (by decide +kernel)) (goodIn_sub (fun _ h => List.mem_append_left _ (List.mem_append_left _ (List.mem_append_right _ h))) (by decide +kernel))) (goodIn_sub (fun _ h => List.mem_append_right _ h) (by decide +kernel))) (goodIn_sub (fun _ h => List.mem_append_left _ (List.mem_append_right _ h)) (by decide +kernel))
set_option maxRecDepth 20000 in
theorem gL_law_X2_compose : GoodIn wsL_law (wsV RL 84 RX2 yX2_compose wsX2_compose) := goodIn_app (goodIn_of _ (by decide +kernel)) ggL_law_X2_compose
set_option maxRecDepth 20000 in
theorem ggL_law_X2_instructions : GoodIn wsL_law wsX2_instructions := goodIn_ca (goodIn_r _ [255, 256, 244, 245, 246, 2, 247, 153, 154, 21, 248, 96, 97, 98, 19, 99, 100, 156, 157, 158, 159, 160, 161, 162, 163, 164, 165, 166, 167, 168, 169, 170, 171, 33, 350, 351, 352, 353, 354, 355, 356, 338, 339, 340, 341, 342, 343, 344, 345, 346, 347, 348] (by decide +kernel) (by decide +kernel)) (goodIn_sub (fun _ h => List.mem_append_right _ h) (by decide +kernel))
set_option maxRecDepth 20000 in
theorem gL_law_X2_instructions : GoodIn wsL_law (wsV RL 53 RX2 yX2_instructions wsX2_instructions) := goodIn_app (goodIn_of _ (by decide +kernel)) ggL_law_X2_instructions
set_option maxRecDepth 20000 in
theorem ggL_law_X2_instruction : GoodIn wsL_law wsX2_instruction := goodIn_ca (goodIn_r _ [260, 153, 154, 256, 244, 245, 246, 2, 247, 21, 248, 96, 97, 98, 19, 99, 100, 156, 157, 158, 159, 160, 161, 162, 163, 164, 165, 166, 167, 168, 169, 170, 171, 33, 261, 262, 263, 182, 264, 220, 219, 218, 265, 266, 267, 24, 268, 48, 350, 351, 352, 353, 354, 355, 356, 338, 339, 340, 341, 342, 343, 344, 345, 346, 347, 348, 349] (by decide +kernel) (by decide +kernel)) (goodIn_sub (fun _ h => List.mem_append_right _ h) (by decide +kernel))
set_option maxRecDepth 20000 in
theorem gL_law_X2_instruction : GoodIn wsL_law (wsV RL 56 RX2 yX2_instruction wsX2_instruction) := goodIn_app (goodIn_of _ (by decide +kernel)) ggL_law_X2_instruction
set_option maxRecDepth 20000 in
theorem ggL_law_L_isLike : GoodIn wsL_law wsL_isLike := goodIn_r _ [271] (by decide +kernel) (by decide +kernel)
set_option maxRecDepth 20000 in
theorem gL_law_L_isLike : GoodIn wsL_law (va_wsS RL 45 yL_isLike wsL_isLike) := goodIn_app (goodIn_of _ (by decide +kernel)) ggL_law_L_isLike
set_option maxRecDepth 20000 in
theorem ggL_law_L_sum : GoodIn wsL_law wsL_sum := goodIn_r _ [274, 275] (by decide +kernel) (by decide +kernel)
set_option maxRecDepth 20000 in
theorem gL_law_L_sum : GoodIn wsL_law (va_wsS RL 60 yL_sum wsL_sum) := goodIn_app (goodIn_of _ (by decide +kernel)) ggL_law_L_sum
set_option maxRecDepth 20000 in
theorem ggL_law_X2_newness : GoodIn wsL_law wsX2_newness := goodIn_ca (goodIn_r _ [279, 242, 280, 244, 245, 246, 2, 247, 153, 154, 21, 248, 96, 97, 98, 19, 99, 100, 156, 157, 158, 159, 160, 161, 162, 163, 164, 165, 166, 167, 168, 169, 170, 171, 33, 350, 351, 352, 353, 354, 355, 356, 338, 339, 340, 341, 342, 343, 344, 345, 346, 347, 348] (by decide +kernel) (by decide +kernel)) (goodIn_sub (fun _ h => List.mem_append_right _ h) (by decide +kernel))
set_option maxRecDepth 20000 in
theorem gL_law_X2_newness : GoodIn wsL_law (wsV RL 67 RX2 yX2_newness wsX2_newness) := goodIn_app (goodIn_of _ (by decide +kernel)) ggL_law_X2_newness
set_option maxRecDepth 20000 in
theorem ggL_law_X2_cost : GoodIn wsL_law wsX2_cost := goodIn_ca (goodIn_r _ [284, 285, 244, 245, 246, 2, 247, 153, 154, 21, 248, 96, 97, 98, 19, 99, 100, 156, 157, 158, 159, 160, 161, 162, 163, 164, 165, 166, 167, 168, 169, 170, 171, 33, 350, 351, 352, 353, 354, 355, 356, 338, 339, 340, 341, 342, 343, 344, 345, 346, 347, 348] (by decide +kernel) (by decide +kernel)) (goodIn_sub (fun _ h => List.mem_append_right _ h) (by decide +kernel))
set_option maxRecDepth 20000 in
theorem gL_law_X2_cost : GoodIn wsL_law (wsV RL 64 RX2 yX2_cost wsX2_cost) := goodIn_app (goodIn_of _ (by decide +kernel)) ggL_law_X2_cost
set_option maxRecDepth 20000 in
theorem ggL_law_X2_steps : GoodIn wsL_law wsX2_steps := goodIn_ca (goodIn_r _ [289, 290, 291, 292, 2, 293, 28, 21, 248, 285, 203, 204, 205, 206, 149, 150, 151, 152, 153, 154, 20, 155, 96, 97, 98, 19, 99, 100, 156, 157, 158, 159, 160, 161, 162, 163, 164, 165, 166, 167, 168, 169, 170, 171, 33, 207, 208, 209, 24, 210, 48, 211, 197, 198, 199, 294, 295, 51, 296, 297, 298, 299, 300, 241, 240, 338, 339, 340, 341, 342, 343, 344, 345, 350, 351, 352, 353, 354, 355, 356, 346, 347, 348, 349] (by decide +kernel) (by decide +kernel)) (goodIn_sub (fun _ h => List.mem_append_right _ h) (by decide +kernel))
set_option maxRecDepth 20000 in
theorem gL_law_X2_steps : GoodIn wsL_law (wsV RL 87 RX2 yX2_steps wsX2_steps) := goodIn_app (goodIn_of _ (by decide +kernel)) ggL_law_X2_steps
set_option maxRecDepth 20000 in
theorem ggL_law_X2_leastCost : GoodIn wsL_law wsX2_leastCost := goodIn_ca (goodIn_r _ [304, 290, 291, 292, 2, 293, 28, 21, 248, 285, 203, 204, 205, 206, 149, 150, 151, 152, 153, 154, 20, 155, 96, 97, 98, 19, 99, 100, 156, 157, 158, 159, 160, 161, 162, 163, 164, 165, 166, 167, 168, 169, 170, 171, 33, 207, 208, 209, 24, 210, 48, 211, 197, 198, 199, 294, 295, 51, 296, 297, 298, 299, 300, 241, 240, 338, 339, 340, 341, 342, 343, 344, 345, 350, 351, 352, 353, 354, 355, 356, 346, 347, 348, 349] (by decide +kernel) (by decide +kernel)) (goodIn_sub (fun _ h => List.mem_append_right _ h) (by decide +kernel))
set_option maxRecDepth 20000 in
theorem gL_law_X2_leastCost : GoodIn wsL_law (wsV RL 90 RX2 yX2_leastCost wsX2_leastCost) := goodIn_app (goodIn_of _ (by decide +kernel)) ggL_law_X2_leastCost
set_option maxRecDepth 20000 in
theorem ggL_law_X2_installVersion : GoodIn wsL_law wsX2_installVersion := goodIn_ca (goodIn_r _ [308, 149, 150, 151, 2, 152, 153, 154, 20, 155, 96, 97, 98, 19, 99, 100, 156, 157, 158, 159, 160, 161, 162, 163, 164, 165, 166, 167, 168, 169, 170, 171, 33, 309, 310, 311, 312, 26, 25, 313, 314, 315, 316, 317, 318, 319, 320, 105, 106, 321, 61, 62, 63, 101, 102, 103, 104, 107, 108, 109, 110, 111, 112, 113, 114, 115, 116, 117, 118, 32, 119, 120, 6, 121, 122, 123, 124, 125, 126, 127, 128, 129, 130, 131, 132, 133, 51, 134, 135, 136, 137, 138, 139, 140, 141, 142, 143, 59, 5, 7, 60, 338, 339, 340, 341, 342, 343, 344, 345, 346, 347, 348] (by decide +kernel) (by decide +kernel)) (goodIn_sub (fun _ h => List.mem_append_right _ h) (by decide +kernel))
set_option maxRecDepth 20000 in
theorem gL_law_X2_installVersion : GoodIn wsL_law (wsV RL 93 RX2 yX2_installVersion wsX2_installVersion) := goodIn_app (goodIn_of _ (by decide +kernel)) ggL_law_X2_installVersion
set_option maxRecDepth 20000 in
theorem ggL_law_X2_installPatch : GoodIn wsL_law wsX2_installPatch := goodIn_ca (goodIn_ca (goodIn_r _ [325, 84, 85, 25, 241, 243, 244, 245, 246, 2, 247, 153, 154, 21, 248, 96, 97, 98, 19, 99, 100, 156, 157, 158, 159, 160, 161, 162, 163, 164, 165, 166, 167, 168, 169, 170, 171, 33, 149, 150, 151, 152, 20, 155, 207, 208, 209, 24, 210, 48, 211, 197, 198, 199, 309, 310, 311, 312, 26, 313, 314, 315, 316, 317, 318, 319, 320, 105, 106, 321, 61, 62, 63, 101, 102, 103, 104, 107, 108, 109, 110, 111, 112, 113, 114, 115, 116, 117, 118, 32, 119, 120, 6, 121, 122, 123, 124, 125, 126, 127, 128, 129, 130, 131, 132, 133, 51, 134, 135, 136, 137, 138, 139, 140, 141, 142, 143, 59, 5, 7, 60, 338, 339, 340, 341, 342, 343, 344, 345, 350, 351, 352, 353, 354, 355, 356, 346, 347, 348, 349] (by decide +kernel) (by decide +kernel)) (goodIn_sub (fun _ h => List.mem_append_left _ (List.mem_append_left _ (List.mem_append_right _ h))) (by decide +kernel))) (goodIn_sub (fun _ h => List.mem_append_right _ h) (by decide +kernel))
set_option maxRecDepth 20000 in
theorem gL_law_X2_installPatch : GoodIn wsL_law (wsV RL 96 RX2 yX2_installPatch wsX2_installPatch) := goodIn_app (goodIn_of _ (by decide +kernel)) ggL_law_X2_installPatch
set_option maxRecDepth 20000 in
theorem ggL_law_X2_isInstalled : GoodIn wsL_law wsX2_isInstalled := goodIn_ca (goodIn_r _ [329, 25, 149, 150, 151, 2, 152, 153, 154, 20, 155, 96, 97, 98, 19, 99, 100, 156, 157, 158, 159, 160, 161, 162, 163, 164, 165, 166, 167, 168, 169, 170, 171, 33, 207, 208, 209, 24, 210, 48, 211, 197, 198, 199, 338, 339, 340, 341, 342, 343, 344, 345, 346, 347, 348, 349] (by decide +kernel) (by decide +kernel)) (goodIn_sub (fun _ h => List.mem_append_right _ h) (by decide +kernel))
set_option maxRecDepth 20000 in
theorem gL_law_X2_isInstalled : GoodIn wsL_law (wsV RL 99 RX2 yX2_isInstalled wsX2_isInstalled) := goodIn_app (goodIn_of _ (by decide +kernel)) ggL_law_X2_isInstalled
set_option maxRecDepth 20000 in
theorem ggL_law_X2_rollBack : GoodIn wsL_law wsX2_rollBack := goodIn_ca (goodIn_r _ [333, 86, 87, 26, 155, 25, 96, 97, 98, 19, 99, 100, 156, 157, 158, 159, 160, 161, 162, 163, 164, 165, 166, 167, 168, 169, 170, 171, 33, 313, 314, 315, 316, 317, 318, 319, 320, 105, 106, 321, 61, 62, 63, 338, 339, 340, 341, 342, 343, 344, 345, 346, 347, 348] (by decide +kernel) (by decide +kernel)) (goodIn_sub (fun _ h => List.mem_append_left _ (List.mem_append_right _ h)) (by decide +kernel))
set_option maxRecDepth 20000 in
theorem gL_law_X2_rollBack : GoodIn wsL_law (wsV RL 103 RX2 yX2_rollBack wsX2_rollBack) := goodIn_app (goodIn_of _ (by decide +kernel)) ggL_law_X2_rollBack
set_option maxRecDepth 20000 in
theorem ggL_law_X2_installedLength : GoodIn wsL_law wsX2_installedLength := goodIn_r _ [337, 25, 148, 338, 339, 340, 341, 342, 343, 344, 345, 349] (by decide +kernel) (by decide +kernel)
set_option maxRecDepth 20000 in
theorem gL_law_X2_installedLength : GoodIn wsL_law (wsV RL 106 RX2 yX2_installedLength wsX2_installedLength) := goodIn_app (goodIn_of _ (by decide +kernel)) ggL_law_X2_installedLength
