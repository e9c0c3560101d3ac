set_option maxRecDepth 20000 in
theorem ggL_feed_X2_feed : GoodIn wsL_feed wsX2_feed := goodIn_ca (goodIn_ca (goodIn_r _ [7, 8, 9, 10, 11, 12, 13, 14, 15, 16, 17, 18, 19, 20, 21] (by decide +kernel) (by decide +kernel)) (goodIn_sub (fun _ h => List.mem_cons_of_mem _ (List.mem_append_left _ (List.mem_append_right _ h))) (by decide +kernel))) (goodIn_sub (fun _ h => List.mem_cons_of_mem _ (List.mem_append_right _ h)) (by decide +kernel))
set_option maxRecDepth 20000 in
theorem gL_feed_X2_feed : GoodIn wsL_feed (wsV RL 7 RX2 yX2_feed wsX2_feed) := goodIn_app (goodIn_of _ (by decide +kernel)) ggL_feed_X2_feed
theorem dL_feed_0 : decode cL_feed 0 = .ok (.aload 4, 2) := by decide +kernel
theorem dL_feed_2 : decode cL_feed 2 = .ok (.iconst 0, 1) := by decide +kernel
theorem dL_feed_3 : decode cL_feed 3 = .ok (.aload_n 0, 1) := by decide +kernel
theorem dL_feed_4 : decode cL_feed 4 = .ok (.lload_n 1, 1) := by decide +kernel
theorem dL_feed_5 : decode cL_feed 5 = .ok (.iload_n 3, 1) := by decide +kernel
theorem dL_feed_6 : decode cL_feed 6 = .ok (.invokevirtual 7, 3) := by decide +kernel
theorem dL_feed_9 : decode cL_feed 9 = .ok (.i2l, 1) := by decide +kernel
theorem dL_feed_10 : decode cL_feed 10 = .ok (.lastore, 1) := by decide +kernel
theorem dL_feed_11 : decode cL_feed 11 = .ok (.goto 11, 3) := by decide +kernel
theorem dL_feed_14 : decode cL_feed 14 = .ok (.astore 5, 2) := by decide +kernel
theorem dL_feed_16 : decode cL_feed 16 = .ok (.iconst 1, 1) := by decide +kernel
theorem dL_feed_17 : decode cL_feed 17 = .ok (.ireturn, 1) := by decide +kernel
theorem dL_feed_18 : decode cL_feed 18 = .ok (.astore 5, 2) := by decide +kernel
theorem dL_feed_20 : decode cL_feed 20 = .ok (.iconst 2, 1) := by decide +kernel
theorem dL_feed_21 : decode cL_feed 21 = .ok (.ireturn, 1) := by decide +kernel
theorem dL_feed_22 : decode cL_feed 22 = .ok (.iconst 0, 1) := by decide +kernel
theorem dL_feed_23 : decode cL_feed 23 = .ok (.ireturn, 1) := by decide +kernel
set_option maxRecDepth 20000 in
theorem ggL_store_X2_store : GoodIn wsL_store wsX2_store := goodIn_ca (goodIn_r _ [6, 7, 8, 9, 10, 11, 12, 13, 14, 15, 5, 16, 17, 18, 19, 20, 21, 22, 23, 24, 25, 26, 27, 28, 29, 30, 31, 32, 33, 34, 35, 36, 37, 38, 39, 40, 41, 42, 43, 44, 45, 46, 47, 48, 49, 50, 51, 52, 53, 54, 55, 56, 57, 58, 59, 60, 61, 62, 63, 64, 65, 66, 67, 68, 69, 70, 71, 72, 73, 74, 75, 76, 77, 78, 79, 80, 81, 82, 83, 84, 85, 86, 87, 88, 89, 90, 91, 92, 93, 94, 95, 96, 97, 98, 99, 100, 101, 102, 103, 104, 105, 106, 107] (by decide +kernel) (by decide +kernel)) (goodIn_sub (fun _ h => List.mem_cons_of_mem _ (List.mem_append_right _ h)) (by decide +kernel))
set_option maxRecDepth 20000 in
theorem gL_store_X2_store : GoodIn wsL_store (wsV RL 17 RX2 yX2_store wsX2_store) := goodIn_app (goodIn_of _ (by decide +kernel)) ggL_store_X2_store
theorem dL_store_0 : decode cL_store 0 = .ok (.aload_n 1, 1) := by decide +kernel
theorem dL_store_1 : decode cL_store 1 = .ok (.iconst 0, 1) := by decide +kernel
theorem dL_store_2 : decode cL_store 2 = .ok (.aload_n 0, 1) := by decide +kernel
theorem dL_store_3 : decode cL_store 3 = .ok (.invokevirtual 17, 3) := by decide +kernel
theorem dL_store_6 : decode cL_store 6 = .ok (.i2l, 1) := by decide +kernel
theorem dL_store_7 : decode cL_store 7 = .ok (.lastore, 1) := by decide +kernel
theorem dL_store_8 : decode cL_store 8 = .ok (.goto 6, 3) := by decide +kernel
theorem dL_store_11 : decode cL_store 11 = .ok (.astore_n 2, 1) := by decide +kernel
theorem dL_store_12 : decode cL_store 12 = .ok (.iconst 1, 1) := by decide +kernel
theorem dL_store_13 : decode cL_store 13 = .ok (.ireturn, 1) := by decide +kernel
theorem dL_store_14 : decode cL_store 14 = .ok (.iconst 0, 1) := by decide +kernel
theorem dL_store_15 : decode cL_store 15 = .ok (.ireturn, 1) := by decide +kernel
set_option maxRecDepth 20000 in
theorem ggL_length_X2_length : GoodIn wsL_length wsX2_length := goodIn_ca (goodIn_r _ [6, 7, 8, 9, 10, 5, 11, 12, 13, 14, 15, 16, 17, 18, 19, 20, 21, 22, 23, 24, 25, 26, 27, 28, 29, 30, 31, 32, 33, 34, 35, 36, 37, 38, 39, 40, 41, 42, 43, 44, 45, 46, 47, 48, 49, 50] (by decide +kernel) (by decide +kernel)) (goodIn_sub (fun _ h => List.mem_cons_of_mem _ (List.mem_append_right _ h)) (by decide +kernel))
set_option maxRecDepth 20000 in
theorem gL_length_X2_length : GoodIn wsL_length (wsV RL 21 RX2 yX2_length wsX2_length) := goodIn_app (goodIn_of _ (by decide +kernel)) ggL_length_X2_length
theorem dL_length_0 : decode cL_length 0 = .ok (.aload_n 2, 1) := by decide +kernel
theorem dL_length_1 : decode cL_length 1 = .ok (.iconst 0, 1) := by decide +kernel
theorem dL_length_2 : decode cL_length 2 = .ok (.aload_n 0, 1) := by decide +kernel
theorem dL_length_3 : decode cL_length 3 = .ok (.iload_n 1, 1) := by decide +kernel
theorem dL_length_4 : decode cL_length 4 = .ok (.invokevirtual 21, 3) := by decide +kernel
theorem dL_length_7 : decode cL_length 7 = .ok (.i2l, 1) := by decide +kernel
theorem dL_length_8 : decode cL_length 8 = .ok (.lastore, 1) := by decide +kernel
theorem dL_length_9 : decode cL_length 9 = .ok (.goto 6, 3) := by decide +kernel
theorem dL_length_12 : decode cL_length 12 = .ok (.astore_n 3, 1) := by decide +kernel
theorem dL_length_13 : decode cL_length 13 = .ok (.iconst 1, 1) := by decide +kernel
theorem dL_length_14 : decode cL_length 14 = .ok (.ireturn, 1) := by decide +kernel
theorem dL_length_15 : decode cL_length 15 = .ok (.iconst 0, 1) := by decide +kernel
theorem dL_length_16 : decode cL_length 16 = .ok (.ireturn, 1) := by decide +kernel
set_option maxRecDepth 20000 in
theorem ggL_byteAt_X2_byteAt : GoodIn wsL_byteAt wsX2_byteAt := goodIn_ca (goodIn_r _ [6, 7, 8, 9, 10, 11, 12, 5, 13, 14, 15, 16, 17, 18, 19, 20, 21, 22, 23, 24, 25, 26, 27, 28, 29, 30, 31, 32, 33, 34, 35, 36, 37, 38, 39, 40, 41, 42, 43, 44, 45, 46, 47, 48, 49, 50] (by decide +kernel) (by decide +kernel)) (goodIn_sub (fun _ h => List.mem_cons_of_mem _ (List.mem_append_right _ h)) (by decide +kernel))
set_option maxRecDepth 20000 in
theorem gL_byteAt_X2_byteAt : GoodIn wsL_byteAt (wsV RL 27 RX2 yX2_byteAt wsX2_byteAt) := goodIn_app (goodIn_of _ (by decide +kernel)) ggL_byteAt_X2_byteAt
theorem dL_byteAt_0 : decode cL_byteAt 0 = .ok (.aload_n 3, 1) := by decide +kernel
theorem dL_byteAt_1 : decode cL_byteAt 1 = .ok (.iconst 0, 1) := by decide +kernel
theorem dL_byteAt_2 : decode cL_byteAt 2 = .ok (.aload_n 0, 1) := by decide +kernel
theorem dL_byteAt_3 : decode cL_byteAt 3 = .ok (.iload_n 1, 1) := by decide +kernel
theorem dL_byteAt_4 : decode cL_byteAt 4 = .ok (.iload_n 2, 1) := by decide +kernel
theorem dL_byteAt_5 : decode cL_byteAt 5 = .ok (.invokevirtual 27, 3) := by decide +kernel
theorem dL_byteAt_8 : decode cL_byteAt 8 = .ok (.i2l, 1) := by decide +kernel
theorem dL_byteAt_9 : decode cL_byteAt 9 = .ok (.lastore, 1) := by decide +kernel
theorem dL_byteAt_10 : decode cL_byteAt 10 = .ok (.goto 7, 3) := by decide +kernel
theorem dL_byteAt_13 : decode cL_byteAt 13 = .ok (.astore 4, 2) := by decide +kernel
theorem dL_byteAt_15 : decode cL_byteAt 15 = .ok (.iconst 1, 1) := by decide +kernel
theorem dL_byteAt_16 : decode cL_byteAt 16 = .ok (.ireturn, 1) := by decide +kernel
theorem dL_byteAt_17 : decode cL_byteAt 17 = .ok (.iconst 0, 1) := by decide +kernel
theorem dL_byteAt_18 : decode cL_byteAt 18 = .ok (.ireturn, 1) := by decide +kernel
set_option maxRecDepth 20000 in
theorem ggL_areSame_X2_areSame : GoodIn wsL_areSame wsX2_areSame := goodIn_ca (goodIn_r _ [6, 7, 8, 9, 5, 10, 11, 12, 13, 14, 15, 16, 17, 18, 19, 20, 21, 22, 23, 24, 25, 26, 27, 28, 29, 30, 31, 32, 33, 34, 35, 36, 37, 38, 39, 40, 41, 42, 43, 44, 45, 46, 47, 48, 49, 50, 51, 52, 53, 54, 55, 56, 57, 58, 59] (by decide +kernel) (by decide +kernel)) (goodIn_sub (fun _ h => List.mem_cons_of_mem _ (List.mem_append_right _ h)) (by decide +kernel))
set_option maxRecDepth 20000 in
theorem gL_areSame_X2_areSame : GoodIn wsL_areSame (wsV RL 31 RX2 yX2_areSame wsX2_areSame) := goodIn_app (goodIn_of _ (by decide +kernel)) ggL_areSame_X2_areSame
theorem dL_areSame_0 : decode cL_areSame 0 = .ok (.aload_n 3, 1) := by decide +kernel
theorem dL_areSame_1 : decode cL_areSame 1 = .ok (.iconst 0, 1) := by decide +kernel
theorem dL_areSame_2 : decode cL_areSame 2 = .ok (.aload_n 0, 1) := by decide +kernel
theorem dL_areSame_3 : decode cL_areSame 3 = .ok (.iload_n 1, 1) := by decide +kernel
theorem dL_areSame_4 : decode cL_areSame 4 = .ok (.iload_n 2, 1) := by decide +kernel
theorem dL_areSame_5 : decode cL_areSame 5 = .ok (.invokevirtual 31, 3) := by decide +kernel
theorem dL_areSame_8 : decode cL_areSame 8 = .ok (.ifCond .eq 7, 3) := by decide +kernel
theorem dL_areSame_11 : decode cL_areSame 11 = .ok (.lconst 1, 1) := by decide +kernel
theorem dL_areSame_12 : decode cL_areSame 12 = .ok (.goto 4, 3) := by decide +kernel
theorem dL_areSame_15 : decode cL_areSame 15 = .ok (.lconst 0, 1) := by decide +kernel
theorem dL_areSame_16 : decode cL_areSame 16 = .ok (.lastore, 1) := by decide +kernel
theorem dL_areSame_17 : decode cL_areSame 17 = .ok (.goto 7, 3) := by decide +kernel
theorem dL_areSame_20 : decode cL_areSame 20 = .ok (.astore 4, 2) := by decide +kernel
theorem dL_areSame_22 : decode cL_areSame 22 = .ok (.iconst 1, 1) := by decide +kernel
theorem dL_areSame_23 : decode cL_areSame 23 = .ok (.ireturn, 1) := by decide +kernel
theorem dL_areSame_24 : decode cL_areSame 24 = .ok (.iconst 0, 1) := by decide +kernel
theorem dL_areSame_25 : decode cL_areSame 25 = .ok (.ireturn, 1) := by decide +kernel
set_option maxRecDepth 20000 in
theorem ggL_weakSum_X2_weakSum : GoodIn wsL_weakSum wsX2_weakSum := goodIn_ca (goodIn_ca (goodIn_r _ [7, 8, 9, 10, 11, 12, 13, 6, 14, 15, 16, 17, 18, 19, 20, 21, 22, 23, 24, 25, 26, 27, 28, 29, 30, 31, 32, 33, 34, 35, 36, 37, 38, 39, 40, 41, 42, 43, 44, 45, 46, 47, 48, 49, 50, 51, 52, 53, 54, 55, 56, 57, 58, 59] (by decide +kernel) (by decide +kernel)) (goodIn_sub (fun _ h => List.mem_cons_of_mem _ (List.mem_append_left _ (List.mem_append_right _ h))) (by decide +kernel))) (goodIn_sub (fun _ h => List.mem_cons_of_mem _ (List.mem_append_right _ h)) (by decide +kernel))
set_option maxRecDepth 20000 in
theorem gL_weakSum_X2_weakSum : GoodIn wsL_weakSum (wsV RL 35 RX2 yX2_weakSum wsX2_weakSum) := goodIn_app (goodIn_of _ (by decide +kernel)) ggL_weakSum_X2_weakSum
theorem dL_weakSum_0 : decode cL_weakSum 0 = .ok (.aload 4, 2) := by decide +kernel
theorem dL_weakSum_2 : decode cL_weakSum 2 = .ok (.iconst 0, 1) := by decide +kernel
theorem dL_weakSum_3 : decode cL_weakSum 3 = .ok (.aload_n 0, 1) := by decide +kernel
theorem dL_weakSum_4 : decode cL_weakSum 4 = .ok (.iload_n 1, 1) := by decide +kernel
theorem dL_weakSum_5 : decode cL_weakSum 5 = .ok (.iload_n 2, 1) := by decide +kernel
theorem dL_weakSum_6 : decode cL_weakSum 6 = .ok (.iload_n 3, 1) := by decide +kernel
theorem dL_weakSum_7 : decode cL_weakSum 7 = .ok (.invokevirtual 35, 3) := by decide +kernel
theorem dL_weakSum_10 : decode cL_weakSum 10 = .ok (.i2l, 1) := by decide +kernel
theorem dL_weakSum_11 : decode cL_weakSum 11 = .ok (.lastore, 1) := by decide +kernel
theorem dL_weakSum_12 : decode cL_weakSum 12 = .ok (.goto 11, 3) := by decide +kernel
theorem dL_weakSum_15 : decode cL_weakSum 15 = .ok (.astore 5, 2) := by decide +kernel
theorem dL_weakSum_17 : decode cL_weakSum 17 = .ok (.iconst 1, 1) := by decide +kernel
theorem dL_weakSum_18 : decode cL_weakSum 18 = .ok (.ireturn, 1) := by decide +kernel
theorem dL_weakSum_19 : decode cL_weakSum 19 = .ok (.astore 5, 2) := by decide +kernel
theorem dL_weakSum_21 : decode cL_weakSum 21 = .ok (.iconst 2, 1) := by decide +kernel
theorem dL_weakSum_22 : decode cL_weakSum 22 = .ok (.ireturn, 1) := by decide +kernel
theorem dL_weakSum_23 : decode cL_weakSum 23 = .ok (.iconst 0, 1) := by decide +kernel
theorem dL_weakSum_24 : decode cL_weakSum 24 = .ok (.ireturn, 1) := by decide +kernel
set_option maxRecDepth 20000 in
theorem ggL_collisions_X2_collisions : GoodIn wsL_collisions wsX2_collisions := goodIn_ca (goodIn_ca (goodIn_r _ [7, 8, 9, 10, 11, 12, 6, 13, 14, 15, 16, 17, 18, 19, 20, 21, 22, 23, 24, 25, 26, 27, 28, 29, 30, 31, 32, 33, 34, 35, 36, 37, 38, 39, 40, 41, 42, 43, 44, 45, 46, 47, 48, 49, 50, 51, 52, 53, 54, 55, 56, 57, 58, 59, 60, 61, 62, 63, 64, 65, 66, 67] (by decide +kernel) (by decide +kernel)) (goodIn_sub (fun _ h => List.mem_cons_of_mem _ (List.mem_append_left _ (List.mem_append_right _ h))) (by decide +kernel))) (goodIn_sub (fun _ h => List.mem_cons_of_mem _ (List.mem_append_right _ h)) (by decide +kernel))
set_option maxRecDepth 20000 in
theorem gL_collisions_X2_collisions : GoodIn wsL_collisions (wsV RL 39 RX2 yX2_collisions wsX2_collisions) := goodIn_app (goodIn_of _ (by decide +kernel)) ggL_collisions_X2_collisions
theorem dL_collisions_0 : decode cL_collisions 0 = .ok (.aload_n 3, 1) := by decide +kernel
theorem dL_collisions_1 : decode cL_collisions 1 = .ok (.iconst 0, 1) := by decide +kernel
theorem dL_collisions_2 : decode cL_collisions 2 = .ok (.aload_n 0, 1) := by decide +kernel
theorem dL_collisions_3 : decode cL_collisions 3 = .ok (.iload_n 1, 1) := by decide +kernel
theorem dL_collisions_4 : decode cL_collisions 4 = .ok (.iload_n 2, 1) := by decide +kernel
theorem dL_collisions_5 : decode cL_collisions 5 = .ok (.invokevirtual 39, 3) := by decide +kernel
theorem dL_collisions_8 : decode cL_collisions 8 = .ok (.i2l, 1) := by decide +kernel
theorem dL_collisions_9 : decode cL_collisions 9 = .ok (.lastore, 1) := by decide +kernel
theorem dL_collisions_10 : decode cL_collisions 10 = .ok (.goto 11, 3) := by decide +kernel
theorem dL_collisions_13 : decode cL_collisions 13 = .ok (.astore 4, 2) := by decide +kernel
theorem dL_collisions_15 : decode cL_collisions 15 = .ok (.iconst 1, 1) := by decide +kernel
theorem dL_collisions_16 : decode cL_collisions 16 = .ok (.ireturn, 1) := by decide +kernel
theorem dL_collisions_17 : decode cL_collisions 17 = .ok (.astore 4, 2) := by decide +kernel
theorem dL_collisions_19 : decode cL_collisions 19 = .ok (.iconst 2, 1) := by decide +kernel
theorem dL_collisions_20 : decode cL_collisions 20 = .ok (.ireturn, 1) := by decide +kernel
theorem dL_collisions_21 : decode cL_collisions 21 = .ok (.iconst 0, 1) := by decide +kernel
theorem dL_collisions_22 : decode cL_collisions 22 = .ok (.ireturn, 1) := by decide +kernel
set_option maxRecDepth 20000 in
theorem ggL_differentBlocks_X2_differentBlocks : GoodIn wsL_differentBlocks wsX2_differentBlocks := goodIn_ca (goodIn_ca (goodIn_r _ [7, 8, 9, 10, 11, 6, 12, 13, 14, 15, 16, 17, 18, 19, 20, 21, 22, 23, 24, 25, 26, 27, 28, 29, 30, 31, 32, 33, 34, 35, 36, 37, 38, 39, 40, 41, 42, 43, 44, 45, 46, 47, 48, 49, 50, 51, 52, 53, 54, 55, 56, 57, 58, 59, 60, 61, 62, 63, 64, 65] (by decide +kernel) (by decide +kernel)) (goodIn_sub (fun _ h => List.mem_cons_of_mem _ (List.mem_append_left _ (List.mem_append_right _ h))) (by decide +kernel))) (goodIn_sub (fun _ h => List.mem_cons_of_mem _ (List.mem_append_right _ h)) (by decide +kernel))
set_option maxRecDepth 20000 in
theorem gL_differentBlocks_X2_differentBlocks : GoodIn wsL_differentBlocks (wsV RL 42 RX2 yX2_differentBlocks wsX2_differentBlocks) := goodIn_app (goodIn_of _ (by decide +kernel)) ggL_differentBlocks_X2_differentBlocks
theorem dL_differentBlocks_0 : decode cL_differentBlocks 0 = .ok (.aload_n 3, 1) := by decide +kernel
theorem dL_differentBlocks_1 : decode cL_differentBlocks 1 = .ok (.iconst 0, 1) := by decide +kernel
theorem dL_differentBlocks_2 : decode cL_differentBlocks 2 = .ok (.aload_n 0, 1) := by decide +kernel
theorem dL_differentBlocks_3 : decode cL_differentBlocks 3 = .ok (.iload_n 1, 1) := by decide +kernel
theorem dL_differentBlocks_4 : decode cL_differentBlocks 4 = .ok (.iload_n 2, 1) := by decide +kernel
theorem dL_differentBlocks_5 : decode cL_differentBlocks 5 = .ok (.invokevirtual 42, 3) := by decide +kernel
theorem dL_differentBlocks_8 : decode cL_differentBlocks 8 = .ok (.i2l, 1) := by decide +kernel
theorem dL_differentBlocks_9 : decode cL_differentBlocks 9 = .ok (.lastore, 1) := by decide +kernel
theorem dL_differentBlocks_10 : decode cL_differentBlocks 10 = .ok (.goto 11, 3) := by decide +kernel
theorem dL_differentBlocks_13 : decode cL_differentBlocks 13 = .ok (.astore 4, 2) := by decide +kernel
theorem dL_differentBlocks_15 : decode cL_differentBlocks 15 = .ok (.iconst 1, 1) := by decide +kernel
theorem dL_differentBlocks_16 : decode cL_differentBlocks 16 = .ok (.ireturn, 1) := by decide +kernel
theorem dL_differentBlocks_17 : decode cL_differentBlocks 17 = .ok (.astore 4, 2) := by decide +kernel
theorem dL_differentBlocks_19 : decode cL_differentBlocks 19 = .ok (.iconst 2, 1) := by decide +kernel
theorem dL_differentBlocks_20 : decode cL_differentBlocks 20 = .ok (.ireturn, 1) := by decide +kernel
theorem dL_differentBlocks_21 : decode cL_differentBlocks 21 = .ok (.iconst 0, 1) := by decide +kernel
theorem dL_differentBlocks_22 : decode cL_differentBlocks 22 = .ok (.ireturn, 1) := by decide +kernel
set_option maxRecDepth 20000 in
theorem ggL_difference_X2_difference : GoodIn wsL_difference wsX2_difference := goodIn_ca (goodIn_ca (goodIn_ca (goodIn_r _ [8, 9, 10, 11, 12, 13, 14, 15, 7, 16, 17, 18, 19, 20, 21, 22, 23, 24, 25, 26, 27, 28, 29, 30, 31, 32, 33, 34, 35, 36, 37, 38, 39, 40, 41, 42, 43, 44, 45, 46, 47, 48, 49, 50, 51, 52, 53, 54, 55, 56, 57, 58, 59, 60, 61, 62, 63, 64, 65, 66, 67, 68, 69, 70, 71, 72, 73, 74, 75, 76, 77, 78, 79, 80, 81, 82, 83, 84, 85, 86, 87, 88, 89, 90, 91, 92, 93, 94, 95, 96, 97, 98, 99, 100, 101, 102, 103, 104, 105, 106, 107, 108, 109, 110, 111, 112, 113, 114, 115, 116, 117, 118, 119, 120, 121, 122, 123, 124, 125, 126, 127, 128, 129, 130, 131, 132, 133, 134, 135, 136, 137, 138, 139, 140, 141, 142, 143, 144, 145, 146, 147, 148, 149, 150, 151, 152, 153, 154, 155, 156, 157, 158, 159, 160, 161, 162, 163, 164, 165, 166, 167, 168, 169, 170, 171, 172, 173, 174, 175, 176, 177, 178, 179, 180, 181, 182, 183, 184, 185, 186] (by decide +kernel) (by decide +kernel)) (goodIn_sub (fun _ h => List.mem_cons_of_mem _ (List.mem_append_left _ (List.mem_append_left _ (List.mem_append_right _ h)))) (by decide +kernel))) (goodIn_sub (fun _ h => List.mem_cons_of_mem _ (List.mem_append_left _ (List.mem_append_right _ h))) (by decide +kernel))) (goodIn_sub (fun _ h => List.mem_cons_of_mem _ (List.mem_append_right _ h)) (by decide +kernel))
set_option maxRecDepth 20000 in
theorem gL_difference_X2_difference : GoodIn wsL_difference (wsV RL 45 RX2 yX2_difference wsX2_difference) := goodIn_app (goodIn_of _ (by decide +kernel)) ggL_difference_X2_difference
theorem dL_difference_0 : decode cL_difference 0 = .ok (.aload 4, 2) := by decide +kernel
theorem dL_difference_2 : decode cL_difference 2 = .ok (.iconst 0, 1) := by decide +kernel
theorem dL_difference_3 : decode cL_difference 3 = .ok (.aload_n 0, 1) := by decide +kernel
theorem dL_difference_4 : decode cL_difference 4 = .ok (.iload_n 1, 1) := by decide +kernel
theorem dL_difference_5 : decode cL_difference 5 = .ok (.iload_n 2, 1) := by decide +kernel
theorem dL_difference_6 : decode cL_difference 6 = .ok (.iload_n 3, 1) := by decide +kernel
theorem dL_difference_7 : decode cL_difference 7 = .ok (.invokevirtual 45, 3) := by decide +kernel
theorem dL_difference_10 : decode cL_difference 10 = .ok (.i2l, 1) := by decide +kernel
theorem dL_difference_11 : decode cL_difference 11 = .ok (.lastore, 1) := by decide +kernel
theorem dL_difference_12 : decode cL_difference 12 = .ok (.goto 15, 3) := by decide +kernel
theorem dL_difference_15 : decode cL_difference 15 = .ok (.astore 5, 2) := by decide +kernel
theorem dL_difference_17 : decode cL_difference 17 = .ok (.iconst 1, 1) := by decide +kernel
theorem dL_difference_18 : decode cL_difference 18 = .ok (.ireturn, 1) := by decide +kernel
theorem dL_difference_19 : decode cL_difference 19 = .ok (.astore 5, 2) := by decide +kernel
theorem dL_difference_21 : decode cL_difference 21 = .ok (.iconst 2, 1) := by decide +kernel
theorem dL_difference_22 : decode cL_difference 22 = .ok (.ireturn, 1) := by decide +kernel
theorem dL_difference_23 : decode cL_difference 23 = .ok (.astore 5, 2) := by decide +kernel
theorem dL_difference_25 : decode cL_difference 25 = .ok (.iconst 3, 1) := by decide +kernel
theorem dL_difference_26 : decode cL_difference 26 = .ok (.ireturn, 1) := by decide +kernel
theorem dL_difference_27 : decode cL_difference 27 = .ok (.iconst 0, 1) := by decide +kernel
theorem dL_difference_28 : decode cL_difference 28 = .ok (.ireturn, 1) := by decide +kernel
set_option maxRecDepth 20000 in
theorem ggL_compose_X2_compose : GoodIn wsL_compose wsX2_compose := goodIn_ca (goodIn_ca (goodIn_ca (goodIn_r _ [8, 9, 10, 11, 12, 13, 14, 15, 16, 17, 18, 19, 20, 21, 7, 22, 23, 24, 25, 26, 27, 28, 29, 30, 31, 32, 33, 34, 35, 36, 37, 38, 39, 40, 41, 42, 43, 44, 45, 46, 47, 48, 49, 50, 51, 52, 53, 54, 55, 56, 57, 58, 59, 60, 61, 62, 63, 64, 65, 66, 67, 68, 69, 70, 71, 72, 73, 74, 75, 76, 77, 78, 79, 80, 81, 82, 83, 84, 85, 86, 87, 88, 89, 90, 91, 92, 93, 94, 95, 96, 97, 98, 99, 100, 101, 102, 103, 104, 105, 106, 107, 108, 109, 110, 111, 112, 113, 114, 115, 116, 117, 118, 119, 120, 121, 122, 123, 124, 125, 126, 127, 128, 129, 130, 131, 132, 133, 134, 135, 136, 137, 138, 139, 140, 141, 142, 143, 144, 145, 146, 147, 148, 149, 150, 151, 152, 153, 154, 155, 156, 157, 158, 159, 160, 161, 162, 163] (by decide +kernel) (by decide +kernel)) (goodIn_sub (fun _ h => List.mem_cons_of_mem _ (List.mem_append_left _ (List.mem_append_left _ (List.mem_append_right _ h)))) (by decide +kernel))) (goodIn_sub (fun _ h => List.mem_cons_of_mem _ (List.mem_append_left _ (List.mem_append_right _ h))) (by decide +kernel))) (goodIn_sub (fun _ h => List.mem_cons_of_mem _ (List.mem_append_right _ h)) (by decide +kernel))
set_option maxRecDepth 20000 in
theorem gL_compose_X2_compose : GoodIn wsL_compose (wsV RL 48 RX2 yX2_compose wsX2_compose) := goodIn_app (goodIn_of _ (by decide +kernel)) ggL_compose_X2_compose
theorem dL_compose_0 : decode cL_compose 0 = .ok (.aload_n 3, 1) := by decide +kernel
theorem dL_compose_1 : decode cL_compose 1 = .ok (.iconst 0, 1) := by decide +kernel
theorem dL_compose_2 : decode cL_compose 2 = .ok (.aload_n 0, 1) := by decide +kernel
theorem dL_compose_3 : decode cL_compose 3 = .ok (.iload_n 1, 1) := by decide +kernel
theorem dL_compose_4 : decode cL_compose 4 = .ok (.iload_n 2, 1) := by decide +kernel
theorem dL_compose_5 : decode cL_compose 5 = .ok (.invokevirtual 48, 3) := by decide +kernel
theorem dL_compose_8 : decode cL_compose 8 = .ok (.i2l, 1) := by decide +kernel
theorem dL_compose_9 : decode cL_compose 9 = .ok (.lastore, 1) := by decide +kernel
theorem dL_compose_10 : decode cL_compose 10 = .ok (.goto 15, 3) := by decide +kernel
theorem dL_compose_13 : decode cL_compose 13 = .ok (.astore 4, 2) := by decide +kernel
theorem dL_compose_15 : decode cL_compose 15 = .ok (.iconst 1, 1) := by decide +kernel
theorem dL_compose_16 : decode cL_compose 16 = .ok (.ireturn, 1) := by decide +kernel
theorem dL_compose_17 : decode cL_compose 17 = .ok (.astore 4, 2) := by decide +kernel
theorem dL_compose_19 : decode cL_compose 19 = .ok (.iconst 2, 1) := by decide +kernel
theorem dL_compose_20 : decode cL_compose 20 = .ok (.ireturn, 1) := by decide +kernel
theorem dL_compose_21 : decode cL_compose 21 = .ok (.astore 4, 2) := by decide +kernel
theorem dL_compose_23 : decode cL_compose 23 = .ok (.iconst 3, 1) := by decide +kernel
theorem dL_compose_24 : decode cL_compose 24 = .ok (.ireturn, 1) := by decide +kernel
theorem dL_compose_25 : decode cL_compose 25 = .ok (.iconst 0, 1) := by decide +kernel
theorem dL_compose_26 : decode cL_compose 26 = .ok (.ireturn, 1) := by decide +kernel
set_option maxRecDepth 20000 in
theorem ggL_instructions_X2_instructions : GoodIn wsL_instructions wsX2_instructions := goodIn_ca (goodIn_r _ [6, 7, 8, 9, 10, 5, 11, 12, 13, 14, 15, 16, 17, 18, 19, 20, 21, 22, 23, 24, 25, 26, 27, 28, 29, 30, 31, 32, 33, 34, 35, 36, 37, 38, 39, 40, 41, 42, 43, 44, 45, 46, 47, 48, 49, 50, 51, 52, 53, 54, 55, 56] (by decide +kernel) (by decide +kernel)) (goodIn_sub (fun _ h => List.mem_cons_of_mem _ (List.mem_append_right _ h)) (by decide +kernel))
set_option maxRecDepth 20000 in
theorem gL_instructions_X2_instructions : GoodIn wsL_instructions (wsV RL 51 RX2 yX2_instructions wsX2_instructions) := goodIn_app (goodIn_of _ (by decide +kernel)) ggL_instructions_X2_instructions
theorem dL_instructions_0 : decode cL_instructions 0 = .ok (.aload_n 2, 1) := by decide +kernel
theorem dL_instructions_1 : decode cL_instructions 1 = .ok (.iconst 0, 1) := by decide +kernel
theorem dL_instructions_2 : decode cL_instructions 2 = .ok (.aload_n 0, 1) := by decide +kernel
theorem dL_instructions_3 : decode cL_instructions 3 = .ok (.iload_n 1, 1) := by decide +kernel
theorem dL_instructions_4 : decode cL_instructions 4 = .ok (.invokevirtual 51, 3) := by decide +kernel
theorem dL_instructions_7 : decode cL_instructions 7 = .ok (.i2l, 1) := by decide +kernel
theorem dL_instructions_8 : decode cL_instructions 8 = .ok (.lastore, 1) := by decide +kernel
theorem dL_instructions_9 : decode cL_instructions 9 = .ok (.goto 6, 3) := by decide +kernel
theorem dL_instructions_12 : decode cL_instructions 12 = .ok (.astore_n 3, 1) := by decide +kernel
theorem dL_instructions_13 : decode cL_instructions 13 = .ok (.iconst 1, 1) := by decide +kernel
theorem dL_instructions_14 : decode cL_instructions 14 = .ok (.ireturn, 1) := by decide +kernel
theorem dL_instructions_15 : decode cL_instructions 15 = .ok (.iconst 0, 1) := by decide +kernel
theorem dL_instructions_16 : decode cL_instructions 16 = .ok (.ireturn, 1) := by decide +kernel
set_option maxRecDepth 20000 in
theorem ggL_instruction_X2_instruction : GoodIn wsL_instruction wsX2_instruction := goodIn_ca (goodIn_r _ [6, 7, 8, 9, 10, 11, 12, 5, 13, 14, 15, 16, 17, 18, 19, 20, 21, 22, 23, 24, 25, 26, 27, 28, 29, 30, 31, 32, 33, 34, 35, 36, 37, 38, 39, 40, 41, 42, 43, 44, 45, 46, 47, 48, 49, 50, 51, 52, 53, 54, 55, 56, 57, 58, 59, 60, 61, 62, 63, 64, 65, 66, 67, 68, 69, 70, 71] (by decide +kernel) (by decide +kernel)) (goodIn_sub (fun _ h => List.mem_cons_of_mem _ (List.mem_append_right _ h)) (by decide +kernel))
set_option maxRecDepth 20000 in
theorem gL_instruction_X2_instruction : GoodIn wsL_instruction (wsV RL 54 RX2 yX2_instruction wsX2_instruction) := goodIn_app (goodIn_of _ (by decide +kernel)) ggL_instruction_X2_instruction
theorem dL_instruction_0 : decode cL_instruction 0 = .ok (.aload 4, 2) := by decide +kernel
theorem dL_instruction_2 : decode cL_instruction 2 = .ok (.iconst 0, 1) := by decide +kernel
theorem dL_instruction_3 : decode cL_instruction 3 = .ok (.aload_n 0, 1) := by decide +kernel
theorem dL_instruction_4 : decode cL_instruction 4 = .ok (.iload_n 1, 1) := by decide +kernel
theorem dL_instruction_5 : decode cL_instruction 5 = .ok (.iload_n 2, 1) := by decide +kernel
theorem dL_instruction_6 : decode cL_instruction 6 = .ok (.iload_n 3, 1) := by decide +kernel
theorem dL_instruction_7 : decode cL_instruction 7 = .ok (.invokevirtual 54, 3) := by decide +kernel
theorem dL_instruction_10 : decode cL_instruction 10 = .ok (.i2l, 1) := by decide +kernel
theorem dL_instruction_11 : decode cL_instruction 11 = .ok (.lastore, 1) := by decide +kernel
theorem dL_instruction_12 : decode cL_instruction 12 = .ok (.goto 7, 3) := by decide +kernel
theorem dL_instruction_15 : decode cL_instruction 15 = .ok (.astore 5, 2) := by decide +kernel
theorem dL_instruction_17 : decode cL_instruction 17 = .ok (.iconst 1, 1) := by decide +kernel
theorem dL_instruction_18 : decode cL_instruction 18 = .ok (.ireturn, 1) := by decide +kernel
theorem dL_instruction_19 : decode cL_instruction 19 = .ok (.iconst 0, 1) := by decide +kernel
theorem dL_instruction_20 : decode cL_instruction 20 = .ok (.ireturn, 1) := by decide +kernel
set_option maxRecDepth 20000 in
theorem ggL_cost_X2_cost : GoodIn wsL_cost wsX2_cost := goodIn_ca (goodIn_r _ [6, 7, 8, 9, 10, 5, 11, 12, 13, 14, 15, 16, 17, 18, 19, 20, 21, 22, 23, 24, 25, 26, 27, 28, 29, 30, 31, 32, 33, 34, 35, 36, 37, 38, 39, 40, 41, 42, 43, 44, 45, 46, 47, 48, 49, 50, 51, 52, 53, 54, 55, 56] (by decide +kernel) (by decide +kernel)) (goodIn_sub (fun _ h => List.mem_cons_of_mem _ (List.mem_append_right _ h)) (by decide +kernel))
set_option maxRecDepth 20000 in
theorem gL_cost_X2_cost : GoodIn wsL_cost (wsV RL 57 RX2 yX2_cost wsX2_cost) := goodIn_app (goodIn_of _ (by decide +kernel)) ggL_cost_X2_cost
theorem dL_cost_0 : decode cL_cost 0 = .ok (.aload_n 2, 1) := by decide +kernel
theorem dL_cost_1 : decode cL_cost 1 = .ok (.iconst 0, 1) := by decide +kernel
theorem dL_cost_2 : decode cL_cost 2 = .ok (.aload_n 0, 1) := by decide +kernel
theorem dL_cost_3 : decode cL_cost 3 = .ok (.iload_n 1, 1) := by decide +kernel
theorem dL_cost_4 : decode cL_cost 4 = .ok (.invokevirtual 57, 3) := by decide +kernel
theorem dL_cost_7 : decode cL_cost 7 = .ok (.i2l, 1) := by decide +kernel
theorem dL_cost_8 : decode cL_cost 8 = .ok (.lastore, 1) := by decide +kernel
theorem dL_cost_9 : decode cL_cost 9 = .ok (.goto 6, 3) := by decide +kernel
theorem dL_cost_12 : decode cL_cost 12 = .ok (.astore_n 3, 1) := by decide +kernel
theorem dL_cost_13 : decode cL_cost 13 = .ok (.iconst 1, 1) := by decide +kernel
theorem dL_cost_14 : decode cL_cost 14 = .ok (.ireturn, 1) := by decide +kernel
theorem dL_cost_15 : decode cL_cost 15 = .ok (.iconst 0, 1) := by decide +kernel
theorem dL_cost_16 : decode cL_cost 16 = .ok (.ireturn, 1) := by decide +kernel
set_option maxRecDepth 20000 in
theorem ggL_newness_X2_newness : GoodIn wsL_newness wsX2_newness := goodIn_ca (goodIn_r _ [6, 7, 8, 9, 10, 11, 5, 12, 13, 14, 15, 16, 17, 18, 19, 20, 21, 22, 23, 24, 25, 26, 27, 28, 29, 30, 31, 32, 33, 34, 35, 36, 37, 38, 39, 40, 41, 42, 43, 44, 45, 46, 47, 48, 49, 50, 51, 52, 53, 54, 55, 56, 57] (by decide +kernel) (by decide +kernel)) (goodIn_sub (fun _ h => List.mem_cons_of_mem _ (List.mem_append_right _ h)) (by decide +kernel))
set_option maxRecDepth 20000 in
theorem gL_newness_X2_newness : GoodIn wsL_newness (wsV RL 60 RX2 yX2_newness wsX2_newness) := goodIn_app (goodIn_of _ (by decide +kernel)) ggL_newness_X2_newness
theorem dL_newness_0 : decode cL_newness 0 = .ok (.aload_n 2, 1) := by decide +kernel
theorem dL_newness_1 : decode cL_newness 1 = .ok (.iconst 0, 1) := by decide +kernel
theorem dL_newness_2 : decode cL_newness 2 = .ok (.aload_n 0, 1) := by decide +kernel
theorem dL_newness_3 : decode cL_newness 3 = .ok (.iload_n 1, 1) := by decide +kernel
theorem dL_newness_4 : decode cL_newness 4 = .ok (.invokevirtual 60, 3) := by decide +kernel
theorem dL_newness_7 : decode cL_newness 7 = .ok (.dastore, 1) := by decide +kernel
theorem dL_newness_8 : decode cL_newness 8 = .ok (.goto 6, 3) := by decide +kernel
theorem dL_newness_11 : decode cL_newness 11 = .ok (.astore_n 3, 1) := by decide +kernel
theorem dL_newness_12 : decode cL_newness 12 = .ok (.iconst 1, 1) := by decide +kernel
theorem dL_newness_13 : decode cL_newness 13 = .ok (.ireturn, 1) := by decide +kernel
theorem dL_newness_14 : decode cL_newness 14 = .ok (.iconst 0, 1) := by decide +kernel
theorem dL_newness_15 : decode cL_newness 15 = .ok (.ireturn, 1) := by decide +kernel
set_option maxRecDepth 20000 in
theorem ggL_apply_X2_apply : GoodIn wsL_apply wsX2_apply := goodIn_ca (goodIn_ca (goodIn_ca (goodIn_r _ [8, 9, 10, 11, 12, 13, 14, 15, 16, 7, 17, 18, 19, 20, 21, 22, 23, 24, 25, 26, 27, 28, 29, 30, 31, 32, 33, 34, 35, 36, 37, 38, 39, 40, 41, 42, 43, 44, 45, 46, 47, 48, 49, 50, 51, 52, 53, 54, 55, 56, 57, 58, 59, 60, 61, 62, 63, 64, 65, 66, 67, 68, 69, 70, 71, 72, 73, 74, 75, 76, 77, 78, 79, 80, 81, 82, 83, 84, 85, 86, 87, 88, 89, 90, 91, 92, 93, 94, 95, 96, 97, 98, 99, 100, 101, 102, 103, 104, 105, 106, 107, 108, 109, 110, 111, 112, 113, 114, 115, 116, 117, 118, 119, 120, 121, 122, 123, 124, 125, 126, 127, 128, 129, 130, 131, 132, 133, 134, 135, 136, 137] (by decide +kernel) (by decide +kernel)) (goodIn_sub (fun _ h => List.mem_cons_of_mem _ (List.mem_append_left _ (List.mem_append_left _ (List.mem_append_right _ h)))) (by decide +kernel))) (goodIn_sub (fun _ h => List.mem_cons_of_mem _ (List.mem_append_left _ (List.mem_append_right _ h))) (by decide +kernel))) (goodIn_sub (fun _ h => List.mem_cons_of_mem _ (List.mem_append_right _ h)) (by decide +kernel))
set_option maxRecDepth 20000 in
theorem gL_apply_X2_apply : GoodIn wsL_apply (wsV RL 64 RX2 yX2_apply wsX2_apply) := goodIn_app (goodIn_of _ (by decide +kernel)) ggL_apply_X2_apply
theorem dL_apply_0 : decode cL_apply 0 = .ok (.aload_n 3, 1) := by decide +kernel
theorem dL_apply_1 : decode cL_apply 1 = .ok (.iconst 0, 1) := by decide +kernel
theorem dL_apply_2 : decode cL_apply 2 = .ok (.aload_n 0, 1) := by decide +kernel
theorem dL_apply_3 : decode cL_apply 3 = .ok (.iload_n 1, 1) := by decide +kernel
theorem dL_apply_4 : decode cL_apply 4 = .ok (.iload_n 2, 1) := by decide +kernel
theorem dL_apply_5 : decode cL_apply 5 = .ok (.invokevirtual 64, 3) := by decide +kernel
theorem dL_apply_8 : decode cL_apply 8 = .ok (.i2l, 1) := by decide +kernel
theorem dL_apply_9 : decode cL_apply 9 = .ok (.lastore, 1) := by decide +kernel
theorem dL_apply_10 : decode cL_apply 10 = .ok (.goto 15, 3) := by decide +kernel
theorem dL_apply_13 : decode cL_apply 13 = .ok (.astore 4, 2) := by decide +kernel
theorem dL_apply_15 : decode cL_apply 15 = .ok (.iconst 1, 1) := by decide +kernel
theorem dL_apply_16 : decode cL_apply 16 = .ok (.ireturn, 1) := by decide +kernel
theorem dL_apply_17 : decode cL_apply 17 = .ok (.astore 4, 2) := by decide +kernel
theorem dL_apply_19 : decode cL_apply 19 = .ok (.iconst 2, 1) := by decide +kernel
theorem dL_apply_20 : decode cL_apply 20 = .ok (.ireturn, 1) := by decide +kernel
theorem dL_apply_21 : decode cL_apply 21 = .ok (.astore 4, 2) := by decide +kernel
theorem dL_apply_23 : decode cL_apply 23 = .ok (.iconst 3, 1) := by decide +kernel
theorem dL_apply_24 : decode cL_apply 24 = .ok (.ireturn, 1) := by decide +kernel
theorem dL_apply_25 : decode cL_apply 25 = .ok (.iconst 0, 1) := by decide +kernel
theorem dL_apply_26 : decode cL_apply 26 = .ok (.ireturn, 1) := by decide +kernel
set_option maxRecDepth 20000 in
theorem ggL_steps_X2_steps : GoodIn wsL_steps wsX2_steps := goodIn_ca (goodIn_r _ [6, 7, 8, 9, 5, 10, 11, 12, 13, 14, 15, 16, 17, 18, 19, 20, 21, 22, 23, 24, 25, 26, 27, 28, 29, 30, 31, 32, 33, 34, 35, 36, 37, 38, 39, 40, 41, 42, 43, 44, 45, 46, 47, 48, 49, 50, 51, 52, 53, 54, 55, 56, 57, 58, 59, 60, 61, 62, 63, 64, 65, 66, 67, 68, 69, 70, 71, 72, 73, 74, 75, 76, 77, 78, 79, 80, 81, 82, 83, 84, 85, 86, 87, 88] (by decide +kernel) (by decide +kernel)) (goodIn_sub (fun _ h => List.mem_cons_of_mem _ (List.mem_append_right _ h)) (by decide +kernel))
set_option maxRecDepth 20000 in
theorem gL_steps_X2_steps : GoodIn wsL_steps (wsV RL 67 RX2 yX2_steps wsX2_steps) := goodIn_app (goodIn_of _ (by decide +kernel)) ggL_steps_X2_steps
theorem dL_steps_0 : decode cL_steps 0 = .ok (.aload_n 3, 1) := by decide +kernel
theorem dL_steps_1 : decode cL_steps 1 = .ok (.iconst 0, 1) := by decide +kernel
theorem dL_steps_2 : decode cL_steps 2 = .ok (.aload_n 0, 1) := by decide +kernel
theorem dL_steps_3 : decode cL_steps 3 = .ok (.iload_n 1, 1) := by decide +kernel
theorem dL_steps_4 : decode cL_steps 4 = .ok (.iload_n 2, 1) := by decide +kernel
theorem dL_steps_5 : decode cL_steps 5 = .ok (.invokevirtual 67, 3) := by decide +kernel
theorem dL_steps_8 : decode cL_steps 8 = .ok (.i2l, 1) := by decide +kernel
theorem dL_steps_9 : decode cL_steps 9 = .ok (.lastore, 1) := by decide +kernel
theorem dL_steps_10 : decode cL_steps 10 = .ok (.goto 7, 3) := by decide +kernel
theorem dL_steps_13 : decode cL_steps 13 = .ok (.astore 4, 2) := by decide +kernel
theorem dL_steps_15 : decode cL_steps 15 = .ok (.iconst 1, 1) := by decide +kernel
theorem dL_steps_16 : decode cL_steps 16 = .ok (.ireturn, 1) := by decide +kernel
theorem dL_steps_17 : decode cL_steps 17 = .ok (.iconst 0, 1) := by decide +kernel
theorem dL_steps_18 : decode cL_steps 18 = .ok (.ireturn, 1) := by decide +kernel
set_option maxRecDepth 20000 in
theorem ggL_leastCost_X2_leastCost : GoodIn wsL_leastCost wsX2_leastCost := goodIn_ca (goodIn_r _ [6, 7, 8, 9, 5, 10, 11, 12, 13, 14, 15, 16, 17, 18, 19, 20, 21, 22, 23, 24, 25, 26, 27, 28, 29, 30, 31, 32, 33, 34, 35, 36, 37, 38, 39, 40, 41, 42, 43, 44, 45, 46, 47, 48, 49, 50, 51, 52, 53, 54, 55, 56, 57, 58, 59, 60, 61, 62, 63, 64, 65, 66, 67, 68, 69, 70, 71, 72, 73, 74, 75, 76, 77, 78, 79, 80, 81, 82, 83, 84, 85, 86, 87, 88] (by decide +kernel) (by decide +kernel)) (goodIn_sub (fun _ h => List.mem_cons_of_mem _ (List.mem_append_right _ h)) (by decide +kernel))
set_option maxRecDepth 20000 in
theorem gL_leastCost_X2_leastCost : GoodIn wsL_leastCost (wsV RL 70 RX2 yX2_leastCost wsX2_leastCost) := goodIn_app (goodIn_of _ (by decide +kernel)) ggL_leastCost_X2_leastCost
theorem dL_leastCost_0 : decode cL_leastCost 0 = .ok (.aload_n 3, 1) := by decide +kernel
theorem dL_leastCost_1 : decode cL_leastCost 1 = .ok (.iconst 0, 1) := by decide +kernel
theorem dL_leastCost_2 : decode cL_leastCost 2 = .ok (.aload_n 0, 1) := by decide +kernel
theorem dL_leastCost_3 : decode cL_leastCost 3 = .ok (.iload_n 1, 1) := by decide +kernel
theorem dL_leastCost_4 : decode cL_leastCost 4 = .ok (.iload_n 2, 1) := by decide +kernel
theorem dL_leastCost_5 : decode cL_leastCost 5 = .ok (.invokevirtual 70, 3) := by decide +kernel
theorem dL_leastCost_8 : decode cL_leastCost 8 = .ok (.i2l, 1) := by decide +kernel
theorem dL_leastCost_9 : decode cL_leastCost 9 = .ok (.lastore, 1) := by decide +kernel
theorem dL_leastCost_10 : decode cL_leastCost 10 = .ok (.goto 7, 3) := by decide +kernel
theorem dL_leastCost_13 : decode cL_leastCost 13 = .ok (.astore 4, 2) := by decide +kernel
theorem dL_leastCost_15 : decode cL_leastCost 15 = .ok (.iconst 1, 1) := by decide +kernel
theorem dL_leastCost_16 : decode cL_leastCost 16 = .ok (.ireturn, 1) := by decide +kernel
theorem dL_leastCost_17 : decode cL_leastCost 17 = .ok (.iconst 0, 1) := by decide +kernel
theorem dL_leastCost_18 : decode cL_leastCost 18 = .ok (.ireturn, 1) := by decide +kernel
set_option maxRecDepth 20000 in
theorem ggL_installVersion_X2_installVersion : GoodIn wsL_installVersion wsX2_installVersion := goodIn_ca (goodIn_r _ [6, 7, 8, 9, 5, 10, 11, 12, 13, 14, 15, 16, 17, 18, 19, 20, 21, 22, 23, 24, 25, 26, 27, 28, 29, 30, 31, 32, 33, 34, 35, 36, 37, 38, 39, 40, 41, 42, 43, 44, 45, 46, 47, 48, 49, 50, 51, 52, 53, 54, 55, 56, 57, 58, 59, 60, 61, 62, 63, 64, 65, 66, 67, 68, 69, 70, 71, 72, 73, 74, 75, 76, 77, 78, 79, 80, 81, 82, 83, 84, 85, 86, 87, 88, 89, 90, 91, 92, 93, 94, 95, 96, 97, 98, 99, 100, 101, 102, 103, 104, 105, 106, 107, 108, 109, 110, 111, 112, 113, 114, 115, 116] (by decide +kernel) (by decide +kernel)) (goodIn_sub (fun _ h => List.mem_cons_of_mem _ (List.mem_append_right _ h)) (by decide +kernel))
set_option maxRecDepth 20000 in
theorem gL_installVersion_X2_installVersion : GoodIn wsL_installVersion (wsV RL 73 RX2 yX2_installVersion wsX2_installVersion) := goodIn_app (goodIn_of _ (by decide +kernel)) ggL_installVersion_X2_installVersion
theorem dL_installVersion_0 : decode cL_installVersion 0 = .ok (.aload_n 2, 1) := by decide +kernel
theorem dL_installVersion_1 : decode cL_installVersion 1 = .ok (.iconst 0, 1) := by decide +kernel
theorem dL_installVersion_2 : decode cL_installVersion 2 = .ok (.aload_n 0, 1) := by decide +kernel
theorem dL_installVersion_3 : decode cL_installVersion 3 = .ok (.iload_n 1, 1) := by decide +kernel
theorem dL_installVersion_4 : decode cL_installVersion 4 = .ok (.invokevirtual 73, 3) := by decide +kernel
theorem dL_installVersion_7 : decode cL_installVersion 7 = .ok (.i2l, 1) := by decide +kernel
theorem dL_installVersion_8 : decode cL_installVersion 8 = .ok (.lastore, 1) := by decide +kernel
theorem dL_installVersion_9 : decode cL_installVersion 9 = .ok (.goto 6, 3) := by decide +kernel
theorem dL_installVersion_12 : decode cL_installVersion 12 = .ok (.astore_n 3, 1) := by decide +kernel
theorem dL_installVersion_13 : decode cL_installVersion 13 = .ok (.iconst 1, 1) := by decide +kernel
theorem dL_installVersion_14 : decode cL_installVersion 14 = .ok (.ireturn, 1) := by decide +kernel
theorem dL_installVersion_15 : decode cL_installVersion 15 = .ok (.iconst 0, 1) := by decide +kernel
theorem dL_installVersion_16 : decode cL_installVersion 16 = .ok (.ireturn, 1) := by decide +kernel
set_option maxRecDepth 20000 in
theorem ggL_installPatch_X2_installPatch : GoodIn wsL_installPatch wsX2_installPatch := goodIn_ca (goodIn_ca (goodIn_r _ [7, 8, 9, 10, 11, 12, 13, 14, 15, 6, 16, 17, 18, 19, 20, 21, 22, 23, 24, 25, 26, 27, 28, 29, 30, 31, 32, 33, 34, 35, 36, 37, 38, 39, 40, 41, 42, 43, 44, 45, 46, 47, 48, 49, 50, 51, 52, 53, 54, 55, 56, 57, 58, 59, 60, 61, 62, 63, 64, 65, 66, 67, 68, 69, 70, 71, 72, 73, 74, 75, 76, 77, 78, 79, 80, 81, 82, 83, 84, 85, 86, 87, 88, 89, 90, 91, 92, 93, 94, 95, 96, 97, 98, 99, 100, 101, 102, 103, 104, 105, 106, 107, 108, 109, 110, 111, 112, 113, 114, 115, 116, 117, 118, 119, 120, 121, 122, 123, 124, 125, 126, 127, 128, 129, 130, 131, 132, 133, 134, 135, 136, 137, 138, 139, 140, 141, 142, 143, 144, 145] (by decide +kernel) (by decide +kernel)) (goodIn_sub (fun _ h => List.mem_cons_of_mem _ (List.mem_append_left _ (List.mem_append_right _ h))) (by decide +kernel))) (goodIn_sub (fun _ h => List.mem_cons_of_mem _ (List.mem_append_right _ h)) (by decide +kernel))
set_option maxRecDepth 20000 in
theorem gL_installPatch_X2_installPatch : GoodIn wsL_installPatch (wsV RL 76 RX2 yX2_installPatch wsX2_installPatch) := goodIn_app (goodIn_of _ (by decide +kernel)) ggL_installPatch_X2_installPatch
theorem dL_installPatch_0 : decode cL_installPatch 0 = .ok (.aload_n 2, 1) := by decide +kernel
theorem dL_installPatch_1 : decode cL_installPatch 1 = .ok (.iconst 0, 1) := by decide +kernel
theorem dL_installPatch_2 : decode cL_installPatch 2 = .ok (.aload_n 0, 1) := by decide +kernel
theorem dL_installPatch_3 : decode cL_installPatch 3 = .ok (.iload_n 1, 1) := by decide +kernel
theorem dL_installPatch_4 : decode cL_installPatch 4 = .ok (.invokevirtual 76, 3) := by decide +kernel
theorem dL_installPatch_7 : decode cL_installPatch 7 = .ok (.i2l, 1) := by decide +kernel
theorem dL_installPatch_8 : decode cL_installPatch 8 = .ok (.lastore, 1) := by decide +kernel
theorem dL_installPatch_9 : decode cL_installPatch 9 = .ok (.goto 9, 3) := by decide +kernel
theorem dL_installPatch_12 : decode cL_installPatch 12 = .ok (.astore_n 3, 1) := by decide +kernel
theorem dL_installPatch_13 : decode cL_installPatch 13 = .ok (.iconst 1, 1) := by decide +kernel
theorem dL_installPatch_14 : decode cL_installPatch 14 = .ok (.ireturn, 1) := by decide +kernel
theorem dL_installPatch_15 : decode cL_installPatch 15 = .ok (.astore_n 3, 1) := by decide +kernel
theorem dL_installPatch_16 : decode cL_installPatch 16 = .ok (.iconst 2, 1) := by decide +kernel
theorem dL_installPatch_17 : decode cL_installPatch 17 = .ok (.ireturn, 1) := by decide +kernel
theorem dL_installPatch_18 : decode cL_installPatch 18 = .ok (.iconst 0, 1) := by decide +kernel
theorem dL_installPatch_19 : decode cL_installPatch 19 = .ok (.ireturn, 1) := by decide +kernel
set_option maxRecDepth 20000 in
theorem ggL_rollBack_X2_rollBack : GoodIn wsL_rollBack wsX2_rollBack := goodIn_ca (goodIn_r _ [6, 7, 8, 9, 10, 11, 12, 13, 14, 15, 16, 17, 18, 19, 20, 21, 22, 23, 24, 25, 26, 27, 28, 29, 30, 31, 32, 33, 34, 35, 36, 37, 38, 39, 40, 41, 42, 43, 44, 45, 46, 47, 48, 49, 50, 51, 52, 53, 54, 55, 56, 57, 58, 59] (by decide +kernel) (by decide +kernel)) (goodIn_sub (fun _ h => List.mem_cons_of_mem _ (List.mem_append_right _ h)) (by decide +kernel))
set_option maxRecDepth 20000 in
theorem gL_rollBack_X2_rollBack : GoodIn wsL_rollBack (wsV RL 79 RX2 yX2_rollBack wsX2_rollBack) := goodIn_app (goodIn_of _ (by decide +kernel)) ggL_rollBack_X2_rollBack
theorem dL_rollBack_0 : decode cL_rollBack 0 = .ok (.aload_n 1, 1) := by decide +kernel
theorem dL_rollBack_1 : decode cL_rollBack 1 = .ok (.iconst 0, 1) := by decide +kernel
theorem dL_rollBack_2 : decode cL_rollBack 2 = .ok (.aload_n 0, 1) := by decide +kernel
theorem dL_rollBack_3 : decode cL_rollBack 3 = .ok (.invokevirtual 79, 3) := by decide +kernel
theorem dL_rollBack_6 : decode cL_rollBack 6 = .ok (.i2l, 1) := by decide +kernel
theorem dL_rollBack_7 : decode cL_rollBack 7 = .ok (.lastore, 1) := by decide +kernel
theorem dL_rollBack_8 : decode cL_rollBack 8 = .ok (.goto 6, 3) := by decide +kernel
theorem dL_rollBack_11 : decode cL_rollBack 11 = .ok (.astore_n 2, 1) := by decide +kernel
theorem dL_rollBack_12 : decode cL_rollBack 12 = .ok (.iconst 1, 1) := by decide +kernel
theorem dL_rollBack_13 : decode cL_rollBack 13 = .ok (.ireturn, 1) := by decide +kernel
theorem dL_rollBack_14 : decode cL_rollBack 14 = .ok (.iconst 0, 1) := by decide +kernel
theorem dL_rollBack_15 : decode cL_rollBack 15 = .ok (.ireturn, 1) := by decide +kernel
set_option maxRecDepth 20000 in
theorem ggL_isInstalled_X2_isInstalled : GoodIn wsL_isInstalled wsX2_isInstalled := goodIn_ca (goodIn_r _ [6, 7, 8, 9, 10, 5, 11, 12, 13, 14, 15, 16, 17, 18, 19, 20, 21, 22, 23, 24, 25, 26, 27, 28, 29, 30, 31, 32, 33, 34, 35, 36, 37, 38, 39, 40, 41, 42, 43, 44, 45, 46, 47, 48, 49, 50, 51, 52, 53, 54, 55, 56, 57, 58, 59, 60] (by decide +kernel) (by decide +kernel)) (goodIn_sub (fun _ h => List.mem_cons_of_mem _ (List.mem_append_right _ h)) (by decide +kernel))
set_option maxRecDepth 20000 in
theorem gL_isInstalled_X2_isInstalled : GoodIn wsL_isInstalled (wsV RL 82 RX2 yX2_isInstalled wsX2_isInstalled) := goodIn_app (goodIn_of _ (by decide +kernel)) ggL_isInstalled_X2_isInstalled
theorem dL_isInstalled_0 : decode cL_isInstalled 0 = .ok (.aload_n 2, 1) := by decide +kernel
theorem dL_isInstalled_1 : decode cL_isInstalled 1 = .ok (.iconst 0, 1) := by decide +kernel
theorem dL_isInstalled_2 : decode cL_isInstalled 2 = .ok (.aload_n 0, 1) := by decide +kernel
theorem dL_isInstalled_3 : decode cL_isInstalled 3 = .ok (.iload_n 1, 1) := by decide +kernel
theorem dL_isInstalled_4 : decode cL_isInstalled 4 = .ok (.invokevirtual 82, 3) := by decide +kernel
theorem dL_isInstalled_7 : decode cL_isInstalled 7 = .ok (.ifCond .eq 7, 3) := by decide +kernel
theorem dL_isInstalled_10 : decode cL_isInstalled 10 = .ok (.lconst 1, 1) := by decide +kernel
theorem dL_isInstalled_11 : decode cL_isInstalled 11 = .ok (.goto 4, 3) := by decide +kernel
theorem dL_isInstalled_14 : decode cL_isInstalled 14 = .ok (.lconst 0, 1) := by decide +kernel
theorem dL_isInstalled_15 : decode cL_isInstalled 15 = .ok (.lastore, 1) := by decide +kernel
theorem dL_isInstalled_16 : decode cL_isInstalled 16 = .ok (.goto 6, 3) := by decide +kernel
theorem dL_isInstalled_19 : decode cL_isInstalled 19 = .ok (.astore_n 3, 1) := by decide +kernel
theorem dL_isInstalled_20 : decode cL_isInstalled 20 = .ok (.iconst 1, 1) := by decide +kernel
theorem dL_isInstalled_21 : decode cL_isInstalled 21 = .ok (.ireturn, 1) := by decide +kernel
theorem dL_isInstalled_22 : decode cL_isInstalled 22 = .ok (.iconst 0, 1) := by decide +kernel
theorem dL_isInstalled_23 : decode cL_isInstalled 23 = .ok (.ireturn, 1) := by decide +kernel
set_option maxRecDepth 20000 in
theorem ggL_law_X2_init : GoodIn wsL_law wsX2_init := goodIn_r _ [11, 12, 13, 14, 15, 16, 17, 18, 19, 20, 21, 22, 23, 24, 25, 26, 27, 28, 29, 30, 31, 32, 33, 34, 35, 36, 37, 38, 39, 40, 41, 42, 43, 44, 45, 46, 47, 48, 49, 50, 51, 52, 53, 54, 55, 56, 57, 58, 59, 60, 61, 62, 63, 64, 65, 66, 67, 621, 622, 623, 624, 625, 626, 627, 628, 641, 642, 643, 644] (by decide +kernel) (by decide +kernel)
set_option maxRecDepth 20000 in
theorem gL_law_X2_init : GoodIn wsL_law (wsX2_init) := ggL_law_X2_init
set_option maxRecDepth 20000 in
theorem ggL_law_X3_init : GoodIn wsL_law wsX3_init := goodIn_r _ [70, 71, 13, 14, 15, 72, 73, 74, 75, 76, 77, 78, 79, 629, 630, 631, 632, 633, 634, 635, 636, 637, 638, 639, 640] (by decide +kernel) (by decide +kernel)
set_option maxRecDepth 20000 in
theorem gL_law_X3_init : GoodIn wsL_law (wsX3_init) := ggL_law_X3_init
set_option maxRecDepth 20000 in
theorem ggL_law_L_feed : GoodIn wsL_law wsL_feed := goodIn_ca (goodIn_ca (goodIn_r _ [83, 84, 85, 86, 87, 88, 2, 89, 90, 91, 92, 93, 17, 16, 621, 622, 623, 624, 625, 626, 627, 628] (by decide +kernel) (by decide +kernel)) (goodIn_sub (fun _ h => List.mem_append_left _ (List.mem_append_left _ (List.mem_append_right _ h))) (by decide +kernel))) (goodIn_sub (fun _ h => List.mem_append_left _ (List.mem_append_right _ h)) (by decide +kernel))
set_option maxRecDepth 20000 in
theorem gL_law_L_feed : GoodIn wsL_law (va_wsS RL 92 yL_feed wsL_feed) := goodIn_app (goodIn_of _ (by decide +kernel)) ggL_law_L_feed
set_option maxRecDepth 20000 in
theorem ggL_law_X3_feed : GoodIn wsL_law wsX3_feed := goodIn_r _ [97, 98, 99, 72, 100, 101, 102, 5, 103, 104, 105, 106, 107, 629, 630, 631, 632, 633, 634, 635, 636, 637, 638, 639, 640] (by decide +kernel) (by decide +kernel)
set_option maxRecDepth 20000 in
theorem gL_law_X3_feed : GoodIn wsL_law (wsV RL 97 RX3 yX3_feed wsX3_feed) := goodIn_app (goodIn_of _ (by decide +kernel)) ggL_law_X3_feed
set_option maxRecDepth 20000 in
theorem ggL_law_X3_thrown : GoodIn wsL_law wsX3_thrown := goodIn_r _ [111, 98, 629, 630, 631, 632, 633, 634, 635, 636, 637, 638, 639, 640] (by decide +kernel) (by decide +kernel)
set_option maxRecDepth 20000 in
theorem gL_law_X3_thrown : GoodIn wsL_law (wsV RL 98 RX3 yX3_thrown wsX3_thrown) := goodIn_app (goodIn_of _ (by decide +kernel)) ggL_law_X3_thrown
set_option maxRecDepth 20000 in
theorem ggL_law_L_store : GoodIn wsL_law wsL_store := goodIn_ca (goodIn_r _ [114, 85, 115, 116, 117, 2, 118, 21, 23, 24, 25, 16, 17, 119, 120, 121, 122, 92, 93, 123, 124, 125, 20, 126, 127, 45, 46, 47, 48, 13, 14, 49, 50, 51, 52, 53, 54, 55, 56, 57, 58, 59, 15, 60, 61, 62, 63, 64, 65, 66, 67, 128, 129, 130, 131, 132, 133, 34, 134, 135, 136, 137, 138, 139, 140, 141, 142, 143, 144, 145, 33, 146, 147, 148, 149, 150, 151, 152, 153, 154, 155, 156, 157, 158, 159, 160, 161, 162, 163, 164, 165, 166, 167, 168, 169, 170, 621, 622, 623, 624, 625, 626, 627, 628, 644, 641, 642, 643] (by decide +kernel) (by decide +kernel)) (goodIn_sub (fun _ h => List.mem_append_left _ (List.mem_append_right _ h)) (by decide +kernel))
set_option maxRecDepth 20000 in
theorem gL_law_L_store : GoodIn wsL_law (va_wsS RL 101 yL_store wsL_store) := goodIn_app (goodIn_of _ (by decide +kernel)) ggL_law_L_store
set_option maxRecDepth 20000 in
theorem ggL_law_X3_store : GoodIn wsL_law wsX3_store := goodIn_r _ [174, 98, 175, 99, 15, 72, 176, 65, 66, 67, 104, 105, 106, 5, 107, 177, 178, 179, 180, 74, 629, 630, 631, 632, 633, 634, 635, 636, 637, 638, 639, 640] (by decide +kernel) (by decide +kernel)
set_option maxRecDepth 20000 in
theorem gL_law_X3_store : GoodIn wsL_law (wsV RL 104 RX3 yX3_store wsX3_store) := goodIn_app (goodIn_of _ (by decide +kernel)) ggL_law_X3_store
set_option maxRecDepth 20000 in
theorem ggL_law_X2_versions : GoodIn wsL_law wsX2_versions := goodIn_r _ [184, 21, 123, 124, 125, 20, 126, 127, 621, 622, 623, 624, 625, 626, 627, 628, 641, 642, 643] (by decide +kernel) (by decide +kernel)
set_option maxRecDepth 20000 in
theorem gL_law_X2_versions : GoodIn wsL_law (wsV RL 105 RX2 yX2_versions wsX2_versions) := goodIn_app (goodIn_of _ (by decide +kernel)) ggL_law_X2_versions
set_option maxRecDepth 20000 in
theorem ggL_law_X3_versions : GoodIn wsL_law wsX3_versions := goodIn_r _ [188, 98, 175, 629, 630, 631, 632, 633, 634, 635, 636, 637, 638, 639, 640] (by decide +kernel) (by decide +kernel)
set_option maxRecDepth 20000 in
theorem gL_law_X3_versions : GoodIn wsL_law (wsV RL 108 RX3 yX3_versions wsX3_versions) := goodIn_app (goodIn_of _ (by decide +kernel)) ggL_law_X3_versions
set_option maxRecDepth 20000 in
theorem ggL_law_L_length : GoodIn wsL_law wsL_length := goodIn_ca (goodIn_r _ [191, 192, 193, 194, 195, 2, 196, 197, 198, 199, 200, 201, 202, 203, 21, 204, 123, 124, 125, 20, 126, 127, 205, 206, 207, 208, 209, 210, 211, 212, 213, 214, 215, 216, 217, 218, 219, 220, 34, 644, 621, 622, 623, 624, 625, 626, 627, 628, 641, 642, 643] (by decide +kernel) (by decide +kernel)) (goodIn_sub (fun _ h => List.mem_append_right _ h) (by decide +kernel))
set_option maxRecDepth 20000 in
theorem gL_law_L_length : GoodIn wsL_law (va_wsS RL 109 yL_length wsL_length) := goodIn_app (goodIn_of _ (by decide +kernel)) ggL_law_L_length
set_option maxRecDepth 20000 in
theorem ggL_law_X3_length : GoodIn wsL_law wsX3_length := goodIn_r _ [224, 98, 74, 225, 226, 227, 5, 228, 175, 101, 102, 103, 104, 105, 106, 107, 629, 630, 631, 632, 633, 634, 635, 636, 637, 638, 639, 640] (by decide +kernel) (by decide +kernel)
set_option maxRecDepth 20000 in
theorem gL_law_X3_length : GoodIn wsL_law (wsV RL 112 RX3 yX3_length wsX3_length) := goodIn_app (goodIn_of _ (by decide +kernel)) ggL_law_X3_length
set_option maxRecDepth 20000 in
theorem ggL_law_L_byteAt : GoodIn wsL_law wsL_byteAt := goodIn_ca (goodIn_r _ [231, 192, 232, 233, 234, 2, 235, 202, 203, 197, 198, 199, 200, 201, 21, 204, 123, 124, 125, 20, 126, 127, 205, 206, 207, 208, 209, 210, 211, 212, 213, 214, 215, 216, 217, 218, 219, 220, 34, 644, 621, 622, 623, 624, 625, 626, 627, 628, 641, 642, 643] (by decide +kernel) (by decide +kernel)) (goodIn_sub (fun _ h => List.mem_append_right _ h) (by decide +kernel))
set_option maxRecDepth 20000 in
theorem gL_law_L_byteAt : GoodIn wsL_law (va_wsS RL 113 yL_byteAt wsL_byteAt) := goodIn_app (goodIn_of _ (by decide +kernel)) ggL_law_L_byteAt
set_option maxRecDepth 20000 in
theorem ggL_law_X3_byteAt : GoodIn wsL_law wsX3_byteAt := goodIn_r _ [239, 98, 74, 225, 226, 227, 5, 228, 175, 101, 102, 103, 104, 105, 106, 107, 629, 630, 631, 632, 633, 634, 635, 636, 637, 638, 639, 640] (by decide +kernel) (by decide +kernel)
set_option maxRecDepth 20000 in
theorem gL_law_X3_byteAt : GoodIn wsL_law (wsV RL 116 RX3 yX3_byteAt wsX3_byteAt) := goodIn_app (goodIn_of _ (by decide +kernel)) ggL_law_X3_byteAt
set_option maxRecDepth 20000 in
theorem ggL_law_L_areSame : GoodIn wsL_law wsL_areSame := goodIn_ca (goodIn_r _ [242, 192, 243, 244, 245, 2, 246, 198, 199, 200, 201, 202, 203, 21, 204, 123, 124, 125, 20, 126, 127, 205, 206, 207, 208, 209, 210, 211, 212, 213, 214, 215, 216, 217, 218, 219, 220, 34, 247, 248, 249, 25, 250, 49, 251, 252, 253, 254, 621, 622, 623, 624, 625, 626, 627, 628, 641, 642, 643, 644] (by decide +kernel) (by decide +kernel)) (goodIn_sub (fun _ h => List.mem_append_right _ h) (by decide +kernel))
set_option maxRecDepth 20000 in
theorem gL_law_L_areSame : GoodIn wsL_law (va_wsS RL 117 yL_areSame wsL_areSame) := goodIn_app (goodIn_of _ (by decide +kernel)) ggL_law_L_areSame
set_option maxRecDepth 20000 in
theorem ggL_law_X3_areSame : GoodIn wsL_law wsX3_areSame := goodIn_r _ [258, 98, 74, 225, 226, 227, 5, 228, 175, 101, 102, 103, 259, 260, 261, 629, 630, 631, 632, 633, 634, 635, 636, 637, 638, 639, 640] (by decide +kernel) (by decide +kernel)
set_option maxRecDepth 20000 in
theorem gL_law_X3_areSame : GoodIn wsL_law (wsV RL 119 RX3 yX3_areSame wsX3_areSame) := goodIn_app (goodIn_of _ (by decide +kernel)) ggL_law_X3_areSame
set_option maxRecDepth 20000 in
theorem ggL_law_L_weakSum : GoodIn wsL_law wsL_weakSum := goodIn_ca (goodIn_ca (goodIn_r _ [264, 192, 84, 265, 266, 267, 2, 268, 90, 91, 197, 198, 199, 200, 201, 202, 203, 21, 204, 123, 124, 125, 20, 126, 127, 205, 206, 207, 208, 209, 210, 211, 212, 213, 214, 215, 216, 217, 218, 219, 220, 34, 269, 270, 271, 25, 272, 49, 644, 621, 622, 623, 624, 625, 626, 627, 628, 641, 642, 643] (by decide +kernel) (by decide +kernel)) (goodIn_sub (fun _ h => List.mem_append_left _ (List.mem_append_left _ (List.mem_append_right _ h))) (by decide +kernel))) (goodIn_sub (fun _ h => List.mem_append_right _ h) (by decide +kernel))
set_option maxRecDepth 20000 in
theorem gL_law_L_weakSum : GoodIn wsL_law (va_wsS RL 120 yL_weakSum wsL_weakSum) := goodIn_app (goodIn_of _ (by decide +kernel)) ggL_law_L_weakSum
set_option maxRecDepth 20000 in
theorem ggL_law_X3_weakSum : GoodIn wsL_law wsX3_weakSum := goodIn_r _ [276, 98, 74, 225, 226, 227, 5, 228, 175, 101, 102, 103, 104, 105, 106, 107, 277, 278, 279, 629, 630, 631, 632, 633, 634, 635, 636, 637, 638, 639, 640] (by decide +kernel) (by decide +kernel)
set_option maxRecDepth 20000 in
theorem gL_law_X3_weakSum : GoodIn wsL_law (wsV RL 123 RX3 yX3_weakSum wsX3_weakSum) := goodIn_app (goodIn_of _ (by decide +kernel)) ggL_law_X3_weakSum
set_option maxRecDepth 20000 in
theorem ggL_law_L_collisions : GoodIn wsL_law wsL_collisions := goodIn_ca (goodIn_ca (goodIn_r _ [282, 192, 84, 283, 284, 285, 2, 286, 197, 28, 198, 199, 200, 201, 202, 203, 21, 204, 123, 124, 125, 20, 126, 127, 205, 206, 207, 208, 209, 210, 211, 212, 213, 214, 215, 216, 217, 218, 219, 220, 34, 287, 288, 289, 90, 91, 269, 270, 271, 25, 272, 49, 290, 252, 253, 254, 644, 621, 622, 623, 624, 625, 626, 627, 628, 641, 642, 643] (by decide +kernel) (by decide +kernel)) (goodIn_sub (fun _ h => List.mem_append_right _ h) (by decide +kernel))) (goodIn_sub (fun _ h => List.mem_append_left _ (List.mem_append_left _ (List.mem_append_right _ h))) (by decide +kernel))
set_option maxRecDepth 20000 in
theorem gL_law_L_collisions : GoodIn wsL_law (va_wsS RL 124 yL_collisions wsL_collisions) := goodIn_app (goodIn_of _ (by decide +kernel)) ggL_law_L_collisions
set_option maxRecDepth 20000 in
theorem ggL_law_X3_collisions : GoodIn wsL_law wsX3_collisions := goodIn_r _ [294, 98, 74, 15, 225, 226, 227, 5, 228, 175, 101, 102, 103, 104, 105, 106, 107, 295, 296, 297, 277, 278, 279, 298, 299, 300, 629, 630, 631, 632, 633, 634, 635, 636, 637, 638, 639, 640] (by decide +kernel) (by decide +kernel)
set_option maxRecDepth 20000 in
theorem gL_law_X3_collisions : GoodIn wsL_law (wsV RL 126 RX3 yX3_collisions wsX3_collisions) := goodIn_app (goodIn_of _ (by decide +kernel)) ggL_law_X3_collisions
set_option maxRecDepth 20000 in
theorem ggL_law_L_differentBlocks : GoodIn wsL_law wsL_differentBlocks := goodIn_ca (goodIn_ca (goodIn_r _ [303, 192, 84, 304, 305, 306, 2, 307, 197, 198, 199, 200, 201, 202, 203, 21, 204, 123, 124, 125, 20, 126, 127, 205, 206, 207, 208, 209, 210, 211, 212, 213, 214, 215, 216, 217, 218, 219, 220, 34, 287, 288, 289, 90, 91, 308, 309, 310, 290, 252, 253, 25, 254, 49, 644, 621, 622, 623, 624, 625, 626, 627, 628, 641, 642, 643] (by decide +kernel) (by decide +kernel)) (goodIn_sub (fun _ h => List.mem_append_right _ h) (by decide +kernel))) (goodIn_sub (fun _ h => List.mem_append_left _ (List.mem_append_left _ (List.mem_append_right _ h))) (by decide +kernel))
set_option maxRecDepth 20000 in
theorem gL_law_L_differentBlocks : GoodIn wsL_law (va_wsS RL 127 yL_differentBlocks wsL_differentBlocks) := goodIn_app (goodIn_of _ (by decide +kernel)) ggL_law_L_differentBlocks
set_option maxRecDepth 20000 in
theorem ggL_law_X3_differentBlocks : GoodIn wsL_law wsX3_differentBlocks := goodIn_r _ [314, 98, 74, 225, 226, 227, 5, 228, 175, 101, 102, 103, 104, 105, 106, 107, 295, 296, 297, 315, 316, 317, 298, 299, 300, 629, 630, 631, 632, 633, 634, 635, 636, 637, 638, 639, 640] (by decide +kernel) (by decide +kernel)
set_option maxRecDepth 20000 in
theorem gL_law_X3_differentBlocks : GoodIn wsL_law (wsV RL 129 RX3 yX3_differentBlocks wsX3_differentBlocks) := goodIn_app (goodIn_of _ (by decide +kernel)) ggL_law_X3_differentBlocks
set_option maxRecDepth 20000 in
theorem ggL_law_L_difference : GoodIn wsL_law wsL_difference := goodIn_ca (goodIn_ca (goodIn_ca (goodIn_r _ [320, 192, 84, 85, 321, 322, 323, 2, 324, 22, 325, 326, 327, 198, 199, 200, 201, 202, 203, 21, 204, 123, 124, 125, 20, 126, 127, 205, 206, 207, 208, 209, 210, 211, 212, 213, 214, 215, 216, 217, 218, 219, 220, 34, 287, 288, 289, 90, 91, 328, 329, 330, 331, 92, 93, 332, 333, 334, 197, 15, 335, 336, 337, 290, 252, 253, 25, 254, 49, 308, 309, 310, 338, 339, 340, 341, 247, 248, 249, 250, 251, 342, 343, 344, 345, 13, 14, 346, 347, 348, 349, 350, 351, 352, 353, 354, 355, 356, 357, 358, 359, 51, 52, 53, 54, 55, 56, 57, 58, 59, 60, 61, 62, 63, 64, 65, 66, 67, 360, 361, 362, 363, 364, 365, 128, 129, 130, 131, 132, 133, 134, 135, 136, 137, 138, 139, 140, 141, 142, 143, 144, 145, 33, 146, 147, 148, 149, 150, 151, 152, 153, 154, 155, 156, 157, 158, 159, 160, 161, 162, 163, 164, 165, 166, 167, 168, 169, 170, 621, 622, 623, 624, 625, 626, 627, 628, 645, 646, 647, 648, 649, 650, 651, 641, 642, 643, 644] (by decide +kernel) (by decide +kernel)) (goodIn_sub (fun _ h => List.mem_append_right _ h) (by decide +kernel))) (goodIn_sub (fun _ h => List.mem_append_left _ (List.mem_append_left _ (List.mem_append_right _ h))) (by decide +kernel))) (goodIn_sub (fun _ h => List.mem_append_left _ (List.mem_append_right _ h)) (by decide +kernel))
set_option maxRecDepth 20000 in
theorem gL_law_L_difference : GoodIn wsL_law (va_wsS RL 130 yL_difference wsL_difference) := goodIn_app (goodIn_of _ (by decide +kernel)) ggL_law_L_difference
set_option maxRecDepth 20000 in
theorem ggL_law_X3_difference : GoodIn wsL_law wsX3_difference := goodIn_r _ [369, 98, 370, 74, 15, 225, 226, 227, 5, 228, 175, 101, 102, 103, 104, 105, 106, 107, 295, 296, 297, 298, 299, 300, 315, 316, 317, 371, 372, 373, 374, 75, 76, 77, 629, 630, 631, 632, 633, 634, 635, 636, 637, 638, 639, 640] (by decide +kernel) (by decide +kernel)
set_option maxRecDepth 20000 in
theorem gL_law_X3_difference : GoodIn wsL_law (wsV RL 132 RX3 yX3_difference wsX3_difference) := goodIn_app (goodIn_of _ (by decide +kernel)) ggL_law_X3_difference
set_option maxRecDepth 20000 in
theorem ggL_law_L_compose : GoodIn wsL_law wsL_compose := goodIn_ca (goodIn_ca (goodIn_ca (goodIn_r _ [377, 192, 84, 85, 378, 379, 380, 2, 381, 90, 91, 382, 383, 384, 22, 325, 326, 327, 385, 386, 387, 388, 389, 202, 203, 390, 123, 124, 125, 20, 126, 127, 205, 206, 207, 208, 209, 210, 211, 212, 213, 214, 215, 216, 217, 218, 219, 220, 34, 328, 329, 330, 331, 92, 93, 391, 392, 393, 15, 342, 343, 344, 345, 13, 14, 346, 347, 348, 349, 350, 351, 352, 353, 354, 355, 356, 357, 358, 359, 51, 52, 53, 54, 55, 56, 57, 58, 59, 60, 61, 62, 63, 64, 65, 66, 67, 360, 361, 362, 363, 364, 365, 128, 129, 130, 131, 132, 133, 134, 135, 136, 137, 138, 139, 140, 141, 142, 143, 144, 145, 33, 146, 147, 148, 149, 150, 151, 152, 153, 154, 155, 156, 157, 158, 159, 160, 161, 162, 163, 164, 165, 166, 167, 168, 169, 170, 645, 646, 647, 648, 649, 650, 651, 621, 622, 623, 624, 625, 626, 627, 628, 641, 642, 643] (by decide +kernel) (by decide +kernel)) (goodIn_sub (fun _ h => List.mem_append_left _ (List.mem_append_left _ (List.mem_append_right _ h))) (by decide +kernel))) (goodIn_sub (fun _ h => List.mem_append_right _ h) (by decide +kernel))) (goodIn_sub (fun _ h => List.mem_append_left _ (List.mem_append_right _ h)) (by decide +kernel))
set_option maxRecDepth 20000 in
theorem gL_law_L_compose : GoodIn wsL_law (va_wsS RL 133 yL_compose wsL_compose) := goodIn_app (goodIn_of _ (by decide +kernel)) ggL_law_L_compose
set_option maxRecDepth 20000 in
theorem ggL_law_X3_compose : GoodIn wsL_law wsX3_compose := goodIn_r _ [397, 98, 76, 75, 370, 15, 77, 398, 399, 400, 5, 401, 101, 102, 103, 104, 105, 106, 107, 259, 260, 261, 371, 372, 373, 374, 629, 630, 631, 632, 633, 634, 635, 636, 637, 638, 639, 640] (by decide +kernel) (by decide +kernel)
set_option maxRecDepth 20000 in
theorem gL_law_X3_compose : GoodIn wsL_law (wsV RL 135 RX3 yX3_compose wsX3_compose) := goodIn_app (goodIn_of _ (by decide +kernel)) ggL_law_X3_compose
set_option maxRecDepth 20000 in
theorem ggL_law_X2_patches : GoodIn wsL_law wsX2_patches := goodIn_r _ [405, 22, 123, 124, 125, 20, 126, 127, 621, 622, 623, 624, 625, 626, 627, 628, 641, 642, 643] (by decide +kernel) (by decide +kernel)
set_option maxRecDepth 20000 in
theorem gL_law_X2_patches : GoodIn wsL_law (wsV RL 136 RX2 yX2_patches wsX2_patches) := goodIn_app (goodIn_of _ (by decide +kernel)) ggL_law_X2_patches
set_option maxRecDepth 20000 in
theorem ggL_law_X3_patches : GoodIn wsL_law wsX3_patches := goodIn_r _ [409, 98, 370, 629, 630, 631, 632, 633, 634, 635, 636, 637, 638, 639, 640] (by decide +kernel) (by decide +kernel)
set_option maxRecDepth 20000 in
theorem gL_law_X3_patches : GoodIn wsL_law (wsV RL 139 RX3 yX3_patches wsX3_patches) := goodIn_app (goodIn_of _ (by decide +kernel)) ggL_law_X3_patches
set_option maxRecDepth 20000 in
theorem ggL_law_L_instructions : GoodIn wsL_law wsL_instructions := goodIn_ca (goodIn_r _ [412, 192, 413, 414, 415, 2, 416, 417, 386, 387, 388, 389, 202, 203, 22, 390, 123, 124, 125, 20, 126, 127, 205, 206, 207, 208, 209, 210, 211, 212, 213, 214, 215, 216, 217, 218, 219, 220, 34, 645, 646, 647, 648, 649, 650, 651, 621, 622, 623, 624, 625, 626, 627, 628, 641, 642, 643] (by decide +kernel) (by decide +kernel)) (goodIn_sub (fun _ h => List.mem_append_right _ h) (by decide +kernel))
set_option maxRecDepth 20000 in
theorem gL_law_L_instructions : GoodIn wsL_law (va_wsS RL 140 yL_instructions wsL_instructions) := goodIn_app (goodIn_of _ (by decide +kernel)) ggL_law_L_instructions
set_option maxRecDepth 20000 in
theorem ggL_law_X3_instructions : GoodIn wsL_law wsX3_instructions := goodIn_r _ [421, 98, 398, 399, 400, 5, 401, 370, 101, 102, 103, 422, 423, 424, 425, 77, 426, 427, 428, 429, 104, 105, 106, 107, 629, 630, 631, 632, 633, 634, 635, 636, 637, 638, 639, 640] (by decide +kernel) (by decide +kernel)
set_option maxRecDepth 20000 in
theorem gL_law_X3_instructions : GoodIn wsL_law (wsV RL 142 RX3 yX3_instructions wsX3_instructions) := goodIn_app (goodIn_of _ (by decide +kernel)) ggL_law_X3_instructions
set_option maxRecDepth 20000 in
theorem ggL_law_L_instruction : GoodIn wsL_law wsL_instruction := goodIn_ca (goodIn_r _ [432, 192, 433, 434, 435, 2, 436, 202, 203, 417, 386, 387, 388, 389, 22, 390, 123, 124, 125, 20, 126, 127, 205, 206, 207, 208, 209, 210, 211, 212, 213, 214, 215, 216, 217, 218, 219, 220, 34, 437, 438, 439, 327, 440, 350, 349, 348, 441, 270, 271, 25, 272, 49, 645, 646, 647, 648, 649, 650, 651, 621, 622, 623, 624, 625, 626, 627, 628, 641, 642, 643, 644] (by decide +kernel) (by decide +kernel)) (goodIn_sub (fun _ h => List.mem_append_right _ h) (by decide +kernel))
set_option maxRecDepth 20000 in
theorem gL_law_L_instruction : GoodIn wsL_law (va_wsS RL 143 yL_instruction wsL_instruction) := goodIn_app (goodIn_of _ (by decide +kernel)) ggL_law_L_instruction
set_option maxRecDepth 20000 in
theorem ggL_law_X3_instruction : GoodIn wsL_law wsX3_instruction := goodIn_r _ [445, 98, 398, 399, 400, 5, 401, 370, 101, 102, 103, 422, 423, 424, 425, 77, 426, 427, 428, 429, 446, 447, 448, 449, 76, 277, 278, 279, 104, 105, 106, 107, 629, 630, 631, 632, 633, 634, 635, 636, 637, 638, 639, 640] (by decide +kernel) (by decide +kernel)
set_option maxRecDepth 20000 in
theorem gL_law_X3_instruction : GoodIn wsL_law (wsV RL 145 RX3 yX3_instruction wsX3_instruction) := goodIn_app (goodIn_of _ (by decide +kernel)) ggL_law_X3_instruction
set_option maxRecDepth 20000 in
theorem ggL_law_L_cost : GoodIn wsL_law wsL_cost := goodIn_ca (goodIn_r _ [452, 192, 453, 454, 455, 2, 456, 457, 386, 387, 388, 389, 202, 203, 22, 390, 123, 124, 125, 20, 126, 127, 205, 206, 207, 208, 209, 210, 211, 212, 213, 214, 215, 216, 217, 218, 219, 220, 34, 645, 646, 647, 648, 649, 650, 651, 621, 622, 623, 624, 625, 626, 627, 628, 641, 642, 643] (by decide +kernel) (by decide +kernel)) (goodIn_sub (fun _ h => List.mem_append_right _ h) (by decide +kernel))
set_option maxRecDepth 20000 in
theorem gL_law_L_cost : GoodIn wsL_law (va_wsS RL 146 yL_cost wsL_cost) := goodIn_app (goodIn_of _ (by decide +kernel)) ggL_law_L_cost
set_option maxRecDepth 20000 in
theorem ggL_law_X3_cost : GoodIn wsL_law wsX3_cost := goodIn_r _ [461, 98, 398, 399, 400, 5, 401, 370, 101, 102, 103, 462, 463, 464, 465, 77, 466, 467, 468, 469, 426, 427, 428, 429, 104, 105, 106, 107, 629, 630, 631, 632, 633, 634, 635, 636, 637, 638, 639, 640] (by decide +kernel) (by decide +kernel)
set_option maxRecDepth 20000 in
theorem gL_law_X3_cost : GoodIn wsL_law (wsV RL 148 RX3 yX3_cost wsX3_cost) := goodIn_app (goodIn_of _ (by decide +kernel)) ggL_law_X3_cost
set_option maxRecDepth 20000 in
theorem ggL_law_L_newness : GoodIn wsL_law wsL_newness := goodIn_ca (goodIn_r _ [472, 192, 473, 474, 475, 2, 476, 384, 477, 386, 387, 388, 389, 202, 203, 22, 390, 123, 124, 125, 20, 126, 127, 205, 206, 207, 208, 209, 210, 211, 212, 213, 214, 215, 216, 217, 218, 219, 220, 34, 645, 646, 647, 648, 649, 650, 651, 621, 622, 623, 624, 625, 626, 627, 628, 641, 642, 643] (by decide +kernel) (by decide +kernel)) (goodIn_sub (fun _ h => List.mem_append_right _ h) (by decide +kernel))
set_option maxRecDepth 20000 in
theorem gL_law_L_newness : GoodIn wsL_law (va_wsS RL 149 yL_newness wsL_newness) := goodIn_app (goodIn_of _ (by decide +kernel)) ggL_law_L_newness
set_option maxRecDepth 20000 in
theorem ggL_law_X3_newness : GoodIn wsL_law wsX3_newness := goodIn_r _ [481, 98, 76, 398, 399, 400, 5, 401, 370, 101, 102, 103, 466, 467, 468, 469, 77, 629, 630, 631, 632, 633, 634, 635, 636, 637, 638, 639, 640] (by decide +kernel) (by decide +kernel)
set_option maxRecDepth 20000 in
theorem gL_law_X3_newness : GoodIn wsL_law (wsV RL 152 RX3 yX3_newness wsX3_newness) := goodIn_app (goodIn_of _ (by decide +kernel)) ggL_law_X3_newness
set_option maxRecDepth 20000 in
theorem ggL_law_L_apply : GoodIn wsL_law wsL_apply := goodIn_ca (goodIn_ca (goodIn_ca (goodIn_r _ [484, 192, 84, 85, 485, 486, 487, 2, 488, 90, 91, 383, 21, 385, 386, 387, 388, 389, 202, 203, 22, 390, 123, 124, 125, 20, 126, 127, 205, 206, 207, 208, 209, 210, 211, 212, 213, 214, 215, 216, 217, 218, 219, 220, 34, 198, 199, 200, 201, 204, 247, 248, 249, 25, 250, 49, 251, 252, 253, 254, 119, 120, 121, 122, 92, 93, 128, 129, 130, 131, 132, 133, 134, 135, 136, 137, 138, 139, 140, 141, 142, 143, 144, 145, 33, 146, 147, 62, 148, 149, 150, 151, 152, 153, 154, 155, 156, 157, 158, 159, 160, 52, 161, 162, 163, 164, 165, 166, 167, 168, 169, 170, 60, 61, 63, 64, 65, 66, 67, 645, 646, 647, 648, 649, 650, 651, 621, 622, 623, 624, 625, 626, 627, 628, 641, 642, 643, 644] (by decide +kernel) (by decide +kernel)) (goodIn_sub (fun _ h => List.mem_append_left _ (List.mem_append_left _ (List.mem_append_right _ h))) (by decide +kernel))) (goodIn_sub (fun _ h => List.mem_append_right _ h) (by decide +kernel))) (goodIn_sub (fun _ h => List.mem_append_left _ (List.mem_append_right _ h)) (by decide +kernel))
set_option maxRecDepth 20000 in
theorem gL_law_L_apply : GoodIn wsL_law (va_wsS RL 153 yL_apply wsL_apply) := goodIn_app (goodIn_of _ (by decide +kernel)) ggL_law_L_apply
set_option maxRecDepth 20000 in
theorem ggL_law_X3_apply : GoodIn wsL_law wsX3_apply := goodIn_r _ [492, 98, 74, 75, 175, 76, 398, 399, 400, 5, 401, 370, 101, 102, 103, 225, 226, 227, 228, 104, 105, 106, 107, 259, 260, 261, 177, 178, 179, 180, 629, 630, 631, 632, 633, 634, 635, 636, 637, 638, 639, 640] (by decide +kernel) (by decide +kernel)
set_option maxRecDepth 20000 in
theorem gL_law_X3_apply : GoodIn wsL_law (wsV RL 155 RX3 yX3_apply wsX3_apply) := goodIn_app (goodIn_of _ (by decide +kernel)) ggL_law_X3_apply
set_option maxRecDepth 20000 in
theorem ggL_law_L_steps : GoodIn wsL_law wsL_steps := goodIn_ca (goodIn_r _ [495, 192, 496, 497, 498, 2, 499, 500, 501, 502, 503, 29, 22, 390, 457, 338, 339, 340, 341, 198, 199, 200, 201, 202, 203, 21, 204, 123, 124, 125, 20, 126, 127, 205, 206, 207, 208, 209, 210, 211, 212, 213, 214, 215, 216, 217, 218, 219, 220, 34, 247, 248, 249, 25, 250, 49, 251, 252, 253, 254, 504, 505, 52, 506, 507, 508, 509, 510, 383, 382, 621, 622, 623, 624, 625, 626, 627, 628, 645, 646, 647, 648, 649, 650, 651, 641, 642, 643, 644] (by decide +kernel) (by decide +kernel)) (goodIn_sub (fun _ h => List.mem_append_right _ h) (by decide +kernel))
set_option maxRecDepth 20000 in
theorem gL_law_L_steps : GoodIn wsL_law (va_wsS RL 156 yL_steps wsL_steps) := goodIn_app (goodIn_of _ (by decide +kernel)) ggL_law_L_steps
set_option maxRecDepth 20000 in
theorem ggL_law_X3_steps : GoodIn wsL_law wsX3_steps := goodIn_r _ [514, 98, 74, 225, 226, 227, 5, 228, 175, 101, 102, 103, 515, 516, 517, 518, 370, 15, 75, 76, 259, 260, 261, 462, 463, 464, 465, 77, 466, 467, 468, 469, 426, 427, 428, 429, 104, 105, 106, 107, 629, 630, 631, 632, 633, 634, 635, 636, 637, 638, 639, 640] (by decide +kernel) (by decide +kernel)
set_option maxRecDepth 20000 in
theorem gL_law_X3_steps : GoodIn wsL_law (wsV RL 158 RX3 yX3_steps wsX3_steps) := goodIn_app (goodIn_of _ (by decide +kernel)) ggL_law_X3_steps
set_option maxRecDepth 20000 in
theorem ggL_law_L_leastCost : GoodIn wsL_law wsL_leastCost := goodIn_ca (goodIn_r _ [521, 192, 522, 523, 524, 2, 525, 500, 501, 502, 503, 29, 22, 390, 457, 338, 339, 340, 341, 198, 199, 200, 201, 202, 203, 21, 204, 123, 124, 125, 20, 126, 127, 205, 206, 207, 208, 209, 210, 211, 212, 213, 214, 215, 216, 217, 218, 219, 220, 34, 247, 248, 249, 25, 250, 49, 251, 252, 253, 254, 504, 505, 52, 506, 507, 508, 509, 510, 383, 382, 621, 622, 623, 624, 625, 626, 627, 628, 645, 646, 647, 648, 649, 650, 651, 641, 642, 643, 644] (by decide +kernel) (by decide +kernel)) (goodIn_sub (fun _ h => List.mem_append_right _ h) (by decide +kernel))
set_option maxRecDepth 20000 in
theorem gL_law_L_leastCost : GoodIn wsL_law (va_wsS RL 159 yL_leastCost wsL_leastCost) := goodIn_app (goodIn_of _ (by decide +kernel)) ggL_law_L_leastCost
set_option maxRecDepth 20000 in
theorem ggL_law_X3_leastCost : GoodIn wsL_law wsX3_leastCost := goodIn_r _ [529, 98, 74, 225, 226, 227, 5, 228, 175, 101, 102, 103, 515, 516, 517, 518, 370, 15, 75, 76, 259, 260, 261, 462, 463, 464, 465, 77, 466, 467, 468, 469, 426, 427, 428, 429, 104, 105, 106, 107, 629, 630, 631, 632, 633, 634, 635, 636, 637, 638, 639, 640] (by decide +kernel) (by decide +kernel)
set_option maxRecDepth 20000 in
theorem gL_law_X3_leastCost : GoodIn wsL_law (wsV RL 161 RX3 yX3_leastCost wsX3_leastCost) := goodIn_app (goodIn_of _ (by decide +kernel)) ggL_law_X3_leastCost
set_option maxRecDepth 20000 in
theorem ggL_law_L_installVersion : GoodIn wsL_law wsL_installVersion := goodIn_ca (goodIn_r _ [532, 192, 533, 534, 535, 2, 536, 198, 199, 200, 201, 202, 203, 21, 204, 123, 124, 125, 20, 126, 127, 205, 206, 207, 208, 209, 210, 211, 212, 213, 214, 215, 216, 217, 218, 219, 220, 34, 537, 538, 539, 540, 27, 26, 541, 542, 543, 544, 545, 546, 547, 548, 132, 133, 549, 65, 66, 67, 128, 129, 130, 131, 134, 135, 136, 137, 138, 139, 140, 141, 142, 143, 144, 145, 33, 146, 147, 62, 148, 149, 150, 151, 152, 153, 154, 155, 156, 157, 158, 159, 160, 52, 161, 162, 163, 164, 165, 166, 167, 168, 169, 170, 60, 61, 63, 64, 621, 622, 623, 624, 625, 626, 627, 628, 641, 642, 643] (by decide +kernel) (by decide +kernel)) (goodIn_sub (fun _ h => List.mem_append_right _ h) (by decide +kernel))
set_option maxRecDepth 20000 in
theorem gL_law_L_installVersion : GoodIn wsL_law (va_wsS RL 162 yL_installVersion wsL_installVersion) := goodIn_app (goodIn_of _ (by decide +kernel)) ggL_law_L_installVersion
set_option maxRecDepth 20000 in
theorem ggL_law_X3_installVersion : GoodIn wsL_law wsX3_installVersion := goodIn_r _ [553, 98, 74, 225, 226, 227, 5, 228, 175, 101, 102, 103, 554, 555, 556, 557, 558, 79, 78, 104, 105, 106, 107, 629, 630, 631, 632, 633, 634, 635, 636, 637, 638, 639, 640] (by decide +kernel) (by decide +kernel)
set_option maxRecDepth 20000 in
theorem gL_law_X3_installVersion : GoodIn wsL_law (wsV RL 164 RX3 yX3_installVersion wsX3_installVersion) := goodIn_app (goodIn_of _ (by decide +kernel)) ggL_law_X3_installVersion
set_option maxRecDepth 20000 in
theorem ggL_law_L_installPatch : GoodIn wsL_law wsL_installPatch := goodIn_ca (goodIn_ca (goodIn_r _ [561, 192, 84, 562, 563, 564, 2, 565, 90, 91, 26, 383, 385, 386, 387, 388, 389, 202, 203, 22, 390, 123, 124, 125, 20, 126, 127, 205, 206, 207, 208, 209, 210, 211, 212, 213, 214, 215, 216, 217, 218, 219, 220, 34, 198, 199, 200, 201, 21, 204, 247, 248, 249, 25, 250, 49, 251, 252, 253, 254, 537, 538, 539, 540, 27, 541, 542, 543, 544, 545, 546, 547, 548, 132, 133, 549, 65, 66, 67, 128, 129, 130, 131, 134, 135, 136, 137, 138, 139, 140, 141, 142, 143, 144, 145, 33, 146, 147, 62, 148, 149, 150, 151, 152, 153, 154, 155, 156, 157, 158, 159, 160, 52, 161, 162, 163, 164, 165, 166, 167, 168, 169, 170, 60, 61, 63, 64, 621, 622, 623, 624, 625, 626, 627, 628, 645, 646, 647, 648, 649, 650, 651, 641, 642, 643, 644] (by decide +kernel) (by decide +kernel)) (goodIn_sub (fun _ h => List.mem_append_left _ (List.mem_append_left _ (List.mem_append_right _ h))) (by decide +kernel))) (goodIn_sub (fun _ h => List.mem_append_right _ h) (by decide +kernel))
set_option maxRecDepth 20000 in
theorem gL_law_L_installPatch : GoodIn wsL_law (va_wsS RL 165 yL_installPatch wsL_installPatch) := goodIn_app (goodIn_of _ (by decide +kernel)) ggL_law_L_installPatch
set_option maxRecDepth 20000 in
theorem ggL_law_X3_installPatch : GoodIn wsL_law wsX3_installPatch := goodIn_r _ [569, 98, 78, 75, 76, 398, 399, 400, 5, 401, 370, 101, 102, 103, 104, 105, 106, 107, 259, 260, 261, 554, 555, 556, 557, 558, 79, 629, 630, 631, 632, 633, 634, 635, 636, 637, 638, 639, 640] (by decide +kernel) (by decide +kernel)
set_option maxRecDepth 20000 in
theorem gL_law_X3_installPatch : GoodIn wsL_law (wsV RL 167 RX3 yX3_installPatch wsX3_installPatch) := goodIn_app (goodIn_of _ (by decide +kernel)) ggL_law_X3_installPatch
set_option maxRecDepth 20000 in
theorem ggL_law_L_rollBack : GoodIn wsL_law wsL_rollBack := goodIn_ca (goodIn_r _ [572, 85, 573, 574, 575, 2, 576, 92, 93, 27, 204, 26, 123, 124, 125, 20, 126, 127, 205, 206, 207, 208, 209, 210, 211, 212, 213, 214, 215, 216, 217, 218, 219, 220, 34, 541, 542, 543, 544, 545, 546, 547, 548, 132, 133, 549, 65, 66, 67, 621, 622, 623, 624, 625, 626, 627, 628, 641, 642, 643] (by decide +kernel) (by decide +kernel)) (goodIn_sub (fun _ h => List.mem_append_left _ (List.mem_append_right _ h)) (by decide +kernel))
set_option maxRecDepth 20000 in
theorem gL_law_L_rollBack : GoodIn wsL_law (va_wsS RL 168 yL_rollBack wsL_rollBack) := goodIn_app (goodIn_of _ (by decide +kernel)) ggL_law_L_rollBack
set_option maxRecDepth 20000 in
theorem ggL_law_X3_rollBack : GoodIn wsL_law wsX3_rollBack := goodIn_r _ [580, 98, 558, 79, 78, 104, 105, 106, 5, 107, 629, 630, 631, 632, 633, 634, 635, 636, 637, 638, 639, 640] (by decide +kernel) (by decide +kernel)
set_option maxRecDepth 20000 in
theorem gL_law_X3_rollBack : GoodIn wsL_law (wsV RL 170 RX3 yX3_rollBack wsX3_rollBack) := goodIn_app (goodIn_of _ (by decide +kernel)) ggL_law_X3_rollBack
set_option maxRecDepth 20000 in
theorem ggL_law_L_isInstalled : GoodIn wsL_law wsL_isInstalled := goodIn_ca (goodIn_r _ [583, 192, 584, 585, 586, 2, 587, 26, 198, 199, 200, 201, 202, 203, 21, 204, 123, 124, 125, 20, 126, 127, 205, 206, 207, 208, 209, 210, 211, 212, 213, 214, 215, 216, 217, 218, 219, 220, 34, 247, 248, 249, 25, 250, 49, 251, 252, 253, 254, 621, 622, 623, 624, 625, 626, 627, 628, 641, 642, 643, 644] (by decide +kernel) (by decide +kernel)) (goodIn_sub (fun _ h => List.mem_append_right _ h) (by decide +kernel))
set_option maxRecDepth 20000 in
theorem gL_law_L_isInstalled : GoodIn wsL_law (va_wsS RL 171 yL_isInstalled wsL_isInstalled) := goodIn_app (goodIn_of _ (by decide +kernel)) ggL_law_L_isInstalled
set_option maxRecDepth 20000 in
theorem ggL_law_X3_isInstalled : GoodIn wsL_law wsX3_isInstalled := goodIn_r _ [591, 98, 78, 74, 225, 226, 227, 5, 228, 175, 101, 102, 103, 259, 260, 261, 629, 630, 631, 632, 633, 634, 635, 636, 637, 638, 639, 640] (by decide +kernel) (by decide +kernel)
set_option maxRecDepth 20000 in
theorem gL_law_X3_isInstalled : GoodIn wsL_law (wsV RL 173 RX3 yX3_isInstalled wsX3_isInstalled) := goodIn_app (goodIn_of _ (by decide +kernel)) ggL_law_X3_isInstalled
set_option maxRecDepth 20000 in
theorem ggL_law_X2_installedLength : GoodIn wsL_law wsX2_installedLength := goodIn_r _ [595, 26, 197, 621, 622, 623, 624, 625, 626, 627, 628, 644] (by decide +kernel) (by decide +kernel)
set_option maxRecDepth 20000 in
theorem gL_law_X2_installedLength : GoodIn wsL_law (wsV RL 174 RX2 yX2_installedLength wsX2_installedLength) := goodIn_app (goodIn_of _ (by decide +kernel)) ggL_law_X2_installedLength
set_option maxRecDepth 20000 in
theorem ggL_law_X3_installedLength : GoodIn wsL_law wsX3_installedLength := goodIn_r _ [599, 98, 78, 629, 630, 631, 632, 633, 634, 635, 636, 637, 638, 639, 640] (by decide +kernel) (by decide +kernel)
set_option maxRecDepth 20000 in
theorem gL_law_X3_installedLength : GoodIn wsL_law (wsV RL 177 RX3 yX3_installedLength wsX3_installedLength) := goodIn_app (goodIn_of _ (by decide +kernel)) ggL_law_X3_installedLength
set_option maxRecDepth 20000 in
theorem ggL_law_X2_digest : GoodIn wsL_law wsX2_digest := goodIn_r _ [603, 604, 16, 17, 605, 21, 204, 197, 22, 390, 26, 27, 606, 607, 2, 608, 123, 124, 125, 20, 126, 127, 205, 206, 207, 208, 209, 210, 211, 212, 213, 214, 215, 216, 217, 218, 219, 220, 34, 609, 610, 611, 417, 437, 438, 439, 327, 440, 350, 349, 348, 441, 270, 271, 25, 272, 49, 621, 622, 623, 624, 625, 626, 627, 628, 644, 641, 642, 643, 645, 646, 647, 648, 649, 650, 651] (by decide +kernel) (by decide +kernel)
set_option maxRecDepth 20000 in
theorem gL_law_X2_digest : GoodIn wsL_law (wsV RL 178 RX2 yX2_digest wsX2_digest) := goodIn_app (goodIn_of _ (by decide +kernel)) ggL_law_X2_digest
set_option maxRecDepth 20000 in
theorem ggL_law_X3_digest : GoodIn wsL_law wsX3_digest := goodIn_r _ [615, 98, 616, 72, 99, 617, 175, 74, 370, 78, 558, 618, 619, 5, 620, 422, 423, 424, 425, 77, 426, 427, 428, 429, 446, 447, 448, 449, 76, 277, 278, 279, 629, 630, 631, 632, 633, 634, 635, 636, 637, 638, 639, 640] (by decide +kernel) (by decide +kernel)
set_option maxRecDepth 20000 in
theorem gL_law_X3_digest : GoodIn wsL_law (wsV RL 182 RX3 yX3_digest wsX3_digest) := goodIn_app (goodIn_of _ (by decide +kernel)) ggL_law_X3_digest
