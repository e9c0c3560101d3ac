theorem dX3_init_0 : decode cX3_init 0 = .ok (.aload_n 0, 1) := by decide +kernel
theorem dX3_init_1 : decode cX3_init 1 = .ok (.invokespecial 1, 3) := by decide +kernel
theorem dX3_init_4 : decode cX3_init 4 = .ok (.aload_n 0, 1) := by decide +kernel
theorem dX3_init_5 : decode cX3_init 5 = .ok (.sipush 400, 3) := by decide +kernel
theorem dX3_init_8 : decode cX3_init 8 = .ok (.newarray .int, 2) := by decide +kernel
theorem dX3_init_10 : decode cX3_init 10 = .ok (.putfield 9, 3) := by decide +kernel
theorem dX3_init_13 : decode cX3_init 13 = .ok (.aload_n 0, 1) := by decide +kernel
theorem dX3_init_14 : decode cX3_init 14 = .ok (.bipush 12, 2) := by decide +kernel
theorem dX3_init_16 : decode cX3_init 16 = .ok (.anewarray 13, 3) := by decide +kernel
theorem dX3_init_19 : decode cX3_init 19 = .ok (.putfield 14, 3) := by decide +kernel
theorem dX3_init_22 : decode cX3_init 22 = .ok (.aload_n 0, 1) := by decide +kernel
theorem dX3_init_23 : decode cX3_init 23 = .ok (.bipush 12, 2) := by decide +kernel
theorem dX3_init_25 : decode cX3_init 25 = .ok (.anewarray 13, 3) := by decide +kernel
theorem dX3_init_28 : decode cX3_init 28 = .ok (.putfield 18, 3) := by decide +kernel
theorem dX3_init_31 : decode cX3_init 31 = .ok (.aload_n 0, 1) := by decide +kernel
theorem dX3_init_32 : decode cX3_init 32 = .ok (.bipush 12, 2) := by decide +kernel
theorem dX3_init_34 : decode cX3_init 34 = .ok (.anewarray 13, 3) := by decide +kernel
theorem dX3_init_37 : decode cX3_init 37 = .ok (.putfield 21, 3) := by decide +kernel
theorem dX3_init_40 : decode cX3_init 40 = .ok (.aload_n 0, 1) := by decide +kernel
theorem dX3_init_41 : decode cX3_init 41 = .ok (.bipush 12, 2) := by decide +kernel
theorem dX3_init_43 : decode cX3_init 43 = .ok (.anewarray 13, 3) := by decide +kernel
theorem dX3_init_46 : decode cX3_init 46 = .ok (.putfield 24, 3) := by decide +kernel
theorem dX3_init_49 : decode cX3_init 49 = .ok (.aload_n 0, 1) := by decide +kernel
theorem dX3_init_50 : decode cX3_init 50 = .ok (.iconst 0, 1) := by decide +kernel
theorem dX3_init_51 : decode cX3_init 51 = .ok (.newarray .int, 2) := by decide +kernel
theorem dX3_init_53 : decode cX3_init 53 = .ok (.putfield 27, 3) := by decide +kernel
theorem dX3_init_56 : decode cX3_init 56 = .ok (.aload_n 0, 1) := by decide +kernel
theorem dX3_init_57 : decode cX3_init 57 = .ok (.bipush 20, 2) := by decide +kernel
theorem dX3_init_59 : decode cX3_init 59 = .ok (.anewarray 13, 3) := by decide +kernel
theorem dX3_init_62 : decode cX3_init 62 = .ok (.putfield 30, 3) := by decide +kernel
theorem dX3_init_65 : decode cX3_init 65 = .ok (.return_, 1) := by decide +kernel
theorem dX3_thrown_0 : decode cX3_thrown 0 = .ok (.aload_n 0, 1) := by decide +kernel
theorem dX3_thrown_1 : decode cX3_thrown 1 = .ok (.getfield 33, 3) := by decide +kernel
theorem dX3_thrown_4 : decode cX3_thrown 4 = .ok (.ireturn, 1) := by decide +kernel
theorem dX3_fail_0 : decode cX3_fail 0 = .ok (.aload_n 0, 1) := by decide +kernel
theorem dX3_fail_1 : decode cX3_fail 1 = .ok (.iload_n 1, 1) := by decide +kernel
theorem dX3_fail_2 : decode cX3_fail 2 = .ok (.putfield 33, 3) := by decide +kernel
theorem dX3_fail_5 : decode cX3_fail 5 = .ok (.iconst 0, 1) := by decide +kernel
theorem dX3_fail_6 : decode cX3_fail 6 = .ok (.ireturn, 1) := by decide +kernel
theorem dX3_isIn_0 : decode cX3_isIn 0 = .ok (.iload_n 0, 1) := by decide +kernel
theorem dX3_isIn_1 : decode cX3_isIn 1 = .ok (.iload_n 1, 1) := by decide +kernel
theorem dX3_isIn_2 : decode cX3_isIn 2 = .ok (.if_icmp .lt 12, 3) := by decide +kernel
theorem dX3_isIn_5 : decode cX3_isIn 5 = .ok (.iload_n 0, 1) := by decide +kernel
theorem dX3_isIn_6 : decode cX3_isIn 6 = .ok (.iload_n 2, 1) := by decide +kernel
theorem dX3_isIn_7 : decode cX3_isIn 7 = .ok (.if_icmp .gt 7, 3) := by decide +kernel
theorem dX3_isIn_10 : decode cX3_isIn 10 = .ok (.iconst 1, 1) := by decide +kernel
theorem dX3_isIn_11 : decode cX3_isIn 11 = .ok (.goto 4, 3) := by decide +kernel
theorem dX3_isIn_14 : decode cX3_isIn 14 = .ok (.iconst 0, 1) := by decide +kernel
theorem dX3_isIn_15 : decode cX3_isIn 15 = .ok (.ireturn, 1) := by decide +kernel
set_option maxRecDepth 20000 in
theorem ggX3_isVersion_X3_isIn : GoodIn wsX3_isVersion wsX3_isIn := goodIn_r _ [5] (by decide +kernel) (by decide +kernel)
set_option maxRecDepth 20000 in
theorem gX3_isVersion_X3_isIn : GoodIn wsX3_isVersion (va_wsS RX3 40 yX3_isIn wsX3_isIn) := goodIn_app (goodIn_of _ (by decide +kernel)) ggX3_isVersion_X3_isIn
theorem dX3_isVersion_0 : decode cX3_isVersion 0 = .ok (.iload_n 1, 1) := by decide +kernel
theorem dX3_isVersion_1 : decode cX3_isVersion 1 = .ok (.iconst 0, 1) := by decide +kernel
theorem dX3_isVersion_2 : decode cX3_isVersion 2 = .ok (.aload_n 0, 1) := by decide +kernel
theorem dX3_isVersion_3 : decode cX3_isVersion 3 = .ok (.getfield 37, 3) := by decide +kernel
theorem dX3_isVersion_6 : decode cX3_isVersion 6 = .ok (.iconst 1, 1) := by decide +kernel
theorem dX3_isVersion_7 : decode cX3_isVersion 7 = .ok (.isub, 1) := by decide +kernel
theorem dX3_isVersion_8 : decode cX3_isVersion 8 = .ok (.invokestatic 40, 3) := by decide +kernel
theorem dX3_isVersion_11 : decode cX3_isVersion 11 = .ok (.ireturn, 1) := by decide +kernel
set_option maxRecDepth 20000 in
theorem ggX3_isPatch_X3_isIn : GoodIn wsX3_isPatch wsX3_isIn := goodIn_r _ [5] (by decide +kernel) (by decide +kernel)
set_option maxRecDepth 20000 in
theorem gX3_isPatch_X3_isIn : GoodIn wsX3_isPatch (va_wsS RX3 40 yX3_isIn wsX3_isIn) := goodIn_app (goodIn_of _ (by decide +kernel)) ggX3_isPatch_X3_isIn
theorem dX3_isPatch_0 : decode cX3_isPatch 0 = .ok (.iload_n 1, 1) := by decide +kernel
theorem dX3_isPatch_1 : decode cX3_isPatch 1 = .ok (.iconst 0, 1) := by decide +kernel
theorem dX3_isPatch_2 : decode cX3_isPatch 2 = .ok (.aload_n 0, 1) := by decide +kernel
theorem dX3_isPatch_3 : decode cX3_isPatch 3 = .ok (.getfield 44, 3) := by decide +kernel
theorem dX3_isPatch_6 : decode cX3_isPatch 6 = .ok (.iconst 1, 1) := by decide +kernel
theorem dX3_isPatch_7 : decode cX3_isPatch 7 = .ok (.isub, 1) := by decide +kernel
theorem dX3_isPatch_8 : decode cX3_isPatch 8 = .ok (.invokestatic 40, 3) := by decide +kernel
theorem dX3_isPatch_11 : decode cX3_isPatch 11 = .ok (.ireturn, 1) := by decide +kernel
set_option maxRecDepth 20000 in
theorem ggX3_isSize_X3_isIn : GoodIn wsX3_isSize wsX3_isIn := goodIn_r _ [4] (by decide +kernel) (by decide +kernel)
set_option maxRecDepth 20000 in
theorem gX3_isSize_X3_isIn : GoodIn wsX3_isSize (va_wsS RX3 40 yX3_isIn wsX3_isIn) := goodIn_app (goodIn_of _ (by decide +kernel)) ggX3_isSize_X3_isIn
theorem dX3_isSize_0 : decode cX3_isSize 0 = .ok (.iload_n 0, 1) := by decide +kernel
theorem dX3_isSize_1 : decode cX3_isSize 1 = .ok (.iconst 2, 1) := by decide +kernel
theorem dX3_isSize_2 : decode cX3_isSize 2 = .ok (.bipush 32, 2) := by decide +kernel
theorem dX3_isSize_4 : decode cX3_isSize 4 = .ok (.invokestatic 40, 3) := by decide +kernel
theorem dX3_isSize_7 : decode cX3_isSize 7 = .ok (.ireturn, 1) := by decide +kernel
theorem dX3_are_0 : decode cX3_are 0 = .ok (.aload_n 0, 1) := by decide +kernel
theorem dX3_are_1 : decode cX3_are 1 = .ok (.arraylength, 1) := by decide +kernel
theorem dX3_are_2 : decode cX3_are 2 = .ok (.aload_n 1, 1) := by decide +kernel
theorem dX3_are_3 : decode cX3_are 3 = .ok (.arraylength, 1) := by decide +kernel
theorem dX3_are_4 : decode cX3_are 4 = .ok (.if_icmp .ne 7, 3) := by decide +kernel
theorem dX3_are_7 : decode cX3_are 7 = .ok (.iconst 1, 1) := by decide +kernel
theorem dX3_are_8 : decode cX3_are 8 = .ok (.goto 4, 3) := by decide +kernel
theorem dX3_are_11 : decode cX3_are 11 = .ok (.iconst 0, 1) := by decide +kernel
theorem dX3_are_12 : decode cX3_are 12 = .ok (.istore_n 2, 1) := by decide +kernel
theorem dX3_are_13 : decode cX3_are 13 = .ok (.iconst 0, 1) := by decide +kernel
theorem dX3_are_14 : decode cX3_are 14 = .ok (.istore_n 3, 1) := by decide +kernel
theorem dX3_are_15 : decode cX3_are 15 = .ok (.iload_n 3, 1) := by decide +kernel
theorem dX3_are_16 : decode cX3_are 16 = .ok (.aload_n 0, 1) := by decide +kernel
theorem dX3_are_17 : decode cX3_are 17 = .ok (.arraylength, 1) := by decide +kernel
theorem dX3_are_18 : decode cX3_are 18 = .ok (.if_icmp .ge 28, 3) := by decide +kernel
theorem dX3_are_21 : decode cX3_are 21 = .ok (.iload_n 2, 1) := by decide +kernel
theorem dX3_are_22 : decode cX3_are 22 = .ok (.ifCond .eq 24, 3) := by decide +kernel
theorem dX3_are_25 : decode cX3_are 25 = .ok (.aload_n 0, 1) := by decide +kernel
theorem dX3_are_26 : decode cX3_are 26 = .ok (.iload_n 3, 1) := by decide +kernel
theorem dX3_are_27 : decode cX3_are 27 = .ok (.iaload, 1) := by decide +kernel
theorem dX3_are_28 : decode cX3_are 28 = .ok (.aload_n 1, 1) := by decide +kernel
theorem dX3_are_29 : decode cX3_are 29 = .ok (.iload_n 3, 1) := by decide +kernel
theorem dX3_are_30 : decode cX3_are 30 = .ok (.iaload, 1) := by decide +kernel
theorem dX3_are_31 : decode cX3_are 31 = .ok (.if_icmp .ne 7, 3) := by decide +kernel
theorem dX3_are_34 : decode cX3_are 34 = .ok (.iconst 1, 1) := by decide +kernel
theorem dX3_are_35 : decode cX3_are 35 = .ok (.goto 4, 3) := by decide +kernel
theorem dX3_are_38 : decode cX3_are 38 = .ok (.iconst 0, 1) := by decide +kernel
theorem dX3_are_39 : decode cX3_are 39 = .ok (.istore_n 2, 1) := by decide +kernel
theorem dX3_are_40 : decode cX3_are 40 = .ok (.iinc 3 1, 3) := by decide +kernel
theorem dX3_are_43 : decode cX3_are 43 = .ok (.goto (-28), 3) := by decide +kernel
theorem dX3_are_46 : decode cX3_are 46 = .ok (.iload_n 2, 1) := by decide +kernel
theorem dX3_are_47 : decode cX3_are 47 = .ok (.ireturn, 1) := by decide +kernel
set_option maxRecDepth 20000 in
theorem ggX3_feed_X3_isIn : GoodIn wsX3_feed wsX3_isIn := goodIn_r _ [8] (by decide +kernel) (by decide +kernel)
set_option maxRecDepth 20000 in
theorem gX3_feed_X3_isIn : GoodIn wsX3_feed (va_wsS RX3 40 yX3_isIn wsX3_isIn) := goodIn_app (goodIn_of _ (by decide +kernel)) ggX3_feed_X3_isIn
set_option maxRecDepth 20000 in
theorem ggX3_feed_X3_fail : GoodIn wsX3_feed wsX3_fail := goodIn_r _ [12, 1, 13, 14, 15, 16, 17, 18, 19, 20, 21, 22, 23, 24] (by decide +kernel) (by decide +kernel)
set_option maxRecDepth 20000 in
theorem gX3_feed_X3_fail : GoodIn wsX3_feed (wsV RX3 47 RX3 yX3_fail wsX3_fail) := goodIn_app (goodIn_of _ (by decide +kernel)) ggX3_feed_X3_fail
theorem dX3_feed_0 : decode cX3_feed 0 = .ok (.aload_n 0, 1) := by decide +kernel
theorem dX3_feed_1 : decode cX3_feed 1 = .ok (.iconst 0, 1) := by decide +kernel
theorem dX3_feed_2 : decode cX3_feed 2 = .ok (.putfield 33, 3) := by decide +kernel
theorem dX3_feed_5 : decode cX3_feed 5 = .ok (.iload_n 3, 1) := by decide +kernel
theorem dX3_feed_6 : decode cX3_feed 6 = .ok (.iconst 1, 1) := by decide +kernel
theorem dX3_feed_7 : decode cX3_feed 7 = .ok (.bipush 8, 2) := by decide +kernel
theorem dX3_feed_9 : decode cX3_feed 9 = .ok (.invokestatic 40, 3) := by decide +kernel
theorem dX3_feed_12 : decode cX3_feed 12 = .ok (.ifCond .ne 9, 3) := by decide +kernel
theorem dX3_feed_15 : decode cX3_feed 15 = .ok (.aload_n 0, 1) := by decide +kernel
theorem dX3_feed_16 : decode cX3_feed 16 = .ok (.iconst 1, 1) := by decide +kernel
theorem dX3_feed_17 : decode cX3_feed 17 = .ok (.invokevirtual 47, 3) := by decide +kernel
theorem dX3_feed_20 : decode cX3_feed 20 = .ok (.ireturn, 1) := by decide +kernel
theorem dX3_feed_21 : decode cX3_feed 21 = .ok (.aload_n 0, 1) := by decide +kernel
theorem dX3_feed_22 : decode cX3_feed 22 = .ok (.getfield 51, 3) := by decide +kernel
theorem dX3_feed_25 : decode cX3_feed 25 = .ok (.iload_n 3, 1) := by decide +kernel
theorem dX3_feed_26 : decode cX3_feed 26 = .ok (.iadd, 1) := by decide +kernel
theorem dX3_feed_27 : decode cX3_feed 27 = .ok (.sipush 400, 3) := by decide +kernel
theorem dX3_feed_30 : decode cX3_feed 30 = .ok (.if_icmp .le 9, 3) := by decide +kernel
theorem dX3_feed_33 : decode cX3_feed 33 = .ok (.aload_n 0, 1) := by decide +kernel
theorem dX3_feed_34 : decode cX3_feed 34 = .ok (.iconst 2, 1) := by decide +kernel
theorem dX3_feed_35 : decode cX3_feed 35 = .ok (.invokevirtual 47, 3) := by decide +kernel
theorem dX3_feed_38 : decode cX3_feed 38 = .ok (.ireturn, 1) := by decide +kernel
theorem dX3_feed_39 : decode cX3_feed 39 = .ok (.iload_n 3, 1) := by decide +kernel
theorem dX3_feed_40 : decode cX3_feed 40 = .ok (.iconst 1, 1) := by decide +kernel
theorem dX3_feed_41 : decode cX3_feed 41 = .ok (.isub, 1) := by decide +kernel
theorem dX3_feed_42 : decode cX3_feed 42 = .ok (.istore 4, 2) := by decide +kernel
theorem dX3_feed_44 : decode cX3_feed 44 = .ok (.iload 4, 2) := by decide +kernel
theorem dX3_feed_46 : decode cX3_feed 46 = .ok (.ifCond .lt 40, 3) := by decide +kernel
theorem dX3_feed_49 : decode cX3_feed 49 = .ok (.aload_n 0, 1) := by decide +kernel
theorem dX3_feed_50 : decode cX3_feed 50 = .ok (.getfield 9, 3) := by decide +kernel
theorem dX3_feed_53 : decode cX3_feed 53 = .ok (.aload_n 0, 1) := by decide +kernel
theorem dX3_feed_54 : decode cX3_feed 54 = .ok (.getfield 51, 3) := by decide +kernel
theorem dX3_feed_57 : decode cX3_feed 57 = .ok (.lload_n 1, 1) := by decide +kernel
theorem dX3_feed_58 : decode cX3_feed 58 = .ok (.bipush 8, 2) := by decide +kernel
theorem dX3_feed_60 : decode cX3_feed 60 = .ok (.iload 4, 2) := by decide +kernel
theorem dX3_feed_62 : decode cX3_feed 62 = .ok (.imul, 1) := by decide +kernel
theorem dX3_feed_63 : decode cX3_feed 63 = .ok (.lushr, 1) := by decide +kernel
theorem dX3_feed_64 : decode cX3_feed 64 = .ok (.ldc2_w 54, 3) := by decide +kernel
theorem dX3_feed_67 : decode cX3_feed 67 = .ok (.land, 1) := by decide +kernel
theorem dX3_feed_68 : decode cX3_feed 68 = .ok (.l2i, 1) := by decide +kernel
theorem dX3_feed_69 : decode cX3_feed 69 = .ok (.iastore, 1) := by decide +kernel
theorem dX3_feed_70 : decode cX3_feed 70 = .ok (.aload_n 0, 1) := by decide +kernel
theorem dX3_feed_71 : decode cX3_feed 71 = .ok (.dup, 1) := by decide +kernel
theorem dX3_feed_72 : decode cX3_feed 72 = .ok (.getfield 51, 3) := by decide +kernel
theorem dX3_feed_75 : decode cX3_feed 75 = .ok (.iconst 1, 1) := by decide +kernel
theorem dX3_feed_76 : decode cX3_feed 76 = .ok (.iadd, 1) := by decide +kernel
theorem dX3_feed_77 : decode cX3_feed 77 = .ok (.putfield 51, 3) := by decide +kernel
theorem dX3_feed_80 : decode cX3_feed 80 = .ok (.iinc 4 (-1), 3) := by decide +kernel
theorem dX3_feed_83 : decode cX3_feed 83 = .ok (.goto (-39), 3) := by decide +kernel
theorem dX3_feed_86 : decode cX3_feed 86 = .ok (.aload_n 0, 1) := by decide +kernel
theorem dX3_feed_87 : decode cX3_feed 87 = .ok (.getfield 51, 3) := by decide +kernel
theorem dX3_feed_90 : decode cX3_feed 90 = .ok (.ireturn, 1) := by decide +kernel
theorem dX3_keep_0 : decode cX3_keep 0 = .ok (.aload_n 0, 1) := by decide +kernel
theorem dX3_keep_1 : decode cX3_keep 1 = .ok (.getfield 14, 3) := by decide +kernel
theorem dX3_keep_4 : decode cX3_keep 4 = .ok (.aload_n 0, 1) := by decide +kernel
theorem dX3_keep_5 : decode cX3_keep 5 = .ok (.getfield 37, 3) := by decide +kernel
theorem dX3_keep_8 : decode cX3_keep 8 = .ok (.aload_n 1, 1) := by decide +kernel
theorem dX3_keep_9 : decode cX3_keep 9 = .ok (.aastore, 1) := by decide +kernel
theorem dX3_keep_10 : decode cX3_keep 10 = .ok (.aload_n 0, 1) := by decide +kernel
theorem dX3_keep_11 : decode cX3_keep 11 = .ok (.dup, 1) := by decide +kernel
theorem dX3_keep_12 : decode cX3_keep 12 = .ok (.getfield 37, 3) := by decide +kernel
theorem dX3_keep_15 : decode cX3_keep 15 = .ok (.iconst 1, 1) := by decide +kernel
theorem dX3_keep_16 : decode cX3_keep 16 = .ok (.iadd, 1) := by decide +kernel
theorem dX3_keep_17 : decode cX3_keep 17 = .ok (.putfield 37, 3) := by decide +kernel
theorem dX3_keep_20 : decode cX3_keep 20 = .ok (.aload_n 0, 1) := by decide +kernel
theorem dX3_keep_21 : decode cX3_keep 21 = .ok (.getfield 37, 3) := by decide +kernel
theorem dX3_keep_24 : decode cX3_keep 24 = .ok (.iconst 1, 1) := by decide +kernel
theorem dX3_keep_25 : decode cX3_keep 25 = .ok (.isub, 1) := by decide +kernel
theorem dX3_keep_26 : decode cX3_keep 26 = .ok (.ireturn, 1) := by decide +kernel
set_option maxRecDepth 20000 in
theorem ggX3_store_X3_fail : GoodIn wsX3_store wsX3_fail := goodIn_r _ [14, 1, 20, 21, 22, 23, 24, 25, 26, 27, 28, 29, 30, 31] (by decide +kernel) (by decide +kernel)
set_option maxRecDepth 20000 in
theorem gX3_store_X3_fail : GoodIn wsX3_store (wsV RX3 47 RX3 yX3_fail wsX3_fail) := goodIn_app (goodIn_of _ (by decide +kernel)) ggX3_store_X3_fail
set_option maxRecDepth 20000 in
theorem ggX3_store_X3_keep : GoodIn wsX3_store wsX3_keep := goodIn_r _ [18, 19, 2, 20, 21, 22, 23, 24, 25, 26, 27, 28, 29, 30, 31] (by decide +kernel) (by decide +kernel)
set_option maxRecDepth 20000 in
theorem gX3_store_X3_keep : GoodIn wsX3_store (wsV RX3 62 RX3 yX3_keep wsX3_keep) := goodIn_app (goodIn_of _ (by decide +kernel)) ggX3_store_X3_keep
theorem dX3_store_0 : decode cX3_store 0 = .ok (.aload_n 0, 1) := by decide +kernel
theorem dX3_store_1 : decode cX3_store 1 = .ok (.iconst 0, 1) := by decide +kernel
theorem dX3_store_2 : decode cX3_store 2 = .ok (.putfield 33, 3) := by decide +kernel
theorem dX3_store_5 : decode cX3_store 5 = .ok (.aload_n 0, 1) := by decide +kernel
theorem dX3_store_6 : decode cX3_store 6 = .ok (.getfield 37, 3) := by decide +kernel
theorem dX3_store_9 : decode cX3_store 9 = .ok (.bipush 12, 2) := by decide +kernel
theorem dX3_store_11 : decode cX3_store 11 = .ok (.if_icmp .ne 9, 3) := by decide +kernel
theorem dX3_store_14 : decode cX3_store 14 = .ok (.aload_n 0, 1) := by decide +kernel
theorem dX3_store_15 : decode cX3_store 15 = .ok (.iconst 1, 1) := by decide +kernel
theorem dX3_store_16 : decode cX3_store 16 = .ok (.invokevirtual 47, 3) := by decide +kernel
theorem dX3_store_19 : decode cX3_store 19 = .ok (.ireturn, 1) := by decide +kernel
theorem dX3_store_20 : decode cX3_store 20 = .ok (.aload_n 0, 1) := by decide +kernel
theorem dX3_store_21 : decode cX3_store 21 = .ok (.getfield 51, 3) := by decide +kernel
theorem dX3_store_24 : decode cX3_store 24 = .ok (.newarray .int, 2) := by decide +kernel
theorem dX3_store_26 : decode cX3_store 26 = .ok (.astore_n 1, 1) := by decide +kernel
theorem dX3_store_27 : decode cX3_store 27 = .ok (.aload_n 0, 1) := by decide +kernel
theorem dX3_store_28 : decode cX3_store 28 = .ok (.getfield 9, 3) := by decide +kernel
theorem dX3_store_31 : decode cX3_store 31 = .ok (.iconst 0, 1) := by decide +kernel
theorem dX3_store_32 : decode cX3_store 32 = .ok (.aload_n 1, 1) := by decide +kernel
theorem dX3_store_33 : decode cX3_store 33 = .ok (.iconst 0, 1) := by decide +kernel
theorem dX3_store_34 : decode cX3_store 34 = .ok (.aload_n 0, 1) := by decide +kernel
theorem dX3_store_35 : decode cX3_store 35 = .ok (.getfield 51, 3) := by decide +kernel
theorem dX3_store_38 : decode cX3_store 38 = .ok (.invokestatic 56, 3) := by decide +kernel
theorem dX3_store_41 : decode cX3_store 41 = .ok (.aload_n 0, 1) := by decide +kernel
theorem dX3_store_42 : decode cX3_store 42 = .ok (.iconst 0, 1) := by decide +kernel
theorem dX3_store_43 : decode cX3_store 43 = .ok (.putfield 51, 3) := by decide +kernel
theorem dX3_store_46 : decode cX3_store 46 = .ok (.aload_n 0, 1) := by decide +kernel
theorem dX3_store_47 : decode cX3_store 47 = .ok (.aload_n 1, 1) := by decide +kernel
theorem dX3_store_48 : decode cX3_store 48 = .ok (.invokevirtual 62, 3) := by decide +kernel
theorem dX3_store_51 : decode cX3_store 51 = .ok (.ireturn, 1) := by decide +kernel
theorem dX3_versions_0 : decode cX3_versions 0 = .ok (.aload_n 0, 1) := by decide +kernel
theorem dX3_versions_1 : decode cX3_versions 1 = .ok (.iconst 0, 1) := by decide +kernel
theorem dX3_versions_2 : decode cX3_versions 2 = .ok (.putfield 33, 3) := by decide +kernel
theorem dX3_versions_5 : decode cX3_versions 5 = .ok (.aload_n 0, 1) := by decide +kernel
theorem dX3_versions_6 : decode cX3_versions 6 = .ok (.getfield 37, 3) := by decide +kernel
theorem dX3_versions_9 : decode cX3_versions 9 = .ok (.ireturn, 1) := by decide +kernel
set_option maxRecDepth 20000 in
theorem ggX3_length_X3_isVersion : GoodIn wsX3_length wsX3_isVersion := goodIn_r _ [7, 8, 9, 10, 6, 11, 16, 17, 18, 19, 20, 21, 22, 23, 24, 25, 26, 27] (by decide +kernel) (by decide +kernel)
set_option maxRecDepth 20000 in
theorem gX3_length_X3_isVersion : GoodIn wsX3_length (wsV RX3 66 RX3 yX3_isVersion wsX3_isVersion) := goodIn_app (goodIn_of _ (by decide +kernel)) ggX3_length_X3_isVersion
set_option maxRecDepth 20000 in
theorem ggX3_length_X3_fail : GoodIn wsX3_length wsX3_fail := goodIn_r _ [15, 1, 16, 17, 18, 19, 20, 21, 22, 23, 24, 25, 26, 27] (by decide +kernel) (by decide +kernel)
set_option maxRecDepth 20000 in
theorem gX3_length_X3_fail : GoodIn wsX3_length (wsV RX3 47 RX3 yX3_fail wsX3_fail) := goodIn_app (goodIn_of _ (by decide +kernel)) ggX3_length_X3_fail
theorem dX3_length_0 : decode cX3_length 0 = .ok (.aload_n 0, 1) := by decide +kernel
theorem dX3_length_1 : decode cX3_length 1 = .ok (.iconst 0, 1) := by decide +kernel
theorem dX3_length_2 : decode cX3_length 2 = .ok (.putfield 33, 3) := by decide +kernel
theorem dX3_length_5 : decode cX3_length 5 = .ok (.aload_n 0, 1) := by decide +kernel
theorem dX3_length_6 : decode cX3_length 6 = .ok (.iload_n 1, 1) := by decide +kernel
theorem dX3_length_7 : decode cX3_length 7 = .ok (.invokevirtual 66, 3) := by decide +kernel
theorem dX3_length_10 : decode cX3_length 10 = .ok (.ifCond .eq 13, 3) := by decide +kernel
theorem dX3_length_13 : decode cX3_length 13 = .ok (.aload_n 0, 1) := by decide +kernel
theorem dX3_length_14 : decode cX3_length 14 = .ok (.getfield 14, 3) := by decide +kernel
theorem dX3_length_17 : decode cX3_length 17 = .ok (.iload_n 1, 1) := by decide +kernel
theorem dX3_length_18 : decode cX3_length 18 = .ok (.aaload, 1) := by decide +kernel
theorem dX3_length_19 : decode cX3_length 19 = .ok (.arraylength, 1) := by decide +kernel
theorem dX3_length_20 : decode cX3_length 20 = .ok (.goto 8, 3) := by decide +kernel
theorem dX3_length_23 : decode cX3_length 23 = .ok (.aload_n 0, 1) := by decide +kernel
theorem dX3_length_24 : decode cX3_length 24 = .ok (.iconst 1, 1) := by decide +kernel
theorem dX3_length_25 : decode cX3_length 25 = .ok (.invokevirtual 47, 3) := by decide +kernel
theorem dX3_length_28 : decode cX3_length 28 = .ok (.ireturn, 1) := by decide +kernel
set_option maxRecDepth 20000 in
theorem ggX3_byteAt_X3_isVersion : GoodIn wsX3_byteAt wsX3_isVersion := goodIn_r _ [7, 8, 9, 10, 6, 11, 16, 17, 18, 19, 20, 21, 22, 23, 24, 25, 26, 27] (by decide +kernel) (by decide +kernel)
set_option maxRecDepth 20000 in
theorem gX3_byteAt_X3_isVersion : GoodIn wsX3_byteAt (wsV RX3 66 RX3 yX3_isVersion wsX3_isVersion) := goodIn_app (goodIn_of _ (by decide +kernel)) ggX3_byteAt_X3_isVersion
set_option maxRecDepth 20000 in
theorem ggX3_byteAt_X3_isIn : GoodIn wsX3_byteAt wsX3_isIn := goodIn_r _ [11] (by decide +kernel) (by decide +kernel)
set_option maxRecDepth 20000 in
theorem gX3_byteAt_X3_isIn : GoodIn wsX3_byteAt (va_wsS RX3 40 yX3_isIn wsX3_isIn) := goodIn_app (goodIn_of _ (by decide +kernel)) ggX3_byteAt_X3_isIn
set_option maxRecDepth 20000 in
theorem ggX3_byteAt_X3_fail : GoodIn wsX3_byteAt wsX3_fail := goodIn_r _ [15, 1, 16, 17, 18, 19, 20, 21, 22, 23, 24, 25, 26, 27] (by decide +kernel) (by decide +kernel)
set_option maxRecDepth 20000 in
theorem gX3_byteAt_X3_fail : GoodIn wsX3_byteAt (wsV RX3 47 RX3 yX3_fail wsX3_fail) := goodIn_app (goodIn_of _ (by decide +kernel)) ggX3_byteAt_X3_fail
theorem dX3_byteAt_0 : decode cX3_byteAt 0 = .ok (.aload_n 0, 1) := by decide +kernel
theorem dX3_byteAt_1 : decode cX3_byteAt 1 = .ok (.iconst 0, 1) := by decide +kernel
theorem dX3_byteAt_2 : decode cX3_byteAt 2 = .ok (.putfield 33, 3) := by decide +kernel
theorem dX3_byteAt_5 : decode cX3_byteAt 5 = .ok (.aload_n 0, 1) := by decide +kernel
theorem dX3_byteAt_6 : decode cX3_byteAt 6 = .ok (.iload_n 1, 1) := by decide +kernel
theorem dX3_byteAt_7 : decode cX3_byteAt 7 = .ok (.invokevirtual 66, 3) := by decide +kernel
theorem dX3_byteAt_10 : decode cX3_byteAt 10 = .ok (.ifCond .eq 31, 3) := by decide +kernel
theorem dX3_byteAt_13 : decode cX3_byteAt 13 = .ok (.iload_n 2, 1) := by decide +kernel
theorem dX3_byteAt_14 : decode cX3_byteAt 14 = .ok (.iconst 0, 1) := by decide +kernel
theorem dX3_byteAt_15 : decode cX3_byteAt 15 = .ok (.aload_n 0, 1) := by decide +kernel
theorem dX3_byteAt_16 : decode cX3_byteAt 16 = .ok (.getfield 14, 3) := by decide +kernel
theorem dX3_byteAt_19 : decode cX3_byteAt 19 = .ok (.iload_n 1, 1) := by decide +kernel
theorem dX3_byteAt_20 : decode cX3_byteAt 20 = .ok (.aaload, 1) := by decide +kernel
theorem dX3_byteAt_21 : decode cX3_byteAt 21 = .ok (.arraylength, 1) := by decide +kernel
theorem dX3_byteAt_22 : decode cX3_byteAt 22 = .ok (.iconst 1, 1) := by decide +kernel
theorem dX3_byteAt_23 : decode cX3_byteAt 23 = .ok (.isub, 1) := by decide +kernel
theorem dX3_byteAt_24 : decode cX3_byteAt 24 = .ok (.invokestatic 40, 3) := by decide +kernel
theorem dX3_byteAt_27 : decode cX3_byteAt 27 = .ok (.ifCond .eq 14, 3) := by decide +kernel
theorem dX3_byteAt_30 : decode cX3_byteAt 30 = .ok (.aload_n 0, 1) := by decide +kernel
theorem dX3_byteAt_31 : decode cX3_byteAt 31 = .ok (.getfield 14, 3) := by decide +kernel
theorem dX3_byteAt_34 : decode cX3_byteAt 34 = .ok (.iload_n 1, 1) := by decide +kernel
theorem dX3_byteAt_35 : decode cX3_byteAt 35 = .ok (.aaload, 1) := by decide +kernel
theorem dX3_byteAt_36 : decode cX3_byteAt 36 = .ok (.iload_n 2, 1) := by decide +kernel
theorem dX3_byteAt_37 : decode cX3_byteAt 37 = .ok (.iaload, 1) := by decide +kernel
theorem dX3_byteAt_38 : decode cX3_byteAt 38 = .ok (.goto 8, 3) := by decide +kernel
theorem dX3_byteAt_41 : decode cX3_byteAt 41 = .ok (.aload_n 0, 1) := by decide +kernel
theorem dX3_byteAt_42 : decode cX3_byteAt 42 = .ok (.iconst 1, 1) := by decide +kernel
theorem dX3_byteAt_43 : decode cX3_byteAt 43 = .ok (.invokevirtual 47, 3) := by decide +kernel
theorem dX3_byteAt_46 : decode cX3_byteAt 46 = .ok (.ireturn, 1) := by decide +kernel
set_option maxRecDepth 20000 in
theorem ggX3_areSame_X3_isVersion : GoodIn wsX3_areSame wsX3_isVersion := goodIn_r _ [7, 8, 9, 10, 6, 11, 15, 16, 17, 18, 19, 20, 21, 22, 23, 24, 25, 26] (by decide +kernel) (by decide +kernel)
set_option maxRecDepth 20000 in
theorem gX3_areSame_X3_isVersion : GoodIn wsX3_areSame (wsV RX3 66 RX3 yX3_isVersion wsX3_isVersion) := goodIn_app (goodIn_of _ (by decide +kernel)) ggX3_areSame_X3_isVersion
set_option maxRecDepth 20000 in
theorem ggX3_areSame_X3_are : GoodIn wsX3_areSame wsX3_are := goodIn_r _ [14] (by decide +kernel) (by decide +kernel)
set_option maxRecDepth 20000 in
theorem gX3_areSame_X3_are : GoodIn wsX3_areSame (va_wsS RX3 70 yX3_are wsX3_are) := goodIn_app (goodIn_of _ (by decide +kernel)) ggX3_areSame_X3_are
theorem dX3_areSame_0 : decode cX3_areSame 0 = .ok (.aload_n 0, 1) := by decide +kernel
theorem dX3_areSame_1 : decode cX3_areSame 1 = .ok (.aload_n 0, 1) := by decide +kernel
theorem dX3_areSame_2 : decode cX3_areSame 2 = .ok (.iload_n 1, 1) := by decide +kernel
theorem dX3_areSame_3 : decode cX3_areSame 3 = .ok (.invokevirtual 66, 3) := by decide +kernel
theorem dX3_areSame_6 : decode cX3_areSame 6 = .ok (.ifCond .eq 15, 3) := by decide +kernel
theorem dX3_areSame_9 : decode cX3_areSame 9 = .ok (.aload_n 0, 1) := by decide +kernel
theorem dX3_areSame_10 : decode cX3_areSame 10 = .ok (.iload_n 2, 1) := by decide +kernel
theorem dX3_areSame_11 : decode cX3_areSame 11 = .ok (.invokevirtual 66, 3) := by decide +kernel
theorem dX3_areSame_14 : decode cX3_areSame 14 = .ok (.ifCond .eq 7, 3) := by decide +kernel
theorem dX3_areSame_17 : decode cX3_areSame 17 = .ok (.iconst 0, 1) := by decide +kernel
theorem dX3_areSame_18 : decode cX3_areSame 18 = .ok (.goto 4, 3) := by decide +kernel
theorem dX3_areSame_21 : decode cX3_areSame 21 = .ok (.iconst 1, 1) := by decide +kernel
theorem dX3_areSame_22 : decode cX3_areSame 22 = .ok (.putfield 33, 3) := by decide +kernel
theorem dX3_areSame_25 : decode cX3_areSame 25 = .ok (.aload_n 0, 1) := by decide +kernel
theorem dX3_areSame_26 : decode cX3_areSame 26 = .ok (.getfield 33, 3) := by decide +kernel
theorem dX3_areSame_29 : decode cX3_areSame 29 = .ok (.ifCond .ne 25, 3) := by decide +kernel
theorem dX3_areSame_32 : decode cX3_areSame 32 = .ok (.aload_n 0, 1) := by decide +kernel
theorem dX3_areSame_33 : decode cX3_areSame 33 = .ok (.getfield 14, 3) := by decide +kernel
theorem dX3_areSame_36 : decode cX3_areSame 36 = .ok (.iload_n 1, 1) := by decide +kernel
theorem dX3_areSame_37 : decode cX3_areSame 37 = .ok (.aaload, 1) := by decide +kernel
theorem dX3_areSame_38 : decode cX3_areSame 38 = .ok (.aload_n 0, 1) := by decide +kernel
theorem dX3_areSame_39 : decode cX3_areSame 39 = .ok (.getfield 14, 3) := by decide +kernel
theorem dX3_areSame_42 : decode cX3_areSame 42 = .ok (.iload_n 2, 1) := by decide +kernel
theorem dX3_areSame_43 : decode cX3_areSame 43 = .ok (.aaload, 1) := by decide +kernel
theorem dX3_areSame_44 : decode cX3_areSame 44 = .ok (.invokestatic 70, 3) := by decide +kernel
theorem dX3_areSame_47 : decode cX3_areSame 47 = .ok (.ifCond .eq 7, 3) := by decide +kernel
theorem dX3_areSame_50 : decode cX3_areSame 50 = .ok (.iconst 1, 1) := by decide +kernel
theorem dX3_areSame_51 : decode cX3_areSame 51 = .ok (.goto 4, 3) := by decide +kernel
theorem dX3_areSame_54 : decode cX3_areSame 54 = .ok (.iconst 0, 1) := by decide +kernel
theorem dX3_areSame_55 : decode cX3_areSame 55 = .ok (.ireturn, 1) := by decide +kernel
theorem dX3_sumOf_0 : decode cX3_sumOf 0 = .ok (.iconst 0, 1) := by decide +kernel
theorem dX3_sumOf_1 : decode cX3_sumOf 1 = .ok (.istore_n 3, 1) := by decide +kernel
theorem dX3_sumOf_2 : decode cX3_sumOf 2 = .ok (.iconst 0, 1) := by decide +kernel
theorem dX3_sumOf_3 : decode cX3_sumOf 3 = .ok (.istore 4, 2) := by decide +kernel
theorem dX3_sumOf_5 : decode cX3_sumOf 5 = .ok (.iload_n 1, 1) := by decide +kernel
theorem dX3_sumOf_6 : decode cX3_sumOf 6 = .ok (.istore 5, 2) := by decide +kernel
theorem dX3_sumOf_8 : decode cX3_sumOf 8 = .ok (.iload 5, 2) := by decide +kernel
theorem dX3_sumOf_10 : decode cX3_sumOf 10 = .ok (.iload_n 1, 1) := by decide +kernel
theorem dX3_sumOf_11 : decode cX3_sumOf 11 = .ok (.iload_n 2, 1) := by decide +kernel
theorem dX3_sumOf_12 : decode cX3_sumOf 12 = .ok (.iadd, 1) := by decide +kernel
theorem dX3_sumOf_13 : decode cX3_sumOf 13 = .ok (.if_icmp .ge 22, 3) := by decide +kernel
theorem dX3_sumOf_16 : decode cX3_sumOf 16 = .ok (.iload_n 3, 1) := by decide +kernel
theorem dX3_sumOf_17 : decode cX3_sumOf 17 = .ok (.aload_n 0, 1) := by decide +kernel
theorem dX3_sumOf_18 : decode cX3_sumOf 18 = .ok (.iload 5, 2) := by decide +kernel
theorem dX3_sumOf_20 : decode cX3_sumOf 20 = .ok (.iaload, 1) := by decide +kernel
theorem dX3_sumOf_21 : decode cX3_sumOf 21 = .ok (.iadd, 1) := by decide +kernel
theorem dX3_sumOf_22 : decode cX3_sumOf 22 = .ok (.istore_n 3, 1) := by decide +kernel
theorem dX3_sumOf_23 : decode cX3_sumOf 23 = .ok (.iload 4, 2) := by decide +kernel
theorem dX3_sumOf_25 : decode cX3_sumOf 25 = .ok (.iload_n 3, 1) := by decide +kernel
theorem dX3_sumOf_26 : decode cX3_sumOf 26 = .ok (.iadd, 1) := by decide +kernel
theorem dX3_sumOf_27 : decode cX3_sumOf 27 = .ok (.istore 4, 2) := by decide +kernel
theorem dX3_sumOf_29 : decode cX3_sumOf 29 = .ok (.iinc 5 1, 3) := by decide +kernel
theorem dX3_sumOf_32 : decode cX3_sumOf 32 = .ok (.goto (-24), 3) := by decide +kernel
theorem dX3_sumOf_35 : decode cX3_sumOf 35 = .ok (.iload_n 3, 1) := by decide +kernel
theorem dX3_sumOf_36 : decode cX3_sumOf 36 = .ok (.sipush 255, 3) := by decide +kernel
theorem dX3_sumOf_39 : decode cX3_sumOf 39 = .ok (.iand, 1) := by decide +kernel
theorem dX3_sumOf_40 : decode cX3_sumOf 40 = .ok (.sipush 256, 3) := by decide +kernel
theorem dX3_sumOf_43 : decode cX3_sumOf 43 = .ok (.iload 4, 2) := by decide +kernel
theorem dX3_sumOf_45 : decode cX3_sumOf 45 = .ok (.sipush 255, 3) := by decide +kernel
theorem dX3_sumOf_48 : decode cX3_sumOf 48 = .ok (.iand, 1) := by decide +kernel
theorem dX3_sumOf_49 : decode cX3_sumOf 49 = .ok (.imul, 1) := by decide +kernel
theorem dX3_sumOf_50 : decode cX3_sumOf 50 = .ok (.iadd, 1) := by decide +kernel
theorem dX3_sumOf_51 : decode cX3_sumOf 51 = .ok (.ireturn, 1) := by decide +kernel
set_option maxRecDepth 20000 in
theorem ggX3_weakSum_X3_isVersion : GoodIn wsX3_weakSum wsX3_isVersion := goodIn_r _ [7, 8, 9, 10, 6, 11, 19, 20, 21, 22, 23, 24, 25, 26, 27, 28, 29, 30] (by decide +kernel) (by decide +kernel)
set_option maxRecDepth 20000 in
theorem gX3_weakSum_X3_isVersion : GoodIn wsX3_weakSum (wsV RX3 66 RX3 yX3_isVersion wsX3_isVersion) := goodIn_app (goodIn_of _ (by decide +kernel)) ggX3_weakSum_X3_isVersion
set_option maxRecDepth 20000 in
theorem ggX3_weakSum_X3_fail : GoodIn wsX3_weakSum wsX3_fail := goodIn_r _ [15, 1, 19, 20, 21, 22, 23, 24, 25, 26, 27, 28, 29, 30] (by decide +kernel) (by decide +kernel)
set_option maxRecDepth 20000 in
theorem gX3_weakSum_X3_fail : GoodIn wsX3_weakSum (wsV RX3 47 RX3 yX3_fail wsX3_fail) := goodIn_app (goodIn_of _ (by decide +kernel)) ggX3_weakSum_X3_fail
set_option maxRecDepth 20000 in
theorem ggX3_weakSum_X3_isIn : GoodIn wsX3_weakSum wsX3_isIn := goodIn_r _ [11] (by decide +kernel) (by decide +kernel)
set_option maxRecDepth 20000 in
theorem gX3_weakSum_X3_isIn : GoodIn wsX3_weakSum (va_wsS RX3 40 yX3_isIn wsX3_isIn) := goodIn_app (goodIn_of _ (by decide +kernel)) ggX3_weakSum_X3_isIn
set_option maxRecDepth 20000 in
theorem ggX3_weakSum_X3_sumOf : GoodIn wsX3_weakSum wsX3_sumOf := goodIn_r _ [18] (by decide +kernel) (by decide +kernel)
set_option maxRecDepth 20000 in
theorem gX3_weakSum_X3_sumOf : GoodIn wsX3_weakSum (va_wsS RX3 74 yX3_sumOf wsX3_sumOf) := goodIn_app (goodIn_of _ (by decide +kernel)) ggX3_weakSum_X3_sumOf
theorem dX3_weakSum_0 : decode cX3_weakSum 0 = .ok (.aload_n 0, 1) := by decide +kernel
theorem dX3_weakSum_1 : decode cX3_weakSum 1 = .ok (.iconst 0, 1) := by decide +kernel
theorem dX3_weakSum_2 : decode cX3_weakSum 2 = .ok (.putfield 33, 3) := by decide +kernel
theorem dX3_weakSum_5 : decode cX3_weakSum 5 = .ok (.aload_n 0, 1) := by decide +kernel
theorem dX3_weakSum_6 : decode cX3_weakSum 6 = .ok (.iload_n 1, 1) := by decide +kernel
theorem dX3_weakSum_7 : decode cX3_weakSum 7 = .ok (.invokevirtual 66, 3) := by decide +kernel
theorem dX3_weakSum_10 : decode cX3_weakSum 10 = .ok (.ifCond .ne 9, 3) := by decide +kernel
theorem dX3_weakSum_13 : decode cX3_weakSum 13 = .ok (.aload_n 0, 1) := by decide +kernel
theorem dX3_weakSum_14 : decode cX3_weakSum 14 = .ok (.iconst 1, 1) := by decide +kernel
theorem dX3_weakSum_15 : decode cX3_weakSum 15 = .ok (.invokevirtual 47, 3) := by decide +kernel
theorem dX3_weakSum_18 : decode cX3_weakSum 18 = .ok (.ireturn, 1) := by decide +kernel
theorem dX3_weakSum_19 : decode cX3_weakSum 19 = .ok (.iload_n 3, 1) := by decide +kernel
theorem dX3_weakSum_20 : decode cX3_weakSum 20 = .ok (.iconst 1, 1) := by decide +kernel
theorem dX3_weakSum_21 : decode cX3_weakSum 21 = .ok (.bipush 32, 2) := by decide +kernel
theorem dX3_weakSum_23 : decode cX3_weakSum 23 = .ok (.invokestatic 40, 3) := by decide +kernel
theorem dX3_weakSum_26 : decode cX3_weakSum 26 = .ok (.ifCond .eq 20, 3) := by decide +kernel
theorem dX3_weakSum_29 : decode cX3_weakSum 29 = .ok (.iload_n 2, 1) := by decide +kernel
theorem dX3_weakSum_30 : decode cX3_weakSum 30 = .ok (.ifCond .lt 16, 3) := by decide +kernel
theorem dX3_weakSum_33 : decode cX3_weakSum 33 = .ok (.iload_n 2, 1) := by decide +kernel
theorem dX3_weakSum_34 : decode cX3_weakSum 34 = .ok (.aload_n 0, 1) := by decide +kernel
theorem dX3_weakSum_35 : decode cX3_weakSum 35 = .ok (.getfield 14, 3) := by decide +kernel
theorem dX3_weakSum_38 : decode cX3_weakSum 38 = .ok (.iload_n 1, 1) := by decide +kernel
theorem dX3_weakSum_39 : decode cX3_weakSum 39 = .ok (.aaload, 1) := by decide +kernel
theorem dX3_weakSum_40 : decode cX3_weakSum 40 = .ok (.arraylength, 1) := by decide +kernel
theorem dX3_weakSum_41 : decode cX3_weakSum 41 = .ok (.iload_n 3, 1) := by decide +kernel
theorem dX3_weakSum_42 : decode cX3_weakSum 42 = .ok (.isub, 1) := by decide +kernel
theorem dX3_weakSum_43 : decode cX3_weakSum 43 = .ok (.if_icmp .le 9, 3) := by decide +kernel
theorem dX3_weakSum_46 : decode cX3_weakSum 46 = .ok (.aload_n 0, 1) := by decide +kernel
theorem dX3_weakSum_47 : decode cX3_weakSum 47 = .ok (.iconst 2, 1) := by decide +kernel
theorem dX3_weakSum_48 : decode cX3_weakSum 48 = .ok (.invokevirtual 47, 3) := by decide +kernel
theorem dX3_weakSum_51 : decode cX3_weakSum 51 = .ok (.ireturn, 1) := by decide +kernel
theorem dX3_weakSum_52 : decode cX3_weakSum 52 = .ok (.aload_n 0, 1) := by decide +kernel
theorem dX3_weakSum_53 : decode cX3_weakSum 53 = .ok (.getfield 14, 3) := by decide +kernel
theorem dX3_weakSum_56 : decode cX3_weakSum 56 = .ok (.iload_n 1, 1) := by decide +kernel
theorem dX3_weakSum_57 : decode cX3_weakSum 57 = .ok (.aaload, 1) := by decide +kernel
theorem dX3_weakSum_58 : decode cX3_weakSum 58 = .ok (.iload_n 2, 1) := by decide +kernel
theorem dX3_weakSum_59 : decode cX3_weakSum 59 = .ok (.iload_n 3, 1) := by decide +kernel
theorem dX3_weakSum_60 : decode cX3_weakSum 60 = .ok (.invokestatic 74, 3) := by decide +kernel
theorem dX3_weakSum_63 : decode cX3_weakSum 63 = .ok (.ireturn, 1) := by decide +kernel
theorem dX3_isLike_0 : decode cX3_isLike 0 = .ok (.iconst 1, 1) := by decide +kernel
theorem dX3_isLike_1 : decode cX3_isLike 1 = .ok (.istore 5, 2) := by decide +kernel
theorem dX3_isLike_3 : decode cX3_isLike 3 = .ok (.iconst 0, 1) := by decide +kernel
theorem dX3_isLike_4 : decode cX3_isLike 4 = .ok (.istore 6, 2) := by decide +kernel
theorem dX3_isLike_6 : decode cX3_isLike 6 = .ok (.iload 6, 2) := by decide +kernel
theorem dX3_isLike_8 : decode cX3_isLike 8 = .ok (.iload 4, 2) := by decide +kernel
theorem dX3_isLike_10 : decode cX3_isLike 10 = .ok (.if_icmp .ge 36, 3) := by decide +kernel
theorem dX3_isLike_13 : decode cX3_isLike 13 = .ok (.iload 5, 2) := by decide +kernel
theorem dX3_isLike_15 : decode cX3_isLike 15 = .ok (.ifCond .eq 31, 3) := by decide +kernel
theorem dX3_isLike_18 : decode cX3_isLike 18 = .ok (.aload_n 0, 1) := by decide +kernel
theorem dX3_isLike_19 : decode cX3_isLike 19 = .ok (.iload_n 1, 1) := by decide +kernel
theorem dX3_isLike_20 : decode cX3_isLike 20 = .ok (.iload 6, 2) := by decide +kernel
theorem dX3_isLike_22 : decode cX3_isLike 22 = .ok (.iadd, 1) := by decide +kernel
theorem dX3_isLike_23 : decode cX3_isLike 23 = .ok (.iaload, 1) := by decide +kernel
theorem dX3_isLike_24 : decode cX3_isLike 24 = .ok (.aload_n 2, 1) := by decide +kernel
theorem dX3_isLike_25 : decode cX3_isLike 25 = .ok (.iload_n 3, 1) := by decide +kernel
theorem dX3_isLike_26 : decode cX3_isLike 26 = .ok (.iload 6, 2) := by decide +kernel
theorem dX3_isLike_28 : decode cX3_isLike 28 = .ok (.iadd, 1) := by decide +kernel
theorem dX3_isLike_29 : decode cX3_isLike 29 = .ok (.iaload, 1) := by decide +kernel
theorem dX3_isLike_30 : decode cX3_isLike 30 = .ok (.if_icmp .ne 7, 3) := by decide +kernel
theorem dX3_isLike_33 : decode cX3_isLike 33 = .ok (.iconst 1, 1) := by decide +kernel
theorem dX3_isLike_34 : decode cX3_isLike 34 = .ok (.goto 4, 3) := by decide +kernel
theorem dX3_isLike_37 : decode cX3_isLike 37 = .ok (.iconst 0, 1) := by decide +kernel
theorem dX3_isLike_38 : decode cX3_isLike 38 = .ok (.istore 5, 2) := by decide +kernel
theorem dX3_isLike_40 : decode cX3_isLike 40 = .ok (.iinc 6 1, 3) := by decide +kernel
theorem dX3_isLike_43 : decode cX3_isLike 43 = .ok (.goto (-37), 3) := by decide +kernel
theorem dX3_isLike_46 : decode cX3_isLike 46 = .ok (.iload 5, 2) := by decide +kernel
theorem dX3_isLike_48 : decode cX3_isLike 48 = .ok (.ireturn, 1) := by decide +kernel
set_option maxRecDepth 20000 in
theorem ggX3_collisions_X3_isVersion : GoodIn wsX3_collisions wsX3_isVersion := goodIn_r _ [8, 9, 10, 11, 7, 12, 26, 27, 28, 29, 30, 31, 32, 33, 34, 35, 36, 37] (by decide +kernel) (by decide +kernel)
set_option maxRecDepth 20000 in
theorem gX3_collisions_X3_isVersion : GoodIn wsX3_collisions (wsV RX3 66 RX3 yX3_isVersion wsX3_isVersion) := goodIn_app (goodIn_of _ (by decide +kernel)) ggX3_collisions_X3_isVersion
set_option maxRecDepth 20000 in
theorem ggX3_collisions_X3_fail : GoodIn wsX3_collisions wsX3_fail := goodIn_r _ [16, 1, 26, 27, 28, 29, 30, 31, 32, 33, 34, 35, 36, 37] (by decide +kernel) (by decide +kernel)
set_option maxRecDepth 20000 in
theorem gX3_collisions_X3_fail : GoodIn wsX3_collisions (wsV RX3 47 RX3 yX3_fail wsX3_fail) := goodIn_app (goodIn_of _ (by decide +kernel)) ggX3_collisions_X3_fail
set_option maxRecDepth 20000 in
theorem ggX3_collisions_X3_isSize : GoodIn wsX3_collisions wsX3_isSize := goodIn_r _ [19, 10, 11, 7, 12] (by decide +kernel) (by decide +kernel)
set_option maxRecDepth 20000 in
theorem gX3_collisions_X3_isSize : GoodIn wsX3_collisions (va_wsS RX3 78 yX3_isSize wsX3_isSize) := goodIn_app (goodIn_of _ (by decide +kernel)) ggX3_collisions_X3_isSize
set_option maxRecDepth 20000 in
theorem ggX3_collisions_X3_sumOf : GoodIn wsX3_collisions wsX3_sumOf := goodIn_r _ [22] (by decide +kernel) (by decide +kernel)
set_option maxRecDepth 20000 in
theorem gX3_collisions_X3_sumOf : GoodIn wsX3_collisions (va_wsS RX3 74 yX3_sumOf wsX3_sumOf) := goodIn_app (goodIn_of _ (by decide +kernel)) ggX3_collisions_X3_sumOf
set_option maxRecDepth 20000 in
theorem ggX3_collisions_X3_isLike : GoodIn wsX3_collisions wsX3_isLike := goodIn_r _ [25] (by decide +kernel) (by decide +kernel)
set_option maxRecDepth 20000 in
theorem gX3_collisions_X3_isLike : GoodIn wsX3_collisions (va_wsS RX3 81 yX3_isLike wsX3_isLike) := goodIn_app (goodIn_of _ (by decide +kernel)) ggX3_collisions_X3_isLike
theorem dX3_collisions_0 : decode cX3_collisions 0 = .ok (.aload_n 0, 1) := by decide +kernel
theorem dX3_collisions_1 : decode cX3_collisions 1 = .ok (.iconst 0, 1) := by decide +kernel
theorem dX3_collisions_2 : decode cX3_collisions 2 = .ok (.putfield 33, 3) := by decide +kernel
theorem dX3_collisions_5 : decode cX3_collisions 5 = .ok (.aload_n 0, 1) := by decide +kernel
theorem dX3_collisions_6 : decode cX3_collisions 6 = .ok (.iload_n 1, 1) := by decide +kernel
theorem dX3_collisions_7 : decode cX3_collisions 7 = .ok (.invokevirtual 66, 3) := by decide +kernel
theorem dX3_collisions_10 : decode cX3_collisions 10 = .ok (.ifCond .ne 9, 3) := by decide +kernel
theorem dX3_collisions_13 : decode cX3_collisions 13 = .ok (.aload_n 0, 1) := by decide +kernel
theorem dX3_collisions_14 : decode cX3_collisions 14 = .ok (.iconst 1, 1) := by decide +kernel
theorem dX3_collisions_15 : decode cX3_collisions 15 = .ok (.invokevirtual 47, 3) := by decide +kernel
theorem dX3_collisions_18 : decode cX3_collisions 18 = .ok (.ireturn, 1) := by decide +kernel
theorem dX3_collisions_19 : decode cX3_collisions 19 = .ok (.iload_n 2, 1) := by decide +kernel
theorem dX3_collisions_20 : decode cX3_collisions 20 = .ok (.invokestatic 78, 3) := by decide +kernel
theorem dX3_collisions_23 : decode cX3_collisions 23 = .ok (.ifCond .ne 9, 3) := by decide +kernel
theorem dX3_collisions_26 : decode cX3_collisions 26 = .ok (.aload_n 0, 1) := by decide +kernel
theorem dX3_collisions_27 : decode cX3_collisions 27 = .ok (.iconst 2, 1) := by decide +kernel
theorem dX3_collisions_28 : decode cX3_collisions 28 = .ok (.invokevirtual 47, 3) := by decide +kernel
theorem dX3_collisions_31 : decode cX3_collisions 31 = .ok (.ireturn, 1) := by decide +kernel
theorem dX3_collisions_32 : decode cX3_collisions 32 = .ok (.aload_n 0, 1) := by decide +kernel
theorem dX3_collisions_33 : decode cX3_collisions 33 = .ok (.getfield 14, 3) := by decide +kernel
theorem dX3_collisions_36 : decode cX3_collisions 36 = .ok (.iload_n 1, 1) := by decide +kernel
theorem dX3_collisions_37 : decode cX3_collisions 37 = .ok (.aaload, 1) := by decide +kernel
theorem dX3_collisions_38 : decode cX3_collisions 38 = .ok (.astore_n 3, 1) := by decide +kernel
theorem dX3_collisions_39 : decode cX3_collisions 39 = .ok (.aload_n 3, 1) := by decide +kernel
theorem dX3_collisions_40 : decode cX3_collisions 40 = .ok (.arraylength, 1) := by decide +kernel
theorem dX3_collisions_41 : decode cX3_collisions 41 = .ok (.iload_n 2, 1) := by decide +kernel
theorem dX3_collisions_42 : decode cX3_collisions 42 = .ok (.idiv, 1) := by decide +kernel
theorem dX3_collisions_43 : decode cX3_collisions 43 = .ok (.istore 4, 2) := by decide +kernel
theorem dX3_collisions_45 : decode cX3_collisions 45 = .ok (.iload 4, 2) := by decide +kernel
theorem dX3_collisions_47 : decode cX3_collisions 47 = .ok (.newarray .int, 2) := by decide +kernel
theorem dX3_collisions_49 : decode cX3_collisions 49 = .ok (.astore 5, 2) := by decide +kernel
theorem dX3_collisions_51 : decode cX3_collisions 51 = .ok (.iconst 0, 1) := by decide +kernel
theorem dX3_collisions_52 : decode cX3_collisions 52 = .ok (.istore 6, 2) := by decide +kernel
theorem dX3_collisions_54 : decode cX3_collisions 54 = .ok (.iconst 0, 1) := by decide +kernel
theorem dX3_collisions_55 : decode cX3_collisions 55 = .ok (.istore 7, 2) := by decide +kernel
theorem dX3_collisions_57 : decode cX3_collisions 57 = .ok (.iload 7, 2) := by decide +kernel
theorem dX3_collisions_59 : decode cX3_collisions 59 = .ok (.iload 4, 2) := by decide +kernel
theorem dX3_collisions_61 : decode cX3_collisions 61 = .ok (.if_icmp .ge 79, 3) := by decide +kernel
theorem dX3_collisions_64 : decode cX3_collisions 64 = .ok (.aload 5, 2) := by decide +kernel
theorem dX3_collisions_66 : decode cX3_collisions 66 = .ok (.iload 7, 2) := by decide +kernel
theorem dX3_collisions_68 : decode cX3_collisions 68 = .ok (.aload_n 3, 1) := by decide +kernel
theorem dX3_collisions_69 : decode cX3_collisions 69 = .ok (.iload 7, 2) := by decide +kernel
theorem dX3_collisions_71 : decode cX3_collisions 71 = .ok (.iload_n 2, 1) := by decide +kernel
theorem dX3_collisions_72 : decode cX3_collisions 72 = .ok (.imul, 1) := by decide +kernel
theorem dX3_collisions_73 : decode cX3_collisions 73 = .ok (.iload_n 2, 1) := by decide +kernel
theorem dX3_collisions_74 : decode cX3_collisions 74 = .ok (.invokestatic 74, 3) := by decide +kernel
theorem dX3_collisions_77 : decode cX3_collisions 77 = .ok (.iastore, 1) := by decide +kernel
theorem dX3_collisions_78 : decode cX3_collisions 78 = .ok (.iconst 0, 1) := by decide +kernel
theorem dX3_collisions_79 : decode cX3_collisions 79 = .ok (.istore 8, 2) := by decide +kernel
theorem dX3_collisions_81 : decode cX3_collisions 81 = .ok (.iload 8, 2) := by decide +kernel
theorem dX3_collisions_83 : decode cX3_collisions 83 = .ok (.iload 7, 2) := by decide +kernel
theorem dX3_collisions_85 : decode cX3_collisions 85 = .ok (.if_icmp .ge 49, 3) := by decide +kernel
theorem dX3_collisions_88 : decode cX3_collisions 88 = .ok (.iload 6, 2) := by decide +kernel
theorem dX3_collisions_90 : decode cX3_collisions 90 = .ok (.aload 5, 2) := by decide +kernel
theorem dX3_collisions_92 : decode cX3_collisions 92 = .ok (.iload 8, 2) := by decide +kernel
theorem dX3_collisions_94 : decode cX3_collisions 94 = .ok (.iaload, 1) := by decide +kernel
theorem dX3_collisions_95 : decode cX3_collisions 95 = .ok (.aload 5, 2) := by decide +kernel
theorem dX3_collisions_97 : decode cX3_collisions 97 = .ok (.iload 7, 2) := by decide +kernel
theorem dX3_collisions_99 : decode cX3_collisions 99 = .ok (.iaload, 1) := by decide +kernel
theorem dX3_collisions_100 : decode cX3_collisions 100 = .ok (.if_icmp .ne 24, 3) := by decide +kernel
theorem dX3_collisions_103 : decode cX3_collisions 103 = .ok (.aload_n 3, 1) := by decide +kernel
theorem dX3_collisions_104 : decode cX3_collisions 104 = .ok (.iload 8, 2) := by decide +kernel
theorem dX3_collisions_106 : decode cX3_collisions 106 = .ok (.iload_n 2, 1) := by decide +kernel
theorem dX3_collisions_107 : decode cX3_collisions 107 = .ok (.imul, 1) := by decide +kernel
theorem dX3_collisions_108 : decode cX3_collisions 108 = .ok (.aload_n 3, 1) := by decide +kernel
theorem dX3_collisions_109 : decode cX3_collisions 109 = .ok (.iload 7, 2) := by decide +kernel
theorem dX3_collisions_111 : decode cX3_collisions 111 = .ok (.iload_n 2, 1) := by decide +kernel
theorem dX3_collisions_112 : decode cX3_collisions 112 = .ok (.imul, 1) := by decide +kernel
theorem dX3_collisions_113 : decode cX3_collisions 113 = .ok (.iload_n 2, 1) := by decide +kernel
theorem dX3_collisions_114 : decode cX3_collisions 114 = .ok (.invokestatic 81, 3) := by decide +kernel
theorem dX3_collisions_117 : decode cX3_collisions 117 = .ok (.ifCond .ne 7, 3) := by decide +kernel
theorem dX3_collisions_120 : decode cX3_collisions 120 = .ok (.iconst 1, 1) := by decide +kernel
theorem dX3_collisions_121 : decode cX3_collisions 121 = .ok (.goto 4, 3) := by decide +kernel
theorem dX3_collisions_124 : decode cX3_collisions 124 = .ok (.iconst 0, 1) := by decide +kernel
theorem dX3_collisions_125 : decode cX3_collisions 125 = .ok (.iadd, 1) := by decide +kernel
theorem dX3_collisions_126 : decode cX3_collisions 126 = .ok (.istore 6, 2) := by decide +kernel
theorem dX3_collisions_128 : decode cX3_collisions 128 = .ok (.iinc 8 1, 3) := by decide +kernel
theorem dX3_collisions_131 : decode cX3_collisions 131 = .ok (.goto (-50), 3) := by decide +kernel
theorem dX3_collisions_134 : decode cX3_collisions 134 = .ok (.iinc 7 1, 3) := by decide +kernel
theorem dX3_collisions_137 : decode cX3_collisions 137 = .ok (.goto (-80), 3) := by decide +kernel
theorem dX3_collisions_140 : decode cX3_collisions 140 = .ok (.iload 6, 2) := by decide +kernel
theorem dX3_collisions_142 : decode cX3_collisions 142 = .ok (.ireturn, 1) := by decide +kernel
set_option maxRecDepth 20000 in
theorem ggX3_differentBlocks_X3_isVersion : GoodIn wsX3_differentBlocks wsX3_isVersion := goodIn_r _ [7, 8, 9, 10, 6, 11, 25, 26, 27, 28, 29, 30, 31, 32, 33, 34, 35, 36] (by decide +kernel) (by decide +kernel)
set_option maxRecDepth 20000 in
theorem gX3_differentBlocks_X3_isVersion : GoodIn wsX3_differentBlocks (wsV RX3 66 RX3 yX3_isVersion wsX3_isVersion) := goodIn_app (goodIn_of _ (by decide +kernel)) ggX3_differentBlocks_X3_isVersion
set_option maxRecDepth 20000 in
theorem ggX3_differentBlocks_X3_fail : GoodIn wsX3_differentBlocks wsX3_fail := goodIn_r _ [15, 1, 25, 26, 27, 28, 29, 30, 31, 32, 33, 34, 35, 36] (by decide +kernel) (by decide +kernel)
set_option maxRecDepth 20000 in
theorem gX3_differentBlocks_X3_fail : GoodIn wsX3_differentBlocks (wsV RX3 47 RX3 yX3_fail wsX3_fail) := goodIn_app (goodIn_of _ (by decide +kernel)) ggX3_differentBlocks_X3_fail
set_option maxRecDepth 20000 in
theorem ggX3_differentBlocks_X3_isSize : GoodIn wsX3_differentBlocks wsX3_isSize := goodIn_r _ [18, 9, 10, 6, 11] (by decide +kernel) (by decide +kernel)
set_option maxRecDepth 20000 in
theorem gX3_differentBlocks_X3_isSize : GoodIn wsX3_differentBlocks (va_wsS RX3 78 yX3_isSize wsX3_isSize) := goodIn_app (goodIn_of _ (by decide +kernel)) ggX3_differentBlocks_X3_isSize
set_option maxRecDepth 20000 in
theorem ggX3_differentBlocks_X3_blockLike : GoodIn wsX3_differentBlocks wsX3_blockLike := goodIn_r _ [21, 22, 23, 6, 24] (by decide +kernel) (by decide +kernel)
set_option maxRecDepth 20000 in
theorem gX3_differentBlocks_X3_blockLike : GoodIn wsX3_differentBlocks (va_wsS RX3 85 yX3_blockLike wsX3_blockLike) := goodIn_app (goodIn_of _ (by decide +kernel)) ggX3_differentBlocks_X3_blockLike
theorem dX3_differentBlocks_0 : decode cX3_differentBlocks 0 = .ok (.aload_n 0, 1) := by decide +kernel
theorem dX3_differentBlocks_1 : decode cX3_differentBlocks 1 = .ok (.iconst 0, 1) := by decide +kernel
theorem dX3_differentBlocks_2 : decode cX3_differentBlocks 2 = .ok (.putfield 33, 3) := by decide +kernel
theorem dX3_differentBlocks_5 : decode cX3_differentBlocks 5 = .ok (.aload_n 0, 1) := by decide +kernel
theorem dX3_differentBlocks_6 : decode cX3_differentBlocks 6 = .ok (.iload_n 1, 1) := by decide +kernel
theorem dX3_differentBlocks_7 : decode cX3_differentBlocks 7 = .ok (.invokevirtual 66, 3) := by decide +kernel
theorem dX3_differentBlocks_10 : decode cX3_differentBlocks 10 = .ok (.ifCond .ne 9, 3) := by decide +kernel
theorem dX3_differentBlocks_13 : decode cX3_differentBlocks 13 = .ok (.aload_n 0, 1) := by decide +kernel
theorem dX3_differentBlocks_14 : decode cX3_differentBlocks 14 = .ok (.iconst 1, 1) := by decide +kernel
theorem dX3_differentBlocks_15 : decode cX3_differentBlocks 15 = .ok (.invokevirtual 47, 3) := by decide +kernel
theorem dX3_differentBlocks_18 : decode cX3_differentBlocks 18 = .ok (.ireturn, 1) := by decide +kernel
theorem dX3_differentBlocks_19 : decode cX3_differentBlocks 19 = .ok (.iload_n 2, 1) := by decide +kernel
theorem dX3_differentBlocks_20 : decode cX3_differentBlocks 20 = .ok (.invokestatic 78, 3) := by decide +kernel
theorem dX3_differentBlocks_23 : decode cX3_differentBlocks 23 = .ok (.ifCond .ne 9, 3) := by decide +kernel
theorem dX3_differentBlocks_26 : decode cX3_differentBlocks 26 = .ok (.aload_n 0, 1) := by decide +kernel
theorem dX3_differentBlocks_27 : decode cX3_differentBlocks 27 = .ok (.iconst 2, 1) := by decide +kernel
theorem dX3_differentBlocks_28 : decode cX3_differentBlocks 28 = .ok (.invokevirtual 47, 3) := by decide +kernel
theorem dX3_differentBlocks_31 : decode cX3_differentBlocks 31 = .ok (.ireturn, 1) := by decide +kernel
theorem dX3_differentBlocks_32 : decode cX3_differentBlocks 32 = .ok (.aload_n 0, 1) := by decide +kernel
theorem dX3_differentBlocks_33 : decode cX3_differentBlocks 33 = .ok (.getfield 14, 3) := by decide +kernel
theorem dX3_differentBlocks_36 : decode cX3_differentBlocks 36 = .ok (.iload_n 1, 1) := by decide +kernel
theorem dX3_differentBlocks_37 : decode cX3_differentBlocks 37 = .ok (.aaload, 1) := by decide +kernel
theorem dX3_differentBlocks_38 : decode cX3_differentBlocks 38 = .ok (.astore_n 3, 1) := by decide +kernel
theorem dX3_differentBlocks_39 : decode cX3_differentBlocks 39 = .ok (.iconst 0, 1) := by decide +kernel
theorem dX3_differentBlocks_40 : decode cX3_differentBlocks 40 = .ok (.istore 4, 2) := by decide +kernel
theorem dX3_differentBlocks_42 : decode cX3_differentBlocks 42 = .ok (.iconst 0, 1) := by decide +kernel
theorem dX3_differentBlocks_43 : decode cX3_differentBlocks 43 = .ok (.istore 5, 2) := by decide +kernel
theorem dX3_differentBlocks_45 : decode cX3_differentBlocks 45 = .ok (.iload 5, 2) := by decide +kernel
theorem dX3_differentBlocks_47 : decode cX3_differentBlocks 47 = .ok (.aload_n 3, 1) := by decide +kernel
theorem dX3_differentBlocks_48 : decode cX3_differentBlocks 48 = .ok (.arraylength, 1) := by decide +kernel
theorem dX3_differentBlocks_49 : decode cX3_differentBlocks 49 = .ok (.iload_n 2, 1) := by decide +kernel
theorem dX3_differentBlocks_50 : decode cX3_differentBlocks 50 = .ok (.idiv, 1) := by decide +kernel
theorem dX3_differentBlocks_51 : decode cX3_differentBlocks 51 = .ok (.if_icmp .ge 35, 3) := by decide +kernel
theorem dX3_differentBlocks_54 : decode cX3_differentBlocks 54 = .ok (.iload 4, 2) := by decide +kernel
theorem dX3_differentBlocks_56 : decode cX3_differentBlocks 56 = .ok (.aload_n 3, 1) := by decide +kernel
theorem dX3_differentBlocks_57 : decode cX3_differentBlocks 57 = .ok (.iload_n 2, 1) := by decide +kernel
theorem dX3_differentBlocks_58 : decode cX3_differentBlocks 58 = .ok (.aload_n 3, 1) := by decide +kernel
theorem dX3_differentBlocks_59 : decode cX3_differentBlocks 59 = .ok (.iload 5, 2) := by decide +kernel
theorem dX3_differentBlocks_61 : decode cX3_differentBlocks 61 = .ok (.iload_n 2, 1) := by decide +kernel
theorem dX3_differentBlocks_62 : decode cX3_differentBlocks 62 = .ok (.imul, 1) := by decide +kernel
theorem dX3_differentBlocks_63 : decode cX3_differentBlocks 63 = .ok (.iconst 0, 1) := by decide +kernel
theorem dX3_differentBlocks_64 : decode cX3_differentBlocks 64 = .ok (.invokestatic 85, 3) := by decide +kernel
theorem dX3_differentBlocks_67 : decode cX3_differentBlocks 67 = .ok (.iload 5, 2) := by decide +kernel
theorem dX3_differentBlocks_69 : decode cX3_differentBlocks 69 = .ok (.if_icmp .ne 7, 3) := by decide +kernel
theorem dX3_differentBlocks_72 : decode cX3_differentBlocks 72 = .ok (.iconst 1, 1) := by decide +kernel
theorem dX3_differentBlocks_73 : decode cX3_differentBlocks 73 = .ok (.goto 4, 3) := by decide +kernel
theorem dX3_differentBlocks_76 : decode cX3_differentBlocks 76 = .ok (.iconst 0, 1) := by decide +kernel
theorem dX3_differentBlocks_77 : decode cX3_differentBlocks 77 = .ok (.iadd, 1) := by decide +kernel
theorem dX3_differentBlocks_78 : decode cX3_differentBlocks 78 = .ok (.istore 4, 2) := by decide +kernel
theorem dX3_differentBlocks_80 : decode cX3_differentBlocks 80 = .ok (.iinc 5 1, 3) := by decide +kernel
theorem dX3_differentBlocks_83 : decode cX3_differentBlocks 83 = .ok (.goto (-38), 3) := by decide +kernel
theorem dX3_differentBlocks_86 : decode cX3_differentBlocks 86 = .ok (.iload 4, 2) := by decide +kernel
theorem dX3_differentBlocks_88 : decode cX3_differentBlocks 88 = .ok (.ireturn, 1) := by decide +kernel
set_option maxRecDepth 20000 in
theorem ggX3_blockLike_X3_isLike : GoodIn wsX3_blockLike wsX3_isLike := goodIn_r _ [4] (by decide +kernel) (by decide +kernel)
set_option maxRecDepth 20000 in
theorem gX3_blockLike_X3_isLike : GoodIn wsX3_blockLike (va_wsS RX3 81 yX3_isLike wsX3_isLike) := goodIn_app (goodIn_of _ (by decide +kernel)) ggX3_blockLike_X3_isLike
theorem dX3_blockLike_0 : decode cX3_blockLike 0 = .ok (.iload 4, 2) := by decide +kernel
theorem dX3_blockLike_2 : decode cX3_blockLike 2 = .ok (.istore 5, 2) := by decide +kernel
theorem dX3_blockLike_4 : decode cX3_blockLike 4 = .ok (.iload 5, 2) := by decide +kernel
theorem dX3_blockLike_6 : decode cX3_blockLike 6 = .ok (.aload_n 0, 1) := by decide +kernel
theorem dX3_blockLike_7 : decode cX3_blockLike 7 = .ok (.arraylength, 1) := by decide +kernel
theorem dX3_blockLike_8 : decode cX3_blockLike 8 = .ok (.iload_n 1, 1) := by decide +kernel
theorem dX3_blockLike_9 : decode cX3_blockLike 9 = .ok (.idiv, 1) := by decide +kernel
theorem dX3_blockLike_10 : decode cX3_blockLike 10 = .ok (.if_icmp .ge 26, 3) := by decide +kernel
theorem dX3_blockLike_13 : decode cX3_blockLike 13 = .ok (.aload_n 0, 1) := by decide +kernel
theorem dX3_blockLike_14 : decode cX3_blockLike 14 = .ok (.iload 5, 2) := by decide +kernel
theorem dX3_blockLike_16 : decode cX3_blockLike 16 = .ok (.iload_n 1, 1) := by decide +kernel
theorem dX3_blockLike_17 : decode cX3_blockLike 17 = .ok (.imul, 1) := by decide +kernel
theorem dX3_blockLike_18 : decode cX3_blockLike 18 = .ok (.aload_n 2, 1) := by decide +kernel
theorem dX3_blockLike_19 : decode cX3_blockLike 19 = .ok (.iload_n 3, 1) := by decide +kernel
theorem dX3_blockLike_20 : decode cX3_blockLike 20 = .ok (.iload_n 1, 1) := by decide +kernel
theorem dX3_blockLike_21 : decode cX3_blockLike 21 = .ok (.invokestatic 81, 3) := by decide +kernel
theorem dX3_blockLike_24 : decode cX3_blockLike 24 = .ok (.ifCond .eq 6, 3) := by decide +kernel
theorem dX3_blockLike_27 : decode cX3_blockLike 27 = .ok (.iload 5, 2) := by decide +kernel
theorem dX3_blockLike_29 : decode cX3_blockLike 29 = .ok (.ireturn, 1) := by decide +kernel
theorem dX3_blockLike_30 : decode cX3_blockLike 30 = .ok (.iinc 5 1, 3) := by decide +kernel
theorem dX3_blockLike_33 : decode cX3_blockLike 33 = .ok (.goto (-29), 3) := by decide +kernel
theorem dX3_blockLike_36 : decode cX3_blockLike 36 = .ok (.iconst (-1), 1) := by decide +kernel
theorem dX3_blockLike_37 : decode cX3_blockLike 37 = .ok (.ireturn, 1) := by decide +kernel
theorem dX3_add_0 : decode cX3_add 0 = .ok (.aload_n 0, 1) := by decide +kernel
theorem dX3_add_1 : decode cX3_add 1 = .ok (.getfield 18, 3) := by decide +kernel
theorem dX3_add_4 : decode cX3_add 4 = .ok (.aload_n 0, 1) := by decide +kernel
theorem dX3_add_5 : decode cX3_add 5 = .ok (.getfield 44, 3) := by decide +kernel
theorem dX3_add_8 : decode cX3_add 8 = .ok (.aload_n 1, 1) := by decide +kernel
theorem dX3_add_9 : decode cX3_add 9 = .ok (.aastore, 1) := by decide +kernel
theorem dX3_add_10 : decode cX3_add 10 = .ok (.aload_n 0, 1) := by decide +kernel
theorem dX3_add_11 : decode cX3_add 11 = .ok (.getfield 21, 3) := by decide +kernel
theorem dX3_add_14 : decode cX3_add 14 = .ok (.aload_n 0, 1) := by decide +kernel
theorem dX3_add_15 : decode cX3_add 15 = .ok (.getfield 44, 3) := by decide +kernel
theorem dX3_add_18 : decode cX3_add 18 = .ok (.aload_n 2, 1) := by decide +kernel
theorem dX3_add_19 : decode cX3_add 19 = .ok (.aastore, 1) := by decide +kernel
theorem dX3_add_20 : decode cX3_add 20 = .ok (.aload_n 0, 1) := by decide +kernel
theorem dX3_add_21 : decode cX3_add 21 = .ok (.getfield 24, 3) := by decide +kernel
theorem dX3_add_24 : decode cX3_add 24 = .ok (.aload_n 0, 1) := by decide +kernel
theorem dX3_add_25 : decode cX3_add 25 = .ok (.getfield 44, 3) := by decide +kernel
theorem dX3_add_28 : decode cX3_add 28 = .ok (.aload_n 3, 1) := by decide +kernel
theorem dX3_add_29 : decode cX3_add 29 = .ok (.aastore, 1) := by decide +kernel
theorem dX3_add_30 : decode cX3_add 30 = .ok (.aload_n 0, 1) := by decide +kernel
theorem dX3_add_31 : decode cX3_add 31 = .ok (.dup, 1) := by decide +kernel
theorem dX3_add_32 : decode cX3_add 32 = .ok (.getfield 44, 3) := by decide +kernel
theorem dX3_add_35 : decode cX3_add 35 = .ok (.iconst 1, 1) := by decide +kernel
theorem dX3_add_36 : decode cX3_add 36 = .ok (.iadd, 1) := by decide +kernel
theorem dX3_add_37 : decode cX3_add 37 = .ok (.putfield 44, 3) := by decide +kernel
theorem dX3_add_40 : decode cX3_add 40 = .ok (.aload_n 0, 1) := by decide +kernel
theorem dX3_add_41 : decode cX3_add 41 = .ok (.getfield 44, 3) := by decide +kernel
theorem dX3_add_44 : decode cX3_add 44 = .ok (.iconst 1, 1) := by decide +kernel
theorem dX3_add_45 : decode cX3_add 45 = .ok (.isub, 1) := by decide +kernel
theorem dX3_add_46 : decode cX3_add 46 = .ok (.ireturn, 1) := by decide +kernel
set_option maxRecDepth 20000 in
theorem ggX3_difference_X3_isVersion : GoodIn wsX3_difference wsX3_isVersion := goodIn_r _ [9, 10, 11, 12, 8, 13, 34, 35, 36, 37, 38, 39, 40, 41, 42, 43, 44, 45] (by decide +kernel) (by decide +kernel)
set_option maxRecDepth 20000 in
theorem gX3_difference_X3_isVersion : GoodIn wsX3_difference (wsV RX3 66 RX3 yX3_isVersion wsX3_isVersion) := goodIn_app (goodIn_of _ (by decide +kernel)) ggX3_difference_X3_isVersion
set_option maxRecDepth 20000 in
theorem ggX3_difference_X3_fail : GoodIn wsX3_difference wsX3_fail := goodIn_r _ [17, 1, 34, 35, 36, 37, 38, 39, 40, 41, 42, 43, 44, 45] (by decide +kernel) (by decide +kernel)
set_option maxRecDepth 20000 in
theorem gX3_difference_X3_fail : GoodIn wsX3_difference (wsV RX3 47 RX3 yX3_fail wsX3_fail) := goodIn_app (goodIn_of _ (by decide +kernel)) ggX3_difference_X3_fail
set_option maxRecDepth 20000 in
theorem ggX3_difference_X3_isSize : GoodIn wsX3_difference wsX3_isSize := goodIn_r _ [20, 11, 12, 8, 13] (by decide +kernel) (by decide +kernel)
set_option maxRecDepth 20000 in
theorem gX3_difference_X3_isSize : GoodIn wsX3_difference (va_wsS RX3 78 yX3_isSize wsX3_isSize) := goodIn_app (goodIn_of _ (by decide +kernel)) ggX3_difference_X3_isSize
set_option maxRecDepth 20000 in
theorem ggX3_difference_X3_isLike : GoodIn wsX3_difference wsX3_isLike := goodIn_r _ [23] (by decide +kernel) (by decide +kernel)
set_option maxRecDepth 20000 in
theorem gX3_difference_X3_isLike : GoodIn wsX3_difference (va_wsS RX3 81 yX3_isLike wsX3_isLike) := goodIn_app (goodIn_of _ (by decide +kernel)) ggX3_difference_X3_isLike
set_option maxRecDepth 20000 in
theorem ggX3_difference_X3_blockLike : GoodIn wsX3_difference wsX3_blockLike := goodIn_r _ [26, 21, 22, 8, 23] (by decide +kernel) (by decide +kernel)
set_option maxRecDepth 20000 in
theorem gX3_difference_X3_blockLike : GoodIn wsX3_difference (va_wsS RX3 85 yX3_blockLike wsX3_blockLike) := goodIn_app (goodIn_of _ (by decide +kernel)) ggX3_difference_X3_blockLike
set_option maxRecDepth 20000 in
theorem ggX3_difference_X3_add : GoodIn wsX3_difference wsX3_add := goodIn_r _ [30, 31, 2, 32, 33, 34, 35, 36, 37, 38, 39, 40, 41, 42, 43, 44, 45] (by decide +kernel) (by decide +kernel)
set_option maxRecDepth 20000 in
theorem gX3_difference_X3_add : GoodIn wsX3_difference (wsV RX3 89 RX3 yX3_add wsX3_add) := goodIn_app (goodIn_of _ (by decide +kernel)) ggX3_difference_X3_add
theorem dX3_difference_0 : decode cX3_difference 0 = .ok (.aload_n 0, 1) := by decide +kernel
theorem dX3_difference_1 : decode cX3_difference 1 = .ok (.iconst 0, 1) := by decide +kernel
theorem dX3_difference_2 : decode cX3_difference 2 = .ok (.putfield 33, 3) := by decide +kernel
theorem dX3_difference_5 : decode cX3_difference 5 = .ok (.aload_n 0, 1) := by decide +kernel
theorem dX3_difference_6 : decode cX3_difference 6 = .ok (.iload_n 1, 1) := by decide +kernel
theorem dX3_difference_7 : decode cX3_difference 7 = .ok (.invokevirtual 66, 3) := by decide +kernel
theorem dX3_difference_10 : decode cX3_difference 10 = .ok (.ifCond .eq 11, 3) := by decide +kernel
theorem dX3_difference_13 : decode cX3_difference 13 = .ok (.aload_n 0, 1) := by decide +kernel
theorem dX3_difference_14 : decode cX3_difference 14 = .ok (.iload_n 2, 1) := by decide +kernel
theorem dX3_difference_15 : decode cX3_difference 15 = .ok (.invokevirtual 66, 3) := by decide +kernel
theorem dX3_difference_18 : decode cX3_difference 18 = .ok (.ifCond .ne 9, 3) := by decide +kernel
theorem dX3_difference_21 : decode cX3_difference 21 = .ok (.aload_n 0, 1) := by decide +kernel
theorem dX3_difference_22 : decode cX3_difference 22 = .ok (.iconst 1, 1) := by decide +kernel
theorem dX3_difference_23 : decode cX3_difference 23 = .ok (.invokevirtual 47, 3) := by decide +kernel
theorem dX3_difference_26 : decode cX3_difference 26 = .ok (.ireturn, 1) := by decide +kernel
theorem dX3_difference_27 : decode cX3_difference 27 = .ok (.iload_n 3, 1) := by decide +kernel
theorem dX3_difference_28 : decode cX3_difference 28 = .ok (.invokestatic 78, 3) := by decide +kernel
theorem dX3_difference_31 : decode cX3_difference 31 = .ok (.ifCond .ne 9, 3) := by decide +kernel
theorem dX3_difference_34 : decode cX3_difference 34 = .ok (.aload_n 0, 1) := by decide +kernel
theorem dX3_difference_35 : decode cX3_difference 35 = .ok (.iconst 2, 1) := by decide +kernel
theorem dX3_difference_36 : decode cX3_difference 36 = .ok (.invokevirtual 47, 3) := by decide +kernel
theorem dX3_difference_39 : decode cX3_difference 39 = .ok (.ireturn, 1) := by decide +kernel
theorem dX3_difference_40 : decode cX3_difference 40 = .ok (.aload_n 0, 1) := by decide +kernel
theorem dX3_difference_41 : decode cX3_difference 41 = .ok (.getfield 44, 3) := by decide +kernel
theorem dX3_difference_44 : decode cX3_difference 44 = .ok (.bipush 12, 2) := by decide +kernel
theorem dX3_difference_46 : decode cX3_difference 46 = .ok (.if_icmp .ne 9, 3) := by decide +kernel
theorem dX3_difference_49 : decode cX3_difference 49 = .ok (.aload_n 0, 1) := by decide +kernel
theorem dX3_difference_50 : decode cX3_difference 50 = .ok (.iconst 3, 1) := by decide +kernel
theorem dX3_difference_51 : decode cX3_difference 51 = .ok (.invokevirtual 47, 3) := by decide +kernel
theorem dX3_difference_54 : decode cX3_difference 54 = .ok (.ireturn, 1) := by decide +kernel
theorem dX3_difference_55 : decode cX3_difference 55 = .ok (.aload_n 0, 1) := by decide +kernel
theorem dX3_difference_56 : decode cX3_difference 56 = .ok (.getfield 14, 3) := by decide +kernel
theorem dX3_difference_59 : decode cX3_difference 59 = .ok (.iload_n 1, 1) := by decide +kernel
theorem dX3_difference_60 : decode cX3_difference 60 = .ok (.aaload, 1) := by decide +kernel
theorem dX3_difference_61 : decode cX3_difference 61 = .ok (.astore 4, 2) := by decide +kernel
theorem dX3_difference_63 : decode cX3_difference 63 = .ok (.aload_n 0, 1) := by decide +kernel
theorem dX3_difference_64 : decode cX3_difference 64 = .ok (.getfield 14, 3) := by decide +kernel
theorem dX3_difference_67 : decode cX3_difference 67 = .ok (.iload_n 2, 1) := by decide +kernel
theorem dX3_difference_68 : decode cX3_difference 68 = .ok (.aaload, 1) := by decide +kernel
theorem dX3_difference_69 : decode cX3_difference 69 = .ok (.astore 5, 2) := by decide +kernel
theorem dX3_difference_71 : decode cX3_difference 71 = .ok (.aload 5, 2) := by decide +kernel
theorem dX3_difference_73 : decode cX3_difference 73 = .ok (.arraylength, 1) := by decide +kernel
theorem dX3_difference_74 : decode cX3_difference 74 = .ok (.newarray .int, 2) := by decide +kernel
theorem dX3_difference_76 : decode cX3_difference 76 = .ok (.astore 6, 2) := by decide +kernel
theorem dX3_difference_78 : decode cX3_difference 78 = .ok (.iconst (-1), 1) := by decide +kernel
theorem dX3_difference_79 : decode cX3_difference 79 = .ok (.istore 7, 2) := by decide +kernel
theorem dX3_difference_81 : decode cX3_difference 81 = .ok (.iconst 0, 1) := by decide +kernel
theorem dX3_difference_82 : decode cX3_difference 82 = .ok (.istore 8, 2) := by decide +kernel
theorem dX3_difference_84 : decode cX3_difference 84 = .ok (.iload 8, 2) := by decide +kernel
theorem dX3_difference_86 : decode cX3_difference 86 = .ok (.aload 5, 2) := by decide +kernel
theorem dX3_difference_88 : decode cX3_difference 88 = .ok (.arraylength, 1) := by decide +kernel
theorem dX3_difference_89 : decode cX3_difference 89 = .ok (.if_icmp .ge 146, 3) := by decide +kernel
theorem dX3_difference_92 : decode cX3_difference 92 = .ok (.iconst (-1), 1) := by decide +kernel
theorem dX3_difference_93 : decode cX3_difference 93 = .ok (.istore 9, 2) := by decide +kernel
theorem dX3_difference_95 : decode cX3_difference 95 = .ok (.aload 5, 2) := by decide +kernel
theorem dX3_difference_97 : decode cX3_difference 97 = .ok (.arraylength, 1) := by decide +kernel
theorem dX3_difference_98 : decode cX3_difference 98 = .ok (.iload 8, 2) := by decide +kernel
theorem dX3_difference_100 : decode cX3_difference 100 = .ok (.isub, 1) := by decide +kernel
theorem dX3_difference_101 : decode cX3_difference 101 = .ok (.iload_n 3, 1) := by decide +kernel
theorem dX3_difference_102 : decode cX3_difference 102 = .ok (.if_icmp .lt 72, 3) := by decide +kernel
theorem dX3_difference_105 : decode cX3_difference 105 = .ok (.iload 7, 2) := by decide +kernel
theorem dX3_difference_107 : decode cX3_difference 107 = .ok (.iconst (-1), 1) := by decide +kernel
theorem dX3_difference_108 : decode cX3_difference 108 = .ok (.if_icmp .eq 38, 3) := by decide +kernel
theorem dX3_difference_111 : decode cX3_difference 111 = .ok (.iload 7, 2) := by decide +kernel
theorem dX3_difference_113 : decode cX3_difference 113 = .ok (.iconst 1, 1) := by decide +kernel
theorem dX3_difference_114 : decode cX3_difference 114 = .ok (.iadd, 1) := by decide +kernel
theorem dX3_difference_115 : decode cX3_difference 115 = .ok (.aload 4, 2) := by decide +kernel
theorem dX3_difference_117 : decode cX3_difference 117 = .ok (.arraylength, 1) := by decide +kernel
theorem dX3_difference_118 : decode cX3_difference 118 = .ok (.iload_n 3, 1) := by decide +kernel
theorem dX3_difference_119 : decode cX3_difference 119 = .ok (.idiv, 1) := by decide +kernel
theorem dX3_difference_120 : decode cX3_difference 120 = .ok (.if_icmp .ge 26, 3) := by decide +kernel
theorem dX3_difference_123 : decode cX3_difference 123 = .ok (.aload 4, 2) := by decide +kernel
theorem dX3_difference_125 : decode cX3_difference 125 = .ok (.iload 7, 2) := by decide +kernel
theorem dX3_difference_127 : decode cX3_difference 127 = .ok (.iconst 1, 1) := by decide +kernel
theorem dX3_difference_128 : decode cX3_difference 128 = .ok (.iadd, 1) := by decide +kernel
theorem dX3_difference_129 : decode cX3_difference 129 = .ok (.iload_n 3, 1) := by decide +kernel
theorem dX3_difference_130 : decode cX3_difference 130 = .ok (.imul, 1) := by decide +kernel
theorem dX3_difference_131 : decode cX3_difference 131 = .ok (.aload 5, 2) := by decide +kernel
theorem dX3_difference_133 : decode cX3_difference 133 = .ok (.iload 8, 2) := by decide +kernel
theorem dX3_difference_135 : decode cX3_difference 135 = .ok (.iload_n 3, 1) := by decide +kernel
theorem dX3_difference_136 : decode cX3_difference 136 = .ok (.invokestatic 81, 3) := by decide +kernel
theorem dX3_difference_139 : decode cX3_difference 139 = .ok (.ifCond .eq 7, 3) := by decide +kernel
theorem dX3_difference_142 : decode cX3_difference 142 = .ok (.iconst 1, 1) := by decide +kernel
theorem dX3_difference_143 : decode cX3_difference 143 = .ok (.goto 4, 3) := by decide +kernel
theorem dX3_difference_146 : decode cX3_difference 146 = .ok (.iconst 0, 1) := by decide +kernel
theorem dX3_difference_147 : decode cX3_difference 147 = .ok (.istore 10, 2) := by decide +kernel
theorem dX3_difference_149 : decode cX3_difference 149 = .ok (.iload 10, 2) := by decide +kernel
theorem dX3_difference_151 : decode cX3_difference 151 = .ok (.ifCond .eq 10, 3) := by decide +kernel
theorem dX3_difference_154 : decode cX3_difference 154 = .ok (.iload 7, 2) := by decide +kernel
theorem dX3_difference_156 : decode cX3_difference 156 = .ok (.iconst 1, 1) := by decide +kernel
theorem dX3_difference_157 : decode cX3_difference 157 = .ok (.iadd, 1) := by decide +kernel
theorem dX3_difference_158 : decode cX3_difference 158 = .ok (.goto 14, 3) := by decide +kernel
theorem dX3_difference_161 : decode cX3_difference 161 = .ok (.aload 4, 2) := by decide +kernel
theorem dX3_difference_163 : decode cX3_difference 163 = .ok (.iload_n 3, 1) := by decide +kernel
theorem dX3_difference_164 : decode cX3_difference 164 = .ok (.aload 5, 2) := by decide +kernel
theorem dX3_difference_166 : decode cX3_difference 166 = .ok (.iload 8, 2) := by decide +kernel
theorem dX3_difference_168 : decode cX3_difference 168 = .ok (.iconst 0, 1) := by decide +kernel
theorem dX3_difference_169 : decode cX3_difference 169 = .ok (.invokestatic 85, 3) := by decide +kernel
theorem dX3_difference_172 : decode cX3_difference 172 = .ok (.istore 9, 2) := by decide +kernel
theorem dX3_difference_174 : decode cX3_difference 174 = .ok (.iload 9, 2) := by decide +kernel
theorem dX3_difference_176 : decode cX3_difference 176 = .ok (.iconst (-1), 1) := by decide +kernel
theorem dX3_difference_177 : decode cX3_difference 177 = .ok (.if_icmp .ne 15, 3) := by decide +kernel
theorem dX3_difference_180 : decode cX3_difference 180 = .ok (.aload 6, 2) := by decide +kernel
theorem dX3_difference_182 : decode cX3_difference 182 = .ok (.iload 8, 2) := by decide +kernel
theorem dX3_difference_184 : decode cX3_difference 184 = .ok (.iconst (-1), 1) := by decide +kernel
theorem dX3_difference_185 : decode cX3_difference 185 = .ok (.iastore, 1) := by decide +kernel
theorem dX3_difference_186 : decode cX3_difference 186 = .ok (.iinc 8 1, 3) := by decide +kernel
theorem dX3_difference_189 : decode cX3_difference 189 = .ok (.goto (-105), 3) := by decide +kernel
theorem dX3_difference_192 : decode cX3_difference 192 = .ok (.iconst 0, 1) := by decide +kernel
theorem dX3_difference_193 : decode cX3_difference 193 = .ok (.istore 10, 2) := by decide +kernel
theorem dX3_difference_195 : decode cX3_difference 195 = .ok (.iload 10, 2) := by decide +kernel
theorem dX3_difference_197 : decode cX3_difference 197 = .ok (.iload_n 3, 1) := by decide +kernel
theorem dX3_difference_198 : decode cX3_difference 198 = .ok (.if_icmp .ge 24, 3) := by decide +kernel
theorem dX3_difference_201 : decode cX3_difference 201 = .ok (.aload 6, 2) := by decide +kernel
theorem dX3_difference_203 : decode cX3_difference 203 = .ok (.iload 8, 2) := by decide +kernel
theorem dX3_difference_205 : decode cX3_difference 205 = .ok (.iload 10, 2) := by decide +kernel
theorem dX3_difference_207 : decode cX3_difference 207 = .ok (.iadd, 1) := by decide +kernel
theorem dX3_difference_208 : decode cX3_difference 208 = .ok (.iload 9, 2) := by decide +kernel
theorem dX3_difference_210 : decode cX3_difference 210 = .ok (.iload_n 3, 1) := by decide +kernel
theorem dX3_difference_211 : decode cX3_difference 211 = .ok (.imul, 1) := by decide +kernel
theorem dX3_difference_212 : decode cX3_difference 212 = .ok (.iload 10, 2) := by decide +kernel
theorem dX3_difference_214 : decode cX3_difference 214 = .ok (.iadd, 1) := by decide +kernel
theorem dX3_difference_215 : decode cX3_difference 215 = .ok (.iastore, 1) := by decide +kernel
theorem dX3_difference_216 : decode cX3_difference 216 = .ok (.iinc 10 1, 3) := by decide +kernel
theorem dX3_difference_219 : decode cX3_difference 219 = .ok (.goto (-24), 3) := by decide +kernel
theorem dX3_difference_222 : decode cX3_difference 222 = .ok (.iload 8, 2) := by decide +kernel
theorem dX3_difference_224 : decode cX3_difference 224 = .ok (.iload_n 3, 1) := by decide +kernel
theorem dX3_difference_225 : decode cX3_difference 225 = .ok (.iadd, 1) := by decide +kernel
theorem dX3_difference_226 : decode cX3_difference 226 = .ok (.istore 8, 2) := by decide +kernel
theorem dX3_difference_228 : decode cX3_difference 228 = .ok (.iload 9, 2) := by decide +kernel
theorem dX3_difference_230 : decode cX3_difference 230 = .ok (.istore 7, 2) := by decide +kernel
theorem dX3_difference_232 : decode cX3_difference 232 = .ok (.goto (-148), 3) := by decide +kernel
theorem dX3_difference_235 : decode cX3_difference 235 = .ok (.aload_n 0, 1) := by decide +kernel
theorem dX3_difference_236 : decode cX3_difference 236 = .ok (.aload 4, 2) := by decide +kernel
theorem dX3_difference_238 : decode cX3_difference 238 = .ok (.aload 5, 2) := by decide +kernel
theorem dX3_difference_240 : decode cX3_difference 240 = .ok (.aload 6, 2) := by decide +kernel
theorem dX3_difference_242 : decode cX3_difference 242 = .ok (.invokevirtual 89, 3) := by decide +kernel
theorem dX3_difference_245 : decode cX3_difference 245 = .ok (.ireturn, 1) := by decide +kernel
set_option maxRecDepth 20000 in
theorem ggX3_compose_X3_isPatch : GoodIn wsX3_compose wsX3_isPatch := goodIn_r _ [11, 4, 12, 13, 10, 14, 26, 27, 28, 29, 30, 31, 32, 33, 34, 35, 36, 37] (by decide +kernel) (by decide +kernel)
set_option maxRecDepth 20000 in
theorem gX3_compose_X3_isPatch : GoodIn wsX3_compose (wsV RX3 93 RX3 yX3_isPatch wsX3_isPatch) := goodIn_app (goodIn_of _ (by decide +kernel)) ggX3_compose_X3_isPatch
set_option maxRecDepth 20000 in
theorem ggX3_compose_X3_fail : GoodIn wsX3_compose wsX3_fail := goodIn_r _ [18, 1, 26, 27, 28, 29, 30, 31, 32, 33, 34, 35, 36, 37] (by decide +kernel) (by decide +kernel)
set_option maxRecDepth 20000 in
theorem gX3_compose_X3_fail : GoodIn wsX3_compose (wsV RX3 47 RX3 yX3_fail wsX3_fail) := goodIn_app (goodIn_of _ (by decide +kernel)) ggX3_compose_X3_fail
set_option maxRecDepth 20000 in
theorem ggX3_compose_X3_are : GoodIn wsX3_compose wsX3_are := goodIn_r _ [21] (by decide +kernel) (by decide +kernel)
set_option maxRecDepth 20000 in
theorem gX3_compose_X3_are : GoodIn wsX3_compose (va_wsS RX3 70 yX3_are wsX3_are) := goodIn_app (goodIn_of _ (by decide +kernel)) ggX3_compose_X3_are
set_option maxRecDepth 20000 in
theorem ggX3_compose_X3_add : GoodIn wsX3_compose wsX3_add := goodIn_r _ [25, 3, 4, 2, 6, 26, 27, 28, 29, 30, 31, 32, 33, 34, 35, 36, 37] (by decide +kernel) (by decide +kernel)
set_option maxRecDepth 20000 in
theorem gX3_compose_X3_add : GoodIn wsX3_compose (wsV RX3 89 RX3 yX3_add wsX3_add) := goodIn_app (goodIn_of _ (by decide +kernel)) ggX3_compose_X3_add
theorem dX3_compose_0 : decode cX3_compose 0 = .ok (.aload_n 0, 1) := by decide +kernel
theorem dX3_compose_1 : decode cX3_compose 1 = .ok (.iconst 0, 1) := by decide +kernel
theorem dX3_compose_2 : decode cX3_compose 2 = .ok (.putfield 33, 3) := by decide +kernel
theorem dX3_compose_5 : decode cX3_compose 5 = .ok (.aload_n 0, 1) := by decide +kernel
theorem dX3_compose_6 : decode cX3_compose 6 = .ok (.iload_n 1, 1) := by decide +kernel
theorem dX3_compose_7 : decode cX3_compose 7 = .ok (.invokevirtual 93, 3) := by decide +kernel
theorem dX3_compose_10 : decode cX3_compose 10 = .ok (.ifCond .eq 11, 3) := by decide +kernel
theorem dX3_compose_13 : decode cX3_compose 13 = .ok (.aload_n 0, 1) := by decide +kernel
theorem dX3_compose_14 : decode cX3_compose 14 = .ok (.iload_n 2, 1) := by decide +kernel
theorem dX3_compose_15 : decode cX3_compose 15 = .ok (.invokevirtual 93, 3) := by decide +kernel
theorem dX3_compose_18 : decode cX3_compose 18 = .ok (.ifCond .ne 9, 3) := by decide +kernel
theorem dX3_compose_21 : decode cX3_compose 21 = .ok (.aload_n 0, 1) := by decide +kernel
theorem dX3_compose_22 : decode cX3_compose 22 = .ok (.iconst 1, 1) := by decide +kernel
theorem dX3_compose_23 : decode cX3_compose 23 = .ok (.invokevirtual 47, 3) := by decide +kernel
theorem dX3_compose_26 : decode cX3_compose 26 = .ok (.ireturn, 1) := by decide +kernel
theorem dX3_compose_27 : decode cX3_compose 27 = .ok (.aload_n 0, 1) := by decide +kernel
theorem dX3_compose_28 : decode cX3_compose 28 = .ok (.getfield 21, 3) := by decide +kernel
theorem dX3_compose_31 : decode cX3_compose 31 = .ok (.iload_n 1, 1) := by decide +kernel
theorem dX3_compose_32 : decode cX3_compose 32 = .ok (.aaload, 1) := by decide +kernel
theorem dX3_compose_33 : decode cX3_compose 33 = .ok (.aload_n 0, 1) := by decide +kernel
theorem dX3_compose_34 : decode cX3_compose 34 = .ok (.getfield 18, 3) := by decide +kernel
theorem dX3_compose_37 : decode cX3_compose 37 = .ok (.iload_n 2, 1) := by decide +kernel
theorem dX3_compose_38 : decode cX3_compose 38 = .ok (.aaload, 1) := by decide +kernel
theorem dX3_compose_39 : decode cX3_compose 39 = .ok (.invokestatic 70, 3) := by decide +kernel
theorem dX3_compose_42 : decode cX3_compose 42 = .ok (.ifCond .ne 9, 3) := by decide +kernel
theorem dX3_compose_45 : decode cX3_compose 45 = .ok (.aload_n 0, 1) := by decide +kernel
theorem dX3_compose_46 : decode cX3_compose 46 = .ok (.iconst 2, 1) := by decide +kernel
theorem dX3_compose_47 : decode cX3_compose 47 = .ok (.invokevirtual 47, 3) := by decide +kernel
theorem dX3_compose_50 : decode cX3_compose 50 = .ok (.ireturn, 1) := by decide +kernel
theorem dX3_compose_51 : decode cX3_compose 51 = .ok (.aload_n 0, 1) := by decide +kernel
theorem dX3_compose_52 : decode cX3_compose 52 = .ok (.getfield 44, 3) := by decide +kernel
theorem dX3_compose_55 : decode cX3_compose 55 = .ok (.bipush 12, 2) := by decide +kernel
theorem dX3_compose_57 : decode cX3_compose 57 = .ok (.if_icmp .ne 9, 3) := by decide +kernel
theorem dX3_compose_60 : decode cX3_compose 60 = .ok (.aload_n 0, 1) := by decide +kernel
theorem dX3_compose_61 : decode cX3_compose 61 = .ok (.iconst 3, 1) := by decide +kernel
theorem dX3_compose_62 : decode cX3_compose 62 = .ok (.invokevirtual 47, 3) := by decide +kernel
theorem dX3_compose_65 : decode cX3_compose 65 = .ok (.ireturn, 1) := by decide +kernel
theorem dX3_compose_66 : decode cX3_compose 66 = .ok (.aload_n 0, 1) := by decide +kernel
theorem dX3_compose_67 : decode cX3_compose 67 = .ok (.getfield 21, 3) := by decide +kernel
theorem dX3_compose_70 : decode cX3_compose 70 = .ok (.iload_n 2, 1) := by decide +kernel
theorem dX3_compose_71 : decode cX3_compose 71 = .ok (.aaload, 1) := by decide +kernel
theorem dX3_compose_72 : decode cX3_compose 72 = .ok (.arraylength, 1) := by decide +kernel
theorem dX3_compose_73 : decode cX3_compose 73 = .ok (.newarray .int, 2) := by decide +kernel
theorem dX3_compose_75 : decode cX3_compose 75 = .ok (.astore_n 3, 1) := by decide +kernel
theorem dX3_compose_76 : decode cX3_compose 76 = .ok (.iconst 0, 1) := by decide +kernel
theorem dX3_compose_77 : decode cX3_compose 77 = .ok (.istore 4, 2) := by decide +kernel
theorem dX3_compose_79 : decode cX3_compose 79 = .ok (.iload 4, 2) := by decide +kernel
theorem dX3_compose_81 : decode cX3_compose 81 = .ok (.aload_n 3, 1) := by decide +kernel
theorem dX3_compose_82 : decode cX3_compose 82 = .ok (.arraylength, 1) := by decide +kernel
theorem dX3_compose_83 : decode cX3_compose 83 = .ok (.if_icmp .ge 46, 3) := by decide +kernel
theorem dX3_compose_86 : decode cX3_compose 86 = .ok (.aload_n 3, 1) := by decide +kernel
theorem dX3_compose_87 : decode cX3_compose 87 = .ok (.iload 4, 2) := by decide +kernel
theorem dX3_compose_89 : decode cX3_compose 89 = .ok (.aload_n 0, 1) := by decide +kernel
theorem dX3_compose_90 : decode cX3_compose 90 = .ok (.getfield 24, 3) := by decide +kernel
theorem dX3_compose_93 : decode cX3_compose 93 = .ok (.iload_n 2, 1) := by decide +kernel
theorem dX3_compose_94 : decode cX3_compose 94 = .ok (.aaload, 1) := by decide +kernel
theorem dX3_compose_95 : decode cX3_compose 95 = .ok (.iload 4, 2) := by decide +kernel
theorem dX3_compose_97 : decode cX3_compose 97 = .ok (.iaload, 1) := by decide +kernel
theorem dX3_compose_98 : decode cX3_compose 98 = .ok (.iconst (-1), 1) := by decide +kernel
theorem dX3_compose_99 : decode cX3_compose 99 = .ok (.if_icmp .ne 7, 3) := by decide +kernel
theorem dX3_compose_102 : decode cX3_compose 102 = .ok (.iconst (-1), 1) := by decide +kernel
theorem dX3_compose_103 : decode cX3_compose 103 = .ok (.goto 19, 3) := by decide +kernel
theorem dX3_compose_106 : decode cX3_compose 106 = .ok (.aload_n 0, 1) := by decide +kernel
theorem dX3_compose_107 : decode cX3_compose 107 = .ok (.getfield 24, 3) := by decide +kernel
theorem dX3_compose_110 : decode cX3_compose 110 = .ok (.iload_n 1, 1) := by decide +kernel
theorem dX3_compose_111 : decode cX3_compose 111 = .ok (.aaload, 1) := by decide +kernel
theorem dX3_compose_112 : decode cX3_compose 112 = .ok (.aload_n 0, 1) := by decide +kernel
theorem dX3_compose_113 : decode cX3_compose 113 = .ok (.getfield 24, 3) := by decide +kernel
theorem dX3_compose_116 : decode cX3_compose 116 = .ok (.iload_n 2, 1) := by decide +kernel
theorem dX3_compose_117 : decode cX3_compose 117 = .ok (.aaload, 1) := by decide +kernel
theorem dX3_compose_118 : decode cX3_compose 118 = .ok (.iload 4, 2) := by decide +kernel
theorem dX3_compose_120 : decode cX3_compose 120 = .ok (.iaload, 1) := by decide +kernel
theorem dX3_compose_121 : decode cX3_compose 121 = .ok (.iaload, 1) := by decide +kernel
theorem dX3_compose_122 : decode cX3_compose 122 = .ok (.iastore, 1) := by decide +kernel
theorem dX3_compose_123 : decode cX3_compose 123 = .ok (.iinc 4 1, 3) := by decide +kernel
theorem dX3_compose_126 : decode cX3_compose 126 = .ok (.goto (-47), 3) := by decide +kernel
theorem dX3_compose_129 : decode cX3_compose 129 = .ok (.aload_n 0, 1) := by decide +kernel
theorem dX3_compose_130 : decode cX3_compose 130 = .ok (.aload_n 0, 1) := by decide +kernel
theorem dX3_compose_131 : decode cX3_compose 131 = .ok (.getfield 18, 3) := by decide +kernel
theorem dX3_compose_134 : decode cX3_compose 134 = .ok (.iload_n 1, 1) := by decide +kernel
theorem dX3_compose_135 : decode cX3_compose 135 = .ok (.aaload, 1) := by decide +kernel
theorem dX3_compose_136 : decode cX3_compose 136 = .ok (.aload_n 0, 1) := by decide +kernel
theorem dX3_compose_137 : decode cX3_compose 137 = .ok (.getfield 21, 3) := by decide +kernel
theorem dX3_compose_140 : decode cX3_compose 140 = .ok (.iload_n 2, 1) := by decide +kernel
theorem dX3_compose_141 : decode cX3_compose 141 = .ok (.aaload, 1) := by decide +kernel
theorem dX3_compose_142 : decode cX3_compose 142 = .ok (.aload_n 3, 1) := by decide +kernel
theorem dX3_compose_143 : decode cX3_compose 143 = .ok (.invokevirtual 89, 3) := by decide +kernel
theorem dX3_compose_146 : decode cX3_compose 146 = .ok (.ireturn, 1) := by decide +kernel
theorem dX3_patches_0 : decode cX3_patches 0 = .ok (.aload_n 0, 1) := by decide +kernel
theorem dX3_patches_1 : decode cX3_patches 1 = .ok (.iconst 0, 1) := by decide +kernel
theorem dX3_patches_2 : decode cX3_patches 2 = .ok (.putfield 33, 3) := by decide +kernel
theorem dX3_patches_5 : decode cX3_patches 5 = .ok (.aload_n 0, 1) := by decide +kernel
theorem dX3_patches_6 : decode cX3_patches 6 = .ok (.getfield 44, 3) := by decide +kernel
theorem dX3_patches_9 : decode cX3_patches 9 = .ok (.ireturn, 1) := by decide +kernel
theorem dX3_begins_0 : decode cX3_begins 0 = .ok (.iload_n 2, 1) := by decide +kernel
theorem dX3_begins_1 : decode cX3_begins 1 = .ok (.ifCond .ne 5, 3) := by decide +kernel
theorem dX3_begins_4 : decode cX3_begins 4 = .ok (.iconst 1, 1) := by decide +kernel
theorem dX3_begins_5 : decode cX3_begins 5 = .ok (.ireturn, 1) := by decide +kernel
theorem dX3_begins_6 : decode cX3_begins 6 = .ok (.aload_n 0, 1) := by decide +kernel
theorem dX3_begins_7 : decode cX3_begins 7 = .ok (.getfield 24, 3) := by decide +kernel
theorem dX3_begins_10 : decode cX3_begins 10 = .ok (.iload_n 1, 1) := by decide +kernel
theorem dX3_begins_11 : decode cX3_begins 11 = .ok (.aaload, 1) := by decide +kernel
theorem dX3_begins_12 : decode cX3_begins 12 = .ok (.iload_n 2, 1) := by decide +kernel
theorem dX3_begins_13 : decode cX3_begins 13 = .ok (.iconst 1, 1) := by decide +kernel
theorem dX3_begins_14 : decode cX3_begins 14 = .ok (.isub, 1) := by decide +kernel
theorem dX3_begins_15 : decode cX3_begins 15 = .ok (.iaload, 1) := by decide +kernel
theorem dX3_begins_16 : decode cX3_begins 16 = .ok (.istore_n 3, 1) := by decide +kernel
theorem dX3_begins_17 : decode cX3_begins 17 = .ok (.aload_n 0, 1) := by decide +kernel
theorem dX3_begins_18 : decode cX3_begins 18 = .ok (.getfield 24, 3) := by decide +kernel
theorem dX3_begins_21 : decode cX3_begins 21 = .ok (.iload_n 1, 1) := by decide +kernel
theorem dX3_begins_22 : decode cX3_begins 22 = .ok (.aaload, 1) := by decide +kernel
theorem dX3_begins_23 : decode cX3_begins 23 = .ok (.iload_n 2, 1) := by decide +kernel
theorem dX3_begins_24 : decode cX3_begins 24 = .ok (.iaload, 1) := by decide +kernel
theorem dX3_begins_25 : decode cX3_begins 25 = .ok (.istore 4, 2) := by decide +kernel
theorem dX3_begins_27 : decode cX3_begins 27 = .ok (.iload_n 3, 1) := by decide +kernel
theorem dX3_begins_28 : decode cX3_begins 28 = .ok (.iconst (-1), 1) := by decide +kernel
theorem dX3_begins_29 : decode cX3_begins 29 = .ok (.if_icmp .ne 17, 3) := by decide +kernel
theorem dX3_begins_32 : decode cX3_begins 32 = .ok (.iload 4, 2) := by decide +kernel
theorem dX3_begins_34 : decode cX3_begins 34 = .ok (.iconst (-1), 1) := by decide +kernel
theorem dX3_begins_35 : decode cX3_begins 35 = .ok (.if_icmp .eq 7, 3) := by decide +kernel
theorem dX3_begins_38 : decode cX3_begins 38 = .ok (.iconst 1, 1) := by decide +kernel
theorem dX3_begins_39 : decode cX3_begins 39 = .ok (.goto 20, 3) := by decide +kernel
theorem dX3_begins_42 : decode cX3_begins 42 = .ok (.iconst 0, 1) := by decide +kernel
theorem dX3_begins_43 : decode cX3_begins 43 = .ok (.goto 16, 3) := by decide +kernel
theorem dX3_begins_46 : decode cX3_begins 46 = .ok (.iload 4, 2) := by decide +kernel
theorem dX3_begins_48 : decode cX3_begins 48 = .ok (.iload_n 3, 1) := by decide +kernel
theorem dX3_begins_49 : decode cX3_begins 49 = .ok (.iconst 1, 1) := by decide +kernel
theorem dX3_begins_50 : decode cX3_begins 50 = .ok (.iadd, 1) := by decide +kernel
theorem dX3_begins_51 : decode cX3_begins 51 = .ok (.if_icmp .eq 7, 3) := by decide +kernel
theorem dX3_begins_54 : decode cX3_begins 54 = .ok (.iconst 1, 1) := by decide +kernel
theorem dX3_begins_55 : decode cX3_begins 55 = .ok (.goto 4, 3) := by decide +kernel
theorem dX3_begins_58 : decode cX3_begins 58 = .ok (.iconst 0, 1) := by decide +kernel
theorem dX3_begins_59 : decode cX3_begins 59 = .ok (.ireturn, 1) := by decide +kernel
set_option maxRecDepth 20000 in
theorem ggX3_many_X3_begins : GoodIn wsX3_many wsX3_begins := goodIn_r _ [6, 1, 7, 8, 9, 10, 11, 12, 13, 14, 15, 16, 17, 18] (by decide +kernel) (by decide +kernel)
set_option maxRecDepth 20000 in
theorem gX3_many_X3_begins : GoodIn wsX3_many (wsV RX3 96 RX3 yX3_begins wsX3_begins) := goodIn_app (goodIn_of _ (by decide +kernel)) ggX3_many_X3_begins
theorem dX3_many_0 : decode cX3_many 0 = .ok (.iconst 0, 1) := by decide +kernel
theorem dX3_many_1 : decode cX3_many 1 = .ok (.istore_n 2, 1) := by decide +kernel
theorem dX3_many_2 : decode cX3_many 2 = .ok (.iconst 0, 1) := by decide +kernel
theorem dX3_many_3 : decode cX3_many 3 = .ok (.istore_n 3, 1) := by decide +kernel
theorem dX3_many_4 : decode cX3_many 4 = .ok (.iload_n 3, 1) := by decide +kernel
theorem dX3_many_5 : decode cX3_many 5 = .ok (.aload_n 0, 1) := by decide +kernel
theorem dX3_many_6 : decode cX3_many 6 = .ok (.getfield 24, 3) := by decide +kernel
theorem dX3_many_9 : decode cX3_many 9 = .ok (.iload_n 1, 1) := by decide +kernel
theorem dX3_many_10 : decode cX3_many 10 = .ok (.aaload, 1) := by decide +kernel
theorem dX3_many_11 : decode cX3_many 11 = .ok (.arraylength, 1) := by decide +kernel
theorem dX3_many_12 : decode cX3_many 12 = .ok (.if_icmp .ge 26, 3) := by decide +kernel
theorem dX3_many_15 : decode cX3_many 15 = .ok (.iload_n 2, 1) := by decide +kernel
theorem dX3_many_16 : decode cX3_many 16 = .ok (.aload_n 0, 1) := by decide +kernel
theorem dX3_many_17 : decode cX3_many 17 = .ok (.iload_n 1, 1) := by decide +kernel
theorem dX3_many_18 : decode cX3_many 18 = .ok (.iload_n 3, 1) := by decide +kernel
theorem dX3_many_19 : decode cX3_many 19 = .ok (.invokevirtual 96, 3) := by decide +kernel
theorem dX3_many_22 : decode cX3_many 22 = .ok (.ifCond .eq 7, 3) := by decide +kernel
theorem dX3_many_25 : decode cX3_many 25 = .ok (.iconst 1, 1) := by decide +kernel
theorem dX3_many_26 : decode cX3_many 26 = .ok (.goto 4, 3) := by decide +kernel
theorem dX3_many_29 : decode cX3_many 29 = .ok (.iconst 0, 1) := by decide +kernel
theorem dX3_many_30 : decode cX3_many 30 = .ok (.iadd, 1) := by decide +kernel
theorem dX3_many_31 : decode cX3_many 31 = .ok (.istore_n 2, 1) := by decide +kernel
theorem dX3_many_32 : decode cX3_many 32 = .ok (.iinc 3 1, 3) := by decide +kernel
theorem dX3_many_35 : decode cX3_many 35 = .ok (.goto (-31), 3) := by decide +kernel
theorem dX3_many_38 : decode cX3_many 38 = .ok (.iload_n 2, 1) := by decide +kernel
theorem dX3_many_39 : decode cX3_many 39 = .ok (.ireturn, 1) := by decide +kernel
set_option maxRecDepth 20000 in
theorem ggX3_instructions_X3_isPatch : GoodIn wsX3_instructions wsX3_isPatch := goodIn_r _ [6, 7, 8, 9, 5, 10, 24, 25, 26, 27, 28, 29, 30, 31, 32, 33, 34, 35] (by decide +kernel) (by decide +kernel)
set_option maxRecDepth 20000 in
theorem gX3_instructions_X3_isPatch : GoodIn wsX3_instructions (wsV RX3 93 RX3 yX3_isPatch wsX3_isPatch) := goodIn_app (goodIn_of _ (by decide +kernel)) ggX3_instructions_X3_isPatch
set_option maxRecDepth 20000 in
theorem ggX3_instructions_X3_many : GoodIn wsX3_instructions wsX3_many := goodIn_r _ [14, 15, 16, 17, 18, 5, 19, 24, 25, 26, 27, 28, 29, 30, 31, 32, 33, 34, 35] (by decide +kernel) (by decide +kernel)
set_option maxRecDepth 20000 in
theorem gX3_instructions_X3_many : GoodIn wsX3_instructions (wsV RX3 100 RX3 yX3_many wsX3_many) := goodIn_app (goodIn_of _ (by decide +kernel)) ggX3_instructions_X3_many
set_option maxRecDepth 20000 in
theorem ggX3_instructions_X3_fail : GoodIn wsX3_instructions wsX3_fail := goodIn_r _ [23, 1, 24, 25, 26, 27, 28, 29, 30, 31, 32, 33, 34, 35] (by decide +kernel) (by decide +kernel)
set_option maxRecDepth 20000 in
theorem gX3_instructions_X3_fail : GoodIn wsX3_instructions (wsV RX3 47 RX3 yX3_fail wsX3_fail) := goodIn_app (goodIn_of _ (by decide +kernel)) ggX3_instructions_X3_fail
theorem dX3_instructions_0 : decode cX3_instructions 0 = .ok (.aload_n 0, 1) := by decide +kernel
theorem dX3_instructions_1 : decode cX3_instructions 1 = .ok (.iconst 0, 1) := by decide +kernel
theorem dX3_instructions_2 : decode cX3_instructions 2 = .ok (.putfield 33, 3) := by decide +kernel
theorem dX3_instructions_5 : decode cX3_instructions 5 = .ok (.aload_n 0, 1) := by decide +kernel
theorem dX3_instructions_6 : decode cX3_instructions 6 = .ok (.iload_n 1, 1) := by decide +kernel
theorem dX3_instructions_7 : decode cX3_instructions 7 = .ok (.invokevirtual 93, 3) := by decide +kernel
theorem dX3_instructions_10 : decode cX3_instructions 10 = .ok (.ifCond .eq 11, 3) := by decide +kernel
theorem dX3_instructions_13 : decode cX3_instructions 13 = .ok (.aload_n 0, 1) := by decide +kernel
theorem dX3_instructions_14 : decode cX3_instructions 14 = .ok (.iload_n 1, 1) := by decide +kernel
theorem dX3_instructions_15 : decode cX3_instructions 15 = .ok (.invokevirtual 100, 3) := by decide +kernel
theorem dX3_instructions_18 : decode cX3_instructions 18 = .ok (.goto 8, 3) := by decide +kernel
theorem dX3_instructions_21 : decode cX3_instructions 21 = .ok (.aload_n 0, 1) := by decide +kernel
theorem dX3_instructions_22 : decode cX3_instructions 22 = .ok (.iconst 1, 1) := by decide +kernel
theorem dX3_instructions_23 : decode cX3_instructions 23 = .ok (.invokevirtual 47, 3) := by decide +kernel
theorem dX3_instructions_26 : decode cX3_instructions 26 = .ok (.ireturn, 1) := by decide +kernel
set_option maxRecDepth 20000 in
theorem ggX3_told_X3_begins : GoodIn wsX3_told wsX3_begins := goodIn_r _ [7, 1, 11, 12, 13, 14, 15, 16, 17, 18, 19, 20, 21, 22] (by decide +kernel) (by decide +kernel)
set_option maxRecDepth 20000 in
theorem gX3_told_X3_begins : GoodIn wsX3_told (wsV RX3 96 RX3 yX3_begins wsX3_begins) := goodIn_app (goodIn_of _ (by decide +kernel)) ggX3_told_X3_begins
set_option maxRecDepth 20000 in
theorem ggX3_told_X3_sumOf : GoodIn wsX3_told wsX3_sumOf := goodIn_r _ [10] (by decide +kernel) (by decide +kernel)
set_option maxRecDepth 20000 in
theorem gX3_told_X3_sumOf : GoodIn wsX3_told (va_wsS RX3 74 yX3_sumOf wsX3_sumOf) := goodIn_app (goodIn_of _ (by decide +kernel)) ggX3_told_X3_sumOf
theorem dX3_told_0 : decode cX3_told 0 = .ok (.iconst (-1), 1) := by decide +kernel
theorem dX3_told_1 : decode cX3_told 1 = .ok (.istore 4, 2) := by decide +kernel
theorem dX3_told_3 : decode cX3_told 3 = .ok (.iload_n 2, 1) := by decide +kernel
theorem dX3_told_4 : decode cX3_told 4 = .ok (.istore 5, 2) := by decide +kernel
theorem dX3_told_6 : decode cX3_told 6 = .ok (.iload 5, 2) := by decide +kernel
theorem dX3_told_8 : decode cX3_told 8 = .ok (.ifCond .lt 28, 3) := by decide +kernel
theorem dX3_told_11 : decode cX3_told 11 = .ok (.iinc 4 1, 3) := by decide +kernel
theorem dX3_told_14 : decode cX3_told 14 = .ok (.aload_n 0, 1) := by decide +kernel
theorem dX3_told_15 : decode cX3_told 15 = .ok (.iload_n 1, 1) := by decide +kernel
theorem dX3_told_16 : decode cX3_told 16 = .ok (.iload 4, 2) := by decide +kernel
theorem dX3_told_18 : decode cX3_told 18 = .ok (.invokevirtual 96, 3) := by decide +kernel
theorem dX3_told_21 : decode cX3_told 21 = .ok (.ifCond .ne 9, 3) := by decide +kernel
theorem dX3_told_24 : decode cX3_told 24 = .ok (.iinc 4 1, 3) := by decide +kernel
theorem dX3_told_27 : decode cX3_told 27 = .ok (.goto (-13), 3) := by decide +kernel
theorem dX3_told_30 : decode cX3_told 30 = .ok (.iinc 5 (-1), 3) := by decide +kernel
theorem dX3_told_33 : decode cX3_told 33 = .ok (.goto (-27), 3) := by decide +kernel
theorem dX3_told_36 : decode cX3_told 36 = .ok (.iload 4, 2) := by decide +kernel
theorem dX3_told_38 : decode cX3_told 38 = .ok (.iconst 1, 1) := by decide +kernel
theorem dX3_told_39 : decode cX3_told 39 = .ok (.iadd, 1) := by decide +kernel
theorem dX3_told_40 : decode cX3_told 40 = .ok (.istore 5, 2) := by decide +kernel
theorem dX3_told_42 : decode cX3_told 42 = .ok (.iload 5, 2) := by decide +kernel
theorem dX3_told_44 : decode cX3_told 44 = .ok (.aload_n 0, 1) := by decide +kernel
theorem dX3_told_45 : decode cX3_told 45 = .ok (.getfield 24, 3) := by decide +kernel
theorem dX3_told_48 : decode cX3_told 48 = .ok (.iload_n 1, 1) := by decide +kernel
theorem dX3_told_49 : decode cX3_told 49 = .ok (.aaload, 1) := by decide +kernel
theorem dX3_told_50 : decode cX3_told 50 = .ok (.arraylength, 1) := by decide +kernel
theorem dX3_told_51 : decode cX3_told 51 = .ok (.if_icmp .ge 19, 3) := by decide +kernel
theorem dX3_told_54 : decode cX3_told 54 = .ok (.aload_n 0, 1) := by decide +kernel
theorem dX3_told_55 : decode cX3_told 55 = .ok (.iload_n 1, 1) := by decide +kernel
theorem dX3_told_56 : decode cX3_told 56 = .ok (.iload 5, 2) := by decide +kernel
theorem dX3_told_58 : decode cX3_told 58 = .ok (.invokevirtual 96, 3) := by decide +kernel
theorem dX3_told_61 : decode cX3_told 61 = .ok (.ifCond .ne 9, 3) := by decide +kernel
theorem dX3_told_64 : decode cX3_told 64 = .ok (.iinc 5 1, 3) := by decide +kernel
theorem dX3_told_67 : decode cX3_told 67 = .ok (.goto (-25), 3) := by decide +kernel
theorem dX3_told_70 : decode cX3_told 70 = .ok (.aload_n 0, 1) := by decide +kernel
theorem dX3_told_71 : decode cX3_told 71 = .ok (.getfield 24, 3) := by decide +kernel
theorem dX3_told_74 : decode cX3_told 74 = .ok (.iload_n 1, 1) := by decide +kernel
theorem dX3_told_75 : decode cX3_told 75 = .ok (.aaload, 1) := by decide +kernel
theorem dX3_told_76 : decode cX3_told 76 = .ok (.iload 4, 2) := by decide +kernel
theorem dX3_told_78 : decode cX3_told 78 = .ok (.iaload, 1) := by decide +kernel
theorem dX3_told_79 : decode cX3_told 79 = .ok (.istore 6, 2) := by decide +kernel
theorem dX3_told_81 : decode cX3_told 81 = .ok (.iload_n 3, 1) := by decide +kernel
theorem dX3_told_82 : decode cX3_told 82 = .ok (.ifCond .ne 15, 3) := by decide +kernel
theorem dX3_told_85 : decode cX3_told 85 = .ok (.iload 6, 2) := by decide +kernel
theorem dX3_told_87 : decode cX3_told 87 = .ok (.iconst (-1), 1) := by decide +kernel
theorem dX3_told_88 : decode cX3_told 88 = .ok (.if_icmp .ne 7, 3) := by decide +kernel
theorem dX3_told_91 : decode cX3_told 91 = .ok (.iconst 1, 1) := by decide +kernel
theorem dX3_told_92 : decode cX3_told 92 = .ok (.goto 4, 3) := by decide +kernel
theorem dX3_told_95 : decode cX3_told 95 = .ok (.iconst 0, 1) := by decide +kernel
theorem dX3_told_96 : decode cX3_told 96 = .ok (.ireturn, 1) := by decide +kernel
theorem dX3_told_97 : decode cX3_told 97 = .ok (.iload_n 3, 1) := by decide +kernel
theorem dX3_told_98 : decode cX3_told 98 = .ok (.iconst 1, 1) := by decide +kernel
theorem dX3_told_99 : decode cX3_told 99 = .ok (.if_icmp .ne 6, 3) := by decide +kernel
theorem dX3_told_102 : decode cX3_told 102 = .ok (.iload 6, 2) := by decide +kernel
theorem dX3_told_104 : decode cX3_told 104 = .ok (.ireturn, 1) := by decide +kernel
theorem dX3_told_105 : decode cX3_told 105 = .ok (.iload_n 3, 1) := by decide +kernel
theorem dX3_told_106 : decode cX3_told 106 = .ok (.iconst 2, 1) := by decide +kernel
theorem dX3_told_107 : decode cX3_told 107 = .ok (.if_icmp .ne 11, 3) := by decide +kernel
theorem dX3_told_110 : decode cX3_told 110 = .ok (.iload 5, 2) := by decide +kernel
theorem dX3_told_112 : decode cX3_told 112 = .ok (.iload 4, 2) := by decide +kernel
theorem dX3_told_114 : decode cX3_told 114 = .ok (.isub, 1) := by decide +kernel
theorem dX3_told_115 : decode cX3_told 115 = .ok (.goto 29, 3) := by decide +kernel
theorem dX3_told_118 : decode cX3_told 118 = .ok (.iload 6, 2) := by decide +kernel
theorem dX3_told_120 : decode cX3_told 120 = .ok (.iconst (-1), 1) := by decide +kernel
theorem dX3_told_121 : decode cX3_told 121 = .ok (.if_icmp .ne 22, 3) := by decide +kernel
theorem dX3_told_124 : decode cX3_told 124 = .ok (.aload_n 0, 1) := by decide +kernel
theorem dX3_told_125 : decode cX3_told 125 = .ok (.getfield 21, 3) := by decide +kernel
theorem dX3_told_128 : decode cX3_told 128 = .ok (.iload_n 1, 1) := by decide +kernel
theorem dX3_told_129 : decode cX3_told 129 = .ok (.aaload, 1) := by decide +kernel
theorem dX3_told_130 : decode cX3_told 130 = .ok (.iload 4, 2) := by decide +kernel
theorem dX3_told_132 : decode cX3_told 132 = .ok (.iload 5, 2) := by decide +kernel
theorem dX3_told_134 : decode cX3_told 134 = .ok (.iload 4, 2) := by decide +kernel
theorem dX3_told_136 : decode cX3_told 136 = .ok (.isub, 1) := by decide +kernel
theorem dX3_told_137 : decode cX3_told 137 = .ok (.invokestatic 74, 3) := by decide +kernel
theorem dX3_told_140 : decode cX3_told 140 = .ok (.goto 4, 3) := by decide +kernel
theorem dX3_told_143 : decode cX3_told 143 = .ok (.iconst (-1), 1) := by decide +kernel
theorem dX3_told_144 : decode cX3_told 144 = .ok (.ireturn, 1) := by decide +kernel
set_option maxRecDepth 20000 in
theorem ggX3_instruction_X3_isPatch : GoodIn wsX3_instruction wsX3_isPatch := goodIn_r _ [6, 7, 8, 9, 5, 10, 32, 33, 34, 35, 36, 37, 38, 39, 40, 41, 42, 43] (by decide +kernel) (by decide +kernel)
set_option maxRecDepth 20000 in
theorem gX3_instruction_X3_isPatch : GoodIn wsX3_instruction (wsV RX3 93 RX3 yX3_isPatch wsX3_isPatch) := goodIn_app (goodIn_of _ (by decide +kernel)) ggX3_instruction_X3_isPatch
set_option maxRecDepth 20000 in
theorem ggX3_instruction_X3_many : GoodIn wsX3_instruction wsX3_many := goodIn_r _ [14, 15, 16, 17, 18, 5, 19, 32, 33, 34, 35, 36, 37, 38, 39, 40, 41, 42, 43] (by decide +kernel) (by decide +kernel)
set_option maxRecDepth 20000 in
theorem gX3_instruction_X3_many : GoodIn wsX3_instruction (wsV RX3 100 RX3 yX3_many wsX3_many) := goodIn_app (goodIn_of _ (by decide +kernel)) ggX3_instruction_X3_many
set_option maxRecDepth 20000 in
theorem ggX3_instruction_X3_isIn : GoodIn wsX3_instruction wsX3_isIn := goodIn_r _ [10] (by decide +kernel) (by decide +kernel)
set_option maxRecDepth 20000 in
theorem gX3_instruction_X3_isIn : GoodIn wsX3_instruction (va_wsS RX3 40 yX3_isIn wsX3_isIn) := goodIn_app (goodIn_of _ (by decide +kernel)) ggX3_instruction_X3_isIn
set_option maxRecDepth 20000 in
theorem ggX3_instruction_X3_told : GoodIn wsX3_instruction wsX3_told := goodIn_r _ [23, 15, 24, 16, 17, 18, 5, 19, 25, 26, 27, 32, 33, 34, 35, 36, 37, 38, 39, 40, 41, 42, 43] (by decide +kernel) (by decide +kernel)
set_option maxRecDepth 20000 in
theorem gX3_instruction_X3_told : GoodIn wsX3_instruction (wsV RX3 103 RX3 yX3_told wsX3_told) := goodIn_app (goodIn_of _ (by decide +kernel)) ggX3_instruction_X3_told
set_option maxRecDepth 20000 in
theorem ggX3_instruction_X3_fail : GoodIn wsX3_instruction wsX3_fail := goodIn_r _ [31, 1, 32, 33, 34, 35, 36, 37, 38, 39, 40, 41, 42, 43] (by decide +kernel) (by decide +kernel)
set_option maxRecDepth 20000 in
theorem gX3_instruction_X3_fail : GoodIn wsX3_instruction (wsV RX3 47 RX3 yX3_fail wsX3_fail) := goodIn_app (goodIn_of _ (by decide +kernel)) ggX3_instruction_X3_fail
theorem dX3_instruction_0 : decode cX3_instruction 0 = .ok (.aload_n 0, 1) := by decide +kernel
theorem dX3_instruction_1 : decode cX3_instruction 1 = .ok (.iconst 0, 1) := by decide +kernel
theorem dX3_instruction_2 : decode cX3_instruction 2 = .ok (.putfield 33, 3) := by decide +kernel
theorem dX3_instruction_5 : decode cX3_instruction 5 = .ok (.aload_n 0, 1) := by decide +kernel
theorem dX3_instruction_6 : decode cX3_instruction 6 = .ok (.iload_n 1, 1) := by decide +kernel
theorem dX3_instruction_7 : decode cX3_instruction 7 = .ok (.invokevirtual 93, 3) := by decide +kernel
theorem dX3_instruction_10 : decode cX3_instruction 10 = .ok (.ifCond .eq 37, 3) := by decide +kernel
theorem dX3_instruction_13 : decode cX3_instruction 13 = .ok (.iload_n 2, 1) := by decide +kernel
theorem dX3_instruction_14 : decode cX3_instruction 14 = .ok (.iconst 0, 1) := by decide +kernel
theorem dX3_instruction_15 : decode cX3_instruction 15 = .ok (.aload_n 0, 1) := by decide +kernel
theorem dX3_instruction_16 : decode cX3_instruction 16 = .ok (.iload_n 1, 1) := by decide +kernel
theorem dX3_instruction_17 : decode cX3_instruction 17 = .ok (.invokevirtual 100, 3) := by decide +kernel
theorem dX3_instruction_20 : decode cX3_instruction 20 = .ok (.iconst 1, 1) := by decide +kernel
theorem dX3_instruction_21 : decode cX3_instruction 21 = .ok (.isub, 1) := by decide +kernel
theorem dX3_instruction_22 : decode cX3_instruction 22 = .ok (.invokestatic 40, 3) := by decide +kernel
theorem dX3_instruction_25 : decode cX3_instruction 25 = .ok (.ifCond .eq 22, 3) := by decide +kernel
theorem dX3_instruction_28 : decode cX3_instruction 28 = .ok (.iload_n 3, 1) := by decide +kernel
theorem dX3_instruction_29 : decode cX3_instruction 29 = .ok (.iconst 0, 1) := by decide +kernel
theorem dX3_instruction_30 : decode cX3_instruction 30 = .ok (.iconst 3, 1) := by decide +kernel
theorem dX3_instruction_31 : decode cX3_instruction 31 = .ok (.invokestatic 40, 3) := by decide +kernel
theorem dX3_instruction_34 : decode cX3_instruction 34 = .ok (.ifCond .eq 13, 3) := by decide +kernel
theorem dX3_instruction_37 : decode cX3_instruction 37 = .ok (.aload_n 0, 1) := by decide +kernel
theorem dX3_instruction_38 : decode cX3_instruction 38 = .ok (.iload_n 1, 1) := by decide +kernel
theorem dX3_instruction_39 : decode cX3_instruction 39 = .ok (.iload_n 2, 1) := by decide +kernel
theorem dX3_instruction_40 : decode cX3_instruction 40 = .ok (.iload_n 3, 1) := by decide +kernel
theorem dX3_instruction_41 : decode cX3_instruction 41 = .ok (.invokevirtual 103, 3) := by decide +kernel
theorem dX3_instruction_44 : decode cX3_instruction 44 = .ok (.goto 8, 3) := by decide +kernel
theorem dX3_instruction_47 : decode cX3_instruction 47 = .ok (.aload_n 0, 1) := by decide +kernel
theorem dX3_instruction_48 : decode cX3_instruction 48 = .ok (.iconst 1, 1) := by decide +kernel
theorem dX3_instruction_49 : decode cX3_instruction 49 = .ok (.invokevirtual 47, 3) := by decide +kernel
theorem dX3_instruction_52 : decode cX3_instruction 52 = .ok (.ireturn, 1) := by decide +kernel
theorem dX3_literals_0 : decode cX3_literals 0 = .ok (.iconst 0, 1) := by decide +kernel
theorem dX3_literals_1 : decode cX3_literals 1 = .ok (.istore_n 2, 1) := by decide +kernel
theorem dX3_literals_2 : decode cX3_literals 2 = .ok (.aload_n 0, 1) := by decide +kernel
theorem dX3_literals_3 : decode cX3_literals 3 = .ok (.getfield 24, 3) := by decide +kernel
theorem dX3_literals_6 : decode cX3_literals 6 = .ok (.iload_n 1, 1) := by decide +kernel
theorem dX3_literals_7 : decode cX3_literals 7 = .ok (.aaload, 1) := by decide +kernel
theorem dX3_literals_8 : decode cX3_literals 8 = .ok (.astore_n 3, 1) := by decide +kernel
theorem dX3_literals_9 : decode cX3_literals 9 = .ok (.aload_n 3, 1) := by decide +kernel
theorem dX3_literals_10 : decode cX3_literals 10 = .ok (.arraylength, 1) := by decide +kernel
theorem dX3_literals_11 : decode cX3_literals 11 = .ok (.istore 4, 2) := by decide +kernel
theorem dX3_literals_13 : decode cX3_literals 13 = .ok (.iconst 0, 1) := by decide +kernel
theorem dX3_literals_14 : decode cX3_literals 14 = .ok (.istore 5, 2) := by decide +kernel
theorem dX3_literals_16 : decode cX3_literals 16 = .ok (.iload 5, 2) := by decide +kernel
theorem dX3_literals_18 : decode cX3_literals 18 = .ok (.iload 4, 2) := by decide +kernel
theorem dX3_literals_20 : decode cX3_literals 20 = .ok (.if_icmp .ge 29, 3) := by decide +kernel
theorem dX3_literals_23 : decode cX3_literals 23 = .ok (.aload_n 3, 1) := by decide +kernel
theorem dX3_literals_24 : decode cX3_literals 24 = .ok (.iload 5, 2) := by decide +kernel
theorem dX3_literals_26 : decode cX3_literals 26 = .ok (.iaload, 1) := by decide +kernel
theorem dX3_literals_27 : decode cX3_literals 27 = .ok (.istore 6, 2) := by decide +kernel
theorem dX3_literals_29 : decode cX3_literals 29 = .ok (.iload_n 2, 1) := by decide +kernel
theorem dX3_literals_30 : decode cX3_literals 30 = .ok (.iload 6, 2) := by decide +kernel
theorem dX3_literals_32 : decode cX3_literals 32 = .ok (.iconst (-1), 1) := by decide +kernel
theorem dX3_literals_33 : decode cX3_literals 33 = .ok (.if_icmp .ne 7, 3) := by decide +kernel
theorem dX3_literals_36 : decode cX3_literals 36 = .ok (.iconst 1, 1) := by decide +kernel
theorem dX3_literals_37 : decode cX3_literals 37 = .ok (.goto 4, 3) := by decide +kernel
theorem dX3_literals_40 : decode cX3_literals 40 = .ok (.iconst 0, 1) := by decide +kernel
theorem dX3_literals_41 : decode cX3_literals 41 = .ok (.iadd, 1) := by decide +kernel
theorem dX3_literals_42 : decode cX3_literals 42 = .ok (.istore_n 2, 1) := by decide +kernel
theorem dX3_literals_43 : decode cX3_literals 43 = .ok (.iinc 5 1, 3) := by decide +kernel
theorem dX3_literals_46 : decode cX3_literals 46 = .ok (.goto (-30), 3) := by decide +kernel
theorem dX3_literals_49 : decode cX3_literals 49 = .ok (.iload_n 2, 1) := by decide +kernel
theorem dX3_literals_50 : decode cX3_literals 50 = .ok (.ireturn, 1) := by decide +kernel
set_option maxRecDepth 20000 in
theorem ggX3_costOf_X3_literals : GoodIn wsX3_costOf wsX3_literals := goodIn_r _ [6, 1, 11, 12, 13, 14, 15, 16, 17, 18, 19, 20, 21, 22] (by decide +kernel) (by decide +kernel)
set_option maxRecDepth 20000 in
theorem gX3_costOf_X3_literals : GoodIn wsX3_costOf (wsV RX3 107 RX3 yX3_literals wsX3_literals) := goodIn_app (goodIn_of _ (by decide +kernel)) ggX3_costOf_X3_literals
set_option maxRecDepth 20000 in
theorem ggX3_costOf_X3_begins : GoodIn wsX3_costOf wsX3_begins := goodIn_r _ [10, 1, 11, 12, 13, 14, 15, 16, 17, 18, 19, 20, 21, 22] (by decide +kernel) (by decide +kernel)
set_option maxRecDepth 20000 in
theorem gX3_costOf_X3_begins : GoodIn wsX3_costOf (wsV RX3 96 RX3 yX3_begins wsX3_begins) := goodIn_app (goodIn_of _ (by decide +kernel)) ggX3_costOf_X3_begins
theorem dX3_costOf_0 : decode cX3_costOf 0 = .ok (.aload_n 0, 1) := by decide +kernel
theorem dX3_costOf_1 : decode cX3_costOf 1 = .ok (.iload_n 1, 1) := by decide +kernel
theorem dX3_costOf_2 : decode cX3_costOf 2 = .ok (.invokevirtual 107, 3) := by decide +kernel
theorem dX3_costOf_5 : decode cX3_costOf 5 = .ok (.istore_n 2, 1) := by decide +kernel
theorem dX3_costOf_6 : decode cX3_costOf 6 = .ok (.iconst 0, 1) := by decide +kernel
theorem dX3_costOf_7 : decode cX3_costOf 7 = .ok (.istore_n 3, 1) := by decide +kernel
theorem dX3_costOf_8 : decode cX3_costOf 8 = .ok (.iload_n 3, 1) := by decide +kernel
theorem dX3_costOf_9 : decode cX3_costOf 9 = .ok (.aload_n 0, 1) := by decide +kernel
theorem dX3_costOf_10 : decode cX3_costOf 10 = .ok (.getfield 24, 3) := by decide +kernel
theorem dX3_costOf_13 : decode cX3_costOf 13 = .ok (.iload_n 1, 1) := by decide +kernel
theorem dX3_costOf_14 : decode cX3_costOf 14 = .ok (.aaload, 1) := by decide +kernel
theorem dX3_costOf_15 : decode cX3_costOf 15 = .ok (.arraylength, 1) := by decide +kernel
theorem dX3_costOf_16 : decode cX3_costOf 16 = .ok (.if_icmp .ge 38, 3) := by decide +kernel
theorem dX3_costOf_19 : decode cX3_costOf 19 = .ok (.aload_n 0, 1) := by decide +kernel
theorem dX3_costOf_20 : decode cX3_costOf 20 = .ok (.iload_n 1, 1) := by decide +kernel
theorem dX3_costOf_21 : decode cX3_costOf 21 = .ok (.iload_n 3, 1) := by decide +kernel
theorem dX3_costOf_22 : decode cX3_costOf 22 = .ok (.invokevirtual 96, 3) := by decide +kernel
theorem dX3_costOf_25 : decode cX3_costOf 25 = .ok (.ifCond .eq 23, 3) := by decide +kernel
theorem dX3_costOf_28 : decode cX3_costOf 28 = .ok (.iload_n 2, 1) := by decide +kernel
theorem dX3_costOf_29 : decode cX3_costOf 29 = .ok (.aload_n 0, 1) := by decide +kernel
theorem dX3_costOf_30 : decode cX3_costOf 30 = .ok (.getfield 24, 3) := by decide +kernel
theorem dX3_costOf_33 : decode cX3_costOf 33 = .ok (.iload_n 1, 1) := by decide +kernel
theorem dX3_costOf_34 : decode cX3_costOf 34 = .ok (.aaload, 1) := by decide +kernel
theorem dX3_costOf_35 : decode cX3_costOf 35 = .ok (.iload_n 3, 1) := by decide +kernel
theorem dX3_costOf_36 : decode cX3_costOf 36 = .ok (.iaload, 1) := by decide +kernel
theorem dX3_costOf_37 : decode cX3_costOf 37 = .ok (.iconst (-1), 1) := by decide +kernel
theorem dX3_costOf_38 : decode cX3_costOf 38 = .ok (.if_icmp .ne 7, 3) := by decide +kernel
theorem dX3_costOf_41 : decode cX3_costOf 41 = .ok (.iconst 2, 1) := by decide +kernel
theorem dX3_costOf_42 : decode cX3_costOf 42 = .ok (.goto 4, 3) := by decide +kernel
theorem dX3_costOf_45 : decode cX3_costOf 45 = .ok (.iconst 5, 1) := by decide +kernel
theorem dX3_costOf_46 : decode cX3_costOf 46 = .ok (.iadd, 1) := by decide +kernel
theorem dX3_costOf_47 : decode cX3_costOf 47 = .ok (.istore_n 2, 1) := by decide +kernel
theorem dX3_costOf_48 : decode cX3_costOf 48 = .ok (.iinc 3 1, 3) := by decide +kernel
theorem dX3_costOf_51 : decode cX3_costOf 51 = .ok (.goto (-43), 3) := by decide +kernel
theorem dX3_costOf_54 : decode cX3_costOf 54 = .ok (.iload_n 2, 1) := by decide +kernel
theorem dX3_costOf_55 : decode cX3_costOf 55 = .ok (.ireturn, 1) := by decide +kernel
set_option maxRecDepth 20000 in
theorem ggX3_cost_X3_isPatch : GoodIn wsX3_cost wsX3_isPatch := goodIn_r _ [6, 7, 8, 9, 5, 10, 28, 29, 30, 31, 32, 33, 34, 35, 36, 37, 38, 39] (by decide +kernel) (by decide +kernel)
set_option maxRecDepth 20000 in
theorem gX3_cost_X3_isPatch : GoodIn wsX3_cost (wsV RX3 93 RX3 yX3_isPatch wsX3_isPatch) := goodIn_app (goodIn_of _ (by decide +kernel)) ggX3_cost_X3_isPatch
set_option maxRecDepth 20000 in
theorem ggX3_cost_X3_costOf : GoodIn wsX3_cost wsX3_costOf := goodIn_r _ [14, 15, 16, 17, 18, 5, 19, 20, 21, 22, 23, 28, 29, 30, 31, 32, 33, 34, 35, 36, 37, 38, 39] (by decide +kernel) (by decide +kernel)
set_option maxRecDepth 20000 in
theorem gX3_cost_X3_costOf : GoodIn wsX3_cost (wsV RX3 110 RX3 yX3_costOf wsX3_costOf) := goodIn_app (goodIn_of _ (by decide +kernel)) ggX3_cost_X3_costOf
set_option maxRecDepth 20000 in
theorem ggX3_cost_X3_fail : GoodIn wsX3_cost wsX3_fail := goodIn_r _ [27, 1, 28, 29, 30, 31, 32, 33, 34, 35, 36, 37, 38, 39] (by decide +kernel) (by decide +kernel)
set_option maxRecDepth 20000 in
theorem gX3_cost_X3_fail : GoodIn wsX3_cost (wsV RX3 47 RX3 yX3_fail wsX3_fail) := goodIn_app (goodIn_of _ (by decide +kernel)) ggX3_cost_X3_fail
theorem dX3_cost_0 : decode cX3_cost 0 = .ok (.aload_n 0, 1) := by decide +kernel
theorem dX3_cost_1 : decode cX3_cost 1 = .ok (.iconst 0, 1) := by decide +kernel
theorem dX3_cost_2 : decode cX3_cost 2 = .ok (.putfield 33, 3) := by decide +kernel
theorem dX3_cost_5 : decode cX3_cost 5 = .ok (.aload_n 0, 1) := by decide +kernel
theorem dX3_cost_6 : decode cX3_cost 6 = .ok (.iload_n 1, 1) := by decide +kernel
theorem dX3_cost_7 : decode cX3_cost 7 = .ok (.invokevirtual 93, 3) := by decide +kernel
theorem dX3_cost_10 : decode cX3_cost 10 = .ok (.ifCond .eq 11, 3) := by decide +kernel
theorem dX3_cost_13 : decode cX3_cost 13 = .ok (.aload_n 0, 1) := by decide +kernel
theorem dX3_cost_14 : decode cX3_cost 14 = .ok (.iload_n 1, 1) := by decide +kernel
theorem dX3_cost_15 : decode cX3_cost 15 = .ok (.invokevirtual 110, 3) := by decide +kernel
theorem dX3_cost_18 : decode cX3_cost 18 = .ok (.goto 8, 3) := by decide +kernel
theorem dX3_cost_21 : decode cX3_cost 21 = .ok (.aload_n 0, 1) := by decide +kernel
theorem dX3_cost_22 : decode cX3_cost 22 = .ok (.iconst 1, 1) := by decide +kernel
theorem dX3_cost_23 : decode cX3_cost 23 = .ok (.invokevirtual 47, 3) := by decide +kernel
theorem dX3_cost_26 : decode cX3_cost 26 = .ok (.ireturn, 1) := by decide +kernel
set_option maxRecDepth 20000 in
theorem ggX3_newness_X3_isPatch : GoodIn wsX3_newness wsX3_isPatch := goodIn_r _ [7, 8, 9, 10, 6, 11, 17, 18, 19, 20, 21, 22, 23, 24, 25, 26, 27, 28] (by decide +kernel) (by decide +kernel)
set_option maxRecDepth 20000 in
theorem gX3_newness_X3_isPatch : GoodIn wsX3_newness (wsV RX3 93 RX3 yX3_isPatch wsX3_isPatch) := goodIn_app (goodIn_of _ (by decide +kernel)) ggX3_newness_X3_isPatch
set_option maxRecDepth 20000 in
theorem ggX3_newness_X3_literals : GoodIn wsX3_newness wsX3_literals := goodIn_r _ [15, 16, 17, 18, 19, 20, 21, 22, 23, 24, 25, 26, 27, 28] (by decide +kernel) (by decide +kernel)
set_option maxRecDepth 20000 in
theorem gX3_newness_X3_literals : GoodIn wsX3_newness (wsV RX3 107 RX3 yX3_literals wsX3_literals) := goodIn_app (goodIn_of _ (by decide +kernel)) ggX3_newness_X3_literals
theorem dX3_newness_0 : decode cX3_newness 0 = .ok (.aload_n 0, 1) := by decide +kernel
theorem dX3_newness_1 : decode cX3_newness 1 = .ok (.aload_n 0, 1) := by decide +kernel
theorem dX3_newness_2 : decode cX3_newness 2 = .ok (.iload_n 1, 1) := by decide +kernel
theorem dX3_newness_3 : decode cX3_newness 3 = .ok (.invokevirtual 93, 3) := by decide +kernel
theorem dX3_newness_6 : decode cX3_newness 6 = .ok (.ifCond .eq 7, 3) := by decide +kernel
theorem dX3_newness_9 : decode cX3_newness 9 = .ok (.iconst 0, 1) := by decide +kernel
theorem dX3_newness_10 : decode cX3_newness 10 = .ok (.goto 4, 3) := by decide +kernel
theorem dX3_newness_13 : decode cX3_newness 13 = .ok (.iconst 1, 1) := by decide +kernel
theorem dX3_newness_14 : decode cX3_newness 14 = .ok (.putfield 33, 3) := by decide +kernel
theorem dX3_newness_17 : decode cX3_newness 17 = .ok (.aload_n 0, 1) := by decide +kernel
theorem dX3_newness_18 : decode cX3_newness 18 = .ok (.getfield 33, 3) := by decide +kernel
theorem dX3_newness_21 : decode cX3_newness 21 = .ok (.ifCond .ne 13, 3) := by decide +kernel
theorem dX3_newness_24 : decode cX3_newness 24 = .ok (.aload_n 0, 1) := by decide +kernel
theorem dX3_newness_25 : decode cX3_newness 25 = .ok (.getfield 21, 3) := by decide +kernel
theorem dX3_newness_28 : decode cX3_newness 28 = .ok (.iload_n 1, 1) := by decide +kernel
theorem dX3_newness_29 : decode cX3_newness 29 = .ok (.aaload, 1) := by decide +kernel
theorem dX3_newness_30 : decode cX3_newness 30 = .ok (.arraylength, 1) := by decide +kernel
theorem dX3_newness_31 : decode cX3_newness 31 = .ok (.ifCond .ne 5, 3) := by decide +kernel
theorem dX3_newness_34 : decode cX3_newness 34 = .ok (.dconst 0, 1) := by decide +kernel
theorem dX3_newness_35 : decode cX3_newness 35 = .ok (.dreturn, 1) := by decide +kernel
theorem dX3_newness_36 : decode cX3_newness 36 = .ok (.aload_n 0, 1) := by decide +kernel
theorem dX3_newness_37 : decode cX3_newness 37 = .ok (.iload_n 1, 1) := by decide +kernel
theorem dX3_newness_38 : decode cX3_newness 38 = .ok (.invokevirtual 107, 3) := by decide +kernel
theorem dX3_newness_41 : decode cX3_newness 41 = .ok (.i2d, 1) := by decide +kernel
theorem dX3_newness_42 : decode cX3_newness 42 = .ok (.aload_n 0, 1) := by decide +kernel
theorem dX3_newness_43 : decode cX3_newness 43 = .ok (.getfield 21, 3) := by decide +kernel
theorem dX3_newness_46 : decode cX3_newness 46 = .ok (.iload_n 1, 1) := by decide +kernel
theorem dX3_newness_47 : decode cX3_newness 47 = .ok (.aaload, 1) := by decide +kernel
theorem dX3_newness_48 : decode cX3_newness 48 = .ok (.arraylength, 1) := by decide +kernel
theorem dX3_newness_49 : decode cX3_newness 49 = .ok (.i2d, 1) := by decide +kernel
theorem dX3_newness_50 : decode cX3_newness 50 = .ok (.ddiv, 1) := by decide +kernel
theorem dX3_newness_51 : decode cX3_newness 51 = .ok (.dreturn, 1) := by decide +kernel
set_option maxRecDepth 20000 in
theorem ggX3_apply_X3_isPatch : GoodIn wsX3_apply wsX3_isPatch := goodIn_r _ [10, 11, 12, 13, 9, 14, 30, 31, 32, 33, 34, 35, 36, 37, 38, 39, 40, 41] (by decide +kernel) (by decide +kernel)
set_option maxRecDepth 20000 in
theorem gX3_apply_X3_isPatch : GoodIn wsX3_apply (wsV RX3 93 RX3 yX3_isPatch wsX3_isPatch) := goodIn_app (goodIn_of _ (by decide +kernel)) ggX3_apply_X3_isPatch
set_option maxRecDepth 20000 in
theorem ggX3_apply_X3_isVersion : GoodIn wsX3_apply wsX3_isVersion := goodIn_r _ [18, 4, 12, 13, 9, 14, 30, 31, 32, 33, 34, 35, 36, 37, 38, 39, 40, 41] (by decide +kernel) (by decide +kernel)
set_option maxRecDepth 20000 in
theorem gX3_apply_X3_isVersion : GoodIn wsX3_apply (wsV RX3 66 RX3 yX3_isVersion wsX3_isVersion) := goodIn_app (goodIn_of _ (by decide +kernel)) ggX3_apply_X3_isVersion
set_option maxRecDepth 20000 in
theorem ggX3_apply_X3_fail : GoodIn wsX3_apply wsX3_fail := goodIn_r _ [22, 1, 30, 31, 32, 33, 34, 35, 36, 37, 38, 39, 40, 41] (by decide +kernel) (by decide +kernel)
set_option maxRecDepth 20000 in
theorem gX3_apply_X3_fail : GoodIn wsX3_apply (wsV RX3 47 RX3 yX3_fail wsX3_fail) := goodIn_app (goodIn_of _ (by decide +kernel)) ggX3_apply_X3_fail
set_option maxRecDepth 20000 in
theorem ggX3_apply_X3_are : GoodIn wsX3_apply wsX3_are := goodIn_r _ [25] (by decide +kernel) (by decide +kernel)
set_option maxRecDepth 20000 in
theorem gX3_apply_X3_are : GoodIn wsX3_apply (va_wsS RX3 70 yX3_are wsX3_are) := goodIn_app (goodIn_of _ (by decide +kernel)) ggX3_apply_X3_are
set_option maxRecDepth 20000 in
theorem ggX3_apply_X3_keep : GoodIn wsX3_apply wsX3_keep := goodIn_r _ [29, 2, 4, 30, 31, 32, 33, 34, 35, 36, 37, 38, 39, 40, 41] (by decide +kernel) (by decide +kernel)
set_option maxRecDepth 20000 in
theorem gX3_apply_X3_keep : GoodIn wsX3_apply (wsV RX3 62 RX3 yX3_keep wsX3_keep) := goodIn_app (goodIn_of _ (by decide +kernel)) ggX3_apply_X3_keep
theorem dX3_apply_0 : decode cX3_apply 0 = .ok (.aload_n 0, 1) := by decide +kernel
theorem dX3_apply_1 : decode cX3_apply 1 = .ok (.iconst 0, 1) := by decide +kernel
theorem dX3_apply_2 : decode cX3_apply 2 = .ok (.putfield 33, 3) := by decide +kernel
theorem dX3_apply_5 : decode cX3_apply 5 = .ok (.aload_n 0, 1) := by decide +kernel
theorem dX3_apply_6 : decode cX3_apply 6 = .ok (.iload_n 1, 1) := by decide +kernel
theorem dX3_apply_7 : decode cX3_apply 7 = .ok (.invokevirtual 93, 3) := by decide +kernel
theorem dX3_apply_10 : decode cX3_apply 10 = .ok (.ifCond .eq 11, 3) := by decide +kernel
theorem dX3_apply_13 : decode cX3_apply 13 = .ok (.aload_n 0, 1) := by decide +kernel
theorem dX3_apply_14 : decode cX3_apply 14 = .ok (.iload_n 2, 1) := by decide +kernel
theorem dX3_apply_15 : decode cX3_apply 15 = .ok (.invokevirtual 66, 3) := by decide +kernel
theorem dX3_apply_18 : decode cX3_apply 18 = .ok (.ifCond .ne 9, 3) := by decide +kernel
theorem dX3_apply_21 : decode cX3_apply 21 = .ok (.aload_n 0, 1) := by decide +kernel
theorem dX3_apply_22 : decode cX3_apply 22 = .ok (.iconst 1, 1) := by decide +kernel
theorem dX3_apply_23 : decode cX3_apply 23 = .ok (.invokevirtual 47, 3) := by decide +kernel
theorem dX3_apply_26 : decode cX3_apply 26 = .ok (.ireturn, 1) := by decide +kernel
theorem dX3_apply_27 : decode cX3_apply 27 = .ok (.aload_n 0, 1) := by decide +kernel
theorem dX3_apply_28 : decode cX3_apply 28 = .ok (.getfield 14, 3) := by decide +kernel
theorem dX3_apply_31 : decode cX3_apply 31 = .ok (.iload_n 2, 1) := by decide +kernel
theorem dX3_apply_32 : decode cX3_apply 32 = .ok (.aaload, 1) := by decide +kernel
theorem dX3_apply_33 : decode cX3_apply 33 = .ok (.aload_n 0, 1) := by decide +kernel
theorem dX3_apply_34 : decode cX3_apply 34 = .ok (.getfield 18, 3) := by decide +kernel
theorem dX3_apply_37 : decode cX3_apply 37 = .ok (.iload_n 1, 1) := by decide +kernel
theorem dX3_apply_38 : decode cX3_apply 38 = .ok (.aaload, 1) := by decide +kernel
theorem dX3_apply_39 : decode cX3_apply 39 = .ok (.invokestatic 70, 3) := by decide +kernel
theorem dX3_apply_42 : decode cX3_apply 42 = .ok (.ifCond .ne 9, 3) := by decide +kernel
theorem dX3_apply_45 : decode cX3_apply 45 = .ok (.aload_n 0, 1) := by decide +kernel
theorem dX3_apply_46 : decode cX3_apply 46 = .ok (.iconst 2, 1) := by decide +kernel
theorem dX3_apply_47 : decode cX3_apply 47 = .ok (.invokevirtual 47, 3) := by decide +kernel
theorem dX3_apply_50 : decode cX3_apply 50 = .ok (.ireturn, 1) := by decide +kernel
theorem dX3_apply_51 : decode cX3_apply 51 = .ok (.aload_n 0, 1) := by decide +kernel
theorem dX3_apply_52 : decode cX3_apply 52 = .ok (.getfield 37, 3) := by decide +kernel
theorem dX3_apply_55 : decode cX3_apply 55 = .ok (.bipush 12, 2) := by decide +kernel
theorem dX3_apply_57 : decode cX3_apply 57 = .ok (.if_icmp .ne 11, 3) := by decide +kernel
theorem dX3_apply_60 : decode cX3_apply 60 = .ok (.aload_n 0, 1) := by decide +kernel
theorem dX3_apply_61 : decode cX3_apply 61 = .ok (.iconst 3, 1) := by decide +kernel
theorem dX3_apply_62 : decode cX3_apply 62 = .ok (.invokevirtual 47, 3) := by decide +kernel
theorem dX3_apply_65 : decode cX3_apply 65 = .ok (.goto 13, 3) := by decide +kernel
theorem dX3_apply_68 : decode cX3_apply 68 = .ok (.aload_n 0, 1) := by decide +kernel
theorem dX3_apply_69 : decode cX3_apply 69 = .ok (.aload_n 0, 1) := by decide +kernel
theorem dX3_apply_70 : decode cX3_apply 70 = .ok (.getfield 21, 3) := by decide +kernel
theorem dX3_apply_73 : decode cX3_apply 73 = .ok (.iload_n 1, 1) := by decide +kernel
theorem dX3_apply_74 : decode cX3_apply 74 = .ok (.aaload, 1) := by decide +kernel
theorem dX3_apply_75 : decode cX3_apply 75 = .ok (.invokevirtual 62, 3) := by decide +kernel
theorem dX3_apply_78 : decode cX3_apply 78 = .ok (.ireturn, 1) := by decide +kernel
set_option maxRecDepth 20000 in
theorem ggX3_lead_X3_are : GoodIn wsX3_lead wsX3_are := goodIn_r _ [8] (by decide +kernel) (by decide +kernel)
set_option maxRecDepth 20000 in
theorem gX3_lead_X3_are : GoodIn wsX3_lead (va_wsS RX3 70 yX3_are wsX3_are) := goodIn_app (goodIn_of _ (by decide +kernel)) ggX3_lead_X3_are
set_option maxRecDepth 20000 in
theorem ggX3_lead_X3_costOf : GoodIn wsX3_lead wsX3_costOf := goodIn_r _ [12, 13, 14, 15, 16, 7, 17, 18, 19, 20, 21, 22, 23, 24, 25, 26, 27, 28, 29, 30, 31, 32, 33] (by decide +kernel) (by decide +kernel)
set_option maxRecDepth 20000 in
theorem gX3_lead_X3_costOf : GoodIn wsX3_lead (wsV RX3 110 RX3 yX3_costOf wsX3_costOf) := goodIn_app (goodIn_of _ (by decide +kernel)) ggX3_lead_X3_costOf
theorem dX3_lead_0 : decode cX3_lead 0 = .ok (.aload_n 1, 1) := by decide +kernel
theorem dX3_lead_1 : decode cX3_lead 1 = .ok (.aload_n 2, 1) := by decide +kernel
theorem dX3_lead_2 : decode cX3_lead 2 = .ok (.invokestatic 70, 3) := by decide +kernel
theorem dX3_lead_5 : decode cX3_lead 5 = .ok (.ifCond .eq 5, 3) := by decide +kernel
theorem dX3_lead_8 : decode cX3_lead 8 = .ok (.iconst 0, 1) := by decide +kernel
theorem dX3_lead_9 : decode cX3_lead 9 = .ok (.ireturn, 1) := by decide +kernel
theorem dX3_lead_10 : decode cX3_lead 10 = .ok (.aload_n 0, 1) := by decide +kernel
theorem dX3_lead_11 : decode cX3_lead 11 = .ok (.getfield 44, 3) := by decide +kernel
theorem dX3_lead_14 : decode cX3_lead 14 = .ok (.newarray .int, 2) := by decide +kernel
theorem dX3_lead_16 : decode cX3_lead 16 = .ok (.astore 4, 2) := by decide +kernel
theorem dX3_lead_18 : decode cX3_lead 18 = .ok (.iconst 0, 1) := by decide +kernel
theorem dX3_lead_19 : decode cX3_lead 19 = .ok (.istore 5, 2) := by decide +kernel
theorem dX3_lead_21 : decode cX3_lead 21 = .ok (.iload 5, 2) := by decide +kernel
theorem dX3_lead_23 : decode cX3_lead 23 = .ok (.aload_n 0, 1) := by decide +kernel
theorem dX3_lead_24 : decode cX3_lead 24 = .ok (.getfield 44, 3) := by decide +kernel
theorem dX3_lead_27 : decode cX3_lead 27 = .ok (.if_icmp .ge 15, 3) := by decide +kernel
theorem dX3_lead_30 : decode cX3_lead 30 = .ok (.aload 4, 2) := by decide +kernel
theorem dX3_lead_32 : decode cX3_lead 32 = .ok (.iload 5, 2) := by decide +kernel
theorem dX3_lead_34 : decode cX3_lead 34 = .ok (.iconst (-1), 1) := by decide +kernel
theorem dX3_lead_35 : decode cX3_lead 35 = .ok (.iastore, 1) := by decide +kernel
theorem dX3_lead_36 : decode cX3_lead 36 = .ok (.iinc 5 1, 3) := by decide +kernel
theorem dX3_lead_39 : decode cX3_lead 39 = .ok (.goto (-18), 3) := by decide +kernel
theorem dX3_lead_42 : decode cX3_lead 42 = .ok (.iconst 0, 1) := by decide +kernel
theorem dX3_lead_43 : decode cX3_lead 43 = .ok (.istore 5, 2) := by decide +kernel
theorem dX3_lead_45 : decode cX3_lead 45 = .ok (.iload 5, 2) := by decide +kernel
theorem dX3_lead_47 : decode cX3_lead 47 = .ok (.aload_n 0, 1) := by decide +kernel
theorem dX3_lead_48 : decode cX3_lead 48 = .ok (.getfield 44, 3) := by decide +kernel
theorem dX3_lead_51 : decode cX3_lead 51 = .ok (.if_icmp .ge 177, 3) := by decide +kernel
theorem dX3_lead_54 : decode cX3_lead 54 = .ok (.iconst 0, 1) := by decide +kernel
theorem dX3_lead_55 : decode cX3_lead 55 = .ok (.istore 6, 2) := by decide +kernel
theorem dX3_lead_57 : decode cX3_lead 57 = .ok (.iload 6, 2) := by decide +kernel
theorem dX3_lead_59 : decode cX3_lead 59 = .ok (.aload_n 0, 1) := by decide +kernel
theorem dX3_lead_60 : decode cX3_lead 60 = .ok (.getfield 44, 3) := by decide +kernel
theorem dX3_lead_63 : decode cX3_lead 63 = .ok (.if_icmp .ge 159, 3) := by decide +kernel
theorem dX3_lead_66 : decode cX3_lead 66 = .ok (.aload_n 1, 1) := by decide +kernel
theorem dX3_lead_67 : decode cX3_lead 67 = .ok (.aload_n 0, 1) := by decide +kernel
theorem dX3_lead_68 : decode cX3_lead 68 = .ok (.getfield 18, 3) := by decide +kernel
theorem dX3_lead_71 : decode cX3_lead 71 = .ok (.iload 6, 2) := by decide +kernel
theorem dX3_lead_73 : decode cX3_lead 73 = .ok (.aaload, 1) := by decide +kernel
theorem dX3_lead_74 : decode cX3_lead 74 = .ok (.invokestatic 70, 3) := by decide +kernel
theorem dX3_lead_77 : decode cX3_lead 77 = .ok (.ifCond .eq 7, 3) := by decide +kernel
theorem dX3_lead_80 : decode cX3_lead 80 = .ok (.iconst 0, 1) := by decide +kernel
theorem dX3_lead_81 : decode cX3_lead 81 = .ok (.goto 4, 3) := by decide +kernel
theorem dX3_lead_84 : decode cX3_lead 84 = .ok (.iconst (-1), 1) := by decide +kernel
theorem dX3_lead_85 : decode cX3_lead 85 = .ok (.istore 7, 2) := by decide +kernel
theorem dX3_lead_87 : decode cX3_lead 87 = .ok (.iconst 0, 1) := by decide +kernel
theorem dX3_lead_88 : decode cX3_lead 88 = .ok (.istore 8, 2) := by decide +kernel
theorem dX3_lead_90 : decode cX3_lead 90 = .ok (.iload 8, 2) := by decide +kernel
theorem dX3_lead_92 : decode cX3_lead 92 = .ok (.aload_n 0, 1) := by decide +kernel
theorem dX3_lead_93 : decode cX3_lead 93 = .ok (.getfield 44, 3) := by decide +kernel
theorem dX3_lead_96 : decode cX3_lead 96 = .ok (.if_icmp .ge 66, 3) := by decide +kernel
theorem dX3_lead_99 : decode cX3_lead 99 = .ok (.iload 7, 2) := by decide +kernel
theorem dX3_lead_101 : decode cX3_lead 101 = .ok (.ifCond .eq 61, 3) := by decide +kernel
theorem dX3_lead_104 : decode cX3_lead 104 = .ok (.aload 4, 2) := by decide +kernel
theorem dX3_lead_106 : decode cX3_lead 106 = .ok (.iload 8, 2) := by decide +kernel
theorem dX3_lead_108 : decode cX3_lead 108 = .ok (.iaload, 1) := by decide +kernel
theorem dX3_lead_109 : decode cX3_lead 109 = .ok (.iconst (-1), 1) := by decide +kernel
theorem dX3_lead_110 : decode cX3_lead 110 = .ok (.if_icmp .eq 46, 3) := by decide +kernel
theorem dX3_lead_113 : decode cX3_lead 113 = .ok (.iload 7, 2) := by decide +kernel
theorem dX3_lead_115 : decode cX3_lead 115 = .ok (.iconst (-1), 1) := by decide +kernel
theorem dX3_lead_116 : decode cX3_lead 116 = .ok (.if_icmp .eq 13, 3) := by decide +kernel
theorem dX3_lead_119 : decode cX3_lead 119 = .ok (.aload 4, 2) := by decide +kernel
theorem dX3_lead_121 : decode cX3_lead 121 = .ok (.iload 8, 2) := by decide +kernel
theorem dX3_lead_123 : decode cX3_lead 123 = .ok (.iaload, 1) := by decide +kernel
theorem dX3_lead_124 : decode cX3_lead 124 = .ok (.iload 7, 2) := by decide +kernel
theorem dX3_lead_126 : decode cX3_lead 126 = .ok (.if_icmp .ge 30, 3) := by decide +kernel
theorem dX3_lead_129 : decode cX3_lead 129 = .ok (.aload_n 0, 1) := by decide +kernel
theorem dX3_lead_130 : decode cX3_lead 130 = .ok (.getfield 21, 3) := by decide +kernel
theorem dX3_lead_133 : decode cX3_lead 133 = .ok (.iload 8, 2) := by decide +kernel
theorem dX3_lead_135 : decode cX3_lead 135 = .ok (.aaload, 1) := by decide +kernel
theorem dX3_lead_136 : decode cX3_lead 136 = .ok (.aload_n 0, 1) := by decide +kernel
theorem dX3_lead_137 : decode cX3_lead 137 = .ok (.getfield 18, 3) := by decide +kernel
theorem dX3_lead_140 : decode cX3_lead 140 = .ok (.iload 6, 2) := by decide +kernel
theorem dX3_lead_142 : decode cX3_lead 142 = .ok (.aaload, 1) := by decide +kernel
theorem dX3_lead_143 : decode cX3_lead 143 = .ok (.invokestatic 70, 3) := by decide +kernel
theorem dX3_lead_146 : decode cX3_lead 146 = .ok (.ifCond .eq 10, 3) := by decide +kernel
theorem dX3_lead_149 : decode cX3_lead 149 = .ok (.aload 4, 2) := by decide +kernel
theorem dX3_lead_151 : decode cX3_lead 151 = .ok (.iload 8, 2) := by decide +kernel
theorem dX3_lead_153 : decode cX3_lead 153 = .ok (.iaload, 1) := by decide +kernel
theorem dX3_lead_154 : decode cX3_lead 154 = .ok (.istore 7, 2) := by decide +kernel
theorem dX3_lead_156 : decode cX3_lead 156 = .ok (.iinc 8 1, 3) := by decide +kernel
theorem dX3_lead_159 : decode cX3_lead 159 = .ok (.goto (-69), 3) := by decide +kernel
theorem dX3_lead_162 : decode cX3_lead 162 = .ok (.iload 7, 2) := by decide +kernel
theorem dX3_lead_164 : decode cX3_lead 164 = .ok (.iconst (-1), 1) := by decide +kernel
theorem dX3_lead_165 : decode cX3_lead 165 = .ok (.if_icmp .ne 6, 3) := by decide +kernel
theorem dX3_lead_168 : decode cX3_lead 168 = .ok (.goto 48, 3) := by decide +kernel
theorem dX3_lead_171 : decode cX3_lead 171 = .ok (.iload 7, 2) := by decide +kernel
theorem dX3_lead_173 : decode cX3_lead 173 = .ok (.iload_n 3, 1) := by decide +kernel
theorem dX3_lead_174 : decode cX3_lead 174 = .ok (.ifCond .eq 12, 3) := by decide +kernel
theorem dX3_lead_177 : decode cX3_lead 177 = .ok (.aload_n 0, 1) := by decide +kernel
theorem dX3_lead_178 : decode cX3_lead 178 = .ok (.iload 6, 2) := by decide +kernel
theorem dX3_lead_180 : decode cX3_lead 180 = .ok (.invokevirtual 110, 3) := by decide +kernel
theorem dX3_lead_183 : decode cX3_lead 183 = .ok (.goto 4, 3) := by decide +kernel
theorem dX3_lead_186 : decode cX3_lead 186 = .ok (.iconst 1, 1) := by decide +kernel
theorem dX3_lead_187 : decode cX3_lead 187 = .ok (.iadd, 1) := by decide +kernel
theorem dX3_lead_188 : decode cX3_lead 188 = .ok (.istore 8, 2) := by decide +kernel
theorem dX3_lead_190 : decode cX3_lead 190 = .ok (.aload 4, 2) := by decide +kernel
theorem dX3_lead_192 : decode cX3_lead 192 = .ok (.iload 6, 2) := by decide +kernel
theorem dX3_lead_194 : decode cX3_lead 194 = .ok (.iaload, 1) := by decide +kernel
theorem dX3_lead_195 : decode cX3_lead 195 = .ok (.iconst (-1), 1) := by decide +kernel
theorem dX3_lead_196 : decode cX3_lead 196 = .ok (.if_icmp .eq 13, 3) := by decide +kernel
theorem dX3_lead_199 : decode cX3_lead 199 = .ok (.iload 8, 2) := by decide +kernel
theorem dX3_lead_201 : decode cX3_lead 201 = .ok (.aload 4, 2) := by decide +kernel
theorem dX3_lead_203 : decode cX3_lead 203 = .ok (.iload 6, 2) := by decide +kernel
theorem dX3_lead_205 : decode cX3_lead 205 = .ok (.iaload, 1) := by decide +kernel
theorem dX3_lead_206 : decode cX3_lead 206 = .ok (.if_icmp .ge 10, 3) := by decide +kernel
theorem dX3_lead_209 : decode cX3_lead 209 = .ok (.aload 4, 2) := by decide +kernel
theorem dX3_lead_211 : decode cX3_lead 211 = .ok (.iload 6, 2) := by decide +kernel
theorem dX3_lead_213 : decode cX3_lead 213 = .ok (.iload 8, 2) := by decide +kernel
theorem dX3_lead_215 : decode cX3_lead 215 = .ok (.iastore, 1) := by decide +kernel
theorem dX3_lead_216 : decode cX3_lead 216 = .ok (.iinc 6 1, 3) := by decide +kernel
theorem dX3_lead_219 : decode cX3_lead 219 = .ok (.goto (-162), 3) := by decide +kernel
theorem dX3_lead_222 : decode cX3_lead 222 = .ok (.iinc 5 1, 3) := by decide +kernel
theorem dX3_lead_225 : decode cX3_lead 225 = .ok (.goto (-180), 3) := by decide +kernel
theorem dX3_lead_228 : decode cX3_lead 228 = .ok (.iconst (-1), 1) := by decide +kernel
theorem dX3_lead_229 : decode cX3_lead 229 = .ok (.istore 5, 2) := by decide +kernel
theorem dX3_lead_231 : decode cX3_lead 231 = .ok (.iconst 0, 1) := by decide +kernel
theorem dX3_lead_232 : decode cX3_lead 232 = .ok (.istore 6, 2) := by decide +kernel
theorem dX3_lead_234 : decode cX3_lead 234 = .ok (.iload 6, 2) := by decide +kernel
theorem dX3_lead_236 : decode cX3_lead 236 = .ok (.aload_n 0, 1) := by decide +kernel
theorem dX3_lead_237 : decode cX3_lead 237 = .ok (.getfield 44, 3) := by decide +kernel
theorem dX3_lead_240 : decode cX3_lead 240 = .ok (.if_icmp .ge 55, 3) := by decide +kernel
theorem dX3_lead_243 : decode cX3_lead 243 = .ok (.aload 4, 2) := by decide +kernel
theorem dX3_lead_245 : decode cX3_lead 245 = .ok (.iload 6, 2) := by decide +kernel
theorem dX3_lead_247 : decode cX3_lead 247 = .ok (.iaload, 1) := by decide +kernel
theorem dX3_lead_248 : decode cX3_lead 248 = .ok (.iconst (-1), 1) := by decide +kernel
theorem dX3_lead_249 : decode cX3_lead 249 = .ok (.if_icmp .eq 40, 3) := by decide +kernel
theorem dX3_lead_252 : decode cX3_lead 252 = .ok (.iload 5, 2) := by decide +kernel
theorem dX3_lead_254 : decode cX3_lead 254 = .ok (.iconst (-1), 1) := by decide +kernel
theorem dX3_lead_255 : decode cX3_lead 255 = .ok (.if_icmp .eq 13, 3) := by decide +kernel
theorem dX3_lead_258 : decode cX3_lead 258 = .ok (.aload 4, 2) := by decide +kernel
theorem dX3_lead_260 : decode cX3_lead 260 = .ok (.iload 6, 2) := by decide +kernel
theorem dX3_lead_262 : decode cX3_lead 262 = .ok (.iaload, 1) := by decide +kernel
theorem dX3_lead_263 : decode cX3_lead 263 = .ok (.iload 5, 2) := by decide +kernel
theorem dX3_lead_265 : decode cX3_lead 265 = .ok (.if_icmp .ge 24, 3) := by decide +kernel
theorem dX3_lead_268 : decode cX3_lead 268 = .ok (.aload_n 0, 1) := by decide +kernel
theorem dX3_lead_269 : decode cX3_lead 269 = .ok (.getfield 21, 3) := by decide +kernel
theorem dX3_lead_272 : decode cX3_lead 272 = .ok (.iload 6, 2) := by decide +kernel
theorem dX3_lead_274 : decode cX3_lead 274 = .ok (.aaload, 1) := by decide +kernel
theorem dX3_lead_275 : decode cX3_lead 275 = .ok (.aload_n 2, 1) := by decide +kernel
theorem dX3_lead_276 : decode cX3_lead 276 = .ok (.invokestatic 70, 3) := by decide +kernel
theorem dX3_lead_279 : decode cX3_lead 279 = .ok (.ifCond .eq 10, 3) := by decide +kernel
theorem dX3_lead_282 : decode cX3_lead 282 = .ok (.aload 4, 2) := by decide +kernel
theorem dX3_lead_284 : decode cX3_lead 284 = .ok (.iload 6, 2) := by decide +kernel
theorem dX3_lead_286 : decode cX3_lead 286 = .ok (.iaload, 1) := by decide +kernel
theorem dX3_lead_287 : decode cX3_lead 287 = .ok (.istore 5, 2) := by decide +kernel
theorem dX3_lead_289 : decode cX3_lead 289 = .ok (.iinc 6 1, 3) := by decide +kernel
theorem dX3_lead_292 : decode cX3_lead 292 = .ok (.goto (-58), 3) := by decide +kernel
theorem dX3_lead_295 : decode cX3_lead 295 = .ok (.iload 5, 2) := by decide +kernel
theorem dX3_lead_297 : decode cX3_lead 297 = .ok (.ireturn, 1) := by decide +kernel
set_option maxRecDepth 20000 in
theorem ggX3_steps_X3_isVersion : GoodIn wsX3_steps wsX3_isVersion := goodIn_r _ [7, 8, 9, 10, 6, 11, 40, 41, 42, 43, 44, 45, 46, 47, 48, 49, 50, 51] (by decide +kernel) (by decide +kernel)
set_option maxRecDepth 20000 in
theorem gX3_steps_X3_isVersion : GoodIn wsX3_steps (wsV RX3 66 RX3 yX3_isVersion wsX3_isVersion) := goodIn_app (goodIn_of _ (by decide +kernel)) ggX3_steps_X3_isVersion
set_option maxRecDepth 20000 in
theorem ggX3_steps_X3_lead : GoodIn wsX3_steps wsX3_lead := goodIn_r _ [15, 16, 17, 18, 19, 20, 21, 6, 22, 23, 24, 25, 26, 27, 28, 29, 30, 31, 32, 33, 34, 35, 40, 41, 42, 43, 44, 45, 46, 47, 48, 49, 50, 51] (by decide +kernel) (by decide +kernel)
set_option maxRecDepth 20000 in
theorem gX3_steps_X3_lead : GoodIn wsX3_steps (wsV RX3 113 RX3 yX3_lead wsX3_lead) := goodIn_app (goodIn_of _ (by decide +kernel)) ggX3_steps_X3_lead
set_option maxRecDepth 20000 in
theorem ggX3_steps_X3_fail : GoodIn wsX3_steps wsX3_fail := goodIn_r _ [39, 1, 40, 41, 42, 43, 44, 45, 46, 47, 48, 49, 50, 51] (by decide +kernel) (by decide +kernel)
set_option maxRecDepth 20000 in
theorem gX3_steps_X3_fail : GoodIn wsX3_steps (wsV RX3 47 RX3 yX3_fail wsX3_fail) := goodIn_app (goodIn_of _ (by decide +kernel)) ggX3_steps_X3_fail
theorem dX3_steps_0 : decode cX3_steps 0 = .ok (.aload_n 0, 1) := by decide +kernel
theorem dX3_steps_1 : decode cX3_steps 1 = .ok (.iconst 0, 1) := by decide +kernel
theorem dX3_steps_2 : decode cX3_steps 2 = .ok (.putfield 33, 3) := by decide +kernel
theorem dX3_steps_5 : decode cX3_steps 5 = .ok (.aload_n 0, 1) := by decide +kernel
theorem dX3_steps_6 : decode cX3_steps 6 = .ok (.iload_n 1, 1) := by decide +kernel
theorem dX3_steps_7 : decode cX3_steps 7 = .ok (.invokevirtual 66, 3) := by decide +kernel
theorem dX3_steps_10 : decode cX3_steps 10 = .ok (.ifCond .eq 31, 3) := by decide +kernel
theorem dX3_steps_13 : decode cX3_steps 13 = .ok (.aload_n 0, 1) := by decide +kernel
theorem dX3_steps_14 : decode cX3_steps 14 = .ok (.iload_n 2, 1) := by decide +kernel
theorem dX3_steps_15 : decode cX3_steps 15 = .ok (.invokevirtual 66, 3) := by decide +kernel
theorem dX3_steps_18 : decode cX3_steps 18 = .ok (.ifCond .eq 23, 3) := by decide +kernel
theorem dX3_steps_21 : decode cX3_steps 21 = .ok (.aload_n 0, 1) := by decide +kernel
theorem dX3_steps_22 : decode cX3_steps 22 = .ok (.aload_n 0, 1) := by decide +kernel
theorem dX3_steps_23 : decode cX3_steps 23 = .ok (.getfield 14, 3) := by decide +kernel
theorem dX3_steps_26 : decode cX3_steps 26 = .ok (.iload_n 1, 1) := by decide +kernel
theorem dX3_steps_27 : decode cX3_steps 27 = .ok (.aaload, 1) := by decide +kernel
theorem dX3_steps_28 : decode cX3_steps 28 = .ok (.aload_n 0, 1) := by decide +kernel
theorem dX3_steps_29 : decode cX3_steps 29 = .ok (.getfield 14, 3) := by decide +kernel
theorem dX3_steps_32 : decode cX3_steps 32 = .ok (.iload_n 2, 1) := by decide +kernel
theorem dX3_steps_33 : decode cX3_steps 33 = .ok (.aaload, 1) := by decide +kernel
theorem dX3_steps_34 : decode cX3_steps 34 = .ok (.iconst 0, 1) := by decide +kernel
theorem dX3_steps_35 : decode cX3_steps 35 = .ok (.invokevirtual 113, 3) := by decide +kernel
theorem dX3_steps_38 : decode cX3_steps 38 = .ok (.goto 8, 3) := by decide +kernel
theorem dX3_steps_41 : decode cX3_steps 41 = .ok (.aload_n 0, 1) := by decide +kernel
theorem dX3_steps_42 : decode cX3_steps 42 = .ok (.iconst 1, 1) := by decide +kernel
theorem dX3_steps_43 : decode cX3_steps 43 = .ok (.invokevirtual 47, 3) := by decide +kernel
theorem dX3_steps_46 : decode cX3_steps 46 = .ok (.ireturn, 1) := by decide +kernel
set_option maxRecDepth 20000 in
theorem ggX3_leastCost_X3_isVersion : GoodIn wsX3_leastCost wsX3_isVersion := goodIn_r _ [7, 8, 9, 10, 6, 11, 40, 41, 42, 43, 44, 45, 46, 47, 48, 49, 50, 51] (by decide +kernel) (by decide +kernel)
set_option maxRecDepth 20000 in
theorem gX3_leastCost_X3_isVersion : GoodIn wsX3_leastCost (wsV RX3 66 RX3 yX3_isVersion wsX3_isVersion) := goodIn_app (goodIn_of _ (by decide +kernel)) ggX3_leastCost_X3_isVersion
set_option maxRecDepth 20000 in
theorem ggX3_leastCost_X3_lead : GoodIn wsX3_leastCost wsX3_lead := goodIn_r _ [15, 16, 17, 18, 19, 20, 21, 6, 22, 23, 24, 25, 26, 27, 28, 29, 30, 31, 32, 33, 34, 35, 40, 41, 42, 43, 44, 45, 46, 47, 48, 49, 50, 51] (by decide +kernel) (by decide +kernel)
set_option maxRecDepth 20000 in
theorem gX3_leastCost_X3_lead : GoodIn wsX3_leastCost (wsV RX3 113 RX3 yX3_lead wsX3_lead) := goodIn_app (goodIn_of _ (by decide +kernel)) ggX3_leastCost_X3_lead
set_option maxRecDepth 20000 in
theorem ggX3_leastCost_X3_fail : GoodIn wsX3_leastCost wsX3_fail := goodIn_r _ [39, 1, 40, 41, 42, 43, 44, 45, 46, 47, 48, 49, 50, 51] (by decide +kernel) (by decide +kernel)
set_option maxRecDepth 20000 in
theorem gX3_leastCost_X3_fail : GoodIn wsX3_leastCost (wsV RX3 47 RX3 yX3_fail wsX3_fail) := goodIn_app (goodIn_of _ (by decide +kernel)) ggX3_leastCost_X3_fail
theorem dX3_leastCost_0 : decode cX3_leastCost 0 = .ok (.aload_n 0, 1) := by decide +kernel
theorem dX3_leastCost_1 : decode cX3_leastCost 1 = .ok (.iconst 0, 1) := by decide +kernel
theorem dX3_leastCost_2 : decode cX3_leastCost 2 = .ok (.putfield 33, 3) := by decide +kernel
theorem dX3_leastCost_5 : decode cX3_leastCost 5 = .ok (.aload_n 0, 1) := by decide +kernel
theorem dX3_leastCost_6 : decode cX3_leastCost 6 = .ok (.iload_n 1, 1) := by decide +kernel
theorem dX3_leastCost_7 : decode cX3_leastCost 7 = .ok (.invokevirtual 66, 3) := by decide +kernel
theorem dX3_leastCost_10 : decode cX3_leastCost 10 = .ok (.ifCond .eq 31, 3) := by decide +kernel
theorem dX3_leastCost_13 : decode cX3_leastCost 13 = .ok (.aload_n 0, 1) := by decide +kernel
theorem dX3_leastCost_14 : decode cX3_leastCost 14 = .ok (.iload_n 2, 1) := by decide +kernel
theorem dX3_leastCost_15 : decode cX3_leastCost 15 = .ok (.invokevirtual 66, 3) := by decide +kernel
theorem dX3_leastCost_18 : decode cX3_leastCost 18 = .ok (.ifCond .eq 23, 3) := by decide +kernel
theorem dX3_leastCost_21 : decode cX3_leastCost 21 = .ok (.aload_n 0, 1) := by decide +kernel
theorem dX3_leastCost_22 : decode cX3_leastCost 22 = .ok (.aload_n 0, 1) := by decide +kernel
theorem dX3_leastCost_23 : decode cX3_leastCost 23 = .ok (.getfield 14, 3) := by decide +kernel
theorem dX3_leastCost_26 : decode cX3_leastCost 26 = .ok (.iload_n 1, 1) := by decide +kernel
theorem dX3_leastCost_27 : decode cX3_leastCost 27 = .ok (.aaload, 1) := by decide +kernel
theorem dX3_leastCost_28 : decode cX3_leastCost 28 = .ok (.aload_n 0, 1) := by decide +kernel
theorem dX3_leastCost_29 : decode cX3_leastCost 29 = .ok (.getfield 14, 3) := by decide +kernel
theorem dX3_leastCost_32 : decode cX3_leastCost 32 = .ok (.iload_n 2, 1) := by decide +kernel
theorem dX3_leastCost_33 : decode cX3_leastCost 33 = .ok (.aaload, 1) := by decide +kernel
theorem dX3_leastCost_34 : decode cX3_leastCost 34 = .ok (.iconst 1, 1) := by decide +kernel
theorem dX3_leastCost_35 : decode cX3_leastCost 35 = .ok (.invokevirtual 113, 3) := by decide +kernel
theorem dX3_leastCost_38 : decode cX3_leastCost 38 = .ok (.goto 8, 3) := by decide +kernel
theorem dX3_leastCost_41 : decode cX3_leastCost 41 = .ok (.aload_n 0, 1) := by decide +kernel
theorem dX3_leastCost_42 : decode cX3_leastCost 42 = .ok (.iconst 1, 1) := by decide +kernel
theorem dX3_leastCost_43 : decode cX3_leastCost 43 = .ok (.invokevirtual 47, 3) := by decide +kernel
theorem dX3_leastCost_46 : decode cX3_leastCost 46 = .ok (.ireturn, 1) := by decide +kernel
theorem dX3_install_0 : decode cX3_install 0 = .ok (.aload_n 0, 1) := by decide +kernel
theorem dX3_install_1 : decode cX3_install 1 = .ok (.getfield 117, 3) := by decide +kernel
theorem dX3_install_4 : decode cX3_install 4 = .ok (.bipush 20, 2) := by decide +kernel
theorem dX3_install_6 : decode cX3_install 6 = .ok (.if_icmp .ne 41, 3) := by decide +kernel
theorem dX3_install_9 : decode cX3_install 9 = .ok (.iconst 1, 1) := by decide +kernel
theorem dX3_install_10 : decode cX3_install 10 = .ok (.istore_n 2, 1) := by decide +kernel
theorem dX3_install_11 : decode cX3_install 11 = .ok (.iload_n 2, 1) := by decide +kernel
theorem dX3_install_12 : decode cX3_install 12 = .ok (.bipush 20, 2) := by decide +kernel
theorem dX3_install_14 : decode cX3_install 14 = .ok (.if_icmp .ge 23, 3) := by decide +kernel
theorem dX3_install_17 : decode cX3_install 17 = .ok (.aload_n 0, 1) := by decide +kernel
theorem dX3_install_18 : decode cX3_install 18 = .ok (.getfield 30, 3) := by decide +kernel
theorem dX3_install_21 : decode cX3_install 21 = .ok (.iload_n 2, 1) := by decide +kernel
theorem dX3_install_22 : decode cX3_install 22 = .ok (.iconst 1, 1) := by decide +kernel
theorem dX3_install_23 : decode cX3_install 23 = .ok (.isub, 1) := by decide +kernel
theorem dX3_install_24 : decode cX3_install 24 = .ok (.aload_n 0, 1) := by decide +kernel
theorem dX3_install_25 : decode cX3_install 25 = .ok (.getfield 30, 3) := by decide +kernel
theorem dX3_install_28 : decode cX3_install 28 = .ok (.iload_n 2, 1) := by decide +kernel
theorem dX3_install_29 : decode cX3_install 29 = .ok (.aaload, 1) := by decide +kernel
theorem dX3_install_30 : decode cX3_install 30 = .ok (.aastore, 1) := by decide +kernel
theorem dX3_install_31 : decode cX3_install 31 = .ok (.iinc 2 1, 3) := by decide +kernel
theorem dX3_install_34 : decode cX3_install 34 = .ok (.goto (-23), 3) := by decide +kernel
theorem dX3_install_37 : decode cX3_install 37 = .ok (.aload_n 0, 1) := by decide +kernel
theorem dX3_install_38 : decode cX3_install 38 = .ok (.dup, 1) := by decide +kernel
theorem dX3_install_39 : decode cX3_install 39 = .ok (.getfield 117, 3) := by decide +kernel
theorem dX3_install_42 : decode cX3_install 42 = .ok (.iconst 1, 1) := by decide +kernel
theorem dX3_install_43 : decode cX3_install 43 = .ok (.isub, 1) := by decide +kernel
theorem dX3_install_44 : decode cX3_install 44 = .ok (.putfield 117, 3) := by decide +kernel
theorem dX3_install_47 : decode cX3_install 47 = .ok (.aload_n 0, 1) := by decide +kernel
theorem dX3_install_48 : decode cX3_install 48 = .ok (.getfield 30, 3) := by decide +kernel
theorem dX3_install_51 : decode cX3_install 51 = .ok (.aload_n 0, 1) := by decide +kernel
theorem dX3_install_52 : decode cX3_install 52 = .ok (.getfield 117, 3) := by decide +kernel
theorem dX3_install_55 : decode cX3_install 55 = .ok (.aload_n 0, 1) := by decide +kernel
theorem dX3_install_56 : decode cX3_install 56 = .ok (.getfield 27, 3) := by decide +kernel
theorem dX3_install_59 : decode cX3_install 59 = .ok (.aastore, 1) := by decide +kernel
theorem dX3_install_60 : decode cX3_install 60 = .ok (.aload_n 0, 1) := by decide +kernel
theorem dX3_install_61 : decode cX3_install 61 = .ok (.dup, 1) := by decide +kernel
theorem dX3_install_62 : decode cX3_install 62 = .ok (.getfield 117, 3) := by decide +kernel
theorem dX3_install_65 : decode cX3_install 65 = .ok (.iconst 1, 1) := by decide +kernel
theorem dX3_install_66 : decode cX3_install 66 = .ok (.iadd, 1) := by decide +kernel
theorem dX3_install_67 : decode cX3_install 67 = .ok (.putfield 117, 3) := by decide +kernel
theorem dX3_install_70 : decode cX3_install 70 = .ok (.aload_n 0, 1) := by decide +kernel
theorem dX3_install_71 : decode cX3_install 71 = .ok (.aload_n 1, 1) := by decide +kernel
theorem dX3_install_72 : decode cX3_install 72 = .ok (.putfield 27, 3) := by decide +kernel
theorem dX3_install_75 : decode cX3_install 75 = .ok (.aload_n 0, 1) := by decide +kernel
theorem dX3_install_76 : decode cX3_install 76 = .ok (.getfield 117, 3) := by decide +kernel
theorem dX3_install_79 : decode cX3_install 79 = .ok (.ireturn, 1) := by decide +kernel
set_option maxRecDepth 20000 in
theorem ggX3_installVersion_X3_isVersion : GoodIn wsX3_installVersion wsX3_isVersion := goodIn_r _ [7, 8, 9, 10, 6, 11, 23, 24, 25, 26, 27, 28, 29, 30, 31, 32, 33, 34] (by decide +kernel) (by decide +kernel)
set_option maxRecDepth 20000 in
theorem gX3_installVersion_X3_isVersion : GoodIn wsX3_installVersion (wsV RX3 66 RX3 yX3_isVersion wsX3_isVersion) := goodIn_app (goodIn_of _ (by decide +kernel)) ggX3_installVersion_X3_isVersion
set_option maxRecDepth 20000 in
theorem ggX3_installVersion_X3_install : GoodIn wsX3_installVersion wsX3_install := goodIn_r _ [15, 16, 17, 18, 23, 24, 25, 26, 27, 28, 29, 30, 31, 32, 33, 34] (by decide +kernel) (by decide +kernel)
set_option maxRecDepth 20000 in
theorem gX3_installVersion_X3_install : GoodIn wsX3_installVersion (wsV RX3 120 RX3 yX3_install wsX3_install) := goodIn_app (goodIn_of _ (by decide +kernel)) ggX3_installVersion_X3_install
set_option maxRecDepth 20000 in
theorem ggX3_installVersion_X3_fail : GoodIn wsX3_installVersion wsX3_fail := goodIn_r _ [22, 1, 23, 24, 25, 26, 27, 28, 29, 30, 31, 32, 33, 34] (by decide +kernel) (by decide +kernel)
set_option maxRecDepth 20000 in
theorem gX3_installVersion_X3_fail : GoodIn wsX3_installVersion (wsV RX3 47 RX3 yX3_fail wsX3_fail) := goodIn_app (goodIn_of _ (by decide +kernel)) ggX3_installVersion_X3_fail
theorem dX3_installVersion_0 : decode cX3_installVersion 0 = .ok (.aload_n 0, 1) := by decide +kernel
theorem dX3_installVersion_1 : decode cX3_installVersion 1 = .ok (.iconst 0, 1) := by decide +kernel
theorem dX3_installVersion_2 : decode cX3_installVersion 2 = .ok (.putfield 33, 3) := by decide +kernel
theorem dX3_installVersion_5 : decode cX3_installVersion 5 = .ok (.aload_n 0, 1) := by decide +kernel
theorem dX3_installVersion_6 : decode cX3_installVersion 6 = .ok (.iload_n 1, 1) := by decide +kernel
theorem dX3_installVersion_7 : decode cX3_installVersion 7 = .ok (.invokevirtual 66, 3) := by decide +kernel
theorem dX3_installVersion_10 : decode cX3_installVersion 10 = .ok (.ifCond .eq 16, 3) := by decide +kernel
theorem dX3_installVersion_13 : decode cX3_installVersion 13 = .ok (.aload_n 0, 1) := by decide +kernel
theorem dX3_installVersion_14 : decode cX3_installVersion 14 = .ok (.aload_n 0, 1) := by decide +kernel
theorem dX3_installVersion_15 : decode cX3_installVersion 15 = .ok (.getfield 14, 3) := by decide +kernel
theorem dX3_installVersion_18 : decode cX3_installVersion 18 = .ok (.iload_n 1, 1) := by decide +kernel
theorem dX3_installVersion_19 : decode cX3_installVersion 19 = .ok (.aaload, 1) := by decide +kernel
theorem dX3_installVersion_20 : decode cX3_installVersion 20 = .ok (.invokevirtual 120, 3) := by decide +kernel
theorem dX3_installVersion_23 : decode cX3_installVersion 23 = .ok (.goto 8, 3) := by decide +kernel
theorem dX3_installVersion_26 : decode cX3_installVersion 26 = .ok (.aload_n 0, 1) := by decide +kernel
theorem dX3_installVersion_27 : decode cX3_installVersion 27 = .ok (.iconst 1, 1) := by decide +kernel
theorem dX3_installVersion_28 : decode cX3_installVersion 28 = .ok (.invokevirtual 47, 3) := by decide +kernel
theorem dX3_installVersion_31 : decode cX3_installVersion 31 = .ok (.ireturn, 1) := by decide +kernel
set_option maxRecDepth 20000 in
theorem ggX3_installPatch_X3_isPatch : GoodIn wsX3_installPatch wsX3_isPatch := goodIn_r _ [9, 10, 11, 12, 8, 13, 27, 28, 29, 30, 31, 32, 33, 34, 35, 36, 37, 38] (by decide +kernel) (by decide +kernel)
set_option maxRecDepth 20000 in
theorem gX3_installPatch_X3_isPatch : GoodIn wsX3_installPatch (wsV RX3 93 RX3 yX3_isPatch wsX3_isPatch) := goodIn_app (goodIn_of _ (by decide +kernel)) ggX3_installPatch_X3_isPatch
set_option maxRecDepth 20000 in
theorem ggX3_installPatch_X3_fail : GoodIn wsX3_installPatch wsX3_fail := goodIn_r _ [17, 1, 27, 28, 29, 30, 31, 32, 33, 34, 35, 36, 37, 38] (by decide +kernel) (by decide +kernel)
set_option maxRecDepth 20000 in
theorem gX3_installPatch_X3_fail : GoodIn wsX3_installPatch (wsV RX3 47 RX3 yX3_fail wsX3_fail) := goodIn_app (goodIn_of _ (by decide +kernel)) ggX3_installPatch_X3_fail
set_option maxRecDepth 20000 in
theorem ggX3_installPatch_X3_are : GoodIn wsX3_installPatch wsX3_are := goodIn_r _ [20] (by decide +kernel) (by decide +kernel)
set_option maxRecDepth 20000 in
theorem gX3_installPatch_X3_are : GoodIn wsX3_installPatch (va_wsS RX3 70 yX3_are wsX3_are) := goodIn_app (goodIn_of _ (by decide +kernel)) ggX3_installPatch_X3_are
set_option maxRecDepth 20000 in
theorem ggX3_installPatch_X3_install : GoodIn wsX3_installPatch wsX3_install := goodIn_r _ [24, 25, 26, 2, 27, 28, 29, 30, 31, 32, 33, 34, 35, 36, 37, 38] (by decide +kernel) (by decide +kernel)
set_option maxRecDepth 20000 in
theorem gX3_installPatch_X3_install : GoodIn wsX3_installPatch (wsV RX3 120 RX3 yX3_install wsX3_install) := goodIn_app (goodIn_of _ (by decide +kernel)) ggX3_installPatch_X3_install
theorem dX3_installPatch_0 : decode cX3_installPatch 0 = .ok (.aload_n 0, 1) := by decide +kernel
theorem dX3_installPatch_1 : decode cX3_installPatch 1 = .ok (.iconst 0, 1) := by decide +kernel
theorem dX3_installPatch_2 : decode cX3_installPatch 2 = .ok (.putfield 33, 3) := by decide +kernel
theorem dX3_installPatch_5 : decode cX3_installPatch 5 = .ok (.aload_n 0, 1) := by decide +kernel
theorem dX3_installPatch_6 : decode cX3_installPatch 6 = .ok (.iload_n 1, 1) := by decide +kernel
theorem dX3_installPatch_7 : decode cX3_installPatch 7 = .ok (.invokevirtual 93, 3) := by decide +kernel
theorem dX3_installPatch_10 : decode cX3_installPatch 10 = .ok (.ifCond .ne 9, 3) := by decide +kernel
theorem dX3_installPatch_13 : decode cX3_installPatch 13 = .ok (.aload_n 0, 1) := by decide +kernel
theorem dX3_installPatch_14 : decode cX3_installPatch 14 = .ok (.iconst 1, 1) := by decide +kernel
theorem dX3_installPatch_15 : decode cX3_installPatch 15 = .ok (.invokevirtual 47, 3) := by decide +kernel
theorem dX3_installPatch_18 : decode cX3_installPatch 18 = .ok (.ireturn, 1) := by decide +kernel
theorem dX3_installPatch_19 : decode cX3_installPatch 19 = .ok (.aload_n 0, 1) := by decide +kernel
theorem dX3_installPatch_20 : decode cX3_installPatch 20 = .ok (.getfield 27, 3) := by decide +kernel
theorem dX3_installPatch_23 : decode cX3_installPatch 23 = .ok (.aload_n 0, 1) := by decide +kernel
theorem dX3_installPatch_24 : decode cX3_installPatch 24 = .ok (.getfield 18, 3) := by decide +kernel
theorem dX3_installPatch_27 : decode cX3_installPatch 27 = .ok (.iload_n 1, 1) := by decide +kernel
theorem dX3_installPatch_28 : decode cX3_installPatch 28 = .ok (.aaload, 1) := by decide +kernel
theorem dX3_installPatch_29 : decode cX3_installPatch 29 = .ok (.invokestatic 70, 3) := by decide +kernel
theorem dX3_installPatch_32 : decode cX3_installPatch 32 = .ok (.ifCond .eq 16, 3) := by decide +kernel
theorem dX3_installPatch_35 : decode cX3_installPatch 35 = .ok (.aload_n 0, 1) := by decide +kernel
theorem dX3_installPatch_36 : decode cX3_installPatch 36 = .ok (.aload_n 0, 1) := by decide +kernel
theorem dX3_installPatch_37 : decode cX3_installPatch 37 = .ok (.getfield 21, 3) := by decide +kernel
theorem dX3_installPatch_40 : decode cX3_installPatch 40 = .ok (.iload_n 1, 1) := by decide +kernel
theorem dX3_installPatch_41 : decode cX3_installPatch 41 = .ok (.aaload, 1) := by decide +kernel
theorem dX3_installPatch_42 : decode cX3_installPatch 42 = .ok (.invokevirtual 120, 3) := by decide +kernel
theorem dX3_installPatch_45 : decode cX3_installPatch 45 = .ok (.goto 8, 3) := by decide +kernel
theorem dX3_installPatch_48 : decode cX3_installPatch 48 = .ok (.aload_n 0, 1) := by decide +kernel
theorem dX3_installPatch_49 : decode cX3_installPatch 49 = .ok (.iconst 2, 1) := by decide +kernel
theorem dX3_installPatch_50 : decode cX3_installPatch 50 = .ok (.invokevirtual 47, 3) := by decide +kernel
theorem dX3_installPatch_53 : decode cX3_installPatch 53 = .ok (.ireturn, 1) := by decide +kernel
set_option maxRecDepth 20000 in
theorem ggX3_rollBack_X3_fail : GoodIn wsX3_rollBack wsX3_fail := goodIn_r _ [9, 1, 10, 11, 12, 13, 14, 15, 16, 17, 18, 19, 20, 21] (by decide +kernel) (by decide +kernel)
set_option maxRecDepth 20000 in
theorem gX3_rollBack_X3_fail : GoodIn wsX3_rollBack (wsV RX3 47 RX3 yX3_fail wsX3_fail) := goodIn_app (goodIn_of _ (by decide +kernel)) ggX3_rollBack_X3_fail
theorem dX3_rollBack_0 : decode cX3_rollBack 0 = .ok (.aload_n 0, 1) := by decide +kernel
theorem dX3_rollBack_1 : decode cX3_rollBack 1 = .ok (.iconst 0, 1) := by decide +kernel
theorem dX3_rollBack_2 : decode cX3_rollBack 2 = .ok (.putfield 33, 3) := by decide +kernel
theorem dX3_rollBack_5 : decode cX3_rollBack 5 = .ok (.aload_n 0, 1) := by decide +kernel
theorem dX3_rollBack_6 : decode cX3_rollBack 6 = .ok (.getfield 117, 3) := by decide +kernel
theorem dX3_rollBack_9 : decode cX3_rollBack 9 = .ok (.ifCond .ne 9, 3) := by decide +kernel
theorem dX3_rollBack_12 : decode cX3_rollBack 12 = .ok (.aload_n 0, 1) := by decide +kernel
theorem dX3_rollBack_13 : decode cX3_rollBack 13 = .ok (.iconst 1, 1) := by decide +kernel
theorem dX3_rollBack_14 : decode cX3_rollBack 14 = .ok (.invokevirtual 47, 3) := by decide +kernel
theorem dX3_rollBack_17 : decode cX3_rollBack 17 = .ok (.ireturn, 1) := by decide +kernel
theorem dX3_rollBack_18 : decode cX3_rollBack 18 = .ok (.aload_n 0, 1) := by decide +kernel
theorem dX3_rollBack_19 : decode cX3_rollBack 19 = .ok (.dup, 1) := by decide +kernel
theorem dX3_rollBack_20 : decode cX3_rollBack 20 = .ok (.getfield 117, 3) := by decide +kernel
theorem dX3_rollBack_23 : decode cX3_rollBack 23 = .ok (.iconst 1, 1) := by decide +kernel
theorem dX3_rollBack_24 : decode cX3_rollBack 24 = .ok (.isub, 1) := by decide +kernel
theorem dX3_rollBack_25 : decode cX3_rollBack 25 = .ok (.putfield 117, 3) := by decide +kernel
theorem dX3_rollBack_28 : decode cX3_rollBack 28 = .ok (.aload_n 0, 1) := by decide +kernel
theorem dX3_rollBack_29 : decode cX3_rollBack 29 = .ok (.aload_n 0, 1) := by decide +kernel
theorem dX3_rollBack_30 : decode cX3_rollBack 30 = .ok (.getfield 30, 3) := by decide +kernel
theorem dX3_rollBack_33 : decode cX3_rollBack 33 = .ok (.aload_n 0, 1) := by decide +kernel
theorem dX3_rollBack_34 : decode cX3_rollBack 34 = .ok (.getfield 117, 3) := by decide +kernel
theorem dX3_rollBack_37 : decode cX3_rollBack 37 = .ok (.aaload, 1) := by decide +kernel
theorem dX3_rollBack_38 : decode cX3_rollBack 38 = .ok (.putfield 27, 3) := by decide +kernel
theorem dX3_rollBack_41 : decode cX3_rollBack 41 = .ok (.aload_n 0, 1) := by decide +kernel
theorem dX3_rollBack_42 : decode cX3_rollBack 42 = .ok (.getfield 117, 3) := by decide +kernel
theorem dX3_rollBack_45 : decode cX3_rollBack 45 = .ok (.ireturn, 1) := by decide +kernel
set_option maxRecDepth 20000 in
theorem ggX3_isInstalled_X3_isVersion : GoodIn wsX3_isInstalled wsX3_isVersion := goodIn_r _ [8, 9, 10, 11, 7, 12, 16, 17, 18, 19, 20, 21, 22, 23, 24, 25, 26, 27] (by decide +kernel) (by decide +kernel)
set_option maxRecDepth 20000 in
theorem gX3_isInstalled_X3_isVersion : GoodIn wsX3_isInstalled (wsV RX3 66 RX3 yX3_isVersion wsX3_isVersion) := goodIn_app (goodIn_of _ (by decide +kernel)) ggX3_isInstalled_X3_isVersion
set_option maxRecDepth 20000 in
theorem ggX3_isInstalled_X3_are : GoodIn wsX3_isInstalled wsX3_are := goodIn_r _ [15] (by decide +kernel) (by decide +kernel)
set_option maxRecDepth 20000 in
theorem gX3_isInstalled_X3_are : GoodIn wsX3_isInstalled (va_wsS RX3 70 yX3_are wsX3_are) := goodIn_app (goodIn_of _ (by decide +kernel)) ggX3_isInstalled_X3_are
theorem dX3_isInstalled_0 : decode cX3_isInstalled 0 = .ok (.aload_n 0, 1) := by decide +kernel
theorem dX3_isInstalled_1 : decode cX3_isInstalled 1 = .ok (.aload_n 0, 1) := by decide +kernel
theorem dX3_isInstalled_2 : decode cX3_isInstalled 2 = .ok (.iload_n 1, 1) := by decide +kernel
theorem dX3_isInstalled_3 : decode cX3_isInstalled 3 = .ok (.invokevirtual 66, 3) := by decide +kernel
theorem dX3_isInstalled_6 : decode cX3_isInstalled 6 = .ok (.ifCond .eq 7, 3) := by decide +kernel
theorem dX3_isInstalled_9 : decode cX3_isInstalled 9 = .ok (.iconst 0, 1) := by decide +kernel
theorem dX3_isInstalled_10 : decode cX3_isInstalled 10 = .ok (.goto 4, 3) := by decide +kernel
theorem dX3_isInstalled_13 : decode cX3_isInstalled 13 = .ok (.iconst 1, 1) := by decide +kernel
theorem dX3_isInstalled_14 : decode cX3_isInstalled 14 = .ok (.putfield 33, 3) := by decide +kernel
theorem dX3_isInstalled_17 : decode cX3_isInstalled 17 = .ok (.aload_n 0, 1) := by decide +kernel
theorem dX3_isInstalled_18 : decode cX3_isInstalled 18 = .ok (.getfield 33, 3) := by decide +kernel
theorem dX3_isInstalled_21 : decode cX3_isInstalled 21 = .ok (.ifCond .ne 23, 3) := by decide +kernel
theorem dX3_isInstalled_24 : decode cX3_isInstalled 24 = .ok (.aload_n 0, 1) := by decide +kernel
theorem dX3_isInstalled_25 : decode cX3_isInstalled 25 = .ok (.getfield 27, 3) := by decide +kernel
theorem dX3_isInstalled_28 : decode cX3_isInstalled 28 = .ok (.aload_n 0, 1) := by decide +kernel
theorem dX3_isInstalled_29 : decode cX3_isInstalled 29 = .ok (.getfield 14, 3) := by decide +kernel
theorem dX3_isInstalled_32 : decode cX3_isInstalled 32 = .ok (.iload_n 1, 1) := by decide +kernel
theorem dX3_isInstalled_33 : decode cX3_isInstalled 33 = .ok (.aaload, 1) := by decide +kernel
theorem dX3_isInstalled_34 : decode cX3_isInstalled 34 = .ok (.invokestatic 70, 3) := by decide +kernel
theorem dX3_isInstalled_37 : decode cX3_isInstalled 37 = .ok (.ifCond .eq 7, 3) := by decide +kernel
theorem dX3_isInstalled_40 : decode cX3_isInstalled 40 = .ok (.iconst 1, 1) := by decide +kernel
theorem dX3_isInstalled_41 : decode cX3_isInstalled 41 = .ok (.goto 4, 3) := by decide +kernel
theorem dX3_isInstalled_44 : decode cX3_isInstalled 44 = .ok (.iconst 0, 1) := by decide +kernel
theorem dX3_isInstalled_45 : decode cX3_isInstalled 45 = .ok (.ireturn, 1) := by decide +kernel
theorem dX3_installedLength_0 : decode cX3_installedLength 0 = .ok (.aload_n 0, 1) := by decide +kernel
theorem dX3_installedLength_1 : decode cX3_installedLength 1 = .ok (.iconst 0, 1) := by decide +kernel
theorem dX3_installedLength_2 : decode cX3_installedLength 2 = .ok (.putfield 33, 3) := by decide +kernel
theorem dX3_installedLength_5 : decode cX3_installedLength 5 = .ok (.aload_n 0, 1) := by decide +kernel
theorem dX3_installedLength_6 : decode cX3_installedLength 6 = .ok (.getfield 27, 3) := by decide +kernel
theorem dX3_installedLength_9 : decode cX3_installedLength 9 = .ok (.arraylength, 1) := by decide +kernel
theorem dX3_installedLength_10 : decode cX3_installedLength 10 = .ok (.ireturn, 1) := by decide +kernel
theorem dX3_with_0 : decode cX3_with 0 = .ok (.lload_n 0, 1) := by decide +kernel
theorem dX3_with_1 : decode cX3_with 1 = .ok (.ldc2_w 123, 3) := by decide +kernel
theorem dX3_with_4 : decode cX3_with 4 = .ok (.lmul, 1) := by decide +kernel
theorem dX3_with_5 : decode cX3_with 5 = .ok (.iload_n 3, 1) := by decide +kernel
theorem dX3_with_6 : decode cX3_with 6 = .ok (.i2l, 1) := by decide +kernel
theorem dX3_with_7 : decode cX3_with 7 = .ok (.ladd, 1) := by decide +kernel
theorem dX3_with_8 : decode cX3_with 8 = .ok (.lstore 4, 2) := by decide +kernel
theorem dX3_with_10 : decode cX3_with 10 = .ok (.iconst 0, 1) := by decide +kernel
theorem dX3_with_11 : decode cX3_with 11 = .ok (.istore 6, 2) := by decide +kernel
theorem dX3_with_13 : decode cX3_with 13 = .ok (.iload 6, 2) := by decide +kernel
theorem dX3_with_15 : decode cX3_with 15 = .ok (.iload_n 3, 1) := by decide +kernel
theorem dX3_with_16 : decode cX3_with 16 = .ok (.if_icmp .ge 23, 3) := by decide +kernel
theorem dX3_with_19 : decode cX3_with 19 = .ok (.lload 4, 2) := by decide +kernel
theorem dX3_with_21 : decode cX3_with 21 = .ok (.ldc2_w 123, 3) := by decide +kernel
theorem dX3_with_24 : decode cX3_with 24 = .ok (.lmul, 1) := by decide +kernel
theorem dX3_with_25 : decode cX3_with 25 = .ok (.aload_n 2, 1) := by decide +kernel
theorem dX3_with_26 : decode cX3_with 26 = .ok (.iload 6, 2) := by decide +kernel
theorem dX3_with_28 : decode cX3_with 28 = .ok (.iaload, 1) := by decide +kernel
theorem dX3_with_29 : decode cX3_with 29 = .ok (.i2l, 1) := by decide +kernel
theorem dX3_with_30 : decode cX3_with 30 = .ok (.ladd, 1) := by decide +kernel
theorem dX3_with_31 : decode cX3_with 31 = .ok (.lstore 4, 2) := by decide +kernel
theorem dX3_with_33 : decode cX3_with 33 = .ok (.iinc 6 1, 3) := by decide +kernel
theorem dX3_with_36 : decode cX3_with 36 = .ok (.goto (-23), 3) := by decide +kernel
theorem dX3_with_39 : decode cX3_with 39 = .ok (.lload 4, 2) := by decide +kernel
theorem dX3_with_41 : decode cX3_with 41 = .ok (.lreturn, 1) := by decide +kernel
set_option maxRecDepth 20000 in
theorem ggX3_digest_X3_with : GoodIn wsX3_digest wsX3_with := goodIn_r _ [14, 5] (by decide +kernel) (by decide +kernel)
set_option maxRecDepth 20000 in
theorem gX3_digest_X3_with : GoodIn wsX3_digest (va_wsS RX3 127 yX3_with wsX3_with) := goodIn_app (goodIn_of _ (by decide +kernel)) ggX3_digest_X3_with
set_option maxRecDepth 20000 in
theorem ggX3_digest_X3_many : GoodIn wsX3_digest wsX3_many := goodIn_r _ [18, 19, 20, 21, 22, 13, 23, 32, 33, 34, 35, 36, 37, 38, 39, 40, 41, 42, 43] (by decide +kernel) (by decide +kernel)
set_option maxRecDepth 20000 in
theorem gX3_digest_X3_many : GoodIn wsX3_digest (wsV RX3 100 RX3 yX3_many wsX3_many) := goodIn_app (goodIn_of _ (by decide +kernel)) ggX3_digest_X3_many
set_option maxRecDepth 20000 in
theorem ggX3_digest_X3_told : GoodIn wsX3_digest wsX3_told := goodIn_r _ [27, 19, 28, 20, 21, 22, 13, 23, 29, 30, 31, 32, 33, 34, 35, 36, 37, 38, 39, 40, 41, 42, 43] (by decide +kernel) (by decide +kernel)
set_option maxRecDepth 20000 in
theorem gX3_digest_X3_told : GoodIn wsX3_digest (wsV RX3 103 RX3 yX3_told wsX3_told) := goodIn_app (goodIn_of _ (by decide +kernel)) ggX3_digest_X3_told
theorem dX3_digest_0 : decode cX3_digest 0 = .ok (.aload_n 0, 1) := by decide +kernel
theorem dX3_digest_1 : decode cX3_digest 1 = .ok (.iconst 0, 1) := by decide +kernel
theorem dX3_digest_2 : decode cX3_digest 2 = .ok (.putfield 33, 3) := by decide +kernel
theorem dX3_digest_5 : decode cX3_digest 5 = .ok (.ldc2_w 125, 3) := by decide +kernel
theorem dX3_digest_8 : decode cX3_digest 8 = .ok (.aload_n 0, 1) := by decide +kernel
theorem dX3_digest_9 : decode cX3_digest 9 = .ok (.getfield 9, 3) := by decide +kernel
theorem dX3_digest_12 : decode cX3_digest 12 = .ok (.aload_n 0, 1) := by decide +kernel
theorem dX3_digest_13 : decode cX3_digest 13 = .ok (.getfield 51, 3) := by decide +kernel
theorem dX3_digest_16 : decode cX3_digest 16 = .ok (.invokestatic 127, 3) := by decide +kernel
theorem dX3_digest_19 : decode cX3_digest 19 = .ok (.lstore_n 1, 1) := by decide +kernel
theorem dX3_digest_20 : decode cX3_digest 20 = .ok (.lload_n 1, 1) := by decide +kernel
theorem dX3_digest_21 : decode cX3_digest 21 = .ok (.ldc2_w 123, 3) := by decide +kernel
theorem dX3_digest_24 : decode cX3_digest 24 = .ok (.lmul, 1) := by decide +kernel
theorem dX3_digest_25 : decode cX3_digest 25 = .ok (.aload_n 0, 1) := by decide +kernel
theorem dX3_digest_26 : decode cX3_digest 26 = .ok (.getfield 37, 3) := by decide +kernel
theorem dX3_digest_29 : decode cX3_digest 29 = .ok (.i2l, 1) := by decide +kernel
theorem dX3_digest_30 : decode cX3_digest 30 = .ok (.ladd, 1) := by decide +kernel
theorem dX3_digest_31 : decode cX3_digest 31 = .ok (.lstore_n 1, 1) := by decide +kernel
theorem dX3_digest_32 : decode cX3_digest 32 = .ok (.iconst 0, 1) := by decide +kernel
theorem dX3_digest_33 : decode cX3_digest 33 = .ok (.istore_n 3, 1) := by decide +kernel
theorem dX3_digest_34 : decode cX3_digest 34 = .ok (.iload_n 3, 1) := by decide +kernel
theorem dX3_digest_35 : decode cX3_digest 35 = .ok (.aload_n 0, 1) := by decide +kernel
theorem dX3_digest_36 : decode cX3_digest 36 = .ok (.getfield 37, 3) := by decide +kernel
theorem dX3_digest_39 : decode cX3_digest 39 = .ok (.if_icmp .ge 27, 3) := by decide +kernel
theorem dX3_digest_42 : decode cX3_digest 42 = .ok (.lload_n 1, 1) := by decide +kernel
theorem dX3_digest_43 : decode cX3_digest 43 = .ok (.aload_n 0, 1) := by decide +kernel
theorem dX3_digest_44 : decode cX3_digest 44 = .ok (.getfield 14, 3) := by decide +kernel
theorem dX3_digest_47 : decode cX3_digest 47 = .ok (.iload_n 3, 1) := by decide +kernel
theorem dX3_digest_48 : decode cX3_digest 48 = .ok (.aaload, 1) := by decide +kernel
theorem dX3_digest_49 : decode cX3_digest 49 = .ok (.aload_n 0, 1) := by decide +kernel
theorem dX3_digest_50 : decode cX3_digest 50 = .ok (.getfield 14, 3) := by decide +kernel
theorem dX3_digest_53 : decode cX3_digest 53 = .ok (.iload_n 3, 1) := by decide +kernel
theorem dX3_digest_54 : decode cX3_digest 54 = .ok (.aaload, 1) := by decide +kernel
theorem dX3_digest_55 : decode cX3_digest 55 = .ok (.arraylength, 1) := by decide +kernel
theorem dX3_digest_56 : decode cX3_digest 56 = .ok (.invokestatic 127, 3) := by decide +kernel
theorem dX3_digest_59 : decode cX3_digest 59 = .ok (.lstore_n 1, 1) := by decide +kernel
theorem dX3_digest_60 : decode cX3_digest 60 = .ok (.iinc 3 1, 3) := by decide +kernel
theorem dX3_digest_63 : decode cX3_digest 63 = .ok (.goto (-29), 3) := by decide +kernel
theorem dX3_digest_66 : decode cX3_digest 66 = .ok (.lload_n 1, 1) := by decide +kernel
theorem dX3_digest_67 : decode cX3_digest 67 = .ok (.ldc2_w 123, 3) := by decide +kernel
theorem dX3_digest_70 : decode cX3_digest 70 = .ok (.lmul, 1) := by decide +kernel
theorem dX3_digest_71 : decode cX3_digest 71 = .ok (.aload_n 0, 1) := by decide +kernel
theorem dX3_digest_72 : decode cX3_digest 72 = .ok (.getfield 44, 3) := by decide +kernel
theorem dX3_digest_75 : decode cX3_digest 75 = .ok (.i2l, 1) := by decide +kernel
theorem dX3_digest_76 : decode cX3_digest 76 = .ok (.ladd, 1) := by decide +kernel
theorem dX3_digest_77 : decode cX3_digest 77 = .ok (.lstore_n 1, 1) := by decide +kernel
theorem dX3_digest_78 : decode cX3_digest 78 = .ok (.iconst 0, 1) := by decide +kernel
theorem dX3_digest_79 : decode cX3_digest 79 = .ok (.istore_n 3, 1) := by decide +kernel
theorem dX3_digest_80 : decode cX3_digest 80 = .ok (.iload_n 3, 1) := by decide +kernel
theorem dX3_digest_81 : decode cX3_digest 81 = .ok (.aload_n 0, 1) := by decide +kernel
theorem dX3_digest_82 : decode cX3_digest 82 = .ok (.getfield 44, 3) := by decide +kernel
theorem dX3_digest_85 : decode cX3_digest 85 = .ok (.if_icmp .ge 74, 3) := by decide +kernel
theorem dX3_digest_88 : decode cX3_digest 88 = .ok (.aload_n 0, 1) := by decide +kernel
theorem dX3_digest_89 : decode cX3_digest 89 = .ok (.iload_n 3, 1) := by decide +kernel
theorem dX3_digest_90 : decode cX3_digest 90 = .ok (.invokevirtual 100, 3) := by decide +kernel
theorem dX3_digest_93 : decode cX3_digest 93 = .ok (.istore 4, 2) := by decide +kernel
theorem dX3_digest_95 : decode cX3_digest 95 = .ok (.lload_n 1, 1) := by decide +kernel
theorem dX3_digest_96 : decode cX3_digest 96 = .ok (.ldc2_w 123, 3) := by decide +kernel
theorem dX3_digest_99 : decode cX3_digest 99 = .ok (.lmul, 1) := by decide +kernel
theorem dX3_digest_100 : decode cX3_digest 100 = .ok (.iload 4, 2) := by decide +kernel
theorem dX3_digest_102 : decode cX3_digest 102 = .ok (.i2l, 1) := by decide +kernel
theorem dX3_digest_103 : decode cX3_digest 103 = .ok (.ladd, 1) := by decide +kernel
theorem dX3_digest_104 : decode cX3_digest 104 = .ok (.lstore_n 1, 1) := by decide +kernel
theorem dX3_digest_105 : decode cX3_digest 105 = .ok (.iconst 0, 1) := by decide +kernel
theorem dX3_digest_106 : decode cX3_digest 106 = .ok (.istore 5, 2) := by decide +kernel
theorem dX3_digest_108 : decode cX3_digest 108 = .ok (.iload 5, 2) := by decide +kernel
theorem dX3_digest_110 : decode cX3_digest 110 = .ok (.iload 4, 2) := by decide +kernel
theorem dX3_digest_112 : decode cX3_digest 112 = .ok (.if_icmp .ge 41, 3) := by decide +kernel
theorem dX3_digest_115 : decode cX3_digest 115 = .ok (.iconst 0, 1) := by decide +kernel
theorem dX3_digest_116 : decode cX3_digest 116 = .ok (.istore 6, 2) := by decide +kernel
theorem dX3_digest_118 : decode cX3_digest 118 = .ok (.iload 6, 2) := by decide +kernel
theorem dX3_digest_120 : decode cX3_digest 120 = .ok (.iconst 4, 1) := by decide +kernel
theorem dX3_digest_121 : decode cX3_digest 121 = .ok (.if_icmp .ge 26, 3) := by decide +kernel
theorem dX3_digest_124 : decode cX3_digest 124 = .ok (.lload_n 1, 1) := by decide +kernel
theorem dX3_digest_125 : decode cX3_digest 125 = .ok (.ldc2_w 123, 3) := by decide +kernel
theorem dX3_digest_128 : decode cX3_digest 128 = .ok (.lmul, 1) := by decide +kernel
theorem dX3_digest_129 : decode cX3_digest 129 = .ok (.aload_n 0, 1) := by decide +kernel
theorem dX3_digest_130 : decode cX3_digest 130 = .ok (.iload_n 3, 1) := by decide +kernel
theorem dX3_digest_131 : decode cX3_digest 131 = .ok (.iload 5, 2) := by decide +kernel
theorem dX3_digest_133 : decode cX3_digest 133 = .ok (.iload 6, 2) := by decide +kernel
theorem dX3_digest_135 : decode cX3_digest 135 = .ok (.invokevirtual 103, 3) := by decide +kernel
theorem dX3_digest_138 : decode cX3_digest 138 = .ok (.i2l, 1) := by decide +kernel
theorem dX3_digest_139 : decode cX3_digest 139 = .ok (.ladd, 1) := by decide +kernel
theorem dX3_digest_140 : decode cX3_digest 140 = .ok (.lstore_n 1, 1) := by decide +kernel
theorem dX3_digest_141 : decode cX3_digest 141 = .ok (.iinc 6 1, 3) := by decide +kernel
theorem dX3_digest_144 : decode cX3_digest 144 = .ok (.goto (-26), 3) := by decide +kernel
theorem dX3_digest_147 : decode cX3_digest 147 = .ok (.iinc 5 1, 3) := by decide +kernel
theorem dX3_digest_150 : decode cX3_digest 150 = .ok (.goto (-42), 3) := by decide +kernel
theorem dX3_digest_153 : decode cX3_digest 153 = .ok (.iinc 3 1, 3) := by decide +kernel
theorem dX3_digest_156 : decode cX3_digest 156 = .ok (.goto (-76), 3) := by decide +kernel
theorem dX3_digest_159 : decode cX3_digest 159 = .ok (.lload_n 1, 1) := by decide +kernel
theorem dX3_digest_160 : decode cX3_digest 160 = .ok (.aload_n 0, 1) := by decide +kernel
theorem dX3_digest_161 : decode cX3_digest 161 = .ok (.getfield 27, 3) := by decide +kernel
theorem dX3_digest_164 : decode cX3_digest 164 = .ok (.aload_n 0, 1) := by decide +kernel
theorem dX3_digest_165 : decode cX3_digest 165 = .ok (.getfield 27, 3) := by decide +kernel
theorem dX3_digest_168 : decode cX3_digest 168 = .ok (.arraylength, 1) := by decide +kernel
theorem dX3_digest_169 : decode cX3_digest 169 = .ok (.invokestatic 127, 3) := by decide +kernel
theorem dX3_digest_172 : decode cX3_digest 172 = .ok (.ldc2_w 123, 3) := by decide +kernel
theorem dX3_digest_175 : decode cX3_digest 175 = .ok (.lmul, 1) := by decide +kernel
theorem dX3_digest_176 : decode cX3_digest 176 = .ok (.aload_n 0, 1) := by decide +kernel
theorem dX3_digest_177 : decode cX3_digest 177 = .ok (.getfield 117, 3) := by decide +kernel
theorem dX3_digest_180 : decode cX3_digest 180 = .ok (.i2l, 1) := by decide +kernel
theorem dX3_digest_181 : decode cX3_digest 181 = .ok (.ladd, 1) := by decide +kernel
theorem dX3_digest_182 : decode cX3_digest 182 = .ok (.lreturn, 1) := by decide +kernel
theorem dJ9_max_7cf53_0 : decode cJ9_max_7cf53 0 = .ok (.iload_n 0, 1) := by decide +kernel
theorem dJ9_max_7cf53_1 : decode cJ9_max_7cf53 1 = .ok (.iload_n 1, 1) := by decide +kernel
theorem dJ9_max_7cf53_2 : decode cJ9_max_7cf53 2 = .ok (.if_icmp .lt 7, 3) := by decide +kernel
theorem dJ9_max_7cf53_5 : decode cJ9_max_7cf53 5 = .ok (.iload_n 0, 1) := by decide +kernel
theorem dJ9_max_7cf53_6 : decode cJ9_max_7cf53 6 = .ok (.goto 4, 3) := by decide +kernel
theorem dJ9_max_7cf53_9 : decode cJ9_max_7cf53 9 = .ok (.iload_n 1, 1) := by decide +kernel
theorem dJ9_max_7cf53_10 : decode cJ9_max_7cf53 10 = .ok (.ireturn, 1) := by decide +kernel
theorem dJ9_min_7cf53_0 : decode cJ9_min_7cf53 0 = .ok (.iload_n 0, 1) := by decide +kernel
theorem dJ9_min_7cf53_1 : decode cJ9_min_7cf53 1 = .ok (.iload_n 1, 1) := by decide +kernel
theorem dJ9_min_7cf53_2 : decode cJ9_min_7cf53 2 = .ok (.if_icmp .gt 7, 3) := by decide +kernel
theorem dJ9_min_7cf53_5 : decode cJ9_min_7cf53 5 = .ok (.iload_n 0, 1) := by decide +kernel
theorem dJ9_min_7cf53_6 : decode cJ9_min_7cf53 6 = .ok (.goto 4, 3) := by decide +kernel
theorem dJ9_min_7cf53_9 : decode cJ9_min_7cf53 9 = .ok (.iload_n 1, 1) := by decide +kernel
theorem dJ9_min_7cf53_10 : decode cJ9_min_7cf53 10 = .ok (.ireturn, 1) := by decide +kernel
theorem dJxa1e45_init_da8c8_0 : decode cJxa1e45_init_da8c8 0 = .ok (.aload_n 0, 1) := by decide +kernel
theorem dJxa1e45_init_da8c8_1 : decode cJxa1e45_init_da8c8 1 = .ok (.invokespecial 1, 3) := by decide +kernel
theorem dJxa1e45_init_da8c8_4 : decode cJxa1e45_init_da8c8 4 = .ok (.return_, 1) := by decide +kernel
set_option maxRecDepth 20000 in
theorem ggJxc12de_init_da8c8_Jxa1e45_init_da8c8 : GoodIn wsJxc12de_init_da8c8 wsJxa1e45_init_da8c8 := goodIn_r _ [5, 6, 7, 8] (by decide +kernel) (by decide +kernel)
set_option maxRecDepth 20000 in
theorem gJxc12de_init_da8c8_Jxa1e45_init_da8c8 : GoodIn wsJxc12de_init_da8c8 (wsJxa1e45_init_da8c8) := ggJxc12de_init_da8c8_Jxa1e45_init_da8c8
theorem dJxc12de_init_da8c8_0 : decode cJxc12de_init_da8c8 0 = .ok (.aload_n 0, 1) := by decide +kernel
theorem dJxc12de_init_da8c8_1 : decode cJxc12de_init_da8c8 1 = .ok (.invokespecial 1, 3) := by decide +kernel
theorem dJxc12de_init_da8c8_4 : decode cJxc12de_init_da8c8 4 = .ok (.aload_n 0, 1) := by decide +kernel
theorem dJxc12de_init_da8c8_5 : decode cJxc12de_init_da8c8 5 = .ok (.iconst 0, 1) := by decide +kernel
theorem dJxc12de_init_da8c8_6 : decode cJxc12de_init_da8c8 6 = .ok (.putfield 7, 3) := by decide +kernel
theorem dJxc12de_init_da8c8_9 : decode cJxc12de_init_da8c8 9 = .ok (.return_, 1) := by decide +kernel
set_option maxRecDepth 20000 in
theorem ggJx4a65c_init_da8c8_Jxc12de_init_da8c8 : GoodIn wsJx4a65c_init_da8c8 wsJxc12de_init_da8c8 := goodIn_r _ [6, 7, 8, 9, 10, 11, 12, 13, 14, 15, 16, 17] (by decide +kernel) (by decide +kernel)
set_option maxRecDepth 20000 in
theorem gJx4a65c_init_da8c8_Jxc12de_init_da8c8 : GoodIn wsJx4a65c_init_da8c8 (wsJxc12de_init_da8c8) := ggJx4a65c_init_da8c8_Jxc12de_init_da8c8
theorem dJx4a65c_init_da8c8_0 : decode cJx4a65c_init_da8c8 0 = .ok (.aload_n 0, 1) := by decide +kernel
theorem dJx4a65c_init_da8c8_1 : decode cJx4a65c_init_da8c8 1 = .ok (.invokespecial 1, 3) := by decide +kernel
theorem dJx4a65c_init_da8c8_4 : decode cJx4a65c_init_da8c8 4 = .ok (.aload_n 0, 1) := by decide +kernel
theorem dJx4a65c_init_da8c8_5 : decode cJx4a65c_init_da8c8 5 = .ok (.getstatic 39, 3) := by decide +kernel
theorem dJx4a65c_init_da8c8_8 : decode cJx4a65c_init_da8c8 8 = .ok (.putfield 9, 3) := by decide +kernel
theorem dJx4a65c_init_da8c8_11 : decode cJx4a65c_init_da8c8 11 = .ok (.return_, 1) := by decide +kernel
set_option maxRecDepth 20000 in
theorem ggJx4a65c_grow_92f84_J8_newLength_cabcc : GoodIn wsJx4a65c_grow_92f84 wsJ8_newLength_cabcc := goodIn_r _ [11, 12, 4, 5, 6, 13, 14, 15, 10, 16] (by decide +kernel) (by decide +kernel)
set_option maxRecDepth 20000 in
theorem gJx4a65c_grow_92f84_J8_newLength_cabcc : GoodIn wsJx4a65c_grow_92f84 (va_wsS RJx4a65c 73 yJ8_newLength_cabcc wsJ8_newLength_cabcc) := goodIn_app (goodIn_of _ (by decide +kernel)) ggJx4a65c_grow_92f84_J8_newLength_cabcc
set_option maxRecDepth 20000 in
theorem ggJx4a65c_grow_92f84_J7_copyOf_1904c : GoodIn wsJx4a65c_grow_92f84 wsJ7_copyOf_1904c := goodIn_r _ [20, 21, 22, 23, 24, 25, 26, 19, 27, 28, 29, 30, 31, 5, 32, 33, 34, 35, 36] (by decide +kernel) (by decide +kernel)
set_option maxRecDepth 20000 in
theorem gJx4a65c_grow_92f84_J7_copyOf_1904c : GoodIn wsJx4a65c_grow_92f84 (va_wsS RJx4a65c 66 yJ7_copyOf_1904c wsJ7_copyOf_1904c) := goodIn_app (goodIn_of _ (by decide +kernel)) ggJx4a65c_grow_92f84_J7_copyOf_1904c
theorem dJx4a65c_grow_92f84_0 : decode cJx4a65c_grow_92f84 0 = .ok (.aload_n 0, 1) := by decide +kernel
theorem dJx4a65c_grow_92f84_1 : decode cJx4a65c_grow_92f84 1 = .ok (.getfield 9, 3) := by decide +kernel
theorem dJx4a65c_grow_92f84_4 : decode cJx4a65c_grow_92f84 4 = .ok (.arraylength, 1) := by decide +kernel
theorem dJx4a65c_grow_92f84_5 : decode cJx4a65c_grow_92f84 5 = .ok (.istore_n 2, 1) := by decide +kernel
theorem dJx4a65c_grow_92f84_6 : decode cJx4a65c_grow_92f84 6 = .ok (.iload_n 2, 1) := by decide +kernel
theorem dJx4a65c_grow_92f84_7 : decode cJx4a65c_grow_92f84 7 = .ok (.ifCond .gt 13, 3) := by decide +kernel
theorem dJx4a65c_grow_92f84_10 : decode cJx4a65c_grow_92f84 10 = .ok (.aload_n 0, 1) := by decide +kernel
theorem dJx4a65c_grow_92f84_11 : decode cJx4a65c_grow_92f84 11 = .ok (.getfield 9, 3) := by decide +kernel
theorem dJx4a65c_grow_92f84_14 : decode cJx4a65c_grow_92f84 14 = .ok (.getstatic 39, 3) := by decide +kernel
theorem dJx4a65c_grow_92f84_17 : decode cJx4a65c_grow_92f84 17 = .ok (.if_acmp .eq 28, 3) := by decide +kernel
theorem dJx4a65c_grow_92f84_20 : decode cJx4a65c_grow_92f84 20 = .ok (.iload_n 2, 1) := by decide +kernel
theorem dJx4a65c_grow_92f84_21 : decode cJx4a65c_grow_92f84 21 = .ok (.iload_n 1, 1) := by decide +kernel
theorem dJx4a65c_grow_92f84_22 : decode cJx4a65c_grow_92f84 22 = .ok (.iload_n 2, 1) := by decide +kernel
theorem dJx4a65c_grow_92f84_23 : decode cJx4a65c_grow_92f84 23 = .ok (.isub, 1) := by decide +kernel
theorem dJx4a65c_grow_92f84_24 : decode cJx4a65c_grow_92f84 24 = .ok (.iload_n 2, 1) := by decide +kernel
theorem dJx4a65c_grow_92f84_25 : decode cJx4a65c_grow_92f84 25 = .ok (.iconst 1, 1) := by decide +kernel
theorem dJx4a65c_grow_92f84_26 : decode cJx4a65c_grow_92f84 26 = .ok (.ishr, 1) := by decide +kernel
theorem dJx4a65c_grow_92f84_27 : decode cJx4a65c_grow_92f84 27 = .ok (.invokestatic 73, 3) := by decide +kernel
theorem dJx4a65c_grow_92f84_30 : decode cJx4a65c_grow_92f84 30 = .ok (.istore_n 3, 1) := by decide +kernel
theorem dJx4a65c_grow_92f84_31 : decode cJx4a65c_grow_92f84 31 = .ok (.aload_n 0, 1) := by decide +kernel
theorem dJx4a65c_grow_92f84_32 : decode cJx4a65c_grow_92f84 32 = .ok (.aload_n 0, 1) := by decide +kernel
theorem dJx4a65c_grow_92f84_33 : decode cJx4a65c_grow_92f84 33 = .ok (.getfield 9, 3) := by decide +kernel
theorem dJx4a65c_grow_92f84_36 : decode cJx4a65c_grow_92f84 36 = .ok (.iload_n 3, 1) := by decide +kernel
theorem dJx4a65c_grow_92f84_37 : decode cJx4a65c_grow_92f84 37 = .ok (.invokestatic 66, 3) := by decide +kernel
theorem dJx4a65c_grow_92f84_40 : decode cJx4a65c_grow_92f84 40 = .ok (.dup_x1, 1) := by decide +kernel
theorem dJx4a65c_grow_92f84_41 : decode cJx4a65c_grow_92f84 41 = .ok (.putfield 9, 3) := by decide +kernel
theorem dJx4a65c_grow_92f84_44 : decode cJx4a65c_grow_92f84 44 = .ok (.areturn, 1) := by decide +kernel
theorem dJx4a65c_grow_92f84_45 : decode cJx4a65c_grow_92f84 45 = .ok (.aload_n 0, 1) := by decide +kernel
theorem dJx4a65c_grow_92f84_46 : decode cJx4a65c_grow_92f84 46 = .ok (.bipush 10, 2) := by decide +kernel
theorem dJx4a65c_grow_92f84_48 : decode cJx4a65c_grow_92f84 48 = .ok (.iload_n 1, 1) := by decide +kernel
theorem dJx4a65c_grow_92f84_49 : decode cJx4a65c_grow_92f84 49 = .ok (.invokestatic 79, 3) := by decide +kernel
theorem dJx4a65c_grow_92f84_52 : decode cJx4a65c_grow_92f84 52 = .ok (.anewarray 7, 3) := by decide +kernel
theorem dJx4a65c_grow_92f84_55 : decode cJx4a65c_grow_92f84 55 = .ok (.dup_x1, 1) := by decide +kernel
theorem dJx4a65c_grow_92f84_56 : decode cJx4a65c_grow_92f84 56 = .ok (.putfield 9, 3) := by decide +kernel
theorem dJx4a65c_grow_92f84_59 : decode cJx4a65c_grow_92f84 59 = .ok (.areturn, 1) := by decide +kernel
set_option maxRecDepth 20000 in
theorem ggJx4a65c_grow_d5877_Jx4a65c_grow_92f84 : GoodIn wsJx4a65c_grow_d5877 wsJx4a65c_grow_92f84 := goodIn_r _ [6, 7, 8, 9, 10, 11, 12, 13, 14, 15, 16, 17, 18, 19, 20, 21, 22, 23, 24, 25, 26, 27, 28, 29, 30, 31, 32, 33, 34, 35, 36, 37, 38, 39, 40, 41, 42, 43, 44, 45] (by decide +kernel) (by decide +kernel)
set_option maxRecDepth 20000 in
theorem gJx4a65c_grow_d5877_Jx4a65c_grow_92f84 : GoodIn wsJx4a65c_grow_d5877 (wsV RJx4a65c 69 RJx4a65c yJx4a65c_grow_92f84 wsJx4a65c_grow_92f84) := goodIn_app (goodIn_of _ (by decide +kernel)) ggJx4a65c_grow_d5877_Jx4a65c_grow_92f84
theorem dJx4a65c_grow_d5877_0 : decode cJx4a65c_grow_d5877 0 = .ok (.aload_n 0, 1) := by decide +kernel
theorem dJx4a65c_grow_d5877_1 : decode cJx4a65c_grow_d5877 1 = .ok (.aload_n 0, 1) := by decide +kernel
theorem dJx4a65c_grow_d5877_2 : decode cJx4a65c_grow_d5877 2 = .ok (.getfield 48, 3) := by decide +kernel
theorem dJx4a65c_grow_d5877_5 : decode cJx4a65c_grow_d5877 5 = .ok (.iconst 1, 1) := by decide +kernel
theorem dJx4a65c_grow_d5877_6 : decode cJx4a65c_grow_d5877 6 = .ok (.iadd, 1) := by decide +kernel
theorem dJx4a65c_grow_d5877_7 : decode cJx4a65c_grow_d5877 7 = .ok (.invokevirtual 69, 3) := by decide +kernel
theorem dJx4a65c_grow_d5877_10 : decode cJx4a65c_grow_d5877 10 = .ok (.areturn, 1) := by decide +kernel
theorem dJx4a65c_size_8abf5_0 : decode cJx4a65c_size_8abf5 0 = .ok (.aload_n 0, 1) := by decide +kernel
theorem dJx4a65c_size_8abf5_1 : decode cJx4a65c_size_8abf5 1 = .ok (.getfield 48, 3) := by decide +kernel
theorem dJx4a65c_size_8abf5_4 : decode cJx4a65c_size_8abf5 4 = .ok (.ireturn, 1) := by decide +kernel
theorem dJx4a65c_elementData_915e3_0 : decode cJx4a65c_elementData_915e3 0 = .ok (.aload_n 0, 1) := by decide +kernel
theorem dJx4a65c_elementData_915e3_1 : decode cJx4a65c_elementData_915e3 1 = .ok (.getfield 9, 3) := by decide +kernel
theorem dJx4a65c_elementData_915e3_4 : decode cJx4a65c_elementData_915e3 4 = .ok (.iload_n 1, 1) := by decide +kernel
theorem dJx4a65c_elementData_915e3_5 : decode cJx4a65c_elementData_915e3 5 = .ok (.aaload, 1) := by decide +kernel
theorem dJx4a65c_elementData_915e3_6 : decode cJx4a65c_elementData_915e3 6 = .ok (.areturn, 1) := by decide +kernel
set_option maxRecDepth 20000 in
theorem ggJx4a65c_get_915e3_J15_checkIndex_7cf53 : GoodIn wsJx4a65c_get_915e3 wsJ15_checkIndex_7cf53 := goodIn_r _ [5, 6, 7, 8, 9] (by decide +kernel) (by decide +kernel)
set_option maxRecDepth 20000 in
theorem gJx4a65c_get_915e3_J15_checkIndex_7cf53 : GoodIn wsJx4a65c_get_915e3 (va_wsS RJx4a65c 118 yJ15_checkIndex_7cf53 wsJ15_checkIndex_7cf53) := goodIn_app (goodIn_of _ (by decide +kernel)) ggJx4a65c_get_915e3_J15_checkIndex_7cf53
set_option maxRecDepth 20000 in
theorem ggJx4a65c_get_915e3_Jx4a65c_elementData_915e3 : GoodIn wsJx4a65c_get_915e3 wsJx4a65c_elementData_915e3 := goodIn_r _ [14, 15, 16, 17, 18] (by decide +kernel) (by decide +kernel)
set_option maxRecDepth 20000 in
theorem gJx4a65c_get_915e3_Jx4a65c_elementData_915e3 : GoodIn wsJx4a65c_get_915e3 (wsV RJx4a65c 123 RJx4a65c yJx4a65c_elementData_915e3 wsJx4a65c_elementData_915e3) := goodIn_app (goodIn_of _ (by decide +kernel)) ggJx4a65c_get_915e3_Jx4a65c_elementData_915e3
theorem dJx4a65c_get_915e3_0 : decode cJx4a65c_get_915e3 0 = .ok (.iload_n 1, 1) := by decide +kernel
theorem dJx4a65c_get_915e3_1 : decode cJx4a65c_get_915e3 1 = .ok (.aload_n 0, 1) := by decide +kernel
theorem dJx4a65c_get_915e3_2 : decode cJx4a65c_get_915e3 2 = .ok (.getfield 48, 3) := by decide +kernel
theorem dJx4a65c_get_915e3_5 : decode cJx4a65c_get_915e3 5 = .ok (.invokestatic 118, 3) := by decide +kernel
theorem dJx4a65c_get_915e3_8 : decode cJx4a65c_get_915e3 8 = .ok (.pop, 1) := by decide +kernel
theorem dJx4a65c_get_915e3_9 : decode cJx4a65c_get_915e3 9 = .ok (.aload_n 0, 1) := by decide +kernel
theorem dJx4a65c_get_915e3_10 : decode cJx4a65c_get_915e3 10 = .ok (.iload_n 1, 1) := by decide +kernel
theorem dJx4a65c_get_915e3_11 : decode cJx4a65c_get_915e3 11 = .ok (.invokevirtual 123, 3) := by decide +kernel
theorem dJx4a65c_get_915e3_14 : decode cJx4a65c_get_915e3 14 = .ok (.areturn, 1) := by decide +kernel
set_option maxRecDepth 20000 in
theorem ggJx4a65c_add_72be8_Jx4a65c_grow_d5877 : GoodIn wsJx4a65c_add_72be8 wsJx4a65c_grow_d5877 := goodIn_r _ [6, 1, 7, 8, 9, 5, 10, 11, 12, 13, 14, 15, 16, 17, 18, 19, 20, 21, 22, 23, 24, 25, 26, 27, 28, 29, 30, 31, 32, 33, 34, 35, 36, 37, 38, 39, 40, 41, 42, 43, 44, 45, 46, 47, 48, 49] (by decide +kernel) (by decide +kernel)
set_option maxRecDepth 20000 in
theorem gJx4a65c_add_72be8_Jx4a65c_grow_d5877 : GoodIn wsJx4a65c_add_72be8 (wsV RJx4a65c 129 RJx4a65c yJx4a65c_grow_d5877 wsJx4a65c_grow_d5877) := goodIn_app (goodIn_of _ (by decide +kernel)) ggJx4a65c_add_72be8_Jx4a65c_grow_d5877
theorem dJx4a65c_add_72be8_0 : decode cJx4a65c_add_72be8 0 = .ok (.iload_n 3, 1) := by decide +kernel
theorem dJx4a65c_add_72be8_1 : decode cJx4a65c_add_72be8 1 = .ok (.aload_n 2, 1) := by decide +kernel
theorem dJx4a65c_add_72be8_2 : decode cJx4a65c_add_72be8 2 = .ok (.arraylength, 1) := by decide +kernel
theorem dJx4a65c_add_72be8_3 : decode cJx4a65c_add_72be8 3 = .ok (.if_icmp .ne 8, 3) := by decide +kernel
theorem dJx4a65c_add_72be8_6 : decode cJx4a65c_add_72be8 6 = .ok (.aload_n 0, 1) := by decide +kernel
theorem dJx4a65c_add_72be8_7 : decode cJx4a65c_add_72be8 7 = .ok (.invokevirtual 129, 3) := by decide +kernel
theorem dJx4a65c_add_72be8_10 : decode cJx4a65c_add_72be8 10 = .ok (.astore_n 2, 1) := by decide +kernel
theorem dJx4a65c_add_72be8_11 : decode cJx4a65c_add_72be8 11 = .ok (.aload_n 2, 1) := by decide +kernel
theorem dJx4a65c_add_72be8_12 : decode cJx4a65c_add_72be8 12 = .ok (.iload_n 3, 1) := by decide +kernel
theorem dJx4a65c_add_72be8_13 : decode cJx4a65c_add_72be8 13 = .ok (.aload_n 1, 1) := by decide +kernel
theorem dJx4a65c_add_72be8_14 : decode cJx4a65c_add_72be8 14 = .ok (.aastore, 1) := by decide +kernel
theorem dJx4a65c_add_72be8_15 : decode cJx4a65c_add_72be8 15 = .ok (.aload_n 0, 1) := by decide +kernel
theorem dJx4a65c_add_72be8_16 : decode cJx4a65c_add_72be8 16 = .ok (.iload_n 3, 1) := by decide +kernel
theorem dJx4a65c_add_72be8_17 : decode cJx4a65c_add_72be8 17 = .ok (.iconst 1, 1) := by decide +kernel
theorem dJx4a65c_add_72be8_18 : decode cJx4a65c_add_72be8 18 = .ok (.iadd, 1) := by decide +kernel
theorem dJx4a65c_add_72be8_19 : decode cJx4a65c_add_72be8 19 = .ok (.putfield 48, 3) := by decide +kernel
theorem dJx4a65c_add_72be8_22 : decode cJx4a65c_add_72be8 22 = .ok (.return_, 1) := by decide +kernel
set_option maxRecDepth 20000 in
theorem ggJx4a65c_add_9ea2d_Jx4a65c_add_72be8 : GoodIn wsJx4a65c_add_9ea2d wsJx4a65c_add_72be8 := goodIn_r _ [9, 4, 10, 11, 12, 8, 13, 14, 15, 16, 17, 3, 18, 19, 20, 21, 22, 23, 24, 25, 26, 27, 28, 29, 30, 31, 32, 33, 34, 35, 36, 37, 38, 39, 40, 41, 42, 43, 44, 45, 46, 47, 48, 49, 50, 51, 52, 53, 54, 55] (by decide +kernel) (by decide +kernel)
set_option maxRecDepth 20000 in
theorem gJx4a65c_add_9ea2d_Jx4a65c_add_72be8 : GoodIn wsJx4a65c_add_9ea2d (wsV RJx4a65c 131 RJx4a65c yJx4a65c_add_72be8 wsJx4a65c_add_72be8) := goodIn_app (goodIn_of _ (by decide +kernel)) ggJx4a65c_add_9ea2d_Jx4a65c_add_72be8
theorem dJx4a65c_add_9ea2d_0 : decode cJx4a65c_add_9ea2d 0 = .ok (.aload_n 0, 1) := by decide +kernel
theorem dJx4a65c_add_9ea2d_1 : decode cJx4a65c_add_9ea2d 1 = .ok (.dup, 1) := by decide +kernel
theorem dJx4a65c_add_9ea2d_2 : decode cJx4a65c_add_9ea2d 2 = .ok (.getfield 63, 3) := by decide +kernel
theorem dJx4a65c_add_9ea2d_5 : decode cJx4a65c_add_9ea2d 5 = .ok (.iconst 1, 1) := by decide +kernel
theorem dJx4a65c_add_9ea2d_6 : decode cJx4a65c_add_9ea2d 6 = .ok (.iadd, 1) := by decide +kernel
theorem dJx4a65c_add_9ea2d_7 : decode cJx4a65c_add_9ea2d 7 = .ok (.putfield 63, 3) := by decide +kernel
theorem dJx4a65c_add_9ea2d_10 : decode cJx4a65c_add_9ea2d 10 = .ok (.aload_n 0, 1) := by decide +kernel
theorem dJx4a65c_add_9ea2d_11 : decode cJx4a65c_add_9ea2d 11 = .ok (.aload_n 1, 1) := by decide +kernel
theorem dJx4a65c_add_9ea2d_12 : decode cJx4a65c_add_9ea2d 12 = .ok (.aload_n 0, 1) := by decide +kernel
theorem dJx4a65c_add_9ea2d_13 : decode cJx4a65c_add_9ea2d 13 = .ok (.getfield 9, 3) := by decide +kernel
theorem dJx4a65c_add_9ea2d_16 : decode cJx4a65c_add_9ea2d 16 = .ok (.aload_n 0, 1) := by decide +kernel
theorem dJx4a65c_add_9ea2d_17 : decode cJx4a65c_add_9ea2d 17 = .ok (.getfield 48, 3) := by decide +kernel
theorem dJx4a65c_add_9ea2d_20 : decode cJx4a65c_add_9ea2d 20 = .ok (.invokevirtual 131, 3) := by decide +kernel
theorem dJx4a65c_add_9ea2d_23 : decode cJx4a65c_add_9ea2d 23 = .ok (.iconst 1, 1) := by decide +kernel
theorem dJx4a65c_add_9ea2d_24 : decode cJx4a65c_add_9ea2d 24 = .ok (.ireturn, 1) := by decide +kernel
set_option maxRecDepth 20000 in
theorem ggJx4a65c_remove_915e3_J15_checkIndex_7cf53 : GoodIn wsJx4a65c_remove_915e3 wsJ15_checkIndex_7cf53 := goodIn_r _ [6, 7, 8, 9, 10] (by decide +kernel) (by decide +kernel)
set_option maxRecDepth 20000 in
theorem gJx4a65c_remove_915e3_J15_checkIndex_7cf53 : GoodIn wsJx4a65c_remove_915e3 (va_wsS RJx4a65c 118 yJ15_checkIndex_7cf53 wsJ15_checkIndex_7cf53) := goodIn_app (goodIn_of _ (by decide +kernel)) ggJx4a65c_remove_915e3_J15_checkIndex_7cf53
set_option maxRecDepth 20000 in
theorem ggJx4a65c_remove_915e3_Jx4a65c_fastRemove_b59b0 : GoodIn wsJx4a65c_remove_915e3 wsJx4a65c_fastRemove_b59b0 := goodIn_r _ [15, 16, 17, 1, 18, 19, 20, 21, 22, 23, 24] (by decide +kernel) (by decide +kernel)
set_option maxRecDepth 20000 in
theorem gJx4a65c_remove_915e3_Jx4a65c_fastRemove_b59b0 : GoodIn wsJx4a65c_remove_915e3 (wsV RJx4a65c 144 RJx4a65c yJx4a65c_fastRemove_b59b0 wsJx4a65c_fastRemove_b59b0) := goodIn_app (goodIn_of _ (by decide +kernel)) ggJx4a65c_remove_915e3_Jx4a65c_fastRemove_b59b0
theorem dJx4a65c_remove_915e3_0 : decode cJx4a65c_remove_915e3 0 = .ok (.iload_n 1, 1) := by decide +kernel
theorem dJx4a65c_remove_915e3_1 : decode cJx4a65c_remove_915e3 1 = .ok (.aload_n 0, 1) := by decide +kernel
theorem dJx4a65c_remove_915e3_2 : decode cJx4a65c_remove_915e3 2 = .ok (.getfield 48, 3) := by decide +kernel
theorem dJx4a65c_remove_915e3_5 : decode cJx4a65c_remove_915e3 5 = .ok (.invokestatic 118, 3) := by decide +kernel
theorem dJx4a65c_remove_915e3_8 : decode cJx4a65c_remove_915e3 8 = .ok (.pop, 1) := by decide +kernel
theorem dJx4a65c_remove_915e3_9 : decode cJx4a65c_remove_915e3 9 = .ok (.aload_n 0, 1) := by decide +kernel
theorem dJx4a65c_remove_915e3_10 : decode cJx4a65c_remove_915e3 10 = .ok (.getfield 9, 3) := by decide +kernel
theorem dJx4a65c_remove_915e3_13 : decode cJx4a65c_remove_915e3 13 = .ok (.astore_n 2, 1) := by decide +kernel
theorem dJx4a65c_remove_915e3_14 : decode cJx4a65c_remove_915e3 14 = .ok (.aload_n 2, 1) := by decide +kernel
theorem dJx4a65c_remove_915e3_15 : decode cJx4a65c_remove_915e3 15 = .ok (.iload_n 1, 1) := by decide +kernel
theorem dJx4a65c_remove_915e3_16 : decode cJx4a65c_remove_915e3 16 = .ok (.aaload, 1) := by decide +kernel
theorem dJx4a65c_remove_915e3_17 : decode cJx4a65c_remove_915e3 17 = .ok (.astore_n 3, 1) := by decide +kernel
theorem dJx4a65c_remove_915e3_18 : decode cJx4a65c_remove_915e3 18 = .ok (.aload_n 0, 1) := by decide +kernel
theorem dJx4a65c_remove_915e3_19 : decode cJx4a65c_remove_915e3 19 = .ok (.aload_n 2, 1) := by decide +kernel
theorem dJx4a65c_remove_915e3_20 : decode cJx4a65c_remove_915e3 20 = .ok (.iload_n 1, 1) := by decide +kernel
theorem dJx4a65c_remove_915e3_21 : decode cJx4a65c_remove_915e3 21 = .ok (.invokevirtual 144, 3) := by decide +kernel
theorem dJx4a65c_remove_915e3_24 : decode cJx4a65c_remove_915e3 24 = .ok (.aload_n 3, 1) := by decide +kernel
theorem dJx4a65c_remove_915e3_25 : decode cJx4a65c_remove_915e3 25 = .ok (.areturn, 1) := by decide +kernel
theorem dJx4a65c_fastRemove_b59b0_0 : decode cJx4a65c_fastRemove_b59b0 0 = .ok (.aload_n 0, 1) := by decide +kernel
theorem dJx4a65c_fastRemove_b59b0_1 : decode cJx4a65c_fastRemove_b59b0 1 = .ok (.dup, 1) := by decide +kernel
theorem dJx4a65c_fastRemove_b59b0_2 : decode cJx4a65c_fastRemove_b59b0 2 = .ok (.getfield 63, 3) := by decide +kernel
theorem dJx4a65c_fastRemove_b59b0_5 : decode cJx4a65c_fastRemove_b59b0 5 = .ok (.iconst 1, 1) := by decide +kernel
theorem dJx4a65c_fastRemove_b59b0_6 : decode cJx4a65c_fastRemove_b59b0 6 = .ok (.iadd, 1) := by decide +kernel
theorem dJx4a65c_fastRemove_b59b0_7 : decode cJx4a65c_fastRemove_b59b0 7 = .ok (.putfield 63, 3) := by decide +kernel
theorem dJx4a65c_fastRemove_b59b0_10 : decode cJx4a65c_fastRemove_b59b0 10 = .ok (.aload_n 0, 1) := by decide +kernel
theorem dJx4a65c_fastRemove_b59b0_11 : decode cJx4a65c_fastRemove_b59b0 11 = .ok (.getfield 48, 3) := by decide +kernel
theorem dJx4a65c_fastRemove_b59b0_14 : decode cJx4a65c_fastRemove_b59b0 14 = .ok (.iconst 1, 1) := by decide +kernel
theorem dJx4a65c_fastRemove_b59b0_15 : decode cJx4a65c_fastRemove_b59b0 15 = .ok (.isub, 1) := by decide +kernel
theorem dJx4a65c_fastRemove_b59b0_16 : decode cJx4a65c_fastRemove_b59b0 16 = .ok (.dup, 1) := by decide +kernel
theorem dJx4a65c_fastRemove_b59b0_17 : decode cJx4a65c_fastRemove_b59b0 17 = .ok (.istore_n 3, 1) := by decide +kernel
theorem dJx4a65c_fastRemove_b59b0_18 : decode cJx4a65c_fastRemove_b59b0 18 = .ok (.iload_n 2, 1) := by decide +kernel
theorem dJx4a65c_fastRemove_b59b0_19 : decode cJx4a65c_fastRemove_b59b0 19 = .ok (.if_icmp .le 15, 3) := by decide +kernel
theorem dJx4a65c_fastRemove_b59b0_22 : decode cJx4a65c_fastRemove_b59b0 22 = .ok (.aload_n 1, 1) := by decide +kernel
theorem dJx4a65c_fastRemove_b59b0_23 : decode cJx4a65c_fastRemove_b59b0 23 = .ok (.iload_n 2, 1) := by decide +kernel
theorem dJx4a65c_fastRemove_b59b0_24 : decode cJx4a65c_fastRemove_b59b0 24 = .ok (.iconst 1, 1) := by decide +kernel
theorem dJx4a65c_fastRemove_b59b0_25 : decode cJx4a65c_fastRemove_b59b0 25 = .ok (.iadd, 1) := by decide +kernel
theorem dJx4a65c_fastRemove_b59b0_26 : decode cJx4a65c_fastRemove_b59b0 26 = .ok (.aload_n 1, 1) := by decide +kernel
theorem dJx4a65c_fastRemove_b59b0_27 : decode cJx4a65c_fastRemove_b59b0 27 = .ok (.iload_n 2, 1) := by decide +kernel
theorem dJx4a65c_fastRemove_b59b0_28 : decode cJx4a65c_fastRemove_b59b0 28 = .ok (.iload_n 3, 1) := by decide +kernel
theorem dJx4a65c_fastRemove_b59b0_29 : decode cJx4a65c_fastRemove_b59b0 29 = .ok (.iload_n 2, 1) := by decide +kernel
theorem dJx4a65c_fastRemove_b59b0_30 : decode cJx4a65c_fastRemove_b59b0 30 = .ok (.isub, 1) := by decide +kernel
theorem dJx4a65c_fastRemove_b59b0_31 : decode cJx4a65c_fastRemove_b59b0 31 = .ok (.invokestatic 112, 3) := by decide +kernel
theorem dJx4a65c_fastRemove_b59b0_34 : decode cJx4a65c_fastRemove_b59b0 34 = .ok (.aload_n 1, 1) := by decide +kernel
theorem dJx4a65c_fastRemove_b59b0_35 : decode cJx4a65c_fastRemove_b59b0 35 = .ok (.aload_n 0, 1) := by decide +kernel
theorem dJx4a65c_fastRemove_b59b0_36 : decode cJx4a65c_fastRemove_b59b0 36 = .ok (.iload_n 3, 1) := by decide +kernel
theorem dJx4a65c_fastRemove_b59b0_37 : decode cJx4a65c_fastRemove_b59b0 37 = .ok (.dup_x1, 1) := by decide +kernel
theorem dJx4a65c_fastRemove_b59b0_38 : decode cJx4a65c_fastRemove_b59b0 38 = .ok (.putfield 48, 3) := by decide +kernel
theorem dJx4a65c_fastRemove_b59b0_41 : decode cJx4a65c_fastRemove_b59b0 41 = .ok (.aconst_null, 1) := by decide +kernel
theorem dJx4a65c_fastRemove_b59b0_42 : decode cJx4a65c_fastRemove_b59b0 42 = .ok (.aastore, 1) := by decide +kernel
theorem dJx4a65c_fastRemove_b59b0_43 : decode cJx4a65c_fastRemove_b59b0 43 = .ok (.return_, 1) := by decide +kernel
theorem dJ7_fill_53178_0 : decode cJ7_fill_53178 0 = .ok (.iconst 0, 1) := by decide +kernel
theorem dJ7_fill_53178_1 : decode cJ7_fill_53178 1 = .ok (.istore_n 2, 1) := by decide +kernel
theorem dJ7_fill_53178_2 : decode cJ7_fill_53178 2 = .ok (.aload_n 0, 1) := by decide +kernel
theorem dJ7_fill_53178_3 : decode cJ7_fill_53178 3 = .ok (.arraylength, 1) := by decide +kernel
theorem dJ7_fill_53178_4 : decode cJ7_fill_53178 4 = .ok (.istore_n 3, 1) := by decide +kernel
theorem dJ7_fill_53178_5 : decode cJ7_fill_53178 5 = .ok (.iload_n 2, 1) := by decide +kernel
theorem dJ7_fill_53178_6 : decode cJ7_fill_53178 6 = .ok (.iload_n 3, 1) := by decide +kernel
theorem dJ7_fill_53178_7 : decode cJ7_fill_53178 7 = .ok (.if_icmp .ge 13, 3) := by decide +kernel
theorem dJ7_fill_53178_10 : decode cJ7_fill_53178 10 = .ok (.aload_n 0, 1) := by decide +kernel
theorem dJ7_fill_53178_11 : decode cJ7_fill_53178 11 = .ok (.iload_n 2, 1) := by decide +kernel
theorem dJ7_fill_53178_12 : decode cJ7_fill_53178 12 = .ok (.iload_n 1, 1) := by decide +kernel
theorem dJ7_fill_53178_13 : decode cJ7_fill_53178 13 = .ok (.iastore, 1) := by decide +kernel
theorem dJ7_fill_53178_14 : decode cJ7_fill_53178 14 = .ok (.iinc 2 1, 3) := by decide +kernel
theorem dJ7_fill_53178_17 : decode cJ7_fill_53178 17 = .ok (.goto (-12), 3) := by decide +kernel
theorem dJ7_fill_53178_20 : decode cJ7_fill_53178 20 = .ok (.return_, 1) := by decide +kernel
set_option maxRecDepth 20000 in
theorem ggJ7_copyOf_1904c_J7_copyOf_6403c : GoodIn wsJ7_copyOf_1904c wsJ7_copyOf_6403c := goodIn_r _ [8, 9, 10, 11, 12, 13, 14, 15, 16, 17, 18] (by decide +kernel) (by decide +kernel)
set_option maxRecDepth 20000 in
theorem gJ7_copyOf_1904c_J7_copyOf_6403c : GoodIn wsJ7_copyOf_1904c (va_wsS RJ7 300 yJ7_copyOf_6403c wsJ7_copyOf_6403c) := goodIn_app (goodIn_of _ (by decide +kernel)) ggJ7_copyOf_1904c_J7_copyOf_6403c
theorem dJ7_copyOf_1904c_0 : decode cJ7_copyOf_1904c 0 = .ok (.aload_n 0, 1) := by decide +kernel
theorem dJ7_copyOf_1904c_1 : decode cJ7_copyOf_1904c 1 = .ok (.iload_n 1, 1) := by decide +kernel
theorem dJ7_copyOf_1904c_2 : decode cJ7_copyOf_1904c 2 = .ok (.aload_n 0, 1) := by decide +kernel
theorem dJ7_copyOf_1904c_3 : decode cJ7_copyOf_1904c 3 = .ok (.invokevirtual 86, 3) := by decide +kernel
theorem dJ7_copyOf_1904c_6 : decode cJ7_copyOf_1904c 6 = .ok (.invokestatic 300, 3) := by decide +kernel
theorem dJ7_copyOf_1904c_9 : decode cJ7_copyOf_1904c 9 = .ok (.areturn, 1) := by decide +kernel
theorem dJ7_copyOf_6403c_0 : decode cJ7_copyOf_6403c 0 = .ok (.aload_n 2, 1) := by decide +kernel
theorem dJ7_copyOf_6403c_1 : decode cJ7_copyOf_6403c 1 = .ok (.ldc 110, 2) := by decide +kernel
theorem dJ7_copyOf_6403c_3 : decode cJ7_copyOf_6403c 3 = .ok (.if_acmp .ne 10, 3) := by decide +kernel
theorem dJ7_copyOf_6403c_6 : decode cJ7_copyOf_6403c 6 = .ok (.iload_n 1, 1) := by decide +kernel
theorem dJ7_copyOf_6403c_7 : decode cJ7_copyOf_6403c 7 = .ok (.anewarray 2, 3) := by decide +kernel
theorem dJ7_copyOf_6403c_10 : decode cJ7_copyOf_6403c 10 = .ok (.goto 14, 3) := by decide +kernel
theorem dJ7_copyOf_6403c_13 : decode cJ7_copyOf_6403c 13 = .ok (.aload_n 2, 1) := by decide +kernel
theorem dJ7_copyOf_6403c_14 : decode cJ7_copyOf_6403c 14 = .ok (.invokevirtual 90, 3) := by decide +kernel
theorem dJ7_copyOf_6403c_17 : decode cJ7_copyOf_6403c 17 = .ok (.iload_n 1, 1) := by decide +kernel
theorem dJ7_copyOf_6403c_18 : decode cJ7_copyOf_6403c 18 = .ok (.invokestatic 95, 3) := by decide +kernel
theorem dJ7_copyOf_6403c_21 : decode cJ7_copyOf_6403c 21 = .ok (.checkcast 110, 3) := by decide +kernel
theorem dJ7_copyOf_6403c_24 : decode cJ7_copyOf_6403c 24 = .ok (.astore_n 3, 1) := by decide +kernel
theorem dJ7_copyOf_6403c_25 : decode cJ7_copyOf_6403c 25 = .ok (.aload_n 0, 1) := by decide +kernel
theorem dJ7_copyOf_6403c_26 : decode cJ7_copyOf_6403c 26 = .ok (.iconst 0, 1) := by decide +kernel
theorem dJ7_copyOf_6403c_27 : decode cJ7_copyOf_6403c 27 = .ok (.aload_n 3, 1) := by decide +kernel
theorem dJ7_copyOf_6403c_28 : decode cJ7_copyOf_6403c 28 = .ok (.iconst 0, 1) := by decide +kernel
theorem dJ7_copyOf_6403c_29 : decode cJ7_copyOf_6403c 29 = .ok (.aload_n 0, 1) := by decide +kernel
theorem dJ7_copyOf_6403c_30 : decode cJ7_copyOf_6403c 30 = .ok (.arraylength, 1) := by decide +kernel
theorem dJ7_copyOf_6403c_31 : decode cJ7_copyOf_6403c 31 = .ok (.iload_n 1, 1) := by decide +kernel
theorem dJ7_copyOf_6403c_32 : decode cJ7_copyOf_6403c 32 = .ok (.invokestatic 304, 3) := by decide +kernel
theorem dJ7_copyOf_6403c_35 : decode cJ7_copyOf_6403c 35 = .ok (.invokestatic 150, 3) := by decide +kernel
theorem dJ7_copyOf_6403c_38 : decode cJ7_copyOf_6403c 38 = .ok (.aload_n 3, 1) := by decide +kernel
theorem dJ7_copyOf_6403c_39 : decode cJ7_copyOf_6403c 39 = .ok (.areturn, 1) := by decide +kernel
theorem dJ7_copyOf_59c91_0 : decode cJ7_copyOf_59c91 0 = .ok (.iload_n 1, 1) := by decide +kernel
theorem dJ7_copyOf_59c91_1 : decode cJ7_copyOf_59c91 1 = .ok (.aload_n 0, 1) := by decide +kernel
theorem dJ7_copyOf_59c91_2 : decode cJ7_copyOf_59c91 2 = .ok (.arraylength, 1) := by decide +kernel
theorem dJ7_copyOf_59c91_3 : decode cJ7_copyOf_59c91 3 = .ok (.if_icmp .ne 11, 3) := by decide +kernel
theorem dJ7_copyOf_59c91_6 : decode cJ7_copyOf_59c91 6 = .ok (.aload_n 0, 1) := by decide +kernel
theorem dJ7_copyOf_59c91_7 : decode cJ7_copyOf_59c91 7 = .ok (.invokevirtual 316, 3) := by decide +kernel
theorem dJ7_copyOf_59c91_10 : decode cJ7_copyOf_59c91 10 = .ok (.checkcast 317, 3) := by decide +kernel
theorem dJ7_copyOf_59c91_13 : decode cJ7_copyOf_59c91 13 = .ok (.areturn, 1) := by decide +kernel
theorem dJ7_copyOf_59c91_14 : decode cJ7_copyOf_59c91 14 = .ok (.iload_n 1, 1) := by decide +kernel
theorem dJ7_copyOf_59c91_15 : decode cJ7_copyOf_59c91 15 = .ok (.newarray .int, 2) := by decide +kernel
theorem dJ7_copyOf_59c91_17 : decode cJ7_copyOf_59c91 17 = .ok (.astore_n 2, 1) := by decide +kernel
theorem dJ7_copyOf_59c91_18 : decode cJ7_copyOf_59c91 18 = .ok (.aload_n 0, 1) := by decide +kernel
theorem dJ7_copyOf_59c91_19 : decode cJ7_copyOf_59c91 19 = .ok (.iconst 0, 1) := by decide +kernel
theorem dJ7_copyOf_59c91_20 : decode cJ7_copyOf_59c91 20 = .ok (.aload_n 2, 1) := by decide +kernel
theorem dJ7_copyOf_59c91_21 : decode cJ7_copyOf_59c91 21 = .ok (.iconst 0, 1) := by decide +kernel
theorem dJ7_copyOf_59c91_22 : decode cJ7_copyOf_59c91 22 = .ok (.aload_n 0, 1) := by decide +kernel
theorem dJ7_copyOf_59c91_23 : decode cJ7_copyOf_59c91 23 = .ok (.arraylength, 1) := by decide +kernel
theorem dJ7_copyOf_59c91_24 : decode cJ7_copyOf_59c91 24 = .ok (.iload_n 1, 1) := by decide +kernel
theorem dJ7_copyOf_59c91_25 : decode cJ7_copyOf_59c91 25 = .ok (.invokestatic 304, 3) := by decide +kernel
theorem dJ7_copyOf_59c91_28 : decode cJ7_copyOf_59c91 28 = .ok (.invokestatic 150, 3) := by decide +kernel
theorem dJ7_copyOf_59c91_31 : decode cJ7_copyOf_59c91 31 = .ok (.aload_n 2, 1) := by decide +kernel
theorem dJ7_copyOf_59c91_32 : decode cJ7_copyOf_59c91 32 = .ok (.areturn, 1) := by decide +kernel
set_option maxRecDepth 20000 in
theorem ggJ15_checkIndex_7cf53_J3_checkIndex_8e157 : GoodIn wsJ15_checkIndex_7cf53 wsJ3_checkIndex_8e157 := goodIn_r _ [4] (by decide +kernel) (by decide +kernel)
set_option maxRecDepth 20000 in
theorem gJ15_checkIndex_7cf53_J3_checkIndex_8e157 : GoodIn wsJ15_checkIndex_7cf53 (va_wsS RJ15 105 yJ3_checkIndex_8e157 wsJ3_checkIndex_8e157) := goodIn_app (goodIn_of _ (by decide +kernel)) ggJ15_checkIndex_7cf53_J3_checkIndex_8e157
theorem dJ15_checkIndex_7cf53_0 : decode cJ15_checkIndex_7cf53 0 = .ok (.iload_n 0, 1) := by decide +kernel
theorem dJ15_checkIndex_7cf53_1 : decode cJ15_checkIndex_7cf53 1 = .ok (.iload_n 1, 1) := by decide +kernel
theorem dJ15_checkIndex_7cf53_2 : decode cJ15_checkIndex_7cf53 2 = .ok (.aconst_null, 1) := by decide +kernel
theorem dJ15_checkIndex_7cf53_3 : decode cJ15_checkIndex_7cf53 3 = .ok (.invokestatic 105, 3) := by decide +kernel
theorem dJ15_checkIndex_7cf53_6 : decode cJ15_checkIndex_7cf53 6 = .ok (.ireturn, 1) := by decide +kernel
set_option maxRecDepth 20000 in
theorem ggJ8_newLength_cabcc_J8_hugeLength_7cf53 : GoodIn wsJ8_newLength_cabcc wsJ8_hugeLength_7cf53 := goodIn_r _ [9, 5] (by decide +kernel) (by decide +kernel)
set_option maxRecDepth 20000 in
theorem gJ8_newLength_cabcc_J8_hugeLength_7cf53 : GoodIn wsJ8_newLength_cabcc (va_wsS RJ8 201 yJ8_hugeLength_7cf53 wsJ8_hugeLength_7cf53) := goodIn_app (goodIn_of _ (by decide +kernel)) ggJ8_newLength_cabcc_J8_hugeLength_7cf53
theorem dJ8_newLength_cabcc_0 : decode cJ8_newLength_cabcc 0 = .ok (.iload_n 0, 1) := by decide +kernel
theorem dJ8_newLength_cabcc_1 : decode cJ8_newLength_cabcc 1 = .ok (.iload_n 1, 1) := by decide +kernel
theorem dJ8_newLength_cabcc_2 : decode cJ8_newLength_cabcc 2 = .ok (.iload_n 2, 1) := by decide +kernel
theorem dJ8_newLength_cabcc_3 : decode cJ8_newLength_cabcc 3 = .ok (.invokestatic 194, 3) := by decide +kernel
theorem dJ8_newLength_cabcc_6 : decode cJ8_newLength_cabcc 6 = .ok (.iadd, 1) := by decide +kernel
theorem dJ8_newLength_cabcc_7 : decode cJ8_newLength_cabcc 7 = .ok (.istore_n 3, 1) := by decide +kernel
theorem dJ8_newLength_cabcc_8 : decode cJ8_newLength_cabcc 8 = .ok (.iconst 0, 1) := by decide +kernel
theorem dJ8_newLength_cabcc_9 : decode cJ8_newLength_cabcc 9 = .ok (.iload_n 3, 1) := by decide +kernel
theorem dJ8_newLength_cabcc_10 : decode cJ8_newLength_cabcc 10 = .ok (.if_icmp .ge 11, 3) := by decide +kernel
theorem dJ8_newLength_cabcc_13 : decode cJ8_newLength_cabcc 13 = .ok (.iload_n 3, 1) := by decide +kernel
theorem dJ8_newLength_cabcc_14 : decode cJ8_newLength_cabcc 14 = .ok (.ldc 200, 2) := by decide +kernel
theorem dJ8_newLength_cabcc_16 : decode cJ8_newLength_cabcc 16 = .ok (.if_icmp .gt 5, 3) := by decide +kernel
theorem dJ8_newLength_cabcc_19 : decode cJ8_newLength_cabcc 19 = .ok (.iload_n 3, 1) := by decide +kernel
theorem dJ8_newLength_cabcc_20 : decode cJ8_newLength_cabcc 20 = .ok (.ireturn, 1) := by decide +kernel
theorem dJ8_newLength_cabcc_21 : decode cJ8_newLength_cabcc 21 = .ok (.iload_n 0, 1) := by decide +kernel
theorem dJ8_newLength_cabcc_22 : decode cJ8_newLength_cabcc 22 = .ok (.iload_n 1, 1) := by decide +kernel
theorem dJ8_newLength_cabcc_23 : decode cJ8_newLength_cabcc 23 = .ok (.invokestatic 201, 3) := by decide +kernel
theorem dJ8_newLength_cabcc_26 : decode cJ8_newLength_cabcc 26 = .ok (.ireturn, 1) := by decide +kernel
theorem dJ8_hugeLength_7cf53_0 : decode cJ8_hugeLength_7cf53 0 = .ok (.iload_n 0, 1) := by decide +kernel
theorem dJ8_hugeLength_7cf53_1 : decode cJ8_hugeLength_7cf53 1 = .ok (.iload_n 1, 1) := by decide +kernel
theorem dJ8_hugeLength_7cf53_2 : decode cJ8_hugeLength_7cf53 2 = .ok (.iadd, 1) := by decide +kernel
theorem dJ8_hugeLength_7cf53_3 : decode cJ8_hugeLength_7cf53 3 = .ok (.istore_n 2, 1) := by decide +kernel
theorem dJ8_hugeLength_7cf53_4 : decode cJ8_hugeLength_7cf53 4 = .ok (.iload_n 2, 1) := by decide +kernel
theorem dJ8_hugeLength_7cf53_5 : decode cJ8_hugeLength_7cf53 5 = .ok (.ifCond .ge 44, 3) := by decide +kernel
theorem dJ8_hugeLength_7cf53_8 : decode cJ8_hugeLength_7cf53 8 = .ok (.new 204, 3) := by decide +kernel
theorem dJ8_hugeLength_7cf53_11 : decode cJ8_hugeLength_7cf53 11 = .ok (.dup, 1) := by decide +kernel
theorem dJ8_hugeLength_7cf53_12 : decode cJ8_hugeLength_7cf53 12 = .ok (.new 89, 3) := by decide +kernel
theorem dJ8_hugeLength_7cf53_15 : decode cJ8_hugeLength_7cf53 15 = .ok (.dup, 1) := by decide +kernel
theorem dJ8_hugeLength_7cf53_16 : decode cJ8_hugeLength_7cf53 16 = .ok (.invokespecial 91, 3) := by decide +kernel
theorem dJ8_hugeLength_7cf53_19 : decode cJ8_hugeLength_7cf53 19 = .ok (.ldc 206, 2) := by decide +kernel
theorem dJ8_hugeLength_7cf53_21 : decode cJ8_hugeLength_7cf53 21 = .ok (.invokevirtual 94, 3) := by decide +kernel
theorem dJ8_hugeLength_7cf53_24 : decode cJ8_hugeLength_7cf53 24 = .ok (.iload_n 0, 1) := by decide +kernel
theorem dJ8_hugeLength_7cf53_25 : decode cJ8_hugeLength_7cf53 25 = .ok (.invokevirtual 98, 3) := by decide +kernel
theorem dJ8_hugeLength_7cf53_28 : decode cJ8_hugeLength_7cf53 28 = .ok (.ldc 208, 2) := by decide +kernel
theorem dJ8_hugeLength_7cf53_30 : decode cJ8_hugeLength_7cf53 30 = .ok (.invokevirtual 94, 3) := by decide +kernel
theorem dJ8_hugeLength_7cf53_33 : decode cJ8_hugeLength_7cf53 33 = .ok (.iload_n 1, 1) := by decide +kernel
theorem dJ8_hugeLength_7cf53_34 : decode cJ8_hugeLength_7cf53 34 = .ok (.invokevirtual 98, 3) := by decide +kernel
theorem dJ8_hugeLength_7cf53_37 : decode cJ8_hugeLength_7cf53 37 = .ok (.ldc 210, 2) := by decide +kernel
theorem dJ8_hugeLength_7cf53_39 : decode cJ8_hugeLength_7cf53 39 = .ok (.invokevirtual 94, 3) := by decide +kernel
theorem dJ8_hugeLength_7cf53_42 : decode cJ8_hugeLength_7cf53 42 = .ok (.invokevirtual 101, 3) := by decide +kernel
theorem dJ8_hugeLength_7cf53_45 : decode cJ8_hugeLength_7cf53 45 = .ok (.invokespecial 212, 3) := by decide +kernel
theorem dJ8_hugeLength_7cf53_48 : decode cJ8_hugeLength_7cf53 48 = .ok (.athrow, 1) := by decide +kernel
theorem dJ8_hugeLength_7cf53_49 : decode cJ8_hugeLength_7cf53 49 = .ok (.iload_n 2, 1) := by decide +kernel
theorem dJ8_hugeLength_7cf53_50 : decode cJ8_hugeLength_7cf53 50 = .ok (.ldc 200, 2) := by decide +kernel
theorem dJ8_hugeLength_7cf53_52 : decode cJ8_hugeLength_7cf53 52 = .ok (.if_icmp .gt 6, 3) := by decide +kernel
theorem dJ8_hugeLength_7cf53_55 : decode cJ8_hugeLength_7cf53 55 = .ok (.ldc 200, 2) := by decide +kernel
theorem dJ8_hugeLength_7cf53_57 : decode cJ8_hugeLength_7cf53 57 = .ok (.ireturn, 1) := by decide +kernel
theorem dJ8_hugeLength_7cf53_58 : decode cJ8_hugeLength_7cf53 58 = .ok (.iload_n 2, 1) := by decide +kernel
theorem dJ8_hugeLength_7cf53_59 : decode cJ8_hugeLength_7cf53 59 = .ok (.ireturn, 1) := by decide +kernel
theorem dJ3_checkIndex_8e157_0 : decode cJ3_checkIndex_8e157 0 = .ok (.iload_n 0, 1) := by decide +kernel
theorem dJ3_checkIndex_8e157_1 : decode cJ3_checkIndex_8e157 1 = .ok (.ifCond .lt 8, 3) := by decide +kernel
theorem dJ3_checkIndex_8e157_4 : decode cJ3_checkIndex_8e157 4 = .ok (.iload_n 0, 1) := by decide +kernel
theorem dJ3_checkIndex_8e157_5 : decode cJ3_checkIndex_8e157 5 = .ok (.iload_n 1, 1) := by decide +kernel
theorem dJ3_checkIndex_8e157_6 : decode cJ3_checkIndex_8e157 6 = .ok (.if_icmp .lt 10, 3) := by decide +kernel
theorem dJ3_checkIndex_8e157_9 : decode cJ3_checkIndex_8e157 9 = .ok (.aload_n 2, 1) := by decide +kernel
theorem dJ3_checkIndex_8e157_10 : decode cJ3_checkIndex_8e157 10 = .ok (.iload_n 0, 1) := by decide +kernel
theorem dJ3_checkIndex_8e157_11 : decode cJ3_checkIndex_8e157 11 = .ok (.iload_n 1, 1) := by decide +kernel
theorem dJ3_checkIndex_8e157_12 : decode cJ3_checkIndex_8e157 12 = .ok (.invokestatic 95, 3) := by decide +kernel
theorem dJ3_checkIndex_8e157_15 : decode cJ3_checkIndex_8e157 15 = .ok (.athrow, 1) := by decide +kernel
theorem dJ3_checkIndex_8e157_16 : decode cJ3_checkIndex_8e157 16 = .ok (.iload_n 0, 1) := by decide +kernel
theorem dJ3_checkIndex_8e157_17 : decode cJ3_checkIndex_8e157 17 = .ok (.ireturn, 1) := by decide +kernel
