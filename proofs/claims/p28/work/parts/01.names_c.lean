set_option maxRecDepth 20000 in
theorem ggX0_init_X0_startsIn : GoodIn wsX0_init wsX0_startsIn := goodIn_r _ [14, 15, 16, 17, 13, 18, 19, 20, 21, 22, 23, 24, 25, 26, 27, 28, 29, 30, 31, 32, 33, 34, 35, 36] (by decide +kernel) (by decide +kernel)
set_option maxRecDepth 20000 in
theorem gX0_init_X0_startsIn : GoodIn wsX0_init (va_wsS RX0 26 yX0_startsIn wsX0_startsIn) := goodIn_app (goodIn_of _ (by decide +kernel)) ggX0_init_X0_startsIn
set_option maxRecDepth 20000 in
theorem ggX0_init_X0_literalsIn : GoodIn wsX0_init wsX0_literalsIn := goodIn_r _ [39] (by decide +kernel) (by decide +kernel)
set_option maxRecDepth 20000 in
theorem gX0_init_X0_literalsIn : GoodIn wsX0_init (va_wsS RX0 33 yX0_literalsIn wsX0_literalsIn) := goodIn_app (goodIn_of _ (by decide +kernel)) ggX0_init_X0_literalsIn
set_option maxRecDepth 20000 in
theorem ggX0_init_X0_priceOf : GoodIn wsX0_init wsX0_priceOf := goodIn_r _ [42, 37, 38, 13, 39, 16, 17, 18] (by decide +kernel) (by decide +kernel)
set_option maxRecDepth 20000 in
theorem gX0_init_X0_priceOf : GoodIn wsX0_init (va_wsS RX0 40 yX0_priceOf wsX0_priceOf) := goodIn_app (goodIn_of _ (by decide +kernel)) ggX0_init_X0_priceOf
theorem dX0_init_0 : decode cX0_init 0 = .ok (.aload_n 0, 1) := by decide +kernel
theorem dX0_init_1 : decode cX0_init 1 = .ok (.invokespecial 3, 3) := by decide +kernel
theorem dX0_init_4 : decode cX0_init 4 = .ok (.aload_n 0, 1) := by decide +kernel
theorem dX0_init_5 : decode cX0_init 5 = .ok (.iload_n 1, 1) := by decide +kernel
theorem dX0_init_6 : decode cX0_init 6 = .ok (.putfield 9, 3) := by decide +kernel
theorem dX0_init_9 : decode cX0_init 9 = .ok (.aload_n 0, 1) := by decide +kernel
theorem dX0_init_10 : decode cX0_init 10 = .ok (.iload_n 2, 1) := by decide +kernel
theorem dX0_init_11 : decode cX0_init 11 = .ok (.putfield 15, 3) := by decide +kernel
theorem dX0_init_14 : decode cX0_init 14 = .ok (.aload_n 0, 1) := by decide +kernel
theorem dX0_init_15 : decode cX0_init 15 = .ok (.aload_n 3, 1) := by decide +kernel
theorem dX0_init_16 : decode cX0_init 16 = .ok (.putfield 18, 3) := by decide +kernel
theorem dX0_init_19 : decode cX0_init 19 = .ok (.aload_n 0, 1) := by decide +kernel
theorem dX0_init_20 : decode cX0_init 20 = .ok (.aload 4, 2) := by decide +kernel
theorem dX0_init_22 : decode cX0_init 22 = .ok (.putfield 22, 3) := by decide +kernel
theorem dX0_init_25 : decode cX0_init 25 = .ok (.aload_n 0, 1) := by decide +kernel
theorem dX0_init_26 : decode cX0_init 26 = .ok (.aload 4, 2) := by decide +kernel
theorem dX0_init_28 : decode cX0_init 28 = .ok (.invokestatic 26, 3) := by decide +kernel
theorem dX0_init_31 : decode cX0_init 31 = .ok (.putfield 30, 3) := by decide +kernel
theorem dX0_init_34 : decode cX0_init 34 = .ok (.aload_n 0, 1) := by decide +kernel
theorem dX0_init_35 : decode cX0_init 35 = .ok (.aload 4, 2) := by decide +kernel
theorem dX0_init_37 : decode cX0_init 37 = .ok (.invokestatic 33, 3) := by decide +kernel
theorem dX0_init_40 : decode cX0_init 40 = .ok (.putfield 37, 3) := by decide +kernel
theorem dX0_init_43 : decode cX0_init 43 = .ok (.aload_n 0, 1) := by decide +kernel
theorem dX0_init_44 : decode cX0_init 44 = .ok (.aload 4, 2) := by decide +kernel
theorem dX0_init_46 : decode cX0_init 46 = .ok (.invokestatic 40, 3) := by decide +kernel
theorem dX0_init_49 : decode cX0_init 49 = .ok (.putfield 43, 3) := by decide +kernel
theorem dX0_init_52 : decode cX0_init 52 = .ok (.return_, 1) := by decide +kernel
theorem dX0_startsAt_0 : decode cX0_startsAt 0 = .ok (.iload_n 1, 1) := by decide +kernel
theorem dX0_startsAt_1 : decode cX0_startsAt 1 = .ok (.ifCond .ne 5, 3) := by decide +kernel
theorem dX0_startsAt_4 : decode cX0_startsAt 4 = .ok (.iconst 1, 1) := by decide +kernel
theorem dX0_startsAt_5 : decode cX0_startsAt 5 = .ok (.ireturn, 1) := by decide +kernel
theorem dX0_startsAt_6 : decode cX0_startsAt 6 = .ok (.aload_n 0, 1) := by decide +kernel
theorem dX0_startsAt_7 : decode cX0_startsAt 7 = .ok (.iload_n 1, 1) := by decide +kernel
theorem dX0_startsAt_8 : decode cX0_startsAt 8 = .ok (.iconst 1, 1) := by decide +kernel
theorem dX0_startsAt_9 : decode cX0_startsAt 9 = .ok (.isub, 1) := by decide +kernel
theorem dX0_startsAt_10 : decode cX0_startsAt 10 = .ok (.iaload, 1) := by decide +kernel
theorem dX0_startsAt_11 : decode cX0_startsAt 11 = .ok (.istore_n 2, 1) := by decide +kernel
theorem dX0_startsAt_12 : decode cX0_startsAt 12 = .ok (.aload_n 0, 1) := by decide +kernel
theorem dX0_startsAt_13 : decode cX0_startsAt 13 = .ok (.iload_n 1, 1) := by decide +kernel
theorem dX0_startsAt_14 : decode cX0_startsAt 14 = .ok (.iaload, 1) := by decide +kernel
theorem dX0_startsAt_15 : decode cX0_startsAt 15 = .ok (.iload_n 2, 1) := by decide +kernel
theorem dX0_startsAt_16 : decode cX0_startsAt 16 = .ok (.iconst (-1), 1) := by decide +kernel
theorem dX0_startsAt_17 : decode cX0_startsAt 17 = .ok (.if_icmp .ne 7, 3) := by decide +kernel
theorem dX0_startsAt_20 : decode cX0_startsAt 20 = .ok (.iconst (-1), 1) := by decide +kernel
theorem dX0_startsAt_21 : decode cX0_startsAt 21 = .ok (.goto 6, 3) := by decide +kernel
theorem dX0_startsAt_24 : decode cX0_startsAt 24 = .ok (.iload_n 2, 1) := by decide +kernel
theorem dX0_startsAt_25 : decode cX0_startsAt 25 = .ok (.iconst 1, 1) := by decide +kernel
theorem dX0_startsAt_26 : decode cX0_startsAt 26 = .ok (.iadd, 1) := by decide +kernel
theorem dX0_startsAt_27 : decode cX0_startsAt 27 = .ok (.if_icmp .eq 7, 3) := by decide +kernel
theorem dX0_startsAt_30 : decode cX0_startsAt 30 = .ok (.iconst 1, 1) := by decide +kernel
theorem dX0_startsAt_31 : decode cX0_startsAt 31 = .ok (.goto 4, 3) := by decide +kernel
theorem dX0_startsAt_34 : decode cX0_startsAt 34 = .ok (.iconst 0, 1) := by decide +kernel
theorem dX0_startsAt_35 : decode cX0_startsAt 35 = .ok (.ireturn, 1) := by decide +kernel
set_option maxRecDepth 20000 in
theorem ggX0_startsIn_X0_startsAt : GoodIn wsX0_startsIn wsX0_startsAt := goodIn_r _ [5] (by decide +kernel) (by decide +kernel)
set_option maxRecDepth 20000 in
theorem gX0_startsIn_X0_startsAt : GoodIn wsX0_startsIn (va_wsS RX0 46 yX0_startsAt wsX0_startsAt) := goodIn_app (goodIn_of _ (by decide +kernel)) ggX0_startsIn_X0_startsAt
set_option maxRecDepth 20000 in
theorem ggX0_startsIn_J7_copyOf_59c91 : GoodIn wsX0_startsIn wsJ7_copyOf_59c91 := goodIn_r _ [9, 10, 11, 12, 13, 14, 15, 1, 16, 17, 18, 19, 20, 21, 22, 23] (by decide +kernel) (by decide +kernel)
set_option maxRecDepth 20000 in
theorem gX0_startsIn_J7_copyOf_59c91 : GoodIn wsX0_startsIn (va_wsS RX0 50 yJ7_copyOf_59c91 wsJ7_copyOf_59c91) := goodIn_app (goodIn_of _ (by decide +kernel)) ggX0_startsIn_J7_copyOf_59c91
theorem dX0_startsIn_0 : decode cX0_startsIn 0 = .ok (.aload_n 0, 1) := by decide +kernel
theorem dX0_startsIn_1 : decode cX0_startsIn 1 = .ok (.arraylength, 1) := by decide +kernel
theorem dX0_startsIn_2 : decode cX0_startsIn 2 = .ok (.newarray .int, 2) := by decide +kernel
theorem dX0_startsIn_4 : decode cX0_startsIn 4 = .ok (.astore_n 1, 1) := by decide +kernel
theorem dX0_startsIn_5 : decode cX0_startsIn 5 = .ok (.iconst 0, 1) := by decide +kernel
theorem dX0_startsIn_6 : decode cX0_startsIn 6 = .ok (.istore_n 2, 1) := by decide +kernel
theorem dX0_startsIn_7 : decode cX0_startsIn 7 = .ok (.iconst 0, 1) := by decide +kernel
theorem dX0_startsIn_8 : decode cX0_startsIn 8 = .ok (.istore_n 3, 1) := by decide +kernel
theorem dX0_startsIn_9 : decode cX0_startsIn 9 = .ok (.iload_n 3, 1) := by decide +kernel
theorem dX0_startsIn_10 : decode cX0_startsIn 10 = .ok (.aload_n 0, 1) := by decide +kernel
theorem dX0_startsIn_11 : decode cX0_startsIn 11 = .ok (.arraylength, 1) := by decide +kernel
theorem dX0_startsIn_12 : decode cX0_startsIn 12 = .ok (.if_icmp .ge 24, 3) := by decide +kernel
theorem dX0_startsIn_15 : decode cX0_startsIn 15 = .ok (.aload_n 0, 1) := by decide +kernel
theorem dX0_startsIn_16 : decode cX0_startsIn 16 = .ok (.iload_n 3, 1) := by decide +kernel
theorem dX0_startsIn_17 : decode cX0_startsIn 17 = .ok (.invokestatic 46, 3) := by decide +kernel
theorem dX0_startsIn_20 : decode cX0_startsIn 20 = .ok (.ifCond .eq 10, 3) := by decide +kernel
theorem dX0_startsIn_23 : decode cX0_startsIn 23 = .ok (.aload_n 1, 1) := by decide +kernel
theorem dX0_startsIn_24 : decode cX0_startsIn 24 = .ok (.iload_n 2, 1) := by decide +kernel
theorem dX0_startsIn_25 : decode cX0_startsIn 25 = .ok (.iload_n 3, 1) := by decide +kernel
theorem dX0_startsIn_26 : decode cX0_startsIn 26 = .ok (.iastore, 1) := by decide +kernel
theorem dX0_startsIn_27 : decode cX0_startsIn 27 = .ok (.iinc 2 1, 3) := by decide +kernel
theorem dX0_startsIn_30 : decode cX0_startsIn 30 = .ok (.iinc 3 1, 3) := by decide +kernel
theorem dX0_startsIn_33 : decode cX0_startsIn 33 = .ok (.goto (-24), 3) := by decide +kernel
theorem dX0_startsIn_36 : decode cX0_startsIn 36 = .ok (.aload_n 1, 1) := by decide +kernel
theorem dX0_startsIn_37 : decode cX0_startsIn 37 = .ok (.iload_n 2, 1) := by decide +kernel
theorem dX0_startsIn_38 : decode cX0_startsIn 38 = .ok (.invokestatic 50, 3) := by decide +kernel
theorem dX0_startsIn_41 : decode cX0_startsIn 41 = .ok (.areturn, 1) := by decide +kernel
theorem dX0_literalsIn_0 : decode cX0_literalsIn 0 = .ok (.iconst 0, 1) := by decide +kernel
theorem dX0_literalsIn_1 : decode cX0_literalsIn 1 = .ok (.istore_n 1, 1) := by decide +kernel
theorem dX0_literalsIn_2 : decode cX0_literalsIn 2 = .ok (.iconst 0, 1) := by decide +kernel
theorem dX0_literalsIn_3 : decode cX0_literalsIn 3 = .ok (.istore_n 2, 1) := by decide +kernel
theorem dX0_literalsIn_4 : decode cX0_literalsIn 4 = .ok (.iload_n 2, 1) := by decide +kernel
theorem dX0_literalsIn_5 : decode cX0_literalsIn 5 = .ok (.aload_n 0, 1) := by decide +kernel
theorem dX0_literalsIn_6 : decode cX0_literalsIn 6 = .ok (.arraylength, 1) := by decide +kernel
theorem dX0_literalsIn_7 : decode cX0_literalsIn 7 = .ok (.if_icmp .ge 19, 3) := by decide +kernel
theorem dX0_literalsIn_10 : decode cX0_literalsIn 10 = .ok (.aload_n 0, 1) := by decide +kernel
theorem dX0_literalsIn_11 : decode cX0_literalsIn 11 = .ok (.iload_n 2, 1) := by decide +kernel
theorem dX0_literalsIn_12 : decode cX0_literalsIn 12 = .ok (.iaload, 1) := by decide +kernel
theorem dX0_literalsIn_13 : decode cX0_literalsIn 13 = .ok (.iconst (-1), 1) := by decide +kernel
theorem dX0_literalsIn_14 : decode cX0_literalsIn 14 = .ok (.if_icmp .ne 6, 3) := by decide +kernel
theorem dX0_literalsIn_17 : decode cX0_literalsIn 17 = .ok (.iinc 1 1, 3) := by decide +kernel
theorem dX0_literalsIn_20 : decode cX0_literalsIn 20 = .ok (.iinc 2 1, 3) := by decide +kernel
theorem dX0_literalsIn_23 : decode cX0_literalsIn 23 = .ok (.goto (-19), 3) := by decide +kernel
theorem dX0_literalsIn_26 : decode cX0_literalsIn 26 = .ok (.iload_n 1, 1) := by decide +kernel
theorem dX0_literalsIn_27 : decode cX0_literalsIn 27 = .ok (.ireturn, 1) := by decide +kernel
set_option maxRecDepth 20000 in
theorem ggX0_priceOf_X0_literalsIn : GoodIn wsX0_priceOf wsX0_literalsIn := goodIn_r _ [4] (by decide +kernel) (by decide +kernel)
set_option maxRecDepth 20000 in
theorem gX0_priceOf_X0_literalsIn : GoodIn wsX0_priceOf (va_wsS RX0 33 yX0_literalsIn wsX0_literalsIn) := goodIn_app (goodIn_of _ (by decide +kernel)) ggX0_priceOf_X0_literalsIn
set_option maxRecDepth 20000 in
theorem ggX0_priceOf_X0_startsAt : GoodIn wsX0_priceOf wsX0_startsAt := goodIn_r _ [7] (by decide +kernel) (by decide +kernel)
set_option maxRecDepth 20000 in
theorem gX0_priceOf_X0_startsAt : GoodIn wsX0_priceOf (va_wsS RX0 46 yX0_startsAt wsX0_startsAt) := goodIn_app (goodIn_of _ (by decide +kernel)) ggX0_priceOf_X0_startsAt
theorem dX0_priceOf_0 : decode cX0_priceOf 0 = .ok (.aload_n 0, 1) := by decide +kernel
theorem dX0_priceOf_1 : decode cX0_priceOf 1 = .ok (.invokestatic 33, 3) := by decide +kernel
theorem dX0_priceOf_4 : decode cX0_priceOf 4 = .ok (.istore_n 1, 1) := by decide +kernel
theorem dX0_priceOf_5 : decode cX0_priceOf 5 = .ok (.iconst 0, 1) := by decide +kernel
theorem dX0_priceOf_6 : decode cX0_priceOf 6 = .ok (.istore_n 2, 1) := by decide +kernel
theorem dX0_priceOf_7 : decode cX0_priceOf 7 = .ok (.iload_n 2, 1) := by decide +kernel
theorem dX0_priceOf_8 : decode cX0_priceOf 8 = .ok (.aload_n 0, 1) := by decide +kernel
theorem dX0_priceOf_9 : decode cX0_priceOf 9 = .ok (.arraylength, 1) := by decide +kernel
theorem dX0_priceOf_10 : decode cX0_priceOf 10 = .ok (.if_icmp .ge 32, 3) := by decide +kernel
theorem dX0_priceOf_13 : decode cX0_priceOf 13 = .ok (.aload_n 0, 1) := by decide +kernel
theorem dX0_priceOf_14 : decode cX0_priceOf 14 = .ok (.iload_n 2, 1) := by decide +kernel
theorem dX0_priceOf_15 : decode cX0_priceOf 15 = .ok (.invokestatic 46, 3) := by decide +kernel
theorem dX0_priceOf_18 : decode cX0_priceOf 18 = .ok (.ifCond .eq 18, 3) := by decide +kernel
theorem dX0_priceOf_21 : decode cX0_priceOf 21 = .ok (.iload_n 1, 1) := by decide +kernel
theorem dX0_priceOf_22 : decode cX0_priceOf 22 = .ok (.aload_n 0, 1) := by decide +kernel
theorem dX0_priceOf_23 : decode cX0_priceOf 23 = .ok (.iload_n 2, 1) := by decide +kernel
theorem dX0_priceOf_24 : decode cX0_priceOf 24 = .ok (.iaload, 1) := by decide +kernel
theorem dX0_priceOf_25 : decode cX0_priceOf 25 = .ok (.iconst (-1), 1) := by decide +kernel
theorem dX0_priceOf_26 : decode cX0_priceOf 26 = .ok (.if_icmp .ne 7, 3) := by decide +kernel
theorem dX0_priceOf_29 : decode cX0_priceOf 29 = .ok (.iconst 2, 1) := by decide +kernel
theorem dX0_priceOf_30 : decode cX0_priceOf 30 = .ok (.goto 4, 3) := by decide +kernel
theorem dX0_priceOf_33 : decode cX0_priceOf 33 = .ok (.iconst 5, 1) := by decide +kernel
theorem dX0_priceOf_34 : decode cX0_priceOf 34 = .ok (.iadd, 1) := by decide +kernel
theorem dX0_priceOf_35 : decode cX0_priceOf 35 = .ok (.istore_n 1, 1) := by decide +kernel
theorem dX0_priceOf_36 : decode cX0_priceOf 36 = .ok (.iinc 2 1, 3) := by decide +kernel
theorem dX0_priceOf_39 : decode cX0_priceOf 39 = .ok (.goto (-32), 3) := by decide +kernel
theorem dX0_priceOf_42 : decode cX0_priceOf 42 = .ok (.iload_n 1, 1) := by decide +kernel
theorem dX0_priceOf_43 : decode cX0_priceOf 43 = .ok (.ireturn, 1) := by decide +kernel
set_option maxRecDepth 20000 in
theorem ggX0_tell_X1_sumOf : GoodIn wsX0_tell wsX1_sumOf := goodIn_r _ [8, 9, 17] (by decide +kernel) (by decide +kernel)
set_option maxRecDepth 20000 in
theorem gX0_tell_X1_sumOf : GoodIn wsX0_tell (wsV RX0 56 RX1 yX1_sumOf wsX1_sumOf) := goodIn_app (goodIn_of _ (by decide +kernel)) ggX0_tell_X1_sumOf
theorem dX0_tell_0 : decode cX0_tell 0 = .ok (.aload_n 0, 1) := by decide +kernel
theorem dX0_tell_1 : decode cX0_tell 1 = .ok (.getfield 30, 3) := by decide +kernel
theorem dX0_tell_4 : decode cX0_tell 4 = .ok (.iload_n 1, 1) := by decide +kernel
theorem dX0_tell_5 : decode cX0_tell 5 = .ok (.iaload, 1) := by decide +kernel
theorem dX0_tell_6 : decode cX0_tell 6 = .ok (.istore_n 3, 1) := by decide +kernel
theorem dX0_tell_7 : decode cX0_tell 7 = .ok (.iload_n 1, 1) := by decide +kernel
theorem dX0_tell_8 : decode cX0_tell 8 = .ok (.iconst 1, 1) := by decide +kernel
theorem dX0_tell_9 : decode cX0_tell 9 = .ok (.iadd, 1) := by decide +kernel
theorem dX0_tell_10 : decode cX0_tell 10 = .ok (.aload_n 0, 1) := by decide +kernel
theorem dX0_tell_11 : decode cX0_tell 11 = .ok (.getfield 30, 3) := by decide +kernel
theorem dX0_tell_14 : decode cX0_tell 14 = .ok (.arraylength, 1) := by decide +kernel
theorem dX0_tell_15 : decode cX0_tell 15 = .ok (.if_icmp .ge 14, 3) := by decide +kernel
theorem dX0_tell_18 : decode cX0_tell 18 = .ok (.aload_n 0, 1) := by decide +kernel
theorem dX0_tell_19 : decode cX0_tell 19 = .ok (.getfield 30, 3) := by decide +kernel
theorem dX0_tell_22 : decode cX0_tell 22 = .ok (.iload_n 1, 1) := by decide +kernel
theorem dX0_tell_23 : decode cX0_tell 23 = .ok (.iconst 1, 1) := by decide +kernel
theorem dX0_tell_24 : decode cX0_tell 24 = .ok (.iadd, 1) := by decide +kernel
theorem dX0_tell_25 : decode cX0_tell 25 = .ok (.iaload, 1) := by decide +kernel
theorem dX0_tell_26 : decode cX0_tell 26 = .ok (.goto 8, 3) := by decide +kernel
theorem dX0_tell_29 : decode cX0_tell 29 = .ok (.aload_n 0, 1) := by decide +kernel
theorem dX0_tell_30 : decode cX0_tell 30 = .ok (.getfield 22, 3) := by decide +kernel
theorem dX0_tell_33 : decode cX0_tell 33 = .ok (.arraylength, 1) := by decide +kernel
theorem dX0_tell_34 : decode cX0_tell 34 = .ok (.istore 4, 2) := by decide +kernel
theorem dX0_tell_36 : decode cX0_tell 36 = .ok (.aload_n 0, 1) := by decide +kernel
theorem dX0_tell_37 : decode cX0_tell 37 = .ok (.getfield 22, 3) := by decide +kernel
theorem dX0_tell_40 : decode cX0_tell 40 = .ok (.iload_n 3, 1) := by decide +kernel
theorem dX0_tell_41 : decode cX0_tell 41 = .ok (.iaload, 1) := by decide +kernel
theorem dX0_tell_42 : decode cX0_tell 42 = .ok (.iconst (-1), 1) := by decide +kernel
theorem dX0_tell_43 : decode cX0_tell 43 = .ok (.if_icmp .ne 7, 3) := by decide +kernel
theorem dX0_tell_46 : decode cX0_tell 46 = .ok (.iconst 1, 1) := by decide +kernel
theorem dX0_tell_47 : decode cX0_tell 47 = .ok (.goto 4, 3) := by decide +kernel
theorem dX0_tell_50 : decode cX0_tell 50 = .ok (.iconst 0, 1) := by decide +kernel
theorem dX0_tell_51 : decode cX0_tell 51 = .ok (.istore 5, 2) := by decide +kernel
theorem dX0_tell_53 : decode cX0_tell 53 = .ok (.iload_n 2, 1) := by decide +kernel
theorem dX0_tell_54 : decode cX0_tell 54 = .ok (.tableswitch 49 0 2 #[26, 37, 44], 26) := by decide +kernel
theorem dX0_tell_80 : decode cX0_tell 80 = .ok (.iload 5, 2) := by decide +kernel
theorem dX0_tell_82 : decode cX0_tell 82 = .ok (.ifCond .eq 7, 3) := by decide +kernel
theorem dX0_tell_85 : decode cX0_tell 85 = .ok (.iconst 1, 1) := by decide +kernel
theorem dX0_tell_86 : decode cX0_tell 86 = .ok (.goto 4, 3) := by decide +kernel
theorem dX0_tell_89 : decode cX0_tell 89 = .ok (.iconst 0, 1) := by decide +kernel
theorem dX0_tell_90 : decode cX0_tell 90 = .ok (.ireturn, 1) := by decide +kernel
theorem dX0_tell_91 : decode cX0_tell 91 = .ok (.aload_n 0, 1) := by decide +kernel
theorem dX0_tell_92 : decode cX0_tell 92 = .ok (.getfield 22, 3) := by decide +kernel
theorem dX0_tell_95 : decode cX0_tell 95 = .ok (.iload_n 3, 1) := by decide +kernel
theorem dX0_tell_96 : decode cX0_tell 96 = .ok (.iaload, 1) := by decide +kernel
theorem dX0_tell_97 : decode cX0_tell 97 = .ok (.ireturn, 1) := by decide +kernel
theorem dX0_tell_98 : decode cX0_tell 98 = .ok (.iload 4, 2) := by decide +kernel
theorem dX0_tell_100 : decode cX0_tell 100 = .ok (.iload_n 3, 1) := by decide +kernel
theorem dX0_tell_101 : decode cX0_tell 101 = .ok (.isub, 1) := by decide +kernel
theorem dX0_tell_102 : decode cX0_tell 102 = .ok (.ireturn, 1) := by decide +kernel
theorem dX0_tell_103 : decode cX0_tell 103 = .ok (.iload 5, 2) := by decide +kernel
theorem dX0_tell_105 : decode cX0_tell 105 = .ok (.ifCond .eq 18, 3) := by decide +kernel
theorem dX0_tell_108 : decode cX0_tell 108 = .ok (.aload_n 0, 1) := by decide +kernel
theorem dX0_tell_109 : decode cX0_tell 109 = .ok (.getfield 18, 3) := by decide +kernel
theorem dX0_tell_112 : decode cX0_tell 112 = .ok (.iload_n 3, 1) := by decide +kernel
theorem dX0_tell_113 : decode cX0_tell 113 = .ok (.iload 4, 2) := by decide +kernel
theorem dX0_tell_115 : decode cX0_tell 115 = .ok (.iload_n 3, 1) := by decide +kernel
theorem dX0_tell_116 : decode cX0_tell 116 = .ok (.isub, 1) := by decide +kernel
theorem dX0_tell_117 : decode cX0_tell 117 = .ok (.invokevirtual 56, 3) := by decide +kernel
theorem dX0_tell_120 : decode cX0_tell 120 = .ok (.goto 4, 3) := by decide +kernel
theorem dX0_tell_123 : decode cX0_tell 123 = .ok (.iconst (-1), 1) := by decide +kernel
theorem dX0_tell_124 : decode cX0_tell 124 = .ok (.ireturn, 1) := by decide +kernel
set_option maxRecDepth 20000 in
theorem ggX1_init_J7_copyOf_59c91 : GoodIn wsX1_init wsJ7_copyOf_59c91 := goodIn_r _ [8, 9, 10, 11, 12, 13, 14, 15, 16, 17, 18, 19, 20, 21, 22, 23] (by decide +kernel) (by decide +kernel)
set_option maxRecDepth 20000 in
theorem gX1_init_J7_copyOf_59c91 : GoodIn wsX1_init (va_wsS RX1 7 yJ7_copyOf_59c91 wsJ7_copyOf_59c91) := goodIn_app (goodIn_of _ (by decide +kernel)) ggX1_init_J7_copyOf_59c91
theorem dX1_init_0 : decode cX1_init 0 = .ok (.aload_n 0, 1) := by decide +kernel
theorem dX1_init_1 : decode cX1_init 1 = .ok (.invokespecial 1, 3) := by decide +kernel
theorem dX1_init_4 : decode cX1_init 4 = .ok (.aload_n 0, 1) := by decide +kernel
theorem dX1_init_5 : decode cX1_init 5 = .ok (.aload_n 1, 1) := by decide +kernel
theorem dX1_init_6 : decode cX1_init 6 = .ok (.iload_n 2, 1) := by decide +kernel
theorem dX1_init_7 : decode cX1_init 7 = .ok (.invokestatic 7, 3) := by decide +kernel
theorem dX1_init_10 : decode cX1_init 10 = .ok (.putfield 13, 3) := by decide +kernel
theorem dX1_init_13 : decode cX1_init 13 = .ok (.return_, 1) := by decide +kernel
set_option maxRecDepth 20000 in
theorem ggX1_hasBytesOf_X1_hasStretch : GoodIn wsX1_hasBytesOf wsX1_hasStretch := goodIn_r _ [6, 1, 7] (by decide +kernel) (by decide +kernel)
set_option maxRecDepth 20000 in
theorem gX1_hasBytesOf_X1_hasStretch : GoodIn wsX1_hasBytesOf (wsV RX1 19 RX1 yX1_hasStretch wsX1_hasStretch) := goodIn_app (goodIn_of _ (by decide +kernel)) ggX1_hasBytesOf_X1_hasStretch
theorem dX1_hasBytesOf_0 : decode cX1_hasBytesOf 0 = .ok (.aload_n 0, 1) := by decide +kernel
theorem dX1_hasBytesOf_1 : decode cX1_hasBytesOf 1 = .ok (.getfield 13, 3) := by decide +kernel
theorem dX1_hasBytesOf_4 : decode cX1_hasBytesOf 4 = .ok (.arraylength, 1) := by decide +kernel
theorem dX1_hasBytesOf_5 : decode cX1_hasBytesOf 5 = .ok (.aload_n 1, 1) := by decide +kernel
theorem dX1_hasBytesOf_6 : decode cX1_hasBytesOf 6 = .ok (.getfield 13, 3) := by decide +kernel
theorem dX1_hasBytesOf_9 : decode cX1_hasBytesOf 9 = .ok (.arraylength, 1) := by decide +kernel
theorem dX1_hasBytesOf_10 : decode cX1_hasBytesOf 10 = .ok (.if_icmp .ne 22, 3) := by decide +kernel
theorem dX1_hasBytesOf_13 : decode cX1_hasBytesOf 13 = .ok (.aload_n 0, 1) := by decide +kernel
theorem dX1_hasBytesOf_14 : decode cX1_hasBytesOf 14 = .ok (.iconst 0, 1) := by decide +kernel
theorem dX1_hasBytesOf_15 : decode cX1_hasBytesOf 15 = .ok (.aload_n 1, 1) := by decide +kernel
theorem dX1_hasBytesOf_16 : decode cX1_hasBytesOf 16 = .ok (.iconst 0, 1) := by decide +kernel
theorem dX1_hasBytesOf_17 : decode cX1_hasBytesOf 17 = .ok (.aload_n 0, 1) := by decide +kernel
theorem dX1_hasBytesOf_18 : decode cX1_hasBytesOf 18 = .ok (.getfield 13, 3) := by decide +kernel
theorem dX1_hasBytesOf_21 : decode cX1_hasBytesOf 21 = .ok (.arraylength, 1) := by decide +kernel
theorem dX1_hasBytesOf_22 : decode cX1_hasBytesOf 22 = .ok (.invokevirtual 19, 3) := by decide +kernel
theorem dX1_hasBytesOf_25 : decode cX1_hasBytesOf 25 = .ok (.ifCond .eq 7, 3) := by decide +kernel
theorem dX1_hasBytesOf_28 : decode cX1_hasBytesOf 28 = .ok (.iconst 1, 1) := by decide +kernel
theorem dX1_hasBytesOf_29 : decode cX1_hasBytesOf 29 = .ok (.goto 4, 3) := by decide +kernel
theorem dX1_hasBytesOf_32 : decode cX1_hasBytesOf 32 = .ok (.iconst 0, 1) := by decide +kernel
theorem dX1_hasBytesOf_33 : decode cX1_hasBytesOf 33 = .ok (.ireturn, 1) := by decide +kernel
theorem dX1_hasStretch_0 : decode cX1_hasStretch 0 = .ok (.iconst 0, 1) := by decide +kernel
theorem dX1_hasStretch_1 : decode cX1_hasStretch 1 = .ok (.istore 5, 2) := by decide +kernel
theorem dX1_hasStretch_3 : decode cX1_hasStretch 3 = .ok (.iload 5, 2) := by decide +kernel
theorem dX1_hasStretch_5 : decode cX1_hasStretch 5 = .ok (.iload 4, 2) := by decide +kernel
theorem dX1_hasStretch_7 : decode cX1_hasStretch 7 = .ok (.if_icmp .ge 32, 3) := by decide +kernel
theorem dX1_hasStretch_10 : decode cX1_hasStretch 10 = .ok (.aload_n 0, 1) := by decide +kernel
theorem dX1_hasStretch_11 : decode cX1_hasStretch 11 = .ok (.getfield 13, 3) := by decide +kernel
theorem dX1_hasStretch_14 : decode cX1_hasStretch 14 = .ok (.iload_n 1, 1) := by decide +kernel
theorem dX1_hasStretch_15 : decode cX1_hasStretch 15 = .ok (.iload 5, 2) := by decide +kernel
theorem dX1_hasStretch_17 : decode cX1_hasStretch 17 = .ok (.iadd, 1) := by decide +kernel
theorem dX1_hasStretch_18 : decode cX1_hasStretch 18 = .ok (.iaload, 1) := by decide +kernel
theorem dX1_hasStretch_19 : decode cX1_hasStretch 19 = .ok (.aload_n 2, 1) := by decide +kernel
theorem dX1_hasStretch_20 : decode cX1_hasStretch 20 = .ok (.getfield 13, 3) := by decide +kernel
theorem dX1_hasStretch_23 : decode cX1_hasStretch 23 = .ok (.iload_n 3, 1) := by decide +kernel
theorem dX1_hasStretch_24 : decode cX1_hasStretch 24 = .ok (.iload 5, 2) := by decide +kernel
theorem dX1_hasStretch_26 : decode cX1_hasStretch 26 = .ok (.iadd, 1) := by decide +kernel
theorem dX1_hasStretch_27 : decode cX1_hasStretch 27 = .ok (.iaload, 1) := by decide +kernel
theorem dX1_hasStretch_28 : decode cX1_hasStretch 28 = .ok (.if_icmp .eq 5, 3) := by decide +kernel
theorem dX1_hasStretch_31 : decode cX1_hasStretch 31 = .ok (.iconst 0, 1) := by decide +kernel
theorem dX1_hasStretch_32 : decode cX1_hasStretch 32 = .ok (.ireturn, 1) := by decide +kernel
theorem dX1_hasStretch_33 : decode cX1_hasStretch 33 = .ok (.iinc 5 1, 3) := by decide +kernel
theorem dX1_hasStretch_36 : decode cX1_hasStretch 36 = .ok (.goto (-33), 3) := by decide +kernel
theorem dX1_hasStretch_39 : decode cX1_hasStretch 39 = .ok (.iconst 1, 1) := by decide +kernel
theorem dX1_hasStretch_40 : decode cX1_hasStretch 40 = .ok (.ireturn, 1) := by decide +kernel
theorem dX1_sumOf_0 : decode cX1_sumOf 0 = .ok (.iconst 0, 1) := by decide +kernel
theorem dX1_sumOf_1 : decode cX1_sumOf 1 = .ok (.istore_n 3, 1) := by decide +kernel
theorem dX1_sumOf_2 : decode cX1_sumOf 2 = .ok (.iconst 0, 1) := by decide +kernel
theorem dX1_sumOf_3 : decode cX1_sumOf 3 = .ok (.istore 4, 2) := by decide +kernel
theorem dX1_sumOf_5 : decode cX1_sumOf 5 = .ok (.iconst 0, 1) := by decide +kernel
theorem dX1_sumOf_6 : decode cX1_sumOf 6 = .ok (.istore 5, 2) := by decide +kernel
theorem dX1_sumOf_8 : decode cX1_sumOf 8 = .ok (.iload 5, 2) := by decide +kernel
theorem dX1_sumOf_10 : decode cX1_sumOf 10 = .ok (.iload_n 2, 1) := by decide +kernel
theorem dX1_sumOf_11 : decode cX1_sumOf 11 = .ok (.if_icmp .ge 40, 3) := by decide +kernel
theorem dX1_sumOf_14 : decode cX1_sumOf 14 = .ok (.iload_n 3, 1) := by decide +kernel
theorem dX1_sumOf_15 : decode cX1_sumOf 15 = .ok (.aload_n 0, 1) := by decide +kernel
theorem dX1_sumOf_16 : decode cX1_sumOf 16 = .ok (.getfield 13, 3) := by decide +kernel
theorem dX1_sumOf_19 : decode cX1_sumOf 19 = .ok (.iload_n 1, 1) := by decide +kernel
theorem dX1_sumOf_20 : decode cX1_sumOf 20 = .ok (.iload 5, 2) := by decide +kernel
theorem dX1_sumOf_22 : decode cX1_sumOf 22 = .ok (.iadd, 1) := by decide +kernel
theorem dX1_sumOf_23 : decode cX1_sumOf 23 = .ok (.iaload, 1) := by decide +kernel
theorem dX1_sumOf_24 : decode cX1_sumOf 24 = .ok (.iadd, 1) := by decide +kernel
theorem dX1_sumOf_25 : decode cX1_sumOf 25 = .ok (.istore_n 3, 1) := by decide +kernel
theorem dX1_sumOf_26 : decode cX1_sumOf 26 = .ok (.iload 4, 2) := by decide +kernel
theorem dX1_sumOf_28 : decode cX1_sumOf 28 = .ok (.iload_n 2, 1) := by decide +kernel
theorem dX1_sumOf_29 : decode cX1_sumOf 29 = .ok (.iload 5, 2) := by decide +kernel
theorem dX1_sumOf_31 : decode cX1_sumOf 31 = .ok (.isub, 1) := by decide +kernel
theorem dX1_sumOf_32 : decode cX1_sumOf 32 = .ok (.aload_n 0, 1) := by decide +kernel
theorem dX1_sumOf_33 : decode cX1_sumOf 33 = .ok (.getfield 13, 3) := by decide +kernel
theorem dX1_sumOf_36 : decode cX1_sumOf 36 = .ok (.iload_n 1, 1) := by decide +kernel
theorem dX1_sumOf_37 : decode cX1_sumOf 37 = .ok (.iload 5, 2) := by decide +kernel
theorem dX1_sumOf_39 : decode cX1_sumOf 39 = .ok (.iadd, 1) := by decide +kernel
theorem dX1_sumOf_40 : decode cX1_sumOf 40 = .ok (.iaload, 1) := by decide +kernel
theorem dX1_sumOf_41 : decode cX1_sumOf 41 = .ok (.imul, 1) := by decide +kernel
theorem dX1_sumOf_42 : decode cX1_sumOf 42 = .ok (.iadd, 1) := by decide +kernel
theorem dX1_sumOf_43 : decode cX1_sumOf 43 = .ok (.istore 4, 2) := by decide +kernel
theorem dX1_sumOf_45 : decode cX1_sumOf 45 = .ok (.iinc 5 1, 3) := by decide +kernel
theorem dX1_sumOf_48 : decode cX1_sumOf 48 = .ok (.goto (-40), 3) := by decide +kernel
theorem dX1_sumOf_51 : decode cX1_sumOf 51 = .ok (.iload_n 3, 1) := by decide +kernel
theorem dX1_sumOf_52 : decode cX1_sumOf 52 = .ok (.sipush 256, 3) := by decide +kernel
theorem dX1_sumOf_55 : decode cX1_sumOf 55 = .ok (.irem, 1) := by decide +kernel
theorem dX1_sumOf_56 : decode cX1_sumOf 56 = .ok (.sipush 256, 3) := by decide +kernel
theorem dX1_sumOf_59 : decode cX1_sumOf 59 = .ok (.iload 4, 2) := by decide +kernel
theorem dX1_sumOf_61 : decode cX1_sumOf 61 = .ok (.sipush 256, 3) := by decide +kernel
theorem dX1_sumOf_64 : decode cX1_sumOf 64 = .ok (.irem, 1) := by decide +kernel
theorem dX1_sumOf_65 : decode cX1_sumOf 65 = .ok (.imul, 1) := by decide +kernel
theorem dX1_sumOf_66 : decode cX1_sumOf 66 = .ok (.iadd, 1) := by decide +kernel
theorem dX1_sumOf_67 : decode cX1_sumOf 67 = .ok (.ireturn, 1) := by decide +kernel
set_option maxRecDepth 20000 in
theorem ggX2_init_Jx4a65c_init_da8c8 : GoodIn wsX2_init wsJx4a65c_init_da8c8 := goodIn_r _ [21, 22, 23, 24, 25, 26, 27, 28, 29, 30, 31, 32, 33, 2, 3, 65, 66, 67] (by decide +kernel) (by decide +kernel)
set_option maxRecDepth 20000 in
theorem gX2_init_Jx4a65c_init_da8c8 : GoodIn wsX2_init (wsJx4a65c_init_da8c8) := ggX2_init_Jx4a65c_init_da8c8
set_option maxRecDepth 20000 in
theorem ggX2_init_X1_init : GoodIn wsX2_init wsX1_init := goodIn_r _ [36, 37, 2, 3, 38, 39, 40, 41, 42, 43, 44, 45, 46, 47, 48, 4, 49, 50, 51, 52, 53, 54, 55, 56, 68] (by decide +kernel) (by decide +kernel)
set_option maxRecDepth 20000 in
theorem gX2_init_X1_init : GoodIn wsX2_init (wsX1_init) := ggX2_init_X1_init
theorem dX2_init_0 : decode cX2_init 0 = .ok (.aload_n 0, 1) := by decide +kernel
theorem dX2_init_1 : decode cX2_init 1 = .ok (.invokespecial 1, 3) := by decide +kernel
theorem dX2_init_4 : decode cX2_init 4 = .ok (.aload_n 0, 1) := by decide +kernel
theorem dX2_init_5 : decode cX2_init 5 = .ok (.sipush 400, 3) := by decide +kernel
theorem dX2_init_8 : decode cX2_init 8 = .ok (.newarray .int, 2) := by decide +kernel
theorem dX2_init_10 : decode cX2_init 10 = .ok (.putfield 9, 3) := by decide +kernel
theorem dX2_init_13 : decode cX2_init 13 = .ok (.aload_n 0, 1) := by decide +kernel
theorem dX2_init_14 : decode cX2_init 14 = .ok (.iconst 0, 1) := by decide +kernel
theorem dX2_init_15 : decode cX2_init 15 = .ok (.putfield 13, 3) := by decide +kernel
theorem dX2_init_18 : decode cX2_init 18 = .ok (.aload_n 0, 1) := by decide +kernel
theorem dX2_init_19 : decode cX2_init 19 = .ok (.new 17, 3) := by decide +kernel
theorem dX2_init_22 : decode cX2_init 22 = .ok (.dup, 1) := by decide +kernel
theorem dX2_init_23 : decode cX2_init 23 = .ok (.invokespecial 19, 3) := by decide +kernel
theorem dX2_init_26 : decode cX2_init 26 = .ok (.putfield 20, 3) := by decide +kernel
theorem dX2_init_29 : decode cX2_init 29 = .ok (.aload_n 0, 1) := by decide +kernel
theorem dX2_init_30 : decode cX2_init 30 = .ok (.new 17, 3) := by decide +kernel
theorem dX2_init_33 : decode cX2_init 33 = .ok (.dup, 1) := by decide +kernel
theorem dX2_init_34 : decode cX2_init 34 = .ok (.invokespecial 19, 3) := by decide +kernel
theorem dX2_init_37 : decode cX2_init 37 = .ok (.putfield 24, 3) := by decide +kernel
theorem dX2_init_40 : decode cX2_init 40 = .ok (.aload_n 0, 1) := by decide +kernel
theorem dX2_init_41 : decode cX2_init 41 = .ok (.new 27, 3) := by decide +kernel
theorem dX2_init_44 : decode cX2_init 44 = .ok (.dup, 1) := by decide +kernel
theorem dX2_init_45 : decode cX2_init 45 = .ok (.iconst 0, 1) := by decide +kernel
theorem dX2_init_46 : decode cX2_init 46 = .ok (.newarray .int, 2) := by decide +kernel
theorem dX2_init_48 : decode cX2_init 48 = .ok (.iconst 0, 1) := by decide +kernel
theorem dX2_init_49 : decode cX2_init 49 = .ok (.invokespecial 29, 3) := by decide +kernel
theorem dX2_init_52 : decode cX2_init 52 = .ok (.putfield 32, 3) := by decide +kernel
theorem dX2_init_55 : decode cX2_init 55 = .ok (.aload_n 0, 1) := by decide +kernel
theorem dX2_init_56 : decode cX2_init 56 = .ok (.new 17, 3) := by decide +kernel
theorem dX2_init_59 : decode cX2_init 59 = .ok (.dup, 1) := by decide +kernel
theorem dX2_init_60 : decode cX2_init 60 = .ok (.invokespecial 19, 3) := by decide +kernel
theorem dX2_init_63 : decode cX2_init 63 = .ok (.putfield 36, 3) := by decide +kernel
theorem dX2_init_66 : decode cX2_init 66 = .ok (.aload_n 0, 1) := by decide +kernel
theorem dX2_init_67 : decode cX2_init 67 = .ok (.sipush 200, 3) := by decide +kernel
theorem dX2_init_70 : decode cX2_init 70 = .ok (.newarray .int, 2) := by decide +kernel
theorem dX2_init_72 : decode cX2_init 72 = .ok (.putfield 39, 3) := by decide +kernel
theorem dX2_init_75 : decode cX2_init 75 = .ok (.aload_n 0, 1) := by decide +kernel
theorem dX2_init_76 : decode cX2_init 76 = .ok (.bipush 12, 2) := by decide +kernel
theorem dX2_init_78 : decode cX2_init 78 = .ok (.newarray .int, 2) := by decide +kernel
theorem dX2_init_80 : decode cX2_init 80 = .ok (.putfield 42, 3) := by decide +kernel
theorem dX2_init_83 : decode cX2_init 83 = .ok (.return_, 1) := by decide +kernel
theorem dX2_feed_0 : decode cX2_feed 0 = .ok (.iload_n 3, 1) := by decide +kernel
theorem dX2_feed_1 : decode cX2_feed 1 = .ok (.iconst 1, 1) := by decide +kernel
theorem dX2_feed_2 : decode cX2_feed 2 = .ok (.if_icmp .lt 9, 3) := by decide +kernel
theorem dX2_feed_5 : decode cX2_feed 5 = .ok (.iload_n 3, 1) := by decide +kernel
theorem dX2_feed_6 : decode cX2_feed 6 = .ok (.bipush 8, 2) := by decide +kernel
theorem dX2_feed_8 : decode cX2_feed 8 = .ok (.if_icmp .le 13, 3) := by decide +kernel
theorem dX2_feed_11 : decode cX2_feed 11 = .ok (.new 45, 3) := by decide +kernel
theorem dX2_feed_14 : decode cX2_feed 14 = .ok (.dup, 1) := by decide +kernel
theorem dX2_feed_15 : decode cX2_feed 15 = .ok (.ldc 47, 2) := by decide +kernel
theorem dX2_feed_17 : decode cX2_feed 17 = .ok (.invokespecial 49, 3) := by decide +kernel
theorem dX2_feed_20 : decode cX2_feed 20 = .ok (.athrow, 1) := by decide +kernel
theorem dX2_feed_21 : decode cX2_feed 21 = .ok (.aload_n 0, 1) := by decide +kernel
theorem dX2_feed_22 : decode cX2_feed 22 = .ok (.getfield 13, 3) := by decide +kernel
theorem dX2_feed_25 : decode cX2_feed 25 = .ok (.iload_n 3, 1) := by decide +kernel
theorem dX2_feed_26 : decode cX2_feed 26 = .ok (.iadd, 1) := by decide +kernel
theorem dX2_feed_27 : decode cX2_feed 27 = .ok (.sipush 400, 3) := by decide +kernel
theorem dX2_feed_30 : decode cX2_feed 30 = .ok (.if_icmp .le 13, 3) := by decide +kernel
theorem dX2_feed_33 : decode cX2_feed 33 = .ok (.new 52, 3) := by decide +kernel
theorem dX2_feed_36 : decode cX2_feed 36 = .ok (.dup, 1) := by decide +kernel
theorem dX2_feed_37 : decode cX2_feed 37 = .ok (.ldc 54, 2) := by decide +kernel
theorem dX2_feed_39 : decode cX2_feed 39 = .ok (.invokespecial 56, 3) := by decide +kernel
theorem dX2_feed_42 : decode cX2_feed 42 = .ok (.athrow, 1) := by decide +kernel
theorem dX2_feed_43 : decode cX2_feed 43 = .ok (.iconst 0, 1) := by decide +kernel
theorem dX2_feed_44 : decode cX2_feed 44 = .ok (.istore 4, 2) := by decide +kernel
theorem dX2_feed_46 : decode cX2_feed 46 = .ok (.iload 4, 2) := by decide +kernel
theorem dX2_feed_48 : decode cX2_feed 48 = .ok (.iload_n 3, 1) := by decide +kernel
theorem dX2_feed_49 : decode cX2_feed 49 = .ok (.if_icmp .ge 37, 3) := by decide +kernel
theorem dX2_feed_52 : decode cX2_feed 52 = .ok (.aload_n 0, 1) := by decide +kernel
theorem dX2_feed_53 : decode cX2_feed 53 = .ok (.getfield 9, 3) := by decide +kernel
theorem dX2_feed_56 : decode cX2_feed 56 = .ok (.aload_n 0, 1) := by decide +kernel
theorem dX2_feed_57 : decode cX2_feed 57 = .ok (.getfield 13, 3) := by decide +kernel
theorem dX2_feed_60 : decode cX2_feed 60 = .ok (.iload 4, 2) := by decide +kernel
theorem dX2_feed_62 : decode cX2_feed 62 = .ok (.iadd, 1) := by decide +kernel
theorem dX2_feed_63 : decode cX2_feed 63 = .ok (.lload_n 1, 1) := by decide +kernel
theorem dX2_feed_64 : decode cX2_feed 64 = .ok (.bipush 8, 2) := by decide +kernel
theorem dX2_feed_66 : decode cX2_feed 66 = .ok (.iload_n 3, 1) := by decide +kernel
theorem dX2_feed_67 : decode cX2_feed 67 = .ok (.iconst 1, 1) := by decide +kernel
theorem dX2_feed_68 : decode cX2_feed 68 = .ok (.isub, 1) := by decide +kernel
theorem dX2_feed_69 : decode cX2_feed 69 = .ok (.iload 4, 2) := by decide +kernel
theorem dX2_feed_71 : decode cX2_feed 71 = .ok (.isub, 1) := by decide +kernel
theorem dX2_feed_72 : decode cX2_feed 72 = .ok (.imul, 1) := by decide +kernel
theorem dX2_feed_73 : decode cX2_feed 73 = .ok (.lushr, 1) := by decide +kernel
theorem dX2_feed_74 : decode cX2_feed 74 = .ok (.l2i, 1) := by decide +kernel
theorem dX2_feed_75 : decode cX2_feed 75 = .ok (.sipush 255, 3) := by decide +kernel
theorem dX2_feed_78 : decode cX2_feed 78 = .ok (.iand, 1) := by decide +kernel
theorem dX2_feed_79 : decode cX2_feed 79 = .ok (.iastore, 1) := by decide +kernel
theorem dX2_feed_80 : decode cX2_feed 80 = .ok (.iinc 4 1, 3) := by decide +kernel
theorem dX2_feed_83 : decode cX2_feed 83 = .ok (.goto (-37), 3) := by decide +kernel
theorem dX2_feed_86 : decode cX2_feed 86 = .ok (.aload_n 0, 1) := by decide +kernel
theorem dX2_feed_87 : decode cX2_feed 87 = .ok (.dup, 1) := by decide +kernel
theorem dX2_feed_88 : decode cX2_feed 88 = .ok (.getfield 13, 3) := by decide +kernel
theorem dX2_feed_91 : decode cX2_feed 91 = .ok (.iload_n 3, 1) := by decide +kernel
theorem dX2_feed_92 : decode cX2_feed 92 = .ok (.iadd, 1) := by decide +kernel
theorem dX2_feed_93 : decode cX2_feed 93 = .ok (.putfield 13, 3) := by decide +kernel
theorem dX2_feed_96 : decode cX2_feed 96 = .ok (.aload_n 0, 1) := by decide +kernel
theorem dX2_feed_97 : decode cX2_feed 97 = .ok (.getfield 13, 3) := by decide +kernel
theorem dX2_feed_100 : decode cX2_feed 100 = .ok (.ireturn, 1) := by decide +kernel
set_option maxRecDepth 20000 in
theorem ggX2_store_X2_checkRoomForVersion : GoodIn wsX2_store wsX2_checkRoomForVersion := goodIn_ca (goodIn_r _ [11, 12, 13, 1, 14, 15, 16, 17, 18, 19, 91, 92, 93, 94, 95, 96, 97, 98, 100, 101, 102] (by decide +kernel) (by decide +kernel)) (goodIn_sub (fun _ h => List.mem_cons_of_mem _ (List.mem_append_right _ h)) (by decide +kernel))
set_option maxRecDepth 20000 in
theorem gX2_store_X2_checkRoomForVersion : GoodIn wsX2_store (wsV RX2 57 RX2 yX2_checkRoomForVersion wsX2_checkRoomForVersion) := goodIn_app (goodIn_of _ (by decide +kernel)) ggX2_store_X2_checkRoomForVersion
set_option maxRecDepth 20000 in
theorem ggX2_store_X1_init : GoodIn wsX2_store wsX1_init := goodIn_r _ [22, 23, 24, 25, 26, 27, 28, 29, 30, 31, 32, 33, 34, 35, 36, 37, 38, 39, 40, 41, 42, 43, 44, 45, 99] (by decide +kernel) (by decide +kernel)
set_option maxRecDepth 20000 in
theorem gX2_store_X1_init : GoodIn wsX2_store (wsX1_init) := ggX2_store_X1_init
set_option maxRecDepth 20000 in
theorem ggX2_store_Jx4a65c_add_9ea2d : GoodIn wsX2_store wsJx4a65c_add_9ea2d := goodIn_r _ [49, 50, 51, 52, 19, 53, 54, 55, 17, 56, 57, 58, 59, 60, 61, 62, 63, 64, 65, 66, 67, 40, 68, 69, 70, 71, 72, 73, 74, 75, 76, 77, 78, 79, 80, 29, 81, 82, 83, 84, 85, 86, 87, 88, 89, 90, 38, 39, 41, 42, 43, 44, 45, 100, 101, 102] (by decide +kernel) (by decide +kernel)
set_option maxRecDepth 20000 in
theorem gX2_store_Jx4a65c_add_9ea2d : GoodIn wsX2_store (wsV RX2 60 RJx4a65c yJx4a65c_add_9ea2d wsJx4a65c_add_9ea2d) := goodIn_app (goodIn_of _ (by decide +kernel)) ggX2_store_Jx4a65c_add_9ea2d
set_option maxRecDepth 20000 in
theorem ggX2_store_Jx4a65c_size_8abf5 : GoodIn wsX2_store wsJx4a65c_size_8abf5 := goodIn_r _ [18, 19, 100, 101, 102] (by decide +kernel) (by decide +kernel)
set_option maxRecDepth 20000 in
theorem gX2_store_Jx4a65c_size_8abf5 : GoodIn wsX2_store (wsV RX2 64 RJx4a65c yJx4a65c_size_8abf5 wsJx4a65c_size_8abf5) := goodIn_app (goodIn_of _ (by decide +kernel)) ggX2_store_Jx4a65c_size_8abf5
theorem dX2_store_0 : decode cX2_store 0 = .ok (.aload_n 0, 1) := by decide +kernel
theorem dX2_store_1 : decode cX2_store 1 = .ok (.invokevirtual 57, 3) := by decide +kernel
theorem dX2_store_4 : decode cX2_store 4 = .ok (.aload_n 0, 1) := by decide +kernel
theorem dX2_store_5 : decode cX2_store 5 = .ok (.getfield 20, 3) := by decide +kernel
theorem dX2_store_8 : decode cX2_store 8 = .ok (.new 27, 3) := by decide +kernel
theorem dX2_store_11 : decode cX2_store 11 = .ok (.dup, 1) := by decide +kernel
theorem dX2_store_12 : decode cX2_store 12 = .ok (.aload_n 0, 1) := by decide +kernel
theorem dX2_store_13 : decode cX2_store 13 = .ok (.getfield 9, 3) := by decide +kernel
theorem dX2_store_16 : decode cX2_store 16 = .ok (.aload_n 0, 1) := by decide +kernel
theorem dX2_store_17 : decode cX2_store 17 = .ok (.getfield 13, 3) := by decide +kernel
theorem dX2_store_20 : decode cX2_store 20 = .ok (.invokespecial 29, 3) := by decide +kernel
theorem dX2_store_23 : decode cX2_store 23 = .ok (.invokevirtual 60, 3) := by decide +kernel
theorem dX2_store_26 : decode cX2_store 26 = .ok (.pop, 1) := by decide +kernel
theorem dX2_store_27 : decode cX2_store 27 = .ok (.aload_n 0, 1) := by decide +kernel
theorem dX2_store_28 : decode cX2_store 28 = .ok (.iconst 0, 1) := by decide +kernel
theorem dX2_store_29 : decode cX2_store 29 = .ok (.putfield 13, 3) := by decide +kernel
theorem dX2_store_32 : decode cX2_store 32 = .ok (.aload_n 0, 1) := by decide +kernel
theorem dX2_store_33 : decode cX2_store 33 = .ok (.getfield 20, 3) := by decide +kernel
theorem dX2_store_36 : decode cX2_store 36 = .ok (.invokevirtual 64, 3) := by decide +kernel
theorem dX2_store_39 : decode cX2_store 39 = .ok (.iconst 1, 1) := by decide +kernel
theorem dX2_store_40 : decode cX2_store 40 = .ok (.isub, 1) := by decide +kernel
theorem dX2_store_41 : decode cX2_store 41 = .ok (.ireturn, 1) := by decide +kernel
set_option maxRecDepth 20000 in
theorem ggX2_length_X2_rowOf : GoodIn wsX2_length wsX2_rowOf := goodIn_ca (goodIn_r _ [6, 7, 8, 9, 10, 11, 12, 13, 14, 15, 16, 17, 18, 19, 20, 21, 22, 23, 24, 25, 26, 27, 28, 29, 30, 31, 32, 33, 35, 36, 37, 38, 39, 40, 41, 42, 43, 44, 45] (by decide +kernel) (by decide +kernel)) (goodIn_sub (fun _ h => List.mem_cons_of_mem _ (List.mem_append_right _ h)) (by decide +kernel))
set_option maxRecDepth 20000 in
theorem gX2_length_X2_rowOf : GoodIn wsX2_length (wsV RX2 68 RX2 yX2_rowOf wsX2_rowOf) := goodIn_app (goodIn_of _ (by decide +kernel)) ggX2_length_X2_rowOf
theorem dX2_length_0 : decode cX2_length 0 = .ok (.aload_n 0, 1) := by decide +kernel
theorem dX2_length_1 : decode cX2_length 1 = .ok (.iload_n 1, 1) := by decide +kernel
theorem dX2_length_2 : decode cX2_length 2 = .ok (.invokevirtual 68, 3) := by decide +kernel
theorem dX2_length_5 : decode cX2_length 5 = .ok (.getfield 72, 3) := by decide +kernel
theorem dX2_length_8 : decode cX2_length 8 = .ok (.arraylength, 1) := by decide +kernel
theorem dX2_length_9 : decode cX2_length 9 = .ok (.ireturn, 1) := by decide +kernel
set_option maxRecDepth 20000 in
theorem ggX2_byteAt_X2_rowOf : GoodIn wsX2_byteAt wsX2_rowOf := goodIn_ca (goodIn_r _ [8, 1, 2, 9, 10, 11, 12, 13, 14, 15, 16, 17, 18, 19, 20, 21, 22, 23, 24, 25, 26, 27, 28, 29, 30, 31, 32, 33, 35, 36, 37, 38, 39, 40, 41, 42, 43, 44, 45] (by decide +kernel) (by decide +kernel)) (goodIn_sub (fun _ h => List.mem_cons_of_mem _ (List.mem_append_right _ h)) (by decide +kernel))
set_option maxRecDepth 20000 in
theorem gX2_byteAt_X2_rowOf : GoodIn wsX2_byteAt (wsV RX2 68 RX2 yX2_rowOf wsX2_rowOf) := goodIn_app (goodIn_of _ (by decide +kernel)) ggX2_byteAt_X2_rowOf
theorem dX2_byteAt_0 : decode cX2_byteAt 0 = .ok (.aload_n 0, 1) := by decide +kernel
theorem dX2_byteAt_1 : decode cX2_byteAt 1 = .ok (.iload_n 1, 1) := by decide +kernel
theorem dX2_byteAt_2 : decode cX2_byteAt 2 = .ok (.invokevirtual 68, 3) := by decide +kernel
theorem dX2_byteAt_5 : decode cX2_byteAt 5 = .ok (.astore_n 3, 1) := by decide +kernel
theorem dX2_byteAt_6 : decode cX2_byteAt 6 = .ok (.iload_n 2, 1) := by decide +kernel
theorem dX2_byteAt_7 : decode cX2_byteAt 7 = .ok (.ifCond .lt 12, 3) := by decide +kernel
theorem dX2_byteAt_10 : decode cX2_byteAt 10 = .ok (.iload_n 2, 1) := by decide +kernel
theorem dX2_byteAt_11 : decode cX2_byteAt 11 = .ok (.aload_n 3, 1) := by decide +kernel
theorem dX2_byteAt_12 : decode cX2_byteAt 12 = .ok (.getfield 72, 3) := by decide +kernel
theorem dX2_byteAt_15 : decode cX2_byteAt 15 = .ok (.arraylength, 1) := by decide +kernel
theorem dX2_byteAt_16 : decode cX2_byteAt 16 = .ok (.if_icmp .lt 13, 3) := by decide +kernel
theorem dX2_byteAt_19 : decode cX2_byteAt 19 = .ok (.new 75, 3) := by decide +kernel
theorem dX2_byteAt_22 : decode cX2_byteAt 22 = .ok (.dup, 1) := by decide +kernel
theorem dX2_byteAt_23 : decode cX2_byteAt 23 = .ok (.ldc 77, 2) := by decide +kernel
theorem dX2_byteAt_25 : decode cX2_byteAt 25 = .ok (.invokespecial 79, 3) := by decide +kernel
theorem dX2_byteAt_28 : decode cX2_byteAt 28 = .ok (.athrow, 1) := by decide +kernel
theorem dX2_byteAt_29 : decode cX2_byteAt 29 = .ok (.aload_n 3, 1) := by decide +kernel
theorem dX2_byteAt_30 : decode cX2_byteAt 30 = .ok (.getfield 72, 3) := by decide +kernel
theorem dX2_byteAt_33 : decode cX2_byteAt 33 = .ok (.iload_n 2, 1) := by decide +kernel
theorem dX2_byteAt_34 : decode cX2_byteAt 34 = .ok (.iaload, 1) := by decide +kernel
theorem dX2_byteAt_35 : decode cX2_byteAt 35 = .ok (.ireturn, 1) := by decide +kernel
set_option maxRecDepth 20000 in
theorem ggX2_difference_X2_rowOf : GoodIn wsX2_difference wsX2_rowOf := goodIn_ca (goodIn_r _ [9, 10, 11, 12, 13, 14, 15, 16, 17, 18, 19, 20, 21, 22, 23, 24, 25, 26, 27, 28, 29, 30, 31, 32, 33, 34, 35, 36, 161, 162, 163, 164, 165, 166, 167, 168, 176, 177, 178] (by decide +kernel) (by decide +kernel)) (goodIn_sub (fun _ h => List.mem_cons_of_mem _ (List.mem_append_left _ (List.mem_append_left _ (List.mem_append_right _ h)))) (by decide +kernel))
set_option maxRecDepth 20000 in
theorem gX2_difference_X2_rowOf : GoodIn wsX2_difference (wsV RX2 68 RX2 yX2_rowOf wsX2_rowOf) := goodIn_app (goodIn_of _ (by decide +kernel)) ggX2_difference_X2_rowOf
set_option maxRecDepth 20000 in
theorem ggX2_difference_X2_checkSize : GoodIn wsX2_difference wsX2_checkSize := goodIn_ca (goodIn_r _ [39, 40, 41] (by decide +kernel) (by decide +kernel)) (goodIn_sub (fun _ h => List.mem_cons_of_mem _ (List.mem_append_left _ (List.mem_append_right _ h))) (by decide +kernel))
set_option maxRecDepth 20000 in
theorem gX2_difference_X2_checkSize : GoodIn wsX2_difference (va_wsS RX2 92 yX2_checkSize wsX2_checkSize) := goodIn_app (goodIn_of _ (by decide +kernel)) ggX2_difference_X2_checkSize
set_option maxRecDepth 20000 in
theorem ggX2_difference_X2_checkRoomForPatch : GoodIn wsX2_difference wsX2_checkRoomForPatch := goodIn_ca (goodIn_r _ [45, 46, 47, 1, 14, 15, 16, 17, 18, 19, 161, 162, 163, 164, 165, 166, 167, 168, 176, 177, 178] (by decide +kernel) (by decide +kernel)) (goodIn_sub (fun _ h => List.mem_cons_of_mem _ (List.mem_append_right _ h)) (by decide +kernel))
set_option maxRecDepth 20000 in
theorem gX2_difference_X2_checkRoomForPatch : GoodIn wsX2_difference (wsV RX2 104 RX2 yX2_checkRoomForPatch wsX2_checkRoomForPatch) := goodIn_app (goodIn_of _ (by decide +kernel)) ggX2_difference_X2_checkRoomForPatch
set_option maxRecDepth 20000 in
theorem ggX2_difference_X2_originsByBlocks : GoodIn wsX2_difference wsX2_originsByBlocks := goodIn_r _ [50, 51, 52, 53, 54, 8, 55, 56, 57, 58, 59, 60, 61, 62, 63, 64, 179] (by decide +kernel) (by decide +kernel)
set_option maxRecDepth 20000 in
theorem gX2_difference_X2_originsByBlocks : GoodIn wsX2_difference (va_wsS RX2 107 yX2_originsByBlocks wsX2_originsByBlocks) := goodIn_app (goodIn_of _ (by decide +kernel)) ggX2_difference_X2_originsByBlocks
set_option maxRecDepth 20000 in
theorem ggX2_difference_X2_firstLike : GoodIn wsX2_difference wsX2_firstLike := goodIn_ca (goodIn_r _ [68, 5, 6, 7, 8, 9, 10, 11, 12, 13, 14, 15, 16, 17, 18, 19, 20, 21, 22, 23, 24, 25, 26, 27, 28, 29, 30, 31, 32, 33, 34, 35, 36, 69, 70, 71, 59, 72, 61, 73, 57, 58, 60, 161, 162, 163, 164, 165, 166, 167, 168, 176, 177, 178, 179] (by decide +kernel) (by decide +kernel)) (goodIn_sub (fun _ h => List.mem_cons_of_mem _ (List.mem_append_left _ (List.mem_append_left _ (List.mem_append_right _ h)))) (by decide +kernel))
set_option maxRecDepth 20000 in
theorem gX2_difference_X2_firstLike : GoodIn wsX2_difference (wsV RX2 113 RX2 yX2_firstLike wsX2_firstLike) := goodIn_app (goodIn_of _ (by decide +kernel)) ggX2_difference_X2_firstLike
set_option maxRecDepth 20000 in
theorem ggX2_difference_X0_init : GoodIn wsX2_difference wsX0_init := goodIn_r _ [76, 77, 78, 79, 80, 81, 82, 83, 84, 85, 86, 87, 88, 4, 89, 52, 90, 91, 92, 93, 94, 95, 96, 97, 98, 99, 100, 101, 102, 103, 104, 105, 106, 107, 108, 109, 110, 111, 112, 113, 114, 115, 116, 169, 170, 171, 172, 173, 174, 175] (by decide +kernel) (by decide +kernel)
set_option maxRecDepth 20000 in
theorem gX2_difference_X0_init : GoodIn wsX2_difference (wsX0_init) := ggX2_difference_X0_init
set_option maxRecDepth 20000 in
theorem ggX2_difference_Jx4a65c_add_9ea2d : GoodIn wsX2_difference wsJx4a65c_add_9ea2d := goodIn_r _ [120, 121, 122, 36, 19, 123, 124, 125, 17, 126, 127, 128, 129, 130, 131, 132, 133, 134, 135, 136, 137, 105, 138, 139, 140, 141, 142, 143, 144, 145, 146, 147, 148, 149, 150, 95, 151, 152, 153, 154, 155, 156, 157, 158, 159, 160, 103, 104, 106, 107, 108, 109, 110, 176, 177, 178] (by decide +kernel) (by decide +kernel)
set_option maxRecDepth 20000 in
theorem gX2_difference_Jx4a65c_add_9ea2d : GoodIn wsX2_difference (wsV RX2 60 RJx4a65c yJx4a65c_add_9ea2d wsJx4a65c_add_9ea2d) := goodIn_app (goodIn_of _ (by decide +kernel)) ggX2_difference_Jx4a65c_add_9ea2d
set_option maxRecDepth 20000 in
theorem ggX2_difference_Jx4a65c_size_8abf5 : GoodIn wsX2_difference wsJx4a65c_size_8abf5 := goodIn_r _ [18, 19, 176, 177, 178] (by decide +kernel) (by decide +kernel)
set_option maxRecDepth 20000 in
theorem gX2_difference_Jx4a65c_size_8abf5 : GoodIn wsX2_difference (wsV RX2 64 RJx4a65c yJx4a65c_size_8abf5 wsJx4a65c_size_8abf5) := goodIn_app (goodIn_of _ (by decide +kernel)) ggX2_difference_Jx4a65c_size_8abf5
theorem dX2_difference_0 : decode cX2_difference 0 = .ok (.aload_n 0, 1) := by decide +kernel
theorem dX2_difference_1 : decode cX2_difference 1 = .ok (.iload_n 1, 1) := by decide +kernel
theorem dX2_difference_2 : decode cX2_difference 2 = .ok (.invokevirtual 68, 3) := by decide +kernel
theorem dX2_difference_5 : decode cX2_difference 5 = .ok (.astore 4, 2) := by decide +kernel
theorem dX2_difference_7 : decode cX2_difference 7 = .ok (.aload_n 0, 1) := by decide +kernel
theorem dX2_difference_8 : decode cX2_difference 8 = .ok (.iload_n 2, 1) := by decide +kernel
theorem dX2_difference_9 : decode cX2_difference 9 = .ok (.invokevirtual 68, 3) := by decide +kernel
theorem dX2_difference_12 : decode cX2_difference 12 = .ok (.astore 5, 2) := by decide +kernel
theorem dX2_difference_14 : decode cX2_difference 14 = .ok (.iload_n 3, 1) := by decide +kernel
theorem dX2_difference_15 : decode cX2_difference 15 = .ok (.invokestatic 92, 3) := by decide +kernel
theorem dX2_difference_18 : decode cX2_difference 18 = .ok (.aload_n 0, 1) := by decide +kernel
theorem dX2_difference_19 : decode cX2_difference 19 = .ok (.invokevirtual 104, 3) := by decide +kernel
theorem dX2_difference_22 : decode cX2_difference 22 = .ok (.aload 4, 2) := by decide +kernel
theorem dX2_difference_24 : decode cX2_difference 24 = .ok (.aload 5, 2) := by decide +kernel
theorem dX2_difference_26 : decode cX2_difference 26 = .ok (.iload_n 3, 1) := by decide +kernel
theorem dX2_difference_27 : decode cX2_difference 27 = .ok (.invokestatic 107, 3) := by decide +kernel
theorem dX2_difference_30 : decode cX2_difference 30 = .ok (.astore 6, 2) := by decide +kernel
theorem dX2_difference_32 : decode cX2_difference 32 = .ok (.aload_n 0, 1) := by decide +kernel
theorem dX2_difference_33 : decode cX2_difference 33 = .ok (.getfield 24, 3) := by decide +kernel
theorem dX2_difference_36 : decode cX2_difference 36 = .ok (.new 111, 3) := by decide +kernel
theorem dX2_difference_39 : decode cX2_difference 39 = .ok (.dup, 1) := by decide +kernel
theorem dX2_difference_40 : decode cX2_difference 40 = .ok (.aload_n 0, 1) := by decide +kernel
theorem dX2_difference_41 : decode cX2_difference 41 = .ok (.iload_n 1, 1) := by decide +kernel
theorem dX2_difference_42 : decode cX2_difference 42 = .ok (.invokevirtual 113, 3) := by decide +kernel
theorem dX2_difference_45 : decode cX2_difference 45 = .ok (.aload_n 0, 1) := by decide +kernel
theorem dX2_difference_46 : decode cX2_difference 46 = .ok (.iload_n 2, 1) := by decide +kernel
theorem dX2_difference_47 : decode cX2_difference 47 = .ok (.invokevirtual 113, 3) := by decide +kernel
theorem dX2_difference_50 : decode cX2_difference 50 = .ok (.aload 5, 2) := by decide +kernel
theorem dX2_difference_52 : decode cX2_difference 52 = .ok (.aload 6, 2) := by decide +kernel
theorem dX2_difference_54 : decode cX2_difference 54 = .ok (.invokespecial 117, 3) := by decide +kernel
theorem dX2_difference_57 : decode cX2_difference 57 = .ok (.invokevirtual 60, 3) := by decide +kernel
theorem dX2_difference_60 : decode cX2_difference 60 = .ok (.pop, 1) := by decide +kernel
theorem dX2_difference_61 : decode cX2_difference 61 = .ok (.aload_n 0, 1) := by decide +kernel
theorem dX2_difference_62 : decode cX2_difference 62 = .ok (.getfield 24, 3) := by decide +kernel
theorem dX2_difference_65 : decode cX2_difference 65 = .ok (.invokevirtual 64, 3) := by decide +kernel
theorem dX2_difference_68 : decode cX2_difference 68 = .ok (.iconst 1, 1) := by decide +kernel
theorem dX2_difference_69 : decode cX2_difference 69 = .ok (.isub, 1) := by decide +kernel
theorem dX2_difference_70 : decode cX2_difference 70 = .ok (.ireturn, 1) := by decide +kernel
set_option maxRecDepth 20000 in
theorem ggX2_compose_X2_patchOf : GoodIn wsX2_compose wsX2_patchOf := goodIn_ca (goodIn_r _ [15, 16, 17, 6, 18, 19, 20, 21, 22, 23, 24, 25, 26, 27, 28, 29, 30, 31, 32, 33, 34, 35, 36, 37, 38, 39, 40, 41, 146, 147, 148, 149, 150, 151, 152, 153, 154, 155, 156] (by decide +kernel) (by decide +kernel)) (goodIn_sub (fun _ h => List.mem_cons_of_mem _ (List.mem_append_left _ (List.mem_append_right _ h))) (by decide +kernel))
set_option maxRecDepth 20000 in
theorem gX2_compose_X2_patchOf : GoodIn wsX2_compose (wsV RX2 120 RX2 yX2_patchOf wsX2_patchOf) := goodIn_app (goodIn_of _ (by decide +kernel)) ggX2_compose_X2_patchOf
set_option maxRecDepth 20000 in
theorem ggX2_compose_X2_checkRoomForPatch : GoodIn wsX2_compose wsX2_checkRoomForPatch := goodIn_ca (goodIn_r _ [45, 46, 47, 6, 19, 20, 21, 22, 23, 24, 146, 147, 148, 149, 150, 151, 152, 153, 154, 155, 156] (by decide +kernel) (by decide +kernel)) (goodIn_sub (fun _ h => List.mem_cons_of_mem _ (List.mem_append_right _ h)) (by decide +kernel))
set_option maxRecDepth 20000 in
theorem gX2_compose_X2_checkRoomForPatch : GoodIn wsX2_compose (wsV RX2 104 RX2 yX2_checkRoomForPatch wsX2_checkRoomForPatch) := goodIn_app (goodIn_of _ (by decide +kernel)) ggX2_compose_X2_checkRoomForPatch
set_option maxRecDepth 20000 in
theorem ggX2_compose_X2_originsThrough : GoodIn wsX2_compose wsX2_originsThrough := goodIn_r _ [50, 51] (by decide +kernel) (by decide +kernel)
set_option maxRecDepth 20000 in
theorem gX2_compose_X2_originsThrough : GoodIn wsX2_compose (va_wsS RX2 135 yX2_originsThrough wsX2_originsThrough) := goodIn_app (goodIn_of _ (by decide +kernel)) ggX2_compose_X2_originsThrough
set_option maxRecDepth 20000 in
theorem ggX2_compose_X0_init : GoodIn wsX2_compose wsX0_init := goodIn_r _ [54, 55, 56, 57, 58, 59, 60, 61, 62, 63, 64, 65, 66, 9, 67, 51, 68, 69, 70, 71, 72, 73, 74, 75, 76, 77, 78, 79, 80, 81, 82, 83, 84, 85, 86, 87, 88, 89, 90, 91, 92, 93, 94, 139, 140, 141, 142, 143, 144, 145] (by decide +kernel) (by decide +kernel)
set_option maxRecDepth 20000 in
theorem gX2_compose_X0_init : GoodIn wsX2_compose (wsX0_init) := ggX2_compose_X0_init
set_option maxRecDepth 20000 in
theorem ggX2_compose_Jx4a65c_add_9ea2d : GoodIn wsX2_compose wsJx4a65c_add_9ea2d := goodIn_r _ [98, 99, 100, 41, 24, 101, 102, 103, 22, 104, 105, 106, 107, 108, 109, 110, 111, 112, 113, 114, 115, 83, 116, 117, 118, 119, 120, 121, 122, 123, 124, 125, 126, 127, 128, 73, 129, 130, 131, 132, 133, 134, 135, 136, 137, 138, 81, 82, 84, 85, 86, 87, 88, 154, 155, 156] (by decide +kernel) (by decide +kernel)
set_option maxRecDepth 20000 in
theorem gX2_compose_Jx4a65c_add_9ea2d : GoodIn wsX2_compose (wsV RX2 60 RJx4a65c yJx4a65c_add_9ea2d wsJx4a65c_add_9ea2d) := goodIn_app (goodIn_of _ (by decide +kernel)) ggX2_compose_Jx4a65c_add_9ea2d
set_option maxRecDepth 20000 in
theorem ggX2_compose_Jx4a65c_size_8abf5 : GoodIn wsX2_compose wsJx4a65c_size_8abf5 := goodIn_r _ [23, 24, 154, 155, 156] (by decide +kernel) (by decide +kernel)
set_option maxRecDepth 20000 in
theorem gX2_compose_Jx4a65c_size_8abf5 : GoodIn wsX2_compose (wsV RX2 64 RJx4a65c yJx4a65c_size_8abf5 wsJx4a65c_size_8abf5) := goodIn_app (goodIn_of _ (by decide +kernel)) ggX2_compose_Jx4a65c_size_8abf5
theorem dX2_compose_0 : decode cX2_compose 0 = .ok (.aload_n 0, 1) := by decide +kernel
theorem dX2_compose_1 : decode cX2_compose 1 = .ok (.iload_n 1, 1) := by decide +kernel
theorem dX2_compose_2 : decode cX2_compose 2 = .ok (.invokevirtual 120, 3) := by decide +kernel
theorem dX2_compose_5 : decode cX2_compose 5 = .ok (.astore_n 3, 1) := by decide +kernel
theorem dX2_compose_6 : decode cX2_compose 6 = .ok (.aload_n 0, 1) := by decide +kernel
theorem dX2_compose_7 : decode cX2_compose 7 = .ok (.iload_n 2, 1) := by decide +kernel
theorem dX2_compose_8 : decode cX2_compose 8 = .ok (.invokevirtual 120, 3) := by decide +kernel
theorem dX2_compose_11 : decode cX2_compose 11 = .ok (.astore 4, 2) := by decide +kernel
theorem dX2_compose_13 : decode cX2_compose 13 = .ok (.aload_n 3, 1) := by decide +kernel
theorem dX2_compose_14 : decode cX2_compose 14 = .ok (.getfield 124, 3) := by decide +kernel
theorem dX2_compose_17 : decode cX2_compose 17 = .ok (.aload 4, 2) := by decide +kernel
theorem dX2_compose_19 : decode cX2_compose 19 = .ok (.getfield 127, 3) := by decide +kernel
theorem dX2_compose_22 : decode cX2_compose 22 = .ok (.if_icmp .eq 13, 3) := by decide +kernel
theorem dX2_compose_25 : decode cX2_compose 25 = .ok (.new 45, 3) := by decide +kernel
theorem dX2_compose_28 : decode cX2_compose 28 = .ok (.dup, 1) := by decide +kernel
theorem dX2_compose_29 : decode cX2_compose 29 = .ok (.ldc 130, 2) := by decide +kernel
theorem dX2_compose_31 : decode cX2_compose 31 = .ok (.invokespecial 49, 3) := by decide +kernel
theorem dX2_compose_34 : decode cX2_compose 34 = .ok (.athrow, 1) := by decide +kernel
theorem dX2_compose_35 : decode cX2_compose 35 = .ok (.aload_n 0, 1) := by decide +kernel
theorem dX2_compose_36 : decode cX2_compose 36 = .ok (.invokevirtual 104, 3) := by decide +kernel
theorem dX2_compose_39 : decode cX2_compose 39 = .ok (.aload_n 3, 1) := by decide +kernel
theorem dX2_compose_40 : decode cX2_compose 40 = .ok (.getfield 132, 3) := by decide +kernel
theorem dX2_compose_43 : decode cX2_compose 43 = .ok (.aload 4, 2) := by decide +kernel
theorem dX2_compose_45 : decode cX2_compose 45 = .ok (.getfield 132, 3) := by decide +kernel
theorem dX2_compose_48 : decode cX2_compose 48 = .ok (.invokestatic 135, 3) := by decide +kernel
theorem dX2_compose_51 : decode cX2_compose 51 = .ok (.astore 5, 2) := by decide +kernel
theorem dX2_compose_53 : decode cX2_compose 53 = .ok (.aload_n 0, 1) := by decide +kernel
theorem dX2_compose_54 : decode cX2_compose 54 = .ok (.getfield 24, 3) := by decide +kernel
theorem dX2_compose_57 : decode cX2_compose 57 = .ok (.new 111, 3) := by decide +kernel
theorem dX2_compose_60 : decode cX2_compose 60 = .ok (.dup, 1) := by decide +kernel
theorem dX2_compose_61 : decode cX2_compose 61 = .ok (.aload_n 3, 1) := by decide +kernel
theorem dX2_compose_62 : decode cX2_compose 62 = .ok (.getfield 127, 3) := by decide +kernel
theorem dX2_compose_65 : decode cX2_compose 65 = .ok (.aload 4, 2) := by decide +kernel
theorem dX2_compose_67 : decode cX2_compose 67 = .ok (.getfield 124, 3) := by decide +kernel
theorem dX2_compose_70 : decode cX2_compose 70 = .ok (.aload 4, 2) := by decide +kernel
theorem dX2_compose_72 : decode cX2_compose 72 = .ok (.getfield 139, 3) := by decide +kernel
theorem dX2_compose_75 : decode cX2_compose 75 = .ok (.aload 5, 2) := by decide +kernel
theorem dX2_compose_77 : decode cX2_compose 77 = .ok (.invokespecial 117, 3) := by decide +kernel
theorem dX2_compose_80 : decode cX2_compose 80 = .ok (.invokevirtual 60, 3) := by decide +kernel
theorem dX2_compose_83 : decode cX2_compose 83 = .ok (.pop, 1) := by decide +kernel
theorem dX2_compose_84 : decode cX2_compose 84 = .ok (.aload_n 0, 1) := by decide +kernel
theorem dX2_compose_85 : decode cX2_compose 85 = .ok (.getfield 24, 3) := by decide +kernel
theorem dX2_compose_88 : decode cX2_compose 88 = .ok (.invokevirtual 64, 3) := by decide +kernel
theorem dX2_compose_91 : decode cX2_compose 91 = .ok (.iconst 1, 1) := by decide +kernel
theorem dX2_compose_92 : decode cX2_compose 92 = .ok (.isub, 1) := by decide +kernel
theorem dX2_compose_93 : decode cX2_compose 93 = .ok (.ireturn, 1) := by decide +kernel
set_option maxRecDepth 20000 in
theorem ggX2_instructions_X2_patchOf : GoodIn wsX2_instructions wsX2_patchOf := goodIn_ca (goodIn_r _ [6, 7, 8, 9, 10, 11, 12, 13, 14, 15, 16, 17, 18, 19, 20, 21, 22, 23, 24, 25, 26, 27, 28, 29, 30, 31, 32, 33, 41, 42, 43, 44, 45, 46, 47, 48, 49, 50, 51] (by decide +kernel) (by decide +kernel)) (goodIn_sub (fun _ h => List.mem_cons_of_mem _ (List.mem_append_right _ h)) (by decide +kernel))
set_option maxRecDepth 20000 in
theorem gX2_instructions_X2_patchOf : GoodIn wsX2_instructions (wsV RX2 120 RX2 yX2_patchOf wsX2_patchOf) := goodIn_app (goodIn_of _ (by decide +kernel)) ggX2_instructions_X2_patchOf
