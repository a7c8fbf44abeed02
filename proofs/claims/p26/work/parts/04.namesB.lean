theorem dX3_init_0 : decode cX3_init 0 = .ok (.aload_n 0, 1) := by decide +kernel
theorem dX3_init_1 : decode cX3_init 1 = .ok (.invokespecial 3, 3) := by decide +kernel
theorem dX3_init_4 : decode cX3_init 4 = .ok (.aload_n 0, 1) := by decide +kernel
theorem dX3_init_5 : decode cX3_init 5 = .ok (.bipush 80, 2) := by decide +kernel
theorem dX3_init_7 : decode cX3_init 7 = .ok (.newarray .char, 2) := by decide +kernel
theorem dX3_init_9 : decode cX3_init 9 = .ok (.putfield 9, 3) := by decide +kernel
theorem dX3_init_12 : decode cX3_init 12 = .ok (.return_, 1) := by decide +kernel
theorem dX4_init_0 : decode cX4_init 0 = .ok (.aload_n 0, 1) := by decide +kernel
theorem dX4_init_1 : decode cX4_init 1 = .ok (.invokespecial 3, 3) := by decide +kernel
theorem dX4_init_4 : decode cX4_init 4 = .ok (.aload_n 0, 1) := by decide +kernel
theorem dX4_init_5 : decode cX4_init 5 = .ok (.bipush 12, 2) := by decide +kernel
theorem dX4_init_7 : decode cX4_init 7 = .ok (.newarray .int, 2) := by decide +kernel
theorem dX4_init_9 : decode cX4_init 9 = .ok (.putfield 9, 3) := by decide +kernel
theorem dX4_init_12 : decode cX4_init 12 = .ok (.aload_n 0, 1) := by decide +kernel
theorem dX4_init_13 : decode cX4_init 13 = .ok (.bipush 12, 2) := by decide +kernel
theorem dX4_init_15 : decode cX4_init 15 = .ok (.newarray .int, 2) := by decide +kernel
theorem dX4_init_17 : decode cX4_init 17 = .ok (.putfield 15, 3) := by decide +kernel
theorem dX4_init_20 : decode cX4_init 20 = .ok (.return_, 1) := by decide +kernel
theorem dX4_at_0 : decode cX4_at 0 = .ok (.iload_n 1, 1) := by decide +kernel
theorem dX4_at_1 : decode cX4_at 1 = .ok (.ifCond .lt 18, 3) := by decide +kernel
theorem dX4_at_4 : decode cX4_at 4 = .ok (.iload_n 1, 1) := by decide +kernel
theorem dX4_at_5 : decode cX4_at 5 = .ok (.bipush 12, 2) := by decide +kernel
theorem dX4_at_7 : decode cX4_at 7 = .ok (.if_icmp .ge 12, 3) := by decide +kernel
theorem dX4_at_10 : decode cX4_at 10 = .ok (.aload_n 0, 1) := by decide +kernel
theorem dX4_at_11 : decode cX4_at 11 = .ok (.getfield 15, 3) := by decide +kernel
theorem dX4_at_14 : decode cX4_at 14 = .ok (.iload_n 1, 1) := by decide +kernel
theorem dX4_at_15 : decode cX4_at 15 = .ok (.iaload, 1) := by decide +kernel
theorem dX4_at_16 : decode cX4_at 16 = .ok (.goto 5, 3) := by decide +kernel
theorem dX4_at_19 : decode cX4_at 19 = .ok (.bipush (-6), 2) := by decide +kernel
theorem dX4_at_21 : decode cX4_at 21 = .ok (.ireturn, 1) := by decide +kernel
set_option maxRecDepth 20000 in
theorem ggX4_arrange_X4_gather : GoodIn wsX4_arrange wsX4_gather := goodIn_r _ [6, 7, 8, 9, 10, 11, 12, 5, 13, 14, 15, 16, 17, 18, 19, 20, 21, 22, 23, 24, 25, 26, 27, 28, 29, 30, 31, 32, 33, 34, 35, 36, 37, 38, 54, 55, 56, 57, 58, 59, 60, 61, 62, 63, 64, 65] (by decide +kernel) (by decide +kernel)
set_option maxRecDepth 20000 in
theorem gX4_arrange_X4_gather : GoodIn wsX4_arrange (wsV RX4 18 RX4 yX4_gather wsX4_gather) := goodIn_app (goodIn_of _ (by decide +kernel)) ggX4_arrange_X4_gather
set_option maxRecDepth 20000 in
theorem ggX4_arrange_X2_inPhase : GoodIn wsX4_arrange wsX2_inPhase := goodIn_r _ [42, 27, 28, 56, 57, 58, 59, 60, 61, 62, 63, 64, 65] (by decide +kernel) (by decide +kernel)
set_option maxRecDepth 20000 in
theorem gX4_arrange_X2_inPhase : GoodIn wsX4_arrange (wsV RX4 22 RX2 yX2_inPhase wsX2_inPhase) := goodIn_app (goodIn_of _ (by decide +kernel)) ggX4_arrange_X2_inPhase
set_option maxRecDepth 20000 in
theorem ggX4_arrange_J6_bitCount_0f7a4 : GoodIn wsX4_arrange wsJ6_bitCount_0f7a4 := goodIn_r _ [46, 47, 48, 49] (by decide +kernel) (by decide +kernel)
set_option maxRecDepth 20000 in
theorem gX4_arrange_J6_bitCount_0f7a4 : GoodIn wsX4_arrange (va_wsS RX4 28 yJ6_bitCount_0f7a4 wsJ6_bitCount_0f7a4) := goodIn_app (goodIn_of _ (by decide +kernel)) ggX4_arrange_J6_bitCount_0f7a4
set_option maxRecDepth 20000 in
theorem ggX4_arrange_X4_lowestFree : GoodIn wsX4_arrange wsX4_lowestFree := goodIn_r _ [53, 7, 18, 19, 20, 54, 55] (by decide +kernel) (by decide +kernel)
set_option maxRecDepth 20000 in
theorem gX4_arrange_X4_lowestFree : GoodIn wsX4_arrange (wsV RX4 33 RX4 yX4_lowestFree wsX4_lowestFree) := goodIn_app (goodIn_of _ (by decide +kernel)) ggX4_arrange_X4_lowestFree
theorem dX4_arrange_0 : decode cX4_arrange 0 = .ok (.aload_n 0, 1) := by decide +kernel
theorem dX4_arrange_1 : decode cX4_arrange 1 = .ok (.aload_n 1, 1) := by decide +kernel
theorem dX4_arrange_2 : decode cX4_arrange 2 = .ok (.invokevirtual 18, 3) := by decide +kernel
theorem dX4_arrange_5 : decode cX4_arrange 5 = .ok (.aload_n 1, 1) := by decide +kernel
theorem dX4_arrange_6 : decode cX4_arrange 6 = .ok (.iconst 1, 1) := by decide +kernel
theorem dX4_arrange_7 : decode cX4_arrange 7 = .ok (.invokevirtual 22, 3) := by decide +kernel
theorem dX4_arrange_10 : decode cX4_arrange 10 = .ok (.istore_n 2, 1) := by decide +kernel
theorem dX4_arrange_11 : decode cX4_arrange 11 = .ok (.iload_n 2, 1) := by decide +kernel
theorem dX4_arrange_12 : decode cX4_arrange 12 = .ok (.invokestatic 28, 3) := by decide +kernel
theorem dX4_arrange_15 : decode cX4_arrange 15 = .ok (.istore_n 3, 1) := by decide +kernel
theorem dX4_arrange_16 : decode cX4_arrange 16 = .ok (.iconst 0, 1) := by decide +kernel
theorem dX4_arrange_17 : decode cX4_arrange 17 = .ok (.istore 4, 2) := by decide +kernel
theorem dX4_arrange_19 : decode cX4_arrange 19 = .ok (.iload 4, 2) := by decide +kernel
theorem dX4_arrange_21 : decode cX4_arrange 21 = .ok (.iload_n 3, 1) := by decide +kernel
theorem dX4_arrange_22 : decode cX4_arrange 22 = .ok (.if_icmp .ge 43, 3) := by decide +kernel
theorem dX4_arrange_25 : decode cX4_arrange 25 = .ok (.aload_n 0, 1) := by decide +kernel
theorem dX4_arrange_26 : decode cX4_arrange 26 = .ok (.iload_n 2, 1) := by decide +kernel
theorem dX4_arrange_27 : decode cX4_arrange 27 = .ok (.invokevirtual 33, 3) := by decide +kernel
theorem dX4_arrange_30 : decode cX4_arrange 30 = .ok (.istore 5, 2) := by decide +kernel
theorem dX4_arrange_32 : decode cX4_arrange 32 = .ok (.iload 5, 2) := by decide +kernel
theorem dX4_arrange_34 : decode cX4_arrange 34 = .ok (.bipush (-6), 2) := by decide +kernel
theorem dX4_arrange_36 : decode cX4_arrange 36 = .ok (.if_icmp .ne 5, 3) := by decide +kernel
theorem dX4_arrange_39 : decode cX4_arrange 39 = .ok (.iconst 0, 1) := by decide +kernel
theorem dX4_arrange_40 : decode cX4_arrange 40 = .ok (.ireturn, 1) := by decide +kernel
theorem dX4_arrange_41 : decode cX4_arrange 41 = .ok (.aload_n 0, 1) := by decide +kernel
theorem dX4_arrange_42 : decode cX4_arrange 42 = .ok (.getfield 15, 3) := by decide +kernel
theorem dX4_arrange_45 : decode cX4_arrange 45 = .ok (.iload 4, 2) := by decide +kernel
theorem dX4_arrange_47 : decode cX4_arrange 47 = .ok (.iload 5, 2) := by decide +kernel
theorem dX4_arrange_49 : decode cX4_arrange 49 = .ok (.iastore, 1) := by decide +kernel
theorem dX4_arrange_50 : decode cX4_arrange 50 = .ok (.iload_n 2, 1) := by decide +kernel
theorem dX4_arrange_51 : decode cX4_arrange 51 = .ok (.iconst 1, 1) := by decide +kernel
theorem dX4_arrange_52 : decode cX4_arrange 52 = .ok (.iload 5, 2) := by decide +kernel
theorem dX4_arrange_54 : decode cX4_arrange 54 = .ok (.ishl, 1) := by decide +kernel
theorem dX4_arrange_55 : decode cX4_arrange 55 = .ok (.iconst (-1), 1) := by decide +kernel
theorem dX4_arrange_56 : decode cX4_arrange 56 = .ok (.ixor, 1) := by decide +kernel
theorem dX4_arrange_57 : decode cX4_arrange 57 = .ok (.iand, 1) := by decide +kernel
theorem dX4_arrange_58 : decode cX4_arrange 58 = .ok (.istore_n 2, 1) := by decide +kernel
theorem dX4_arrange_59 : decode cX4_arrange 59 = .ok (.iinc 4 1, 3) := by decide +kernel
theorem dX4_arrange_62 : decode cX4_arrange 62 = .ok (.goto (-43), 3) := by decide +kernel
theorem dX4_arrange_65 : decode cX4_arrange 65 = .ok (.iconst 1, 1) := by decide +kernel
theorem dX4_arrange_66 : decode cX4_arrange 66 = .ok (.ireturn, 1) := by decide +kernel
set_option maxRecDepth 20000 in
theorem ggX4_lowestFree_X5_contains : GoodIn wsX4_lowestFree wsX5_contains := goodIn_r _ [4] (by decide +kernel) (by decide +kernel)
set_option maxRecDepth 20000 in
theorem gX4_lowestFree_X5_contains_n36 : GoodIn wsX4_lowestFree (wsX5_contains) := ggX4_lowestFree_X5_contains
theorem dX4_lowestFree_0 : decode cX4_lowestFree 0 = .ok (.iconst 0, 1) := by decide +kernel
theorem dX4_lowestFree_1 : decode cX4_lowestFree 1 = .ok (.istore_n 2, 1) := by decide +kernel
theorem dX4_lowestFree_2 : decode cX4_lowestFree 2 = .ok (.iload_n 2, 1) := by decide +kernel
theorem dX4_lowestFree_3 : decode cX4_lowestFree 3 = .ok (.bipush 12, 2) := by decide +kernel
theorem dX4_lowestFree_5 : decode cX4_lowestFree 5 = .ok (.if_icmp .ge 30, 3) := by decide +kernel
theorem dX4_lowestFree_8 : decode cX4_lowestFree 8 = .ok (.iload_n 1, 1) := by decide +kernel
theorem dX4_lowestFree_9 : decode cX4_lowestFree 9 = .ok (.iload_n 2, 1) := by decide +kernel
theorem dX4_lowestFree_10 : decode cX4_lowestFree 10 = .ok (.invokestatic 36, 3) := by decide +kernel
theorem dX4_lowestFree_13 : decode cX4_lowestFree 13 = .ok (.ifCond .eq 16, 3) := by decide +kernel
theorem dX4_lowestFree_16 : decode cX4_lowestFree 16 = .ok (.aload_n 0, 1) := by decide +kernel
theorem dX4_lowestFree_17 : decode cX4_lowestFree 17 = .ok (.getfield 9, 3) := by decide +kernel
theorem dX4_lowestFree_20 : decode cX4_lowestFree 20 = .ok (.iload_n 2, 1) := by decide +kernel
theorem dX4_lowestFree_21 : decode cX4_lowestFree 21 = .ok (.iaload, 1) := by decide +kernel
theorem dX4_lowestFree_22 : decode cX4_lowestFree 22 = .ok (.iload_n 1, 1) := by decide +kernel
theorem dX4_lowestFree_23 : decode cX4_lowestFree 23 = .ok (.iand, 1) := by decide +kernel
theorem dX4_lowestFree_24 : decode cX4_lowestFree 24 = .ok (.ifCond .ne 5, 3) := by decide +kernel
theorem dX4_lowestFree_27 : decode cX4_lowestFree 27 = .ok (.iload_n 2, 1) := by decide +kernel
theorem dX4_lowestFree_28 : decode cX4_lowestFree 28 = .ok (.ireturn, 1) := by decide +kernel
theorem dX4_lowestFree_29 : decode cX4_lowestFree 29 = .ok (.iinc 2 1, 3) := by decide +kernel
theorem dX4_lowestFree_32 : decode cX4_lowestFree 32 = .ok (.goto (-30), 3) := by decide +kernel
theorem dX4_lowestFree_35 : decode cX4_lowestFree 35 = .ok (.bipush (-6), 2) := by decide +kernel
theorem dX4_lowestFree_37 : decode cX4_lowestFree 37 = .ok (.ireturn, 1) := by decide +kernel
set_option maxRecDepth 20000 in
theorem ggX4_gather_X4_gatherOverKey : GoodIn wsX4_gather wsX4_gatherOverKey := goodIn_r _ [8, 9, 10, 11, 12, 13, 14, 15, 16, 17, 18, 19, 20, 21, 22, 23, 24, 25, 26, 27, 28, 7, 29, 1, 30, 31, 32, 33, 36, 37, 38, 39, 40, 41, 42, 43, 44, 45, 34, 35] (by decide +kernel) (by decide +kernel)
set_option maxRecDepth 20000 in
theorem gX4_gather_X4_gatherOverKey : GoodIn wsX4_gather (wsV RX4 47 RX4 yX4_gatherOverKey wsX4_gatherOverKey) := goodIn_app (goodIn_of _ (by decide +kernel)) ggX4_gather_X4_gatherOverKey
theorem dX4_gather_0 : decode cX4_gather 0 = .ok (.iconst 0, 1) := by decide +kernel
theorem dX4_gather_1 : decode cX4_gather 1 = .ok (.istore_n 2, 1) := by decide +kernel
theorem dX4_gather_2 : decode cX4_gather 2 = .ok (.iload_n 2, 1) := by decide +kernel
theorem dX4_gather_3 : decode cX4_gather 3 = .ok (.bipush 12, 2) := by decide +kernel
theorem dX4_gather_5 : decode cX4_gather 5 = .ok (.if_icmp .ge 16, 3) := by decide +kernel
theorem dX4_gather_8 : decode cX4_gather 8 = .ok (.aload_n 0, 1) := by decide +kernel
theorem dX4_gather_9 : decode cX4_gather 9 = .ok (.getfield 9, 3) := by decide +kernel
theorem dX4_gather_12 : decode cX4_gather 12 = .ok (.iload_n 2, 1) := by decide +kernel
theorem dX4_gather_13 : decode cX4_gather 13 = .ok (.iconst 0, 1) := by decide +kernel
theorem dX4_gather_14 : decode cX4_gather 14 = .ok (.iastore, 1) := by decide +kernel
theorem dX4_gather_15 : decode cX4_gather 15 = .ok (.iinc 2 1, 3) := by decide +kernel
theorem dX4_gather_18 : decode cX4_gather 18 = .ok (.goto (-16), 3) := by decide +kernel
theorem dX4_gather_21 : decode cX4_gather 21 = .ok (.iconst 0, 1) := by decide +kernel
theorem dX4_gather_22 : decode cX4_gather 22 = .ok (.istore_n 2, 1) := by decide +kernel
theorem dX4_gather_23 : decode cX4_gather 23 = .ok (.iload_n 2, 1) := by decide +kernel
theorem dX4_gather_24 : decode cX4_gather 24 = .ok (.aload_n 1, 1) := by decide +kernel
theorem dX4_gather_25 : decode cX4_gather 25 = .ok (.getfield 40, 3) := by decide +kernel
theorem dX4_gather_28 : decode cX4_gather 28 = .ok (.if_icmp .ge 40, 3) := by decide +kernel
theorem dX4_gather_31 : decode cX4_gather 31 = .ok (.aload_n 1, 1) := by decide +kernel
theorem dX4_gather_32 : decode cX4_gather 32 = .ok (.getfield 44, 3) := by decide +kernel
theorem dX4_gather_35 : decode cX4_gather 35 = .ok (.iload_n 2, 1) := by decide +kernel
theorem dX4_gather_36 : decode cX4_gather 36 = .ok (.iaload, 1) := by decide +kernel
theorem dX4_gather_37 : decode cX4_gather 37 = .ok (.iconst 1, 1) := by decide +kernel
theorem dX4_gather_38 : decode cX4_gather 38 = .ok (.if_icmp .ne 24, 3) := by decide +kernel
theorem dX4_gather_41 : decode cX4_gather 41 = .ok (.iconst 0, 1) := by decide +kernel
theorem dX4_gather_42 : decode cX4_gather 42 = .ok (.istore_n 3, 1) := by decide +kernel
theorem dX4_gather_43 : decode cX4_gather 43 = .ok (.iload_n 3, 1) := by decide +kernel
theorem dX4_gather_44 : decode cX4_gather 44 = .ok (.bipush 16, 2) := by decide +kernel
theorem dX4_gather_46 : decode cX4_gather 46 = .ok (.if_icmp .ge 16, 3) := by decide +kernel
theorem dX4_gather_49 : decode cX4_gather 49 = .ok (.aload_n 0, 1) := by decide +kernel
theorem dX4_gather_50 : decode cX4_gather 50 = .ok (.aload_n 1, 1) := by decide +kernel
theorem dX4_gather_51 : decode cX4_gather 51 = .ok (.iload_n 2, 1) := by decide +kernel
theorem dX4_gather_52 : decode cX4_gather 52 = .ok (.iload_n 3, 1) := by decide +kernel
theorem dX4_gather_53 : decode cX4_gather 53 = .ok (.invokevirtual 47, 3) := by decide +kernel
theorem dX4_gather_56 : decode cX4_gather 56 = .ok (.iinc 3 1, 3) := by decide +kernel
theorem dX4_gather_59 : decode cX4_gather 59 = .ok (.goto (-16), 3) := by decide +kernel
theorem dX4_gather_62 : decode cX4_gather 62 = .ok (.iinc 2 1, 3) := by decide +kernel
theorem dX4_gather_65 : decode cX4_gather 65 = .ok (.goto (-42), 3) := by decide +kernel
theorem dX4_gather_68 : decode cX4_gather 68 = .ok (.return_, 1) := by decide +kernel
set_option maxRecDepth 20000 in
theorem ggX4_gatherOverKey_X5_contains : GoodIn wsX4_gatherOverKey wsX5_contains := goodIn_r _ [7] (by decide +kernel) (by decide +kernel)
set_option maxRecDepth 20000 in
theorem gX4_gatherOverKey_X5_contains_n36 : GoodIn wsX4_gatherOverKey (wsX5_contains) := ggX4_gatherOverKey_X5_contains
set_option maxRecDepth 20000 in
theorem ggX4_gatherOverKey_X2_writerBehind : GoodIn wsX4_gatherOverKey wsX2_writerBehind := goodIn_r _ [12, 13, 14, 15, 16, 17, 5, 6, 7, 28, 29, 30, 31, 32, 33, 34, 35, 36, 37] (by decide +kernel) (by decide +kernel)
set_option maxRecDepth 20000 in
theorem gX4_gatherOverKey_X2_writerBehind : GoodIn wsX4_gatherOverKey (wsV RX4 57 RX2 yX2_writerBehind wsX2_writerBehind) := goodIn_app (goodIn_of _ (by decide +kernel)) ggX4_gatherOverKey_X2_writerBehind
set_option maxRecDepth 20000 in
theorem ggX4_gatherOverKey_X4_depend : GoodIn wsX4_gatherOverKey wsX4_depend := goodIn_r _ [22, 23, 38, 39] (by decide +kernel) (by decide +kernel)
set_option maxRecDepth 20000 in
theorem gX4_gatherOverKey_X4_depend : GoodIn wsX4_gatherOverKey (wsV RX4 61 RX4 yX4_depend wsX4_depend) := goodIn_app (goodIn_of _ (by decide +kernel)) ggX4_gatherOverKey_X4_depend
set_option maxRecDepth 20000 in
theorem ggX4_gatherOverKey_X2_writerAhead : GoodIn wsX4_gatherOverKey wsX2_writerAhead := goodIn_r _ [27, 14, 15, 16, 17, 5, 6, 7, 28, 29, 30, 31, 32, 33, 34, 35, 36, 37] (by decide +kernel) (by decide +kernel)
set_option maxRecDepth 20000 in
theorem gX4_gatherOverKey_X2_writerAhead : GoodIn wsX4_gatherOverKey (wsV RX4 71 RX2 yX2_writerAhead wsX2_writerAhead) := goodIn_app (goodIn_of _ (by decide +kernel)) ggX4_gatherOverKey_X2_writerAhead
theorem dX4_gatherOverKey_0 : decode cX4_gatherOverKey 0 = .ok (.aload_n 1, 1) := by decide +kernel
theorem dX4_gatherOverKey_1 : decode cX4_gatherOverKey 1 = .ok (.getfield 51, 3) := by decide +kernel
theorem dX4_gatherOverKey_4 : decode cX4_gatherOverKey 4 = .ok (.iload_n 2, 1) := by decide +kernel
theorem dX4_gatherOverKey_5 : decode cX4_gatherOverKey 5 = .ok (.iaload, 1) := by decide +kernel
theorem dX4_gatherOverKey_6 : decode cX4_gatherOverKey 6 = .ok (.iload_n 3, 1) := by decide +kernel
theorem dX4_gatherOverKey_7 : decode cX4_gatherOverKey 7 = .ok (.invokestatic 36, 3) := by decide +kernel
theorem dX4_gatherOverKey_10 : decode cX4_gatherOverKey 10 = .ok (.ifCond .eq 19, 3) := by decide +kernel
theorem dX4_gatherOverKey_13 : decode cX4_gatherOverKey 13 = .ok (.aload_n 0, 1) := by decide +kernel
theorem dX4_gatherOverKey_14 : decode cX4_gatherOverKey 14 = .ok (.iload_n 2, 1) := by decide +kernel
theorem dX4_gatherOverKey_15 : decode cX4_gatherOverKey 15 = .ok (.aload_n 1, 1) := by decide +kernel
theorem dX4_gatherOverKey_16 : decode cX4_gatherOverKey 16 = .ok (.iload_n 3, 1) := by decide +kernel
theorem dX4_gatherOverKey_17 : decode cX4_gatherOverKey 17 = .ok (.aload_n 1, 1) := by decide +kernel
theorem dX4_gatherOverKey_18 : decode cX4_gatherOverKey 18 = .ok (.getfield 54, 3) := by decide +kernel
theorem dX4_gatherOverKey_21 : decode cX4_gatherOverKey 21 = .ok (.iload_n 2, 1) := by decide +kernel
theorem dX4_gatherOverKey_22 : decode cX4_gatherOverKey 22 = .ok (.iaload, 1) := by decide +kernel
theorem dX4_gatherOverKey_23 : decode cX4_gatherOverKey 23 = .ok (.invokevirtual 57, 3) := by decide +kernel
theorem dX4_gatherOverKey_26 : decode cX4_gatherOverKey 26 = .ok (.invokevirtual 61, 3) := by decide +kernel
theorem dX4_gatherOverKey_29 : decode cX4_gatherOverKey 29 = .ok (.aload_n 1, 1) := by decide +kernel
theorem dX4_gatherOverKey_30 : decode cX4_gatherOverKey 30 = .ok (.getfield 65, 3) := by decide +kernel
theorem dX4_gatherOverKey_33 : decode cX4_gatherOverKey 33 = .ok (.iload_n 2, 1) := by decide +kernel
theorem dX4_gatherOverKey_34 : decode cX4_gatherOverKey 34 = .ok (.iaload, 1) := by decide +kernel
theorem dX4_gatherOverKey_35 : decode cX4_gatherOverKey 35 = .ok (.iload_n 3, 1) := by decide +kernel
theorem dX4_gatherOverKey_36 : decode cX4_gatherOverKey 36 = .ok (.invokestatic 36, 3) := by decide +kernel
theorem dX4_gatherOverKey_39 : decode cX4_gatherOverKey 39 = .ok (.ifCond .eq 35, 3) := by decide +kernel
theorem dX4_gatherOverKey_42 : decode cX4_gatherOverKey 42 = .ok (.aload_n 0, 1) := by decide +kernel
theorem dX4_gatherOverKey_43 : decode cX4_gatherOverKey 43 = .ok (.aload_n 1, 1) := by decide +kernel
theorem dX4_gatherOverKey_44 : decode cX4_gatherOverKey 44 = .ok (.iload_n 3, 1) := by decide +kernel
theorem dX4_gatherOverKey_45 : decode cX4_gatherOverKey 45 = .ok (.aload_n 1, 1) := by decide +kernel
theorem dX4_gatherOverKey_46 : decode cX4_gatherOverKey 46 = .ok (.getfield 68, 3) := by decide +kernel
theorem dX4_gatherOverKey_49 : decode cX4_gatherOverKey 49 = .ok (.iload_n 2, 1) := by decide +kernel
theorem dX4_gatherOverKey_50 : decode cX4_gatherOverKey 50 = .ok (.iaload, 1) := by decide +kernel
theorem dX4_gatherOverKey_51 : decode cX4_gatherOverKey 51 = .ok (.invokevirtual 71, 3) := by decide +kernel
theorem dX4_gatherOverKey_54 : decode cX4_gatherOverKey 54 = .ok (.iload_n 2, 1) := by decide +kernel
theorem dX4_gatherOverKey_55 : decode cX4_gatherOverKey 55 = .ok (.invokevirtual 61, 3) := by decide +kernel
theorem dX4_gatherOverKey_58 : decode cX4_gatherOverKey 58 = .ok (.aload_n 0, 1) := by decide +kernel
theorem dX4_gatherOverKey_59 : decode cX4_gatherOverKey 59 = .ok (.iload_n 2, 1) := by decide +kernel
theorem dX4_gatherOverKey_60 : decode cX4_gatherOverKey 60 = .ok (.aload_n 1, 1) := by decide +kernel
theorem dX4_gatherOverKey_61 : decode cX4_gatherOverKey 61 = .ok (.iload_n 3, 1) := by decide +kernel
theorem dX4_gatherOverKey_62 : decode cX4_gatherOverKey 62 = .ok (.aload_n 1, 1) := by decide +kernel
theorem dX4_gatherOverKey_63 : decode cX4_gatherOverKey 63 = .ok (.getfield 68, 3) := by decide +kernel
theorem dX4_gatherOverKey_66 : decode cX4_gatherOverKey 66 = .ok (.iload_n 2, 1) := by decide +kernel
theorem dX4_gatherOverKey_67 : decode cX4_gatherOverKey 67 = .ok (.iaload, 1) := by decide +kernel
theorem dX4_gatherOverKey_68 : decode cX4_gatherOverKey 68 = .ok (.invokevirtual 57, 3) := by decide +kernel
theorem dX4_gatherOverKey_71 : decode cX4_gatherOverKey 71 = .ok (.invokevirtual 61, 3) := by decide +kernel
theorem dX4_gatherOverKey_74 : decode cX4_gatherOverKey 74 = .ok (.return_, 1) := by decide +kernel
theorem dX4_depend_0 : decode cX4_depend 0 = .ok (.iload_n 1, 1) := by decide +kernel
theorem dX4_depend_1 : decode cX4_depend 1 = .ok (.ifCond .lt 30, 3) := by decide +kernel
theorem dX4_depend_4 : decode cX4_depend 4 = .ok (.iload_n 2, 1) := by decide +kernel
theorem dX4_depend_5 : decode cX4_depend 5 = .ok (.ifCond .lt 26, 3) := by decide +kernel
theorem dX4_depend_8 : decode cX4_depend 8 = .ok (.iload_n 2, 1) := by decide +kernel
theorem dX4_depend_9 : decode cX4_depend 9 = .ok (.bipush 12, 2) := by decide +kernel
theorem dX4_depend_11 : decode cX4_depend 11 = .ok (.if_icmp .ge 20, 3) := by decide +kernel
theorem dX4_depend_14 : decode cX4_depend 14 = .ok (.iload_n 1, 1) := by decide +kernel
theorem dX4_depend_15 : decode cX4_depend 15 = .ok (.iload_n 2, 1) := by decide +kernel
theorem dX4_depend_16 : decode cX4_depend 16 = .ok (.if_icmp .eq 15, 3) := by decide +kernel
theorem dX4_depend_19 : decode cX4_depend 19 = .ok (.aload_n 0, 1) := by decide +kernel
theorem dX4_depend_20 : decode cX4_depend 20 = .ok (.getfield 9, 3) := by decide +kernel
theorem dX4_depend_23 : decode cX4_depend 23 = .ok (.iload_n 2, 1) := by decide +kernel
theorem dX4_depend_24 : decode cX4_depend 24 = .ok (.dup2, 1) := by decide +kernel
theorem dX4_depend_25 : decode cX4_depend 25 = .ok (.iaload, 1) := by decide +kernel
theorem dX4_depend_26 : decode cX4_depend 26 = .ok (.iconst 1, 1) := by decide +kernel
theorem dX4_depend_27 : decode cX4_depend 27 = .ok (.iload_n 1, 1) := by decide +kernel
theorem dX4_depend_28 : decode cX4_depend 28 = .ok (.ishl, 1) := by decide +kernel
theorem dX4_depend_29 : decode cX4_depend 29 = .ok (.ior, 1) := by decide +kernel
theorem dX4_depend_30 : decode cX4_depend 30 = .ok (.iastore, 1) := by decide +kernel
theorem dX4_depend_31 : decode cX4_depend 31 = .ok (.return_, 1) := by decide +kernel
set_option maxRecDepth 20000 in
theorem ggX5_init_X2_init : GoodIn wsX5_init wsX2_init := goodIn_r _ [25, 26, 2, 3, 27, 28, 29, 30, 31, 32, 33, 34, 35, 36, 37, 59, 60, 61, 62, 63, 64, 65, 66, 67, 68] (by decide +kernel) (by decide +kernel)
set_option maxRecDepth 20000 in
theorem gX5_init_X2_init : GoodIn wsX5_init (wsX2_init) := ggX5_init_X2_init
set_option maxRecDepth 20000 in
theorem ggX5_init_X1_init : GoodIn wsX5_init wsX1_init := goodIn_r _ [40, 41, 2, 3, 42, 43, 44, 45, 5, 6, 46, 24, 25, 26, 27, 28, 29, 30, 31, 32, 33, 34, 35, 36, 37, 75, 76, 77, 59, 60, 61, 62, 63, 64, 65, 66, 67, 68] (by decide +kernel) (by decide +kernel)
set_option maxRecDepth 20000 in
theorem gX5_init_X1_init : GoodIn wsX5_init (wsX1_init) := ggX5_init_X1_init
set_option maxRecDepth 20000 in
theorem ggX5_init_X3_init : GoodIn wsX5_init wsX3_init := goodIn_r _ [49, 50, 2, 3, 51, 52, 78, 79, 80, 81, 82, 83, 84, 85] (by decide +kernel) (by decide +kernel)
set_option maxRecDepth 20000 in
theorem gX5_init_X3_init : GoodIn wsX5_init (wsX3_init) := ggX5_init_X3_init
set_option maxRecDepth 20000 in
theorem ggX5_init_X4_init : GoodIn wsX5_init wsX4_init := goodIn_r _ [55, 56, 2, 3, 30, 57, 58, 86, 87] (by decide +kernel) (by decide +kernel)
set_option maxRecDepth 20000 in
theorem gX5_init_X4_init : GoodIn wsX5_init (wsX4_init) := ggX5_init_X4_init
theorem dX5_init_0 : decode cX5_init 0 = .ok (.aload_n 0, 1) := by decide +kernel
theorem dX5_init_1 : decode cX5_init 1 = .ok (.invokespecial 1, 3) := by decide +kernel
theorem dX5_init_4 : decode cX5_init 4 = .ok (.aload_n 0, 1) := by decide +kernel
theorem dX5_init_5 : decode cX5_init 5 = .ok (.new 7, 3) := by decide +kernel
theorem dX5_init_8 : decode cX5_init 8 = .ok (.dup, 1) := by decide +kernel
theorem dX5_init_9 : decode cX5_init 9 = .ok (.invokespecial 9, 3) := by decide +kernel
theorem dX5_init_12 : decode cX5_init 12 = .ok (.putfield 10, 3) := by decide +kernel
theorem dX5_init_15 : decode cX5_init 15 = .ok (.aload_n 0, 1) := by decide +kernel
theorem dX5_init_16 : decode cX5_init 16 = .ok (.new 16, 3) := by decide +kernel
theorem dX5_init_19 : decode cX5_init 19 = .ok (.dup, 1) := by decide +kernel
theorem dX5_init_20 : decode cX5_init 20 = .ok (.invokespecial 18, 3) := by decide +kernel
theorem dX5_init_23 : decode cX5_init 23 = .ok (.putfield 19, 3) := by decide +kernel
theorem dX5_init_26 : decode cX5_init 26 = .ok (.aload_n 0, 1) := by decide +kernel
theorem dX5_init_27 : decode cX5_init 27 = .ok (.iconst 2, 1) := by decide +kernel
theorem dX5_init_28 : decode cX5_init 28 = .ok (.anewarray 7, 3) := by decide +kernel
theorem dX5_init_31 : decode cX5_init 31 = .ok (.putfield 23, 3) := by decide +kernel
theorem dX5_init_34 : decode cX5_init 34 = .ok (.iconst 0, 1) := by decide +kernel
theorem dX5_init_35 : decode cX5_init 35 = .ok (.istore_n 1, 1) := by decide +kernel
theorem dX5_init_36 : decode cX5_init 36 = .ok (.iload_n 1, 1) := by decide +kernel
theorem dX5_init_37 : decode cX5_init 37 = .ok (.iconst 2, 1) := by decide +kernel
theorem dX5_init_38 : decode cX5_init 38 = .ok (.if_icmp .ge 22, 3) := by decide +kernel
theorem dX5_init_41 : decode cX5_init 41 = .ok (.aload_n 0, 1) := by decide +kernel
theorem dX5_init_42 : decode cX5_init 42 = .ok (.getfield 23, 3) := by decide +kernel
theorem dX5_init_45 : decode cX5_init 45 = .ok (.iload_n 1, 1) := by decide +kernel
theorem dX5_init_46 : decode cX5_init 46 = .ok (.new 7, 3) := by decide +kernel
theorem dX5_init_49 : decode cX5_init 49 = .ok (.dup, 1) := by decide +kernel
theorem dX5_init_50 : decode cX5_init 50 = .ok (.invokespecial 9, 3) := by decide +kernel
theorem dX5_init_53 : decode cX5_init 53 = .ok (.aastore, 1) := by decide +kernel
theorem dX5_init_54 : decode cX5_init 54 = .ok (.iinc 1 1, 3) := by decide +kernel
theorem dX5_init_57 : decode cX5_init 57 = .ok (.goto (-21), 3) := by decide +kernel
theorem dX5_init_60 : decode cX5_init 60 = .ok (.aload_n 0, 1) := by decide +kernel
theorem dX5_init_61 : decode cX5_init 61 = .ok (.iconst 2, 1) := by decide +kernel
theorem dX5_init_62 : decode cX5_init 62 = .ok (.newarray .boolean, 2) := by decide +kernel
theorem dX5_init_64 : decode cX5_init 64 = .ok (.putfield 27, 3) := by decide +kernel
theorem dX5_init_67 : decode cX5_init 67 = .ok (.aload_n 0, 1) := by decide +kernel
theorem dX5_init_68 : decode cX5_init 68 = .ok (.new 31, 3) := by decide +kernel
theorem dX5_init_71 : decode cX5_init 71 = .ok (.dup, 1) := by decide +kernel
theorem dX5_init_72 : decode cX5_init 72 = .ok (.invokespecial 33, 3) := by decide +kernel
theorem dX5_init_75 : decode cX5_init 75 = .ok (.putfield 34, 3) := by decide +kernel
theorem dX5_init_78 : decode cX5_init 78 = .ok (.aload_n 0, 1) := by decide +kernel
theorem dX5_init_79 : decode cX5_init 79 = .ok (.new 38, 3) := by decide +kernel
theorem dX5_init_82 : decode cX5_init 82 = .ok (.dup, 1) := by decide +kernel
theorem dX5_init_83 : decode cX5_init 83 = .ok (.invokespecial 40, 3) := by decide +kernel
theorem dX5_init_86 : decode cX5_init 86 = .ok (.putfield 41, 3) := by decide +kernel
theorem dX5_init_89 : decode cX5_init 89 = .ok (.return_, 1) := by decide +kernel
set_option maxRecDepth 20000 in
theorem ggX5_rule_X1_prepare : GoodIn wsX5_rule wsX1_prepare := goodIn_r _ [7, 8, 9, 10, 11, 12, 13, 14, 15, 16, 17, 18, 19, 20, 21, 22, 23, 24, 25, 26, 27, 28, 51, 52, 53, 54, 55, 56, 57, 58, 59, 60, 61, 62, 63] (by decide +kernel) (by decide +kernel)
set_option maxRecDepth 20000 in
theorem gX5_rule_X1_prepare : GoodIn wsX5_rule (wsV RX5 45 RX1 yX1_prepare wsX1_prepare) := goodIn_app (goodIn_of _ (by decide +kernel)) ggX5_rule_X1_prepare
set_option maxRecDepth 20000 in
theorem ggX5_rule_X2_changeRule : GoodIn wsX5_rule wsX2_changeRule := goodIn_r _ [32, 15, 33, 34, 35, 54, 55, 56, 57, 58, 59, 60, 61, 62, 63] (by decide +kernel) (by decide +kernel)
set_option maxRecDepth 20000 in
theorem gX5_rule_X2_changeRule : GoodIn wsX5_rule (wsV RX5 49 RX2 yX2_changeRule wsX2_changeRule) := goodIn_app (goodIn_of _ (by decide +kernel)) ggX5_rule_X2_changeRule
set_option maxRecDepth 20000 in
theorem ggX5_rule_X1_keepUnlessError : GoodIn wsX5_rule wsX1_keepUnlessError := goodIn_r _ [39, 9, 40, 41, 42, 43, 44, 51, 52, 53] (by decide +kernel) (by decide +kernel)
set_option maxRecDepth 20000 in
theorem gX5_rule_X1_keepUnlessError : GoodIn wsX5_rule (wsV RX5 53 RX1 yX1_keepUnlessError wsX1_keepUnlessError) := goodIn_app (goodIn_of _ (by decide +kernel)) ggX5_rule_X1_keepUnlessError
theorem dX5_rule_0 : decode cX5_rule 0 = .ok (.aload_n 0, 1) := by decide +kernel
theorem dX5_rule_1 : decode cX5_rule 1 = .ok (.getfield 19, 3) := by decide +kernel
theorem dX5_rule_4 : decode cX5_rule 4 = .ok (.aload_n 0, 1) := by decide +kernel
theorem dX5_rule_5 : decode cX5_rule 5 = .ok (.getfield 10, 3) := by decide +kernel
theorem dX5_rule_8 : decode cX5_rule 8 = .ok (.invokevirtual 45, 3) := by decide +kernel
theorem dX5_rule_11 : decode cX5_rule 11 = .ok (.aload_n 0, 1) := by decide +kernel
theorem dX5_rule_12 : decode cX5_rule 12 = .ok (.getfield 19, 3) := by decide +kernel
theorem dX5_rule_15 : decode cX5_rule 15 = .ok (.aload_n 0, 1) := by decide +kernel
theorem dX5_rule_16 : decode cX5_rule 16 = .ok (.getfield 10, 3) := by decide +kernel
theorem dX5_rule_19 : decode cX5_rule 19 = .ok (.iload_n 1, 1) := by decide +kernel
theorem dX5_rule_20 : decode cX5_rule 20 = .ok (.invokevirtual 49, 3) := by decide +kernel
theorem dX5_rule_23 : decode cX5_rule 23 = .ok (.invokevirtual 53, 3) := by decide +kernel
theorem dX5_rule_26 : decode cX5_rule 26 = .ok (.ireturn, 1) := by decide +kernel
set_option maxRecDepth 20000 in
theorem ggX5_begin_X1_prepare : GoodIn wsX5_begin wsX1_prepare := goodIn_r _ [7, 8, 9, 10, 11, 12, 13, 14, 15, 16, 17, 18, 19, 20, 21, 22, 23, 24, 25, 26, 27, 28, 48, 49, 50, 51, 52, 53, 54, 55, 56, 57, 58, 59, 60] (by decide +kernel) (by decide +kernel)
set_option maxRecDepth 20000 in
theorem gX5_begin_X1_prepare : GoodIn wsX5_begin (wsV RX5 45 RX1 yX1_prepare wsX1_prepare) := goodIn_app (goodIn_of _ (by decide +kernel)) ggX5_begin_X1_prepare
set_option maxRecDepth 20000 in
theorem ggX5_begin_X2_start : GoodIn wsX5_begin wsX2_start := goodIn_r _ [32, 17, 16, 18, 23, 24, 25, 26, 27, 51, 52, 53, 54, 55, 56, 57, 58, 59, 60] (by decide +kernel) (by decide +kernel)
set_option maxRecDepth 20000 in
theorem gX5_begin_X2_start : GoodIn wsX5_begin (wsV RX5 56 RX2 yX2_start wsX2_start) := goodIn_app (goodIn_of _ (by decide +kernel)) ggX5_begin_X2_start
set_option maxRecDepth 20000 in
theorem ggX5_begin_X1_keepUnlessError : GoodIn wsX5_begin wsX1_keepUnlessError := goodIn_r _ [36, 9, 37, 38, 39, 40, 41, 48, 49, 50] (by decide +kernel) (by decide +kernel)
set_option maxRecDepth 20000 in
theorem gX5_begin_X1_keepUnlessError : GoodIn wsX5_begin (wsV RX5 53 RX1 yX1_keepUnlessError wsX1_keepUnlessError) := goodIn_app (goodIn_of _ (by decide +kernel)) ggX5_begin_X1_keepUnlessError
theorem dX5_begin_0 : decode cX5_begin 0 = .ok (.aload_n 0, 1) := by decide +kernel
theorem dX5_begin_1 : decode cX5_begin 1 = .ok (.getfield 19, 3) := by decide +kernel
theorem dX5_begin_4 : decode cX5_begin 4 = .ok (.aload_n 0, 1) := by decide +kernel
theorem dX5_begin_5 : decode cX5_begin 5 = .ok (.getfield 10, 3) := by decide +kernel
theorem dX5_begin_8 : decode cX5_begin 8 = .ok (.invokevirtual 45, 3) := by decide +kernel
theorem dX5_begin_11 : decode cX5_begin 11 = .ok (.aload_n 0, 1) := by decide +kernel
theorem dX5_begin_12 : decode cX5_begin 12 = .ok (.getfield 19, 3) := by decide +kernel
theorem dX5_begin_15 : decode cX5_begin 15 = .ok (.aload_n 0, 1) := by decide +kernel
theorem dX5_begin_16 : decode cX5_begin 16 = .ok (.getfield 10, 3) := by decide +kernel
theorem dX5_begin_19 : decode cX5_begin 19 = .ok (.invokevirtual 56, 3) := by decide +kernel
theorem dX5_begin_22 : decode cX5_begin 22 = .ok (.invokevirtual 53, 3) := by decide +kernel
theorem dX5_begin_25 : decode cX5_begin 25 = .ok (.ireturn, 1) := by decide +kernel
set_option maxRecDepth 20000 in
theorem ggX5_read_X1_prepare : GoodIn wsX5_read wsX1_prepare := goodIn_r _ [7, 8, 9, 10, 11, 12, 13, 14, 15, 16, 17, 18, 19, 20, 21, 22, 23, 24, 25, 26, 27, 28, 69, 70, 71, 72, 73, 74, 75, 76, 77, 78, 79, 80, 81] (by decide +kernel) (by decide +kernel)
set_option maxRecDepth 20000 in
theorem gX5_read_X1_prepare : GoodIn wsX5_read (wsV RX5 45 RX1 yX1_prepare wsX1_prepare) := goodIn_app (goodIn_of _ (by decide +kernel)) ggX5_read_X1_prepare
set_option maxRecDepth 20000 in
theorem ggX5_read_X2_look : GoodIn wsX5_read wsX2_look := goodIn_r _ [32, 18, 26, 25, 33, 34, 35, 13, 36, 17, 37, 38, 39, 40, 41, 42, 43, 44, 45, 23, 46, 47, 48, 49, 24, 50, 51, 52, 53, 28, 72, 73, 74, 75, 76, 77, 78, 79, 80, 81] (by decide +kernel) (by decide +kernel)
set_option maxRecDepth 20000 in
theorem gX5_read_X2_look : GoodIn wsX5_read (wsV RX5 60 RX2 yX2_look wsX2_look) := goodIn_app (goodIn_of _ (by decide +kernel)) ggX5_read_X2_look
set_option maxRecDepth 20000 in
theorem ggX5_read_X1_keepUnlessError : GoodIn wsX5_read wsX1_keepUnlessError := goodIn_r _ [57, 9, 58, 59, 60, 61, 62, 69, 70, 71] (by decide +kernel) (by decide +kernel)
set_option maxRecDepth 20000 in
theorem gX5_read_X1_keepUnlessError : GoodIn wsX5_read (wsV RX5 53 RX1 yX1_keepUnlessError wsX1_keepUnlessError) := goodIn_app (goodIn_of _ (by decide +kernel)) ggX5_read_X1_keepUnlessError
theorem dX5_read_0 : decode cX5_read 0 = .ok (.aload_n 0, 1) := by decide +kernel
theorem dX5_read_1 : decode cX5_read 1 = .ok (.getfield 19, 3) := by decide +kernel
theorem dX5_read_4 : decode cX5_read 4 = .ok (.aload_n 0, 1) := by decide +kernel
theorem dX5_read_5 : decode cX5_read 5 = .ok (.getfield 10, 3) := by decide +kernel
theorem dX5_read_8 : decode cX5_read 8 = .ok (.invokevirtual 45, 3) := by decide +kernel
theorem dX5_read_11 : decode cX5_read 11 = .ok (.aload_n 0, 1) := by decide +kernel
theorem dX5_read_12 : decode cX5_read 12 = .ok (.getfield 19, 3) := by decide +kernel
theorem dX5_read_15 : decode cX5_read 15 = .ok (.aload_n 0, 1) := by decide +kernel
theorem dX5_read_16 : decode cX5_read 16 = .ok (.getfield 10, 3) := by decide +kernel
theorem dX5_read_19 : decode cX5_read 19 = .ok (.iload_n 1, 1) := by decide +kernel
theorem dX5_read_20 : decode cX5_read 20 = .ok (.iload_n 2, 1) := by decide +kernel
theorem dX5_read_21 : decode cX5_read 21 = .ok (.invokevirtual 60, 3) := by decide +kernel
theorem dX5_read_24 : decode cX5_read 24 = .ok (.invokevirtual 53, 3) := by decide +kernel
theorem dX5_read_27 : decode cX5_read 27 = .ok (.ireturn, 1) := by decide +kernel
set_option maxRecDepth 20000 in
theorem ggX5_write_X1_prepare : GoodIn wsX5_write wsX1_prepare := goodIn_r _ [7, 8, 9, 10, 11, 12, 13, 14, 15, 16, 17, 18, 19, 20, 21, 22, 23, 24, 25, 26, 27, 28, 55, 56, 57, 58, 59, 60, 61, 62, 63, 64, 65, 66, 67] (by decide +kernel) (by decide +kernel)
set_option maxRecDepth 20000 in
theorem gX5_write_X1_prepare : GoodIn wsX5_write (wsV RX5 45 RX1 yX1_prepare wsX1_prepare) := goodIn_app (goodIn_of _ (by decide +kernel)) ggX5_write_X1_prepare
set_option maxRecDepth 20000 in
theorem ggX5_write_X2_enter : GoodIn wsX5_write wsX2_enter := goodIn_r _ [32, 18, 26, 28, 33, 34, 35, 13, 36, 17, 37, 38, 39, 58, 59, 60, 61, 62, 63, 64, 65, 66, 67] (by decide +kernel) (by decide +kernel)
set_option maxRecDepth 20000 in
theorem gX5_write_X2_enter : GoodIn wsX5_write (wsV RX5 64 RX2 yX2_enter wsX2_enter) := goodIn_app (goodIn_of _ (by decide +kernel)) ggX5_write_X2_enter
set_option maxRecDepth 20000 in
theorem ggX5_write_X1_keepUnlessError : GoodIn wsX5_write wsX1_keepUnlessError := goodIn_r _ [43, 9, 44, 45, 46, 47, 48, 55, 56, 57] (by decide +kernel) (by decide +kernel)
set_option maxRecDepth 20000 in
theorem gX5_write_X1_keepUnlessError : GoodIn wsX5_write (wsV RX5 53 RX1 yX1_keepUnlessError wsX1_keepUnlessError) := goodIn_app (goodIn_of _ (by decide +kernel)) ggX5_write_X1_keepUnlessError
theorem dX5_write_0 : decode cX5_write 0 = .ok (.aload_n 0, 1) := by decide +kernel
theorem dX5_write_1 : decode cX5_write 1 = .ok (.getfield 19, 3) := by decide +kernel
theorem dX5_write_4 : decode cX5_write 4 = .ok (.aload_n 0, 1) := by decide +kernel
theorem dX5_write_5 : decode cX5_write 5 = .ok (.getfield 10, 3) := by decide +kernel
theorem dX5_write_8 : decode cX5_write 8 = .ok (.invokevirtual 45, 3) := by decide +kernel
theorem dX5_write_11 : decode cX5_write 11 = .ok (.aload_n 0, 1) := by decide +kernel
theorem dX5_write_12 : decode cX5_write 12 = .ok (.getfield 19, 3) := by decide +kernel
theorem dX5_write_15 : decode cX5_write 15 = .ok (.aload_n 0, 1) := by decide +kernel
theorem dX5_write_16 : decode cX5_write 16 = .ok (.getfield 10, 3) := by decide +kernel
theorem dX5_write_19 : decode cX5_write 19 = .ok (.iload_n 1, 1) := by decide +kernel
theorem dX5_write_20 : decode cX5_write 20 = .ok (.iload_n 2, 1) := by decide +kernel
theorem dX5_write_21 : decode cX5_write 21 = .ok (.iload_n 3, 1) := by decide +kernel
theorem dX5_write_22 : decode cX5_write 22 = .ok (.invokevirtual 64, 3) := by decide +kernel
theorem dX5_write_25 : decode cX5_write 25 = .ok (.invokevirtual 53, 3) := by decide +kernel
theorem dX5_write_28 : decode cX5_write 28 = .ok (.ireturn, 1) := by decide +kernel
set_option maxRecDepth 20000 in
theorem ggX5_commit_X1_prepare : GoodIn wsX5_commit wsX1_prepare := goodIn_r _ [7, 8, 9, 10, 11, 12, 13, 14, 15, 16, 17, 18, 19, 20, 21, 22, 23, 24, 25, 26, 27, 28, 92, 93, 94, 95, 96, 97, 98, 99, 100, 101, 102, 103, 104] (by decide +kernel) (by decide +kernel)
set_option maxRecDepth 20000 in
theorem gX5_commit_X1_prepare : GoodIn wsX5_commit (wsV RX5 45 RX1 yX1_prepare wsX1_prepare) := goodIn_app (goodIn_of _ (by decide +kernel)) ggX5_commit_X1_prepare
set_option maxRecDepth 20000 in
theorem ggX5_commit_X2_finish : GoodIn wsX5_commit wsX2_finish := goodIn_r _ [32, 18, 15, 27, 16, 24, 33, 34, 35, 13, 36, 17, 37, 38, 39, 40, 41, 42, 43, 44, 45, 46, 47, 48, 49, 50, 51, 52, 53, 54, 55, 56, 57, 58, 59, 60, 61, 62, 63, 64, 65, 66, 23, 25, 26, 67, 68, 69, 70, 71, 72, 73, 74, 75, 76, 95, 96, 97, 98, 99, 100, 101, 102, 103, 104] (by decide +kernel) (by decide +kernel)
set_option maxRecDepth 20000 in
theorem gX5_commit_X2_finish : GoodIn wsX5_commit (wsV RX5 68 RX2 yX2_finish wsX2_finish) := goodIn_app (goodIn_of _ (by decide +kernel)) ggX5_commit_X2_finish
set_option maxRecDepth 20000 in
theorem ggX5_commit_X1_keepUnlessError : GoodIn wsX5_commit wsX1_keepUnlessError := goodIn_r _ [80, 9, 81, 82, 83, 84, 85, 92, 93, 94] (by decide +kernel) (by decide +kernel)
set_option maxRecDepth 20000 in
theorem gX5_commit_X1_keepUnlessError : GoodIn wsX5_commit (wsV RX5 53 RX1 yX1_keepUnlessError wsX1_keepUnlessError) := goodIn_app (goodIn_of _ (by decide +kernel)) ggX5_commit_X1_keepUnlessError
theorem dX5_commit_0 : decode cX5_commit 0 = .ok (.aload_n 0, 1) := by decide +kernel
theorem dX5_commit_1 : decode cX5_commit 1 = .ok (.getfield 19, 3) := by decide +kernel
theorem dX5_commit_4 : decode cX5_commit 4 = .ok (.aload_n 0, 1) := by decide +kernel
theorem dX5_commit_5 : decode cX5_commit 5 = .ok (.getfield 10, 3) := by decide +kernel
theorem dX5_commit_8 : decode cX5_commit 8 = .ok (.invokevirtual 45, 3) := by decide +kernel
theorem dX5_commit_11 : decode cX5_commit 11 = .ok (.aload_n 0, 1) := by decide +kernel
theorem dX5_commit_12 : decode cX5_commit 12 = .ok (.getfield 19, 3) := by decide +kernel
theorem dX5_commit_15 : decode cX5_commit 15 = .ok (.aload_n 0, 1) := by decide +kernel
theorem dX5_commit_16 : decode cX5_commit 16 = .ok (.getfield 10, 3) := by decide +kernel
theorem dX5_commit_19 : decode cX5_commit 19 = .ok (.iload_n 1, 1) := by decide +kernel
theorem dX5_commit_20 : decode cX5_commit 20 = .ok (.invokevirtual 68, 3) := by decide +kernel
theorem dX5_commit_23 : decode cX5_commit 23 = .ok (.invokevirtual 53, 3) := by decide +kernel
theorem dX5_commit_26 : decode cX5_commit 26 = .ok (.ireturn, 1) := by decide +kernel
set_option maxRecDepth 20000 in
theorem ggX5_abort_X1_prepare : GoodIn wsX5_abort wsX1_prepare := goodIn_r _ [7, 8, 9, 10, 11, 12, 13, 14, 15, 16, 17, 18, 19, 20, 21, 22, 23, 24, 25, 26, 27, 28, 63, 64, 65, 66, 67, 68, 69, 70, 71, 72, 73, 74, 75] (by decide +kernel) (by decide +kernel)
set_option maxRecDepth 20000 in
theorem gX5_abort_X1_prepare : GoodIn wsX5_abort (wsV RX5 45 RX1 yX1_prepare wsX1_prepare) := goodIn_app (goodIn_of _ (by decide +kernel)) ggX5_abort_X1_prepare
set_option maxRecDepth 20000 in
theorem ggX5_abort_X2_giveUp : GoodIn wsX5_abort wsX2_giveUp := goodIn_r _ [32, 18, 27, 33, 34, 35, 13, 36, 17, 37, 38, 39, 40, 41, 42, 43, 44, 45, 46, 47, 66, 67, 68, 69, 70, 71, 72, 73, 74, 75] (by decide +kernel) (by decide +kernel)
set_option maxRecDepth 20000 in
theorem gX5_abort_X2_giveUp : GoodIn wsX5_abort (wsV RX5 71 RX2 yX2_giveUp wsX2_giveUp) := goodIn_app (goodIn_of _ (by decide +kernel)) ggX5_abort_X2_giveUp
set_option maxRecDepth 20000 in
theorem ggX5_abort_X1_keepUnlessError : GoodIn wsX5_abort wsX1_keepUnlessError := goodIn_r _ [51, 9, 52, 53, 54, 55, 56, 63, 64, 65] (by decide +kernel) (by decide +kernel)
set_option maxRecDepth 20000 in
theorem gX5_abort_X1_keepUnlessError : GoodIn wsX5_abort (wsV RX5 53 RX1 yX1_keepUnlessError wsX1_keepUnlessError) := goodIn_app (goodIn_of _ (by decide +kernel)) ggX5_abort_X1_keepUnlessError
theorem dX5_abort_0 : decode cX5_abort 0 = .ok (.aload_n 0, 1) := by decide +kernel
theorem dX5_abort_1 : decode cX5_abort 1 = .ok (.getfield 19, 3) := by decide +kernel
theorem dX5_abort_4 : decode cX5_abort 4 = .ok (.aload_n 0, 1) := by decide +kernel
theorem dX5_abort_5 : decode cX5_abort 5 = .ok (.getfield 10, 3) := by decide +kernel
theorem dX5_abort_8 : decode cX5_abort 8 = .ok (.invokevirtual 45, 3) := by decide +kernel
theorem dX5_abort_11 : decode cX5_abort 11 = .ok (.aload_n 0, 1) := by decide +kernel
theorem dX5_abort_12 : decode cX5_abort 12 = .ok (.getfield 19, 3) := by decide +kernel
theorem dX5_abort_15 : decode cX5_abort 15 = .ok (.aload_n 0, 1) := by decide +kernel
theorem dX5_abort_16 : decode cX5_abort 16 = .ok (.getfield 10, 3) := by decide +kernel
theorem dX5_abort_19 : decode cX5_abort 19 = .ok (.iload_n 1, 1) := by decide +kernel
theorem dX5_abort_20 : decode cX5_abort 20 = .ok (.invokevirtual 71, 3) := by decide +kernel
theorem dX5_abort_23 : decode cX5_abort 23 = .ok (.invokevirtual 53, 3) := by decide +kernel
theorem dX5_abort_26 : decode cX5_abort 26 = .ok (.ireturn, 1) := by decide +kernel
set_option maxRecDepth 20000 in
theorem ggX5_value_X5_isKey : GoodIn wsX5_value wsX5_isKey := goodIn_r _ [6] (by decide +kernel) (by decide +kernel)
set_option maxRecDepth 20000 in
theorem gX5_value_X5_isKey : GoodIn wsX5_value (va_wsS RX5 74 yX5_isKey wsX5_isKey) := goodIn_app (goodIn_of _ (by decide +kernel)) ggX5_value_X5_isKey
set_option maxRecDepth 20000 in
theorem ggX5_value_X2_writerAhead : GoodIn wsX5_value wsX2_writerAhead := goodIn_r _ [11, 12, 13, 14, 15, 16, 5, 17, 33, 34, 35, 36, 37, 38, 39, 40, 41, 42] (by decide +kernel) (by decide +kernel)
set_option maxRecDepth 20000 in
theorem gX5_value_X2_writerAhead : GoodIn wsX5_value (wsV RX5 82 RX2 yX2_writerAhead wsX2_writerAhead) := goodIn_app (goodIn_of _ (by decide +kernel)) ggX5_value_X2_writerAhead
set_option maxRecDepth 20000 in
theorem ggX5_value_X2_valueOfVersion : GoodIn wsX5_value wsX2_valueOfVersion := goodIn_r _ [21, 22, 23, 24, 25, 10, 26, 12, 33, 34, 35, 36, 37, 38, 39, 40, 41, 42] (by decide +kernel) (by decide +kernel)
set_option maxRecDepth 20000 in
theorem gX5_value_X2_valueOfVersion : GoodIn wsX5_value (wsV RX5 85 RX2 yX2_valueOfVersion wsX2_valueOfVersion) := goodIn_app (goodIn_of _ (by decide +kernel)) ggX5_value_X2_valueOfVersion
theorem dX5_value_0 : decode cX5_value 0 = .ok (.iload_n 1, 1) := by decide +kernel
theorem dX5_value_1 : decode cX5_value 1 = .ok (.invokestatic 74, 3) := by decide +kernel
theorem dX5_value_4 : decode cX5_value 4 = .ok (.ifCond .ne 5, 3) := by decide +kernel
theorem dX5_value_7 : decode cX5_value 7 = .ok (.iconst (-1), 1) := by decide +kernel
theorem dX5_value_8 : decode cX5_value 8 = .ok (.ireturn, 1) := by decide +kernel
theorem dX5_value_9 : decode cX5_value 9 = .ok (.aload_n 0, 1) := by decide +kernel
theorem dX5_value_10 : decode cX5_value 10 = .ok (.getfield 10, 3) := by decide +kernel
theorem dX5_value_13 : decode cX5_value 13 = .ok (.aload_n 0, 1) := by decide +kernel
theorem dX5_value_14 : decode cX5_value 14 = .ok (.getfield 10, 3) := by decide +kernel
theorem dX5_value_17 : decode cX5_value 17 = .ok (.iload_n 1, 1) := by decide +kernel
theorem dX5_value_18 : decode cX5_value 18 = .ok (.aload_n 0, 1) := by decide +kernel
theorem dX5_value_19 : decode cX5_value 19 = .ok (.getfield 10, 3) := by decide +kernel
theorem dX5_value_22 : decode cX5_value 22 = .ok (.getfield 78, 3) := by decide +kernel
theorem dX5_value_25 : decode cX5_value 25 = .ok (.iconst 1, 1) := by decide +kernel
theorem dX5_value_26 : decode cX5_value 26 = .ok (.iadd, 1) := by decide +kernel
theorem dX5_value_27 : decode cX5_value 27 = .ok (.invokevirtual 82, 3) := by decide +kernel
theorem dX5_value_30 : decode cX5_value 30 = .ok (.iload_n 1, 1) := by decide +kernel
theorem dX5_value_31 : decode cX5_value 31 = .ok (.invokevirtual 85, 3) := by decide +kernel
theorem dX5_value_34 : decode cX5_value 34 = .ok (.ireturn, 1) := by decide +kernel
set_option maxRecDepth 20000 in
theorem ggX5_of_X2_exists : GoodIn wsX5_of wsX2_exists := goodIn_r _ [12, 13, 49, 50, 51, 52, 53, 54, 55, 56, 57, 58] (by decide +kernel) (by decide +kernel)
set_option maxRecDepth 20000 in
theorem gX5_of_X2_exists : GoodIn wsX5_of (wsV RX5 88 RX2 yX2_exists wsX2_exists) := goodIn_app (goodIn_of _ (by decide +kernel)) ggX5_of_X2_exists
set_option maxRecDepth 20000 in
theorem ggX5_of_X2_edgesFrom : GoodIn wsX5_of wsX2_edgesFrom := goodIn_r _ [17, 13, 18, 19, 20, 11, 21, 22, 23, 24, 25, 26, 49, 50, 51, 52, 53, 54, 55, 56, 57, 58] (by decide +kernel) (by decide +kernel)
set_option maxRecDepth 20000 in
theorem gX5_of_X2_edgesFrom : GoodIn wsX5_of (wsV RX5 107 RX2 yX2_edgesFrom wsX2_edgesFrom) := goodIn_app (goodIn_of _ (by decide +kernel)) ggX5_of_X2_edgesFrom
set_option maxRecDepth 20000 in
theorem ggX5_of_X2_edgesTo : GoodIn wsX5_of wsX2_edgesTo := goodIn_r _ [30, 13, 18, 19, 20, 11, 21, 22, 23, 24, 25, 26, 49, 50, 51, 52, 53, 54, 55, 56, 57, 58] (by decide +kernel) (by decide +kernel)
set_option maxRecDepth 20000 in
theorem gX5_of_X2_edgesTo : GoodIn wsX5_of (wsV RX5 110 RX2 yX2_edgesTo wsX2_edgesTo) := goodIn_app (goodIn_of _ (by decide +kernel)) ggX5_of_X2_edgesTo
set_option maxRecDepth 20000 in
theorem ggX5_of_X2_snapshot : GoodIn wsX5_of wsX2_snapshot := goodIn_r _ [34, 26, 22, 24, 35, 36, 37, 11, 38, 23, 13, 39, 15, 16, 17, 18, 19, 20, 21, 25, 40, 41, 42, 49, 50, 51, 52, 53, 54, 55, 56, 57, 58] (by decide +kernel) (by decide +kernel)
set_option maxRecDepth 20000 in
theorem gX5_of_X2_snapshot : GoodIn wsX5_of (wsV RX5 116 RX2 yX2_snapshot wsX2_snapshot) := goodIn_app (goodIn_of _ (by decide +kernel)) ggX5_of_X2_snapshot
theorem dX5_of_0 : decode cX5_of 0 = .ok (.aload_n 0, 1) := by decide +kernel
theorem dX5_of_1 : decode cX5_of 1 = .ok (.getfield 10, 3) := by decide +kernel
theorem dX5_of_4 : decode cX5_of 4 = .ok (.iload_n 1, 1) := by decide +kernel
theorem dX5_of_5 : decode cX5_of 5 = .ok (.invokevirtual 88, 3) := by decide +kernel
theorem dX5_of_8 : decode cX5_of 8 = .ok (.ifCond .ne 5, 3) := by decide +kernel
theorem dX5_of_11 : decode cX5_of 11 = .ok (.iconst (-1), 1) := by decide +kernel
theorem dX5_of_12 : decode cX5_of 12 = .ok (.ireturn, 1) := by decide +kernel
theorem dX5_of_13 : decode cX5_of 13 = .ok (.iload_n 2, 1) := by decide +kernel
theorem dX5_of_14 : decode cX5_of 14 = .ok (.tableswitch 137 0 8 #[50, 60, 70, 80, 90, 100, 109, 118, 128], 50) := by decide +kernel
theorem dX5_of_64 : decode cX5_of 64 = .ok (.aload_n 0, 1) := by decide +kernel
theorem dX5_of_65 : decode cX5_of 65 = .ok (.getfield 10, 3) := by decide +kernel
theorem dX5_of_68 : decode cX5_of 68 = .ok (.getfield 91, 3) := by decide +kernel
theorem dX5_of_71 : decode cX5_of 71 = .ok (.iload_n 1, 1) := by decide +kernel
theorem dX5_of_72 : decode cX5_of 72 = .ok (.iaload, 1) := by decide +kernel
theorem dX5_of_73 : decode cX5_of 73 = .ok (.ireturn, 1) := by decide +kernel
theorem dX5_of_74 : decode cX5_of 74 = .ok (.aload_n 0, 1) := by decide +kernel
theorem dX5_of_75 : decode cX5_of 75 = .ok (.getfield 10, 3) := by decide +kernel
theorem dX5_of_78 : decode cX5_of 78 = .ok (.getfield 95, 3) := by decide +kernel
theorem dX5_of_81 : decode cX5_of 81 = .ok (.iload_n 1, 1) := by decide +kernel
theorem dX5_of_82 : decode cX5_of 82 = .ok (.iaload, 1) := by decide +kernel
theorem dX5_of_83 : decode cX5_of 83 = .ok (.ireturn, 1) := by decide +kernel
theorem dX5_of_84 : decode cX5_of 84 = .ok (.aload_n 0, 1) := by decide +kernel
theorem dX5_of_85 : decode cX5_of 85 = .ok (.getfield 10, 3) := by decide +kernel
theorem dX5_of_88 : decode cX5_of 88 = .ok (.getfield 98, 3) := by decide +kernel
theorem dX5_of_91 : decode cX5_of 91 = .ok (.iload_n 1, 1) := by decide +kernel
theorem dX5_of_92 : decode cX5_of 92 = .ok (.iaload, 1) := by decide +kernel
theorem dX5_of_93 : decode cX5_of 93 = .ok (.ireturn, 1) := by decide +kernel
theorem dX5_of_94 : decode cX5_of 94 = .ok (.aload_n 0, 1) := by decide +kernel
theorem dX5_of_95 : decode cX5_of 95 = .ok (.getfield 10, 3) := by decide +kernel
theorem dX5_of_98 : decode cX5_of 98 = .ok (.getfield 101, 3) := by decide +kernel
theorem dX5_of_101 : decode cX5_of 101 = .ok (.iload_n 1, 1) := by decide +kernel
theorem dX5_of_102 : decode cX5_of 102 = .ok (.iaload, 1) := by decide +kernel
theorem dX5_of_103 : decode cX5_of 103 = .ok (.ireturn, 1) := by decide +kernel
theorem dX5_of_104 : decode cX5_of 104 = .ok (.aload_n 0, 1) := by decide +kernel
theorem dX5_of_105 : decode cX5_of 105 = .ok (.getfield 10, 3) := by decide +kernel
theorem dX5_of_108 : decode cX5_of 108 = .ok (.getfield 104, 3) := by decide +kernel
theorem dX5_of_111 : decode cX5_of 111 = .ok (.iload_n 1, 1) := by decide +kernel
theorem dX5_of_112 : decode cX5_of 112 = .ok (.iaload, 1) := by decide +kernel
theorem dX5_of_113 : decode cX5_of 113 = .ok (.ireturn, 1) := by decide +kernel
theorem dX5_of_114 : decode cX5_of 114 = .ok (.aload_n 0, 1) := by decide +kernel
theorem dX5_of_115 : decode cX5_of 115 = .ok (.getfield 10, 3) := by decide +kernel
theorem dX5_of_118 : decode cX5_of 118 = .ok (.iload_n 1, 1) := by decide +kernel
theorem dX5_of_119 : decode cX5_of 119 = .ok (.invokevirtual 107, 3) := by decide +kernel
theorem dX5_of_122 : decode cX5_of 122 = .ok (.ireturn, 1) := by decide +kernel
theorem dX5_of_123 : decode cX5_of 123 = .ok (.aload_n 0, 1) := by decide +kernel
theorem dX5_of_124 : decode cX5_of 124 = .ok (.getfield 10, 3) := by decide +kernel
theorem dX5_of_127 : decode cX5_of 127 = .ok (.iload_n 1, 1) := by decide +kernel
theorem dX5_of_128 : decode cX5_of 128 = .ok (.invokevirtual 110, 3) := by decide +kernel
theorem dX5_of_131 : decode cX5_of 131 = .ok (.ireturn, 1) := by decide +kernel
theorem dX5_of_132 : decode cX5_of 132 = .ok (.aload_n 0, 1) := by decide +kernel
theorem dX5_of_133 : decode cX5_of 133 = .ok (.getfield 10, 3) := by decide +kernel
theorem dX5_of_136 : decode cX5_of 136 = .ok (.getfield 113, 3) := by decide +kernel
theorem dX5_of_139 : decode cX5_of 139 = .ok (.iload_n 1, 1) := by decide +kernel
theorem dX5_of_140 : decode cX5_of 140 = .ok (.iaload, 1) := by decide +kernel
theorem dX5_of_141 : decode cX5_of 141 = .ok (.ireturn, 1) := by decide +kernel
theorem dX5_of_142 : decode cX5_of 142 = .ok (.aload_n 0, 1) := by decide +kernel
theorem dX5_of_143 : decode cX5_of 143 = .ok (.getfield 10, 3) := by decide +kernel
theorem dX5_of_146 : decode cX5_of 146 = .ok (.iload_n 1, 1) := by decide +kernel
theorem dX5_of_147 : decode cX5_of 147 = .ok (.invokevirtual 116, 3) := by decide +kernel
theorem dX5_of_150 : decode cX5_of 150 = .ok (.ireturn, 1) := by decide +kernel
theorem dX5_of_151 : decode cX5_of 151 = .ok (.bipush (-2), 2) := by decide +kernel
theorem dX5_of_153 : decode cX5_of 153 = .ok (.ireturn, 1) := by decide +kernel
set_option maxRecDepth 20000 in
theorem ggX5_edge_X2_exists : GoodIn wsX5_edge wsX2_exists := goodIn_r _ [6, 7, 23, 24, 25, 26, 27, 28, 29, 30, 31, 32] (by decide +kernel) (by decide +kernel)
set_option maxRecDepth 20000 in
theorem gX5_edge_X2_exists : GoodIn wsX5_edge (wsV RX5 88 RX2 yX2_exists wsX2_exists) := goodIn_app (goodIn_of _ (by decide +kernel)) ggX5_edge_X2_exists
set_option maxRecDepth 20000 in
theorem ggX5_edge_X2_edgeKeys : GoodIn wsX5_edge wsX2_edgeKeys := goodIn_r _ [11, 12, 13, 14, 15, 16, 23, 24, 25, 26, 27, 28, 29, 30, 31, 32] (by decide +kernel) (by decide +kernel)
set_option maxRecDepth 20000 in
theorem gX5_edge_X2_edgeKeys : GoodIn wsX5_edge (wsV RX5 119 RX2 yX2_edgeKeys wsX2_edgeKeys) := goodIn_app (goodIn_of _ (by decide +kernel)) ggX5_edge_X2_edgeKeys
theorem dX5_edge_0 : decode cX5_edge 0 = .ok (.aload_n 0, 1) := by decide +kernel
theorem dX5_edge_1 : decode cX5_edge 1 = .ok (.getfield 10, 3) := by decide +kernel
theorem dX5_edge_4 : decode cX5_edge 4 = .ok (.iload_n 1, 1) := by decide +kernel
theorem dX5_edge_5 : decode cX5_edge 5 = .ok (.invokevirtual 88, 3) := by decide +kernel
theorem dX5_edge_8 : decode cX5_edge 8 = .ok (.ifCond .eq 14, 3) := by decide +kernel
theorem dX5_edge_11 : decode cX5_edge 11 = .ok (.aload_n 0, 1) := by decide +kernel
theorem dX5_edge_12 : decode cX5_edge 12 = .ok (.getfield 10, 3) := by decide +kernel
theorem dX5_edge_15 : decode cX5_edge 15 = .ok (.iload_n 2, 1) := by decide +kernel
theorem dX5_edge_16 : decode cX5_edge 16 = .ok (.invokevirtual 88, 3) := by decide +kernel
theorem dX5_edge_19 : decode cX5_edge 19 = .ok (.ifCond .ne 5, 3) := by decide +kernel
theorem dX5_edge_22 : decode cX5_edge 22 = .ok (.iconst (-1), 1) := by decide +kernel
theorem dX5_edge_23 : decode cX5_edge 23 = .ok (.ireturn, 1) := by decide +kernel
theorem dX5_edge_24 : decode cX5_edge 24 = .ok (.aload_n 0, 1) := by decide +kernel
theorem dX5_edge_25 : decode cX5_edge 25 = .ok (.getfield 10, 3) := by decide +kernel
theorem dX5_edge_28 : decode cX5_edge 28 = .ok (.iload_n 1, 1) := by decide +kernel
theorem dX5_edge_29 : decode cX5_edge 29 = .ok (.iload_n 2, 1) := by decide +kernel
theorem dX5_edge_30 : decode cX5_edge 30 = .ok (.invokevirtual 119, 3) := by decide +kernel
theorem dX5_edge_33 : decode cX5_edge 33 = .ok (.ifCond .eq 7, 3) := by decide +kernel
theorem dX5_edge_36 : decode cX5_edge 36 = .ok (.iconst 1, 1) := by decide +kernel
theorem dX5_edge_37 : decode cX5_edge 37 = .ok (.goto 4, 3) := by decide +kernel
theorem dX5_edge_40 : decode cX5_edge 40 = .ok (.iconst 0, 1) := by decide +kernel
theorem dX5_edge_41 : decode cX5_edge 41 = .ok (.ireturn, 1) := by decide +kernel
set_option maxRecDepth 20000 in
theorem ggX5_over_X2_exists : GoodIn wsX5_over wsX2_exists := goodIn_r _ [6, 7, 27, 28, 29, 30, 31, 32, 33, 34, 35, 36] (by decide +kernel) (by decide +kernel)
set_option maxRecDepth 20000 in
theorem gX5_over_X2_exists : GoodIn wsX5_over (wsV RX5 88 RX2 yX2_exists wsX2_exists) := goodIn_app (goodIn_of _ (by decide +kernel)) ggX5_over_X2_exists
set_option maxRecDepth 20000 in
theorem ggX5_over_X2_edgeKeys : GoodIn wsX5_over wsX2_edgeKeys := goodIn_r _ [11, 12, 13, 14, 15, 16, 27, 28, 29, 30, 31, 32, 33, 34, 35, 36] (by decide +kernel) (by decide +kernel)
set_option maxRecDepth 20000 in
theorem gX5_over_X2_edgeKeys : GoodIn wsX5_over (wsV RX5 119 RX2 yX2_edgeKeys wsX2_edgeKeys) := goodIn_app (goodIn_of _ (by decide +kernel)) ggX5_over_X2_edgeKeys
set_option maxRecDepth 20000 in
theorem ggX5_over_X5_contains : GoodIn wsX5_over wsX5_contains := goodIn_r _ [20] (by decide +kernel) (by decide +kernel)
set_option maxRecDepth 20000 in
theorem gX5_over_X5_contains : GoodIn wsX5_over (va_wsS RX5 122 yX5_contains wsX5_contains) := goodIn_app (goodIn_of _ (by decide +kernel)) ggX5_over_X5_contains
theorem dX5_over_0 : decode cX5_over 0 = .ok (.aload_n 0, 1) := by decide +kernel
theorem dX5_over_1 : decode cX5_over 1 = .ok (.getfield 10, 3) := by decide +kernel
theorem dX5_over_4 : decode cX5_over 4 = .ok (.iload_n 1, 1) := by decide +kernel
theorem dX5_over_5 : decode cX5_over 5 = .ok (.invokevirtual 88, 3) := by decide +kernel
theorem dX5_over_8 : decode cX5_over 8 = .ok (.ifCond .eq 14, 3) := by decide +kernel
theorem dX5_over_11 : decode cX5_over 11 = .ok (.aload_n 0, 1) := by decide +kernel
theorem dX5_over_12 : decode cX5_over 12 = .ok (.getfield 10, 3) := by decide +kernel
theorem dX5_over_15 : decode cX5_over 15 = .ok (.iload_n 2, 1) := by decide +kernel
theorem dX5_over_16 : decode cX5_over 16 = .ok (.invokevirtual 88, 3) := by decide +kernel
theorem dX5_over_19 : decode cX5_over 19 = .ok (.ifCond .ne 5, 3) := by decide +kernel
theorem dX5_over_22 : decode cX5_over 22 = .ok (.iconst (-1), 1) := by decide +kernel
theorem dX5_over_23 : decode cX5_over 23 = .ok (.ireturn, 1) := by decide +kernel
theorem dX5_over_24 : decode cX5_over 24 = .ok (.aload_n 0, 1) := by decide +kernel
theorem dX5_over_25 : decode cX5_over 25 = .ok (.getfield 10, 3) := by decide +kernel
theorem dX5_over_28 : decode cX5_over 28 = .ok (.iload_n 1, 1) := by decide +kernel
theorem dX5_over_29 : decode cX5_over 29 = .ok (.iload_n 2, 1) := by decide +kernel
theorem dX5_over_30 : decode cX5_over 30 = .ok (.invokevirtual 119, 3) := by decide +kernel
theorem dX5_over_33 : decode cX5_over 33 = .ok (.istore_n 3, 1) := by decide +kernel
theorem dX5_over_34 : decode cX5_over 34 = .ok (.iconst 0, 1) := by decide +kernel
theorem dX5_over_35 : decode cX5_over 35 = .ok (.istore 4, 2) := by decide +kernel
theorem dX5_over_37 : decode cX5_over 37 = .ok (.iload 4, 2) := by decide +kernel
theorem dX5_over_39 : decode cX5_over 39 = .ok (.bipush 16, 2) := by decide +kernel
theorem dX5_over_41 : decode cX5_over 41 = .ok (.if_icmp .ge 21, 3) := by decide +kernel
theorem dX5_over_44 : decode cX5_over 44 = .ok (.iload_n 3, 1) := by decide +kernel
theorem dX5_over_45 : decode cX5_over 45 = .ok (.iload 4, 2) := by decide +kernel
theorem dX5_over_47 : decode cX5_over 47 = .ok (.invokestatic 122, 3) := by decide +kernel
theorem dX5_over_50 : decode cX5_over 50 = .ok (.ifCond .eq 6, 3) := by decide +kernel
theorem dX5_over_53 : decode cX5_over 53 = .ok (.iload 4, 2) := by decide +kernel
theorem dX5_over_55 : decode cX5_over 55 = .ok (.ireturn, 1) := by decide +kernel
theorem dX5_over_56 : decode cX5_over 56 = .ok (.iinc 4 1, 3) := by decide +kernel
theorem dX5_over_59 : decode cX5_over 59 = .ok (.goto (-22), 3) := by decide +kernel
theorem dX5_over_62 : decode cX5_over 62 = .ok (.bipush (-6), 2) := by decide +kernel
theorem dX5_over_64 : decode cX5_over 64 = .ok (.ireturn, 1) := by decide +kernel
set_option maxRecDepth 20000 in
theorem ggX5_count_X2_inPhase : GoodIn wsX5_count wsX2_inPhase := goodIn_r _ [14, 15, 16, 101, 102, 103, 104, 105, 106, 107, 108, 109, 110] (by decide +kernel) (by decide +kernel)
set_option maxRecDepth 20000 in
theorem gX5_count_X2_inPhase : GoodIn wsX5_count (wsV RX5 129 RX2 yX2_inPhase wsX2_inPhase) := goodIn_app (goodIn_of _ (by decide +kernel)) ggX5_count_X2_inPhase
set_option maxRecDepth 20000 in
theorem ggX5_count_X2_edgeTotal : GoodIn wsX5_count wsX2_edgeTotal := goodIn_r _ [20, 15, 21, 22, 23, 13, 24, 25, 26, 27, 28, 16, 29, 30, 31, 32, 33, 34, 35, 36, 37, 38, 39, 101, 102, 103, 104, 105, 106, 107, 108, 109, 110] (by decide +kernel) (by decide +kernel)
set_option maxRecDepth 20000 in
theorem gX5_count_X2_edgeTotal : GoodIn wsX5_count (wsV RX5 135 RX2 yX2_edgeTotal wsX2_edgeTotal) := goodIn_app (goodIn_of _ (by decide +kernel)) ggX5_count_X2_edgeTotal
set_option maxRecDepth 20000 in
theorem ggX5_count_X2_pivots : GoodIn wsX5_count wsX2_pivots := goodIn_r _ [43, 15, 44, 45, 46, 13, 47, 25, 26, 27, 28, 16, 29, 30, 31, 32, 21, 22, 23, 24, 101, 102, 103, 104, 105, 106, 107, 108, 109, 110] (by decide +kernel) (by decide +kernel)
set_option maxRecDepth 20000 in
theorem gX5_count_X2_pivots : GoodIn wsX5_count (wsV RX5 138 RX2 yX2_pivots wsX2_pivots) := goodIn_app (goodIn_of _ (by decide +kernel)) ggX5_count_X2_pivots
set_option maxRecDepth 20000 in
theorem ggX5_count_X2_tripleTotal : GoodIn wsX5_count wsX2_tripleTotal := goodIn_r _ [51, 15, 44, 45, 46, 13, 47, 25, 26, 27, 28, 16, 29, 30, 31, 32, 33, 34, 35, 36, 37, 38, 39, 21, 22, 23, 24, 101, 102, 103, 104, 105, 106, 107, 108, 109, 110] (by decide +kernel) (by decide +kernel)
set_option maxRecDepth 20000 in
theorem gX5_count_X2_tripleTotal : GoodIn wsX5_count (wsV RX5 141 RX2 yX2_tripleTotal wsX2_tripleTotal) := goodIn_app (goodIn_of _ (by decide +kernel)) ggX5_count_X2_tripleTotal
set_option maxRecDepth 20000 in
theorem ggX5_count_X4_arrange : GoodIn wsX5_count wsX4_arrange := goodIn_r _ [56, 57, 58, 59, 60, 55, 61, 62, 63, 64, 65, 66, 67, 68, 69, 70, 71, 72, 73, 74, 75, 76, 77, 78, 13, 79, 80, 15, 16, 32, 29, 81, 82, 83, 84, 85, 86, 87, 88, 89, 11, 12, 14, 90, 34, 35, 36, 37, 38, 39, 91, 92, 93, 94, 122, 123, 101, 102, 103, 104, 105, 106, 107, 108, 109, 110] (by decide +kernel) (by decide +kernel)
set_option maxRecDepth 20000 in
theorem gX5_count_X4_arrange : GoodIn wsX5_count (wsV RX5 144 RX4 yX4_arrange wsX4_arrange) := goodIn_app (goodIn_of _ (by decide +kernel)) ggX5_count_X4_arrange
theorem dX5_count_0 : decode cX5_count 0 = .ok (.iload_n 1, 1) := by decide +kernel
theorem dX5_count_1 : decode cX5_count 1 = .ok (.tableswitch 174 0 11 #[63, 71, 80, 89, 98, 106, 114, 122, 130, 138, 158, 166], 63) := by decide +kernel
theorem dX5_count_64 : decode cX5_count 64 = .ok (.aload_n 0, 1) := by decide +kernel
theorem dX5_count_65 : decode cX5_count 65 = .ok (.getfield 10, 3) := by decide +kernel
theorem dX5_count_68 : decode cX5_count 68 = .ok (.getfield 126, 3) := by decide +kernel
theorem dX5_count_71 : decode cX5_count 71 = .ok (.ireturn, 1) := by decide +kernel
theorem dX5_count_72 : decode cX5_count 72 = .ok (.aload_n 0, 1) := by decide +kernel
theorem dX5_count_73 : decode cX5_count 73 = .ok (.getfield 10, 3) := by decide +kernel
theorem dX5_count_76 : decode cX5_count 76 = .ok (.iconst 0, 1) := by decide +kernel
theorem dX5_count_77 : decode cX5_count 77 = .ok (.invokevirtual 129, 3) := by decide +kernel
theorem dX5_count_80 : decode cX5_count 80 = .ok (.ireturn, 1) := by decide +kernel
theorem dX5_count_81 : decode cX5_count 81 = .ok (.aload_n 0, 1) := by decide +kernel
theorem dX5_count_82 : decode cX5_count 82 = .ok (.getfield 10, 3) := by decide +kernel
theorem dX5_count_85 : decode cX5_count 85 = .ok (.iconst 1, 1) := by decide +kernel
theorem dX5_count_86 : decode cX5_count 86 = .ok (.invokevirtual 129, 3) := by decide +kernel
theorem dX5_count_89 : decode cX5_count 89 = .ok (.ireturn, 1) := by decide +kernel
theorem dX5_count_90 : decode cX5_count 90 = .ok (.aload_n 0, 1) := by decide +kernel
theorem dX5_count_91 : decode cX5_count 91 = .ok (.getfield 10, 3) := by decide +kernel
theorem dX5_count_94 : decode cX5_count 94 = .ok (.iconst 2, 1) := by decide +kernel
theorem dX5_count_95 : decode cX5_count 95 = .ok (.invokevirtual 129, 3) := by decide +kernel
theorem dX5_count_98 : decode cX5_count 98 = .ok (.ireturn, 1) := by decide +kernel
theorem dX5_count_99 : decode cX5_count 99 = .ok (.aload_n 0, 1) := by decide +kernel
theorem dX5_count_100 : decode cX5_count 100 = .ok (.getfield 10, 3) := by decide +kernel
theorem dX5_count_103 : decode cX5_count 103 = .ok (.getfield 78, 3) := by decide +kernel
theorem dX5_count_106 : decode cX5_count 106 = .ok (.ireturn, 1) := by decide +kernel
theorem dX5_count_107 : decode cX5_count 107 = .ok (.aload_n 0, 1) := by decide +kernel
theorem dX5_count_108 : decode cX5_count 108 = .ok (.getfield 10, 3) := by decide +kernel
theorem dX5_count_111 : decode cX5_count 111 = .ok (.getfield 132, 3) := by decide +kernel
theorem dX5_count_114 : decode cX5_count 114 = .ok (.ireturn, 1) := by decide +kernel
theorem dX5_count_115 : decode cX5_count 115 = .ok (.aload_n 0, 1) := by decide +kernel
theorem dX5_count_116 : decode cX5_count 116 = .ok (.getfield 10, 3) := by decide +kernel
theorem dX5_count_119 : decode cX5_count 119 = .ok (.invokevirtual 135, 3) := by decide +kernel
theorem dX5_count_122 : decode cX5_count 122 = .ok (.ireturn, 1) := by decide +kernel
theorem dX5_count_123 : decode cX5_count 123 = .ok (.aload_n 0, 1) := by decide +kernel
theorem dX5_count_124 : decode cX5_count 124 = .ok (.getfield 10, 3) := by decide +kernel
theorem dX5_count_127 : decode cX5_count 127 = .ok (.invokevirtual 138, 3) := by decide +kernel
theorem dX5_count_130 : decode cX5_count 130 = .ok (.ireturn, 1) := by decide +kernel
theorem dX5_count_131 : decode cX5_count 131 = .ok (.aload_n 0, 1) := by decide +kernel
theorem dX5_count_132 : decode cX5_count 132 = .ok (.getfield 10, 3) := by decide +kernel
theorem dX5_count_135 : decode cX5_count 135 = .ok (.invokevirtual 141, 3) := by decide +kernel
theorem dX5_count_138 : decode cX5_count 138 = .ok (.ireturn, 1) := by decide +kernel
theorem dX5_count_139 : decode cX5_count 139 = .ok (.aload_n 0, 1) := by decide +kernel
theorem dX5_count_140 : decode cX5_count 140 = .ok (.getfield 41, 3) := by decide +kernel
theorem dX5_count_143 : decode cX5_count 143 = .ok (.aload_n 0, 1) := by decide +kernel
theorem dX5_count_144 : decode cX5_count 144 = .ok (.getfield 10, 3) := by decide +kernel
theorem dX5_count_147 : decode cX5_count 147 = .ok (.invokevirtual 144, 3) := by decide +kernel
theorem dX5_count_150 : decode cX5_count 150 = .ok (.ifCond .eq 7, 3) := by decide +kernel
theorem dX5_count_153 : decode cX5_count 153 = .ok (.iconst 1, 1) := by decide +kernel
theorem dX5_count_154 : decode cX5_count 154 = .ok (.goto 4, 3) := by decide +kernel
theorem dX5_count_157 : decode cX5_count 157 = .ok (.iconst 0, 1) := by decide +kernel
theorem dX5_count_158 : decode cX5_count 158 = .ok (.ireturn, 1) := by decide +kernel
theorem dX5_count_159 : decode cX5_count 159 = .ok (.aload_n 0, 1) := by decide +kernel
theorem dX5_count_160 : decode cX5_count 160 = .ok (.getfield 34, 3) := by decide +kernel
theorem dX5_count_163 : decode cX5_count 163 = .ok (.getfield 148, 3) := by decide +kernel
theorem dX5_count_166 : decode cX5_count 166 = .ok (.ireturn, 1) := by decide +kernel
theorem dX5_count_167 : decode cX5_count 167 = .ok (.aload_n 0, 1) := by decide +kernel
theorem dX5_count_168 : decode cX5_count 168 = .ok (.getfield 19, 3) := by decide +kernel
theorem dX5_count_171 : decode cX5_count 171 = .ok (.getfield 151, 3) := by decide +kernel
theorem dX5_count_174 : decode cX5_count 174 = .ok (.ireturn, 1) := by decide +kernel
theorem dX5_count_175 : decode cX5_count 175 = .ok (.bipush (-2), 2) := by decide +kernel
theorem dX5_count_177 : decode cX5_count 177 = .ok (.ireturn, 1) := by decide +kernel
set_option maxRecDepth 20000 in
theorem ggX5_order_X2_inPhase : GoodIn wsX5_order wsX2_inPhase := goodIn_r _ [7, 8, 9, 72, 73, 74, 75, 76, 77, 78, 79, 80, 81] (by decide +kernel) (by decide +kernel)
set_option maxRecDepth 20000 in
theorem gX5_order_X2_inPhase : GoodIn wsX5_order (wsV RX5 129 RX2 yX2_inPhase wsX2_inPhase) := goodIn_app (goodIn_of _ (by decide +kernel)) ggX5_order_X2_inPhase
set_option maxRecDepth 20000 in
theorem ggX5_order_J6_bitCount_0f7a4 : GoodIn wsX5_order wsJ6_bitCount_0f7a4 := goodIn_r _ [13, 14, 15, 16] (by decide +kernel) (by decide +kernel)
set_option maxRecDepth 20000 in
theorem gX5_order_J6_bitCount_0f7a4 : GoodIn wsX5_order (va_wsS RX5 154 yJ6_bitCount_0f7a4 wsJ6_bitCount_0f7a4) := goodIn_app (goodIn_of _ (by decide +kernel)) ggX5_order_J6_bitCount_0f7a4
set_option maxRecDepth 20000 in
theorem ggX5_order_X4_arrange : GoodIn wsX5_order wsX4_arrange := goodIn_r _ [21, 22, 23, 24, 25, 20, 26, 27, 28, 29, 30, 31, 32, 33, 34, 35, 36, 37, 38, 39, 40, 41, 42, 43, 6, 44, 45, 8, 9, 46, 47, 48, 49, 50, 51, 52, 53, 54, 55, 56, 4, 5, 7, 57, 11, 12, 13, 14, 15, 16, 58, 59, 60, 61, 82, 83, 72, 73, 74, 75, 76, 77, 78, 79, 80, 81] (by decide +kernel) (by decide +kernel)
set_option maxRecDepth 20000 in
theorem gX5_order_X4_arrange : GoodIn wsX5_order (wsV RX5 144 RX4 yX4_arrange wsX4_arrange) := goodIn_app (goodIn_of _ (by decide +kernel)) ggX5_order_X4_arrange
set_option maxRecDepth 20000 in
theorem ggX5_order_X4_at : GoodIn wsX5_order wsX4_at := goodIn_r _ [65, 22, 82, 83] (by decide +kernel) (by decide +kernel)
set_option maxRecDepth 20000 in
theorem gX5_order_X4_at : GoodIn wsX5_order (wsV RX5 159 RX4 yX4_at wsX4_at) := goodIn_app (goodIn_of _ (by decide +kernel)) ggX5_order_X4_at
theorem dX5_order_0 : decode cX5_order 0 = .ok (.iload_n 1, 1) := by decide +kernel
theorem dX5_order_1 : decode cX5_order 1 = .ok (.ifCond .lt 18, 3) := by decide +kernel
theorem dX5_order_4 : decode cX5_order 4 = .ok (.iload_n 1, 1) := by decide +kernel
theorem dX5_order_5 : decode cX5_order 5 = .ok (.aload_n 0, 1) := by decide +kernel
theorem dX5_order_6 : decode cX5_order 6 = .ok (.getfield 10, 3) := by decide +kernel
theorem dX5_order_9 : decode cX5_order 9 = .ok (.iconst 1, 1) := by decide +kernel
theorem dX5_order_10 : decode cX5_order 10 = .ok (.invokevirtual 129, 3) := by decide +kernel
theorem dX5_order_13 : decode cX5_order 13 = .ok (.invokestatic 154, 3) := by decide +kernel
theorem dX5_order_16 : decode cX5_order 16 = .ok (.if_icmp .lt 5, 3) := by decide +kernel
theorem dX5_order_19 : decode cX5_order 19 = .ok (.iconst (-1), 1) := by decide +kernel
theorem dX5_order_20 : decode cX5_order 20 = .ok (.ireturn, 1) := by decide +kernel
theorem dX5_order_21 : decode cX5_order 21 = .ok (.aload_n 0, 1) := by decide +kernel
theorem dX5_order_22 : decode cX5_order 22 = .ok (.getfield 41, 3) := by decide +kernel
theorem dX5_order_25 : decode cX5_order 25 = .ok (.aload_n 0, 1) := by decide +kernel
theorem dX5_order_26 : decode cX5_order 26 = .ok (.getfield 10, 3) := by decide +kernel
theorem dX5_order_29 : decode cX5_order 29 = .ok (.invokevirtual 144, 3) := by decide +kernel
theorem dX5_order_32 : decode cX5_order 32 = .ok (.ifCond .ne 6, 3) := by decide +kernel
theorem dX5_order_35 : decode cX5_order 35 = .ok (.bipush (-5), 2) := by decide +kernel
theorem dX5_order_37 : decode cX5_order 37 = .ok (.ireturn, 1) := by decide +kernel
theorem dX5_order_38 : decode cX5_order 38 = .ok (.aload_n 0, 1) := by decide +kernel
theorem dX5_order_39 : decode cX5_order 39 = .ok (.getfield 41, 3) := by decide +kernel
theorem dX5_order_42 : decode cX5_order 42 = .ok (.iload_n 1, 1) := by decide +kernel
theorem dX5_order_43 : decode cX5_order 43 = .ok (.invokevirtual 159, 3) := by decide +kernel
theorem dX5_order_46 : decode cX5_order 46 = .ok (.ireturn, 1) := by decide +kernel
set_option maxRecDepth 20000 in
theorem ggX5_sees_X2_exists : GoodIn wsX5_sees wsX2_exists := goodIn_r _ [6, 7, 32, 33, 34, 35, 36, 37, 38, 39, 40, 41] (by decide +kernel) (by decide +kernel)
set_option maxRecDepth 20000 in
theorem gX5_sees_X2_exists : GoodIn wsX5_sees (wsV RX5 88 RX2 yX2_exists wsX2_exists) := goodIn_app (goodIn_of _ (by decide +kernel)) ggX5_sees_X2_exists
set_option maxRecDepth 20000 in
theorem ggX5_sees_X5_isKey : GoodIn wsX5_sees wsX5_isKey := goodIn_r _ [11] (by decide +kernel) (by decide +kernel)
set_option maxRecDepth 20000 in
theorem gX5_sees_X5_isKey : GoodIn wsX5_sees (va_wsS RX5 74 yX5_isKey wsX5_isKey) := goodIn_app (goodIn_of _ (by decide +kernel)) ggX5_sees_X5_isKey
set_option maxRecDepth 20000 in
theorem ggX5_sees_X2_seenWriter : GoodIn wsX5_sees wsX2_seenWriter := goodIn_r _ [15, 16, 17, 18, 10, 19, 20, 21, 22, 5, 23, 7, 24, 25, 32, 33, 34, 35, 36, 37, 38, 39, 40, 41] (by decide +kernel) (by decide +kernel)
set_option maxRecDepth 20000 in
theorem gX5_sees_X2_seenWriter : GoodIn wsX5_sees (wsV RX5 162 RX2 yX2_seenWriter wsX2_seenWriter) := goodIn_app (goodIn_of _ (by decide +kernel)) ggX5_sees_X2_seenWriter
theorem dX5_sees_0 : decode cX5_sees 0 = .ok (.aload_n 0, 1) := by decide +kernel
theorem dX5_sees_1 : decode cX5_sees 1 = .ok (.getfield 10, 3) := by decide +kernel
theorem dX5_sees_4 : decode cX5_sees 4 = .ok (.iload_n 1, 1) := by decide +kernel
theorem dX5_sees_5 : decode cX5_sees 5 = .ok (.invokevirtual 88, 3) := by decide +kernel
theorem dX5_sees_8 : decode cX5_sees 8 = .ok (.ifCond .eq 10, 3) := by decide +kernel
theorem dX5_sees_11 : decode cX5_sees 11 = .ok (.iload_n 2, 1) := by decide +kernel
theorem dX5_sees_12 : decode cX5_sees 12 = .ok (.invokestatic 74, 3) := by decide +kernel
theorem dX5_sees_15 : decode cX5_sees 15 = .ok (.ifCond .ne 5, 3) := by decide +kernel
theorem dX5_sees_18 : decode cX5_sees 18 = .ok (.iconst (-1), 1) := by decide +kernel
theorem dX5_sees_19 : decode cX5_sees 19 = .ok (.ireturn, 1) := by decide +kernel
theorem dX5_sees_20 : decode cX5_sees 20 = .ok (.aload_n 0, 1) := by decide +kernel
theorem dX5_sees_21 : decode cX5_sees 21 = .ok (.getfield 10, 3) := by decide +kernel
theorem dX5_sees_24 : decode cX5_sees 24 = .ok (.iload_n 1, 1) := by decide +kernel
theorem dX5_sees_25 : decode cX5_sees 25 = .ok (.iload_n 2, 1) := by decide +kernel
theorem dX5_sees_26 : decode cX5_sees 26 = .ok (.invokevirtual 162, 3) := by decide +kernel
theorem dX5_sees_29 : decode cX5_sees 29 = .ok (.ireturn, 1) := by decide +kernel
set_option maxRecDepth 20000 in
theorem ggX5_would_X2_exists : GoodIn wsX5_would wsX2_exists := goodIn_r _ [8, 9, 61, 62, 63, 64, 65, 66, 67, 68, 69, 70] (by decide +kernel) (by decide +kernel)
set_option maxRecDepth 20000 in
theorem gX5_would_X2_exists : GoodIn wsX5_would (wsV RX5 88 RX2 yX2_exists wsX2_exists) := goodIn_app (goodIn_of _ (by decide +kernel)) ggX5_would_X2_exists
set_option maxRecDepth 20000 in
theorem ggX5_would_X0_refusal : GoodIn wsX5_would wsX0_refusal := goodIn_r _ [13, 14, 15, 12, 16, 17, 18, 19, 20, 21, 22, 23, 24, 25, 26, 27, 7, 28, 9, 29, 30, 31, 32, 33, 34, 35, 36, 37, 38, 39, 40, 41, 42, 43, 44, 45, 46, 47, 48, 49, 50, 51, 52, 53, 54, 61, 62, 63, 64, 65, 66, 67, 68, 69, 70] (by decide +kernel) (by decide +kernel)
set_option maxRecDepth 20000 in
theorem gX5_would_X0_refusal : GoodIn wsX5_would (va_wsS RX5 165 yX0_refusal wsX0_refusal) := goodIn_app (goodIn_of _ (by decide +kernel)) ggX5_would_X0_refusal
theorem dX5_would_0 : decode cX5_would 0 = .ok (.aload_n 0, 1) := by decide +kernel
theorem dX5_would_1 : decode cX5_would 1 = .ok (.getfield 10, 3) := by decide +kernel
theorem dX5_would_4 : decode cX5_would 4 = .ok (.iload_n 1, 1) := by decide +kernel
theorem dX5_would_5 : decode cX5_would 5 = .ok (.invokevirtual 88, 3) := by decide +kernel
theorem dX5_would_8 : decode cX5_would 8 = .ok (.ifCond .ne 5, 3) := by decide +kernel
theorem dX5_would_11 : decode cX5_would 11 = .ok (.iconst (-1), 1) := by decide +kernel
theorem dX5_would_12 : decode cX5_would 12 = .ok (.ireturn, 1) := by decide +kernel
theorem dX5_would_13 : decode cX5_would 13 = .ok (.aload_n 0, 1) := by decide +kernel
theorem dX5_would_14 : decode cX5_would 14 = .ok (.getfield 10, 3) := by decide +kernel
theorem dX5_would_17 : decode cX5_would 17 = .ok (.getfield 91, 3) := by decide +kernel
theorem dX5_would_20 : decode cX5_would 20 = .ok (.iload_n 1, 1) := by decide +kernel
theorem dX5_would_21 : decode cX5_would 21 = .ok (.iaload, 1) := by decide +kernel
theorem dX5_would_22 : decode cX5_would 22 = .ok (.ifCond .eq 6, 3) := by decide +kernel
theorem dX5_would_25 : decode cX5_would 25 = .ok (.bipush (-5), 2) := by decide +kernel
theorem dX5_would_27 : decode cX5_would 27 = .ok (.ireturn, 1) := by decide +kernel
theorem dX5_would_28 : decode cX5_would 28 = .ok (.aload_n 0, 1) := by decide +kernel
theorem dX5_would_29 : decode cX5_would 29 = .ok (.getfield 10, 3) := by decide +kernel
theorem dX5_would_32 : decode cX5_would 32 = .ok (.iload_n 1, 1) := by decide +kernel
theorem dX5_would_33 : decode cX5_would 33 = .ok (.aload_n 0, 1) := by decide +kernel
theorem dX5_would_34 : decode cX5_would 34 = .ok (.getfield 10, 3) := by decide +kernel
theorem dX5_would_37 : decode cX5_would 37 = .ok (.getfield 132, 3) := by decide +kernel
theorem dX5_would_40 : decode cX5_would 40 = .ok (.invokestatic 165, 3) := by decide +kernel
theorem dX5_would_43 : decode cX5_would 43 = .ok (.ireturn, 1) := by decide +kernel
set_option maxRecDepth 20000 in
theorem ggX5_triple_X2_exists : GoodIn wsX5_triple wsX2_exists := goodIn_r _ [8, 9, 65, 66, 67, 68, 69, 70, 71, 72, 73, 74] (by decide +kernel) (by decide +kernel)
set_option maxRecDepth 20000 in
theorem gX5_triple_X2_exists : GoodIn wsX5_triple (wsV RX5 88 RX2 yX2_exists wsX2_exists) := goodIn_app (goodIn_of _ (by decide +kernel)) ggX5_triple_X2_exists
set_option maxRecDepth 20000 in
theorem ggX5_triple_X0_refusal : GoodIn wsX5_triple wsX0_refusal := goodIn_r _ [13, 14, 15, 12, 16, 17, 18, 19, 20, 21, 22, 23, 24, 25, 26, 27, 7, 28, 9, 29, 30, 31, 32, 33, 34, 35, 36, 37, 38, 39, 40, 41, 42, 43, 44, 45, 46, 47, 48, 49, 50, 51, 52, 53, 54, 65, 66, 67, 68, 69, 70, 71, 72, 73, 74] (by decide +kernel) (by decide +kernel)
set_option maxRecDepth 20000 in
theorem gX5_triple_X0_refusal : GoodIn wsX5_triple (va_wsS RX5 165 yX0_refusal wsX0_refusal) := goodIn_app (goodIn_of _ (by decide +kernel)) ggX5_triple_X0_refusal
set_option maxRecDepth 20000 in
theorem ggX5_triple_X0_firstTriple : GoodIn wsX5_triple wsX0_firstTriple := goodIn_r _ [24, 18, 25, 26, 27, 7, 28, 9, 29, 30, 31, 32, 33, 34, 35, 36, 37, 38, 39, 40, 41, 42, 43, 44, 45, 46, 47, 48, 49, 50, 12, 51, 52, 53, 54, 19, 20, 17, 21, 65, 66, 67, 68, 69, 70, 71, 72, 73, 74] (by decide +kernel) (by decide +kernel)
set_option maxRecDepth 20000 in
theorem gX5_triple_X0_firstTriple : GoodIn wsX5_triple (va_wsS RX5 171 yX0_firstTriple wsX0_firstTriple) := goodIn_app (goodIn_of _ (by decide +kernel)) ggX5_triple_X0_firstTriple
set_option maxRecDepth 20000 in
theorem ggX5_triple_X0_partOfTriple : GoodIn wsX5_triple wsX0_partOfTriple := goodIn_r _ [58] (by decide +kernel) (by decide +kernel)
set_option maxRecDepth 20000 in
theorem gX5_triple_X0_partOfTriple : GoodIn wsX5_triple (va_wsS RX5 174 yX0_partOfTriple wsX0_partOfTriple) := goodIn_app (goodIn_of _ (by decide +kernel)) ggX5_triple_X0_partOfTriple
theorem dX5_triple_0 : decode cX5_triple 0 = .ok (.aload_n 0, 1) := by decide +kernel
theorem dX5_triple_1 : decode cX5_triple 1 = .ok (.getfield 10, 3) := by decide +kernel
theorem dX5_triple_4 : decode cX5_triple 4 = .ok (.iload_n 1, 1) := by decide +kernel
theorem dX5_triple_5 : decode cX5_triple 5 = .ok (.invokevirtual 88, 3) := by decide +kernel
theorem dX5_triple_8 : decode cX5_triple 8 = .ok (.ifCond .ne 5, 3) := by decide +kernel
theorem dX5_triple_11 : decode cX5_triple 11 = .ok (.iconst (-1), 1) := by decide +kernel
theorem dX5_triple_12 : decode cX5_triple 12 = .ok (.ireturn, 1) := by decide +kernel
theorem dX5_triple_13 : decode cX5_triple 13 = .ok (.iload_n 2, 1) := by decide +kernel
theorem dX5_triple_14 : decode cX5_triple 14 = .ok (.ifCond .lt 8, 3) := by decide +kernel
theorem dX5_triple_17 : decode cX5_triple 17 = .ok (.iload_n 2, 1) := by decide +kernel
theorem dX5_triple_18 : decode cX5_triple 18 = .ok (.iconst 2, 1) := by decide +kernel
theorem dX5_triple_19 : decode cX5_triple 19 = .ok (.if_icmp .le 6, 3) := by decide +kernel
theorem dX5_triple_22 : decode cX5_triple 22 = .ok (.bipush (-2), 2) := by decide +kernel
theorem dX5_triple_24 : decode cX5_triple 24 = .ok (.ireturn, 1) := by decide +kernel
theorem dX5_triple_25 : decode cX5_triple 25 = .ok (.aload_n 0, 1) := by decide +kernel
theorem dX5_triple_26 : decode cX5_triple 26 = .ok (.getfield 10, 3) := by decide +kernel
theorem dX5_triple_29 : decode cX5_triple 29 = .ok (.getfield 91, 3) := by decide +kernel
theorem dX5_triple_32 : decode cX5_triple 32 = .ok (.iload_n 1, 1) := by decide +kernel
theorem dX5_triple_33 : decode cX5_triple 33 = .ok (.iaload, 1) := by decide +kernel
theorem dX5_triple_34 : decode cX5_triple 34 = .ok (.ifCond .eq 6, 3) := by decide +kernel
theorem dX5_triple_37 : decode cX5_triple 37 = .ok (.bipush (-5), 2) := by decide +kernel
theorem dX5_triple_39 : decode cX5_triple 39 = .ok (.ireturn, 1) := by decide +kernel
theorem dX5_triple_40 : decode cX5_triple 40 = .ok (.aload_n 0, 1) := by decide +kernel
theorem dX5_triple_41 : decode cX5_triple 41 = .ok (.getfield 10, 3) := by decide +kernel
theorem dX5_triple_44 : decode cX5_triple 44 = .ok (.iload_n 1, 1) := by decide +kernel
theorem dX5_triple_45 : decode cX5_triple 45 = .ok (.aload_n 0, 1) := by decide +kernel
theorem dX5_triple_46 : decode cX5_triple 46 = .ok (.getfield 10, 3) := by decide +kernel
theorem dX5_triple_49 : decode cX5_triple 49 = .ok (.getfield 132, 3) := by decide +kernel
theorem dX5_triple_52 : decode cX5_triple 52 = .ok (.invokestatic 165, 3) := by decide +kernel
theorem dX5_triple_55 : decode cX5_triple 55 = .ok (.iconst 2, 1) := by decide +kernel
theorem dX5_triple_56 : decode cX5_triple 56 = .ok (.if_icmp .eq 6, 3) := by decide +kernel
theorem dX5_triple_59 : decode cX5_triple 59 = .ok (.bipush (-6), 2) := by decide +kernel
theorem dX5_triple_61 : decode cX5_triple 61 = .ok (.ireturn, 1) := by decide +kernel
theorem dX5_triple_62 : decode cX5_triple 62 = .ok (.aload_n 0, 1) := by decide +kernel
theorem dX5_triple_63 : decode cX5_triple 63 = .ok (.getfield 10, 3) := by decide +kernel
theorem dX5_triple_66 : decode cX5_triple 66 = .ok (.iload_n 1, 1) := by decide +kernel
theorem dX5_triple_67 : decode cX5_triple 67 = .ok (.aload_n 0, 1) := by decide +kernel
theorem dX5_triple_68 : decode cX5_triple 68 = .ok (.getfield 10, 3) := by decide +kernel
theorem dX5_triple_71 : decode cX5_triple 71 = .ok (.getfield 132, 3) := by decide +kernel
theorem dX5_triple_74 : decode cX5_triple 74 = .ok (.invokestatic 171, 3) := by decide +kernel
theorem dX5_triple_77 : decode cX5_triple 77 = .ok (.iload_n 2, 1) := by decide +kernel
theorem dX5_triple_78 : decode cX5_triple 78 = .ok (.invokestatic 174, 3) := by decide +kernel
theorem dX5_triple_81 : decode cX5_triple 81 = .ok (.ireturn, 1) := by decide +kernel
set_option maxRecDepth 20000 in
theorem ggX5_doomed_X5_isRule : GoodIn wsX5_doomed wsX5_isRule := goodIn_r _ [5] (by decide +kernel) (by decide +kernel)
set_option maxRecDepth 20000 in
theorem gX5_doomed_X5_isRule : GoodIn wsX5_doomed (va_wsS RX5 177 yX5_isRule wsX5_isRule) := goodIn_app (goodIn_of _ (by decide +kernel)) ggX5_doomed_X5_isRule
set_option maxRecDepth 20000 in
theorem ggX5_doomed_X2_inPhase : GoodIn wsX5_doomed wsX2_inPhase := goodIn_r _ [10, 11, 12, 60, 61, 62, 63, 64, 65, 66, 67, 68, 69] (by decide +kernel) (by decide +kernel)
set_option maxRecDepth 20000 in
theorem gX5_doomed_X2_inPhase : GoodIn wsX5_doomed (wsV RX5 129 RX2 yX2_inPhase wsX2_inPhase) := goodIn_app (goodIn_of _ (by decide +kernel)) ggX5_doomed_X2_inPhase
set_option maxRecDepth 20000 in
theorem ggX5_doomed_X5_contains : GoodIn wsX5_doomed wsX5_contains := goodIn_r _ [15] (by decide +kernel) (by decide +kernel)
set_option maxRecDepth 20000 in
theorem gX5_doomed_X5_contains : GoodIn wsX5_doomed (va_wsS RX5 122 yX5_contains wsX5_contains) := goodIn_app (goodIn_of _ (by decide +kernel)) ggX5_doomed_X5_contains
set_option maxRecDepth 20000 in
theorem ggX5_doomed_X0_refusal : GoodIn wsX5_doomed wsX0_refusal := goodIn_r _ [19, 20, 21, 18, 22, 23, 24, 25, 26, 27, 28, 29, 30, 31, 7, 8, 9, 10, 11, 12, 14, 4, 15, 32, 33, 34, 35, 36, 37, 38, 39, 40, 41, 42, 43, 44, 45, 46, 47, 48, 49, 50, 51, 52, 53, 60, 61, 62, 63, 64, 65, 66, 67, 68, 69] (by decide +kernel) (by decide +kernel)
set_option maxRecDepth 20000 in
theorem gX5_doomed_X0_refusal : GoodIn wsX5_doomed (va_wsS RX5 165 yX0_refusal wsX0_refusal) := goodIn_app (goodIn_of _ (by decide +kernel)) ggX5_doomed_X0_refusal
theorem dX5_doomed_0 : decode cX5_doomed 0 = .ok (.iload_n 1, 1) := by decide +kernel
theorem dX5_doomed_1 : decode cX5_doomed 1 = .ok (.invokestatic 177, 3) := by decide +kernel
theorem dX5_doomed_4 : decode cX5_doomed 4 = .ok (.ifCond .ne 6, 3) := by decide +kernel
theorem dX5_doomed_7 : decode cX5_doomed 7 = .ok (.bipush (-2), 2) := by decide +kernel
theorem dX5_doomed_9 : decode cX5_doomed 9 = .ok (.ireturn, 1) := by decide +kernel
theorem dX5_doomed_10 : decode cX5_doomed 10 = .ok (.aload_n 0, 1) := by decide +kernel
theorem dX5_doomed_11 : decode cX5_doomed 11 = .ok (.getfield 10, 3) := by decide +kernel
theorem dX5_doomed_14 : decode cX5_doomed 14 = .ok (.iconst 0, 1) := by decide +kernel
theorem dX5_doomed_15 : decode cX5_doomed 15 = .ok (.invokevirtual 129, 3) := by decide +kernel
theorem dX5_doomed_18 : decode cX5_doomed 18 = .ok (.istore_n 2, 1) := by decide +kernel
theorem dX5_doomed_19 : decode cX5_doomed 19 = .ok (.iconst 0, 1) := by decide +kernel
theorem dX5_doomed_20 : decode cX5_doomed 20 = .ok (.istore_n 3, 1) := by decide +kernel
theorem dX5_doomed_21 : decode cX5_doomed 21 = .ok (.iconst 0, 1) := by decide +kernel
theorem dX5_doomed_22 : decode cX5_doomed 22 = .ok (.istore 4, 2) := by decide +kernel
theorem dX5_doomed_24 : decode cX5_doomed 24 = .ok (.iload 4, 2) := by decide +kernel
theorem dX5_doomed_26 : decode cX5_doomed 26 = .ok (.bipush 12, 2) := by decide +kernel
theorem dX5_doomed_28 : decode cX5_doomed 28 = .ok (.if_icmp .ge 38, 3) := by decide +kernel
theorem dX5_doomed_31 : decode cX5_doomed 31 = .ok (.iload_n 2, 1) := by decide +kernel
theorem dX5_doomed_32 : decode cX5_doomed 32 = .ok (.iload 4, 2) := by decide +kernel
theorem dX5_doomed_34 : decode cX5_doomed 34 = .ok (.invokestatic 122, 3) := by decide +kernel
theorem dX5_doomed_37 : decode cX5_doomed 37 = .ok (.ifCond .eq 23, 3) := by decide +kernel
theorem dX5_doomed_40 : decode cX5_doomed 40 = .ok (.aload_n 0, 1) := by decide +kernel
theorem dX5_doomed_41 : decode cX5_doomed 41 = .ok (.getfield 10, 3) := by decide +kernel
theorem dX5_doomed_44 : decode cX5_doomed 44 = .ok (.iload 4, 2) := by decide +kernel
theorem dX5_doomed_46 : decode cX5_doomed 46 = .ok (.iload_n 1, 1) := by decide +kernel
theorem dX5_doomed_47 : decode cX5_doomed 47 = .ok (.invokestatic 165, 3) := by decide +kernel
theorem dX5_doomed_50 : decode cX5_doomed 50 = .ok (.ifCond .eq 10, 3) := by decide +kernel
theorem dX5_doomed_53 : decode cX5_doomed 53 = .ok (.iload_n 3, 1) := by decide +kernel
theorem dX5_doomed_54 : decode cX5_doomed 54 = .ok (.iconst 1, 1) := by decide +kernel
theorem dX5_doomed_55 : decode cX5_doomed 55 = .ok (.iload 4, 2) := by decide +kernel
theorem dX5_doomed_57 : decode cX5_doomed 57 = .ok (.ishl, 1) := by decide +kernel
theorem dX5_doomed_58 : decode cX5_doomed 58 = .ok (.ior, 1) := by decide +kernel
theorem dX5_doomed_59 : decode cX5_doomed 59 = .ok (.istore_n 3, 1) := by decide +kernel
theorem dX5_doomed_60 : decode cX5_doomed 60 = .ok (.iinc 4 1, 3) := by decide +kernel
theorem dX5_doomed_63 : decode cX5_doomed 63 = .ok (.goto (-39), 3) := by decide +kernel
theorem dX5_doomed_66 : decode cX5_doomed 66 = .ok (.iload_n 3, 1) := by decide +kernel
theorem dX5_doomed_67 : decode cX5_doomed 67 = .ok (.ireturn, 1) := by decide +kernel
theorem dX5_isKey_0 : decode cX5_isKey 0 = .ok (.iload_n 0, 1) := by decide +kernel
theorem dX5_isKey_1 : decode cX5_isKey 1 = .ok (.ifCond .lt 13, 3) := by decide +kernel
theorem dX5_isKey_4 : decode cX5_isKey 4 = .ok (.iload_n 0, 1) := by decide +kernel
theorem dX5_isKey_5 : decode cX5_isKey 5 = .ok (.bipush 16, 2) := by decide +kernel
theorem dX5_isKey_7 : decode cX5_isKey 7 = .ok (.if_icmp .ge 7, 3) := by decide +kernel
theorem dX5_isKey_10 : decode cX5_isKey 10 = .ok (.iconst 1, 1) := by decide +kernel
theorem dX5_isKey_11 : decode cX5_isKey 11 = .ok (.goto 4, 3) := by decide +kernel
theorem dX5_isKey_14 : decode cX5_isKey 14 = .ok (.iconst 0, 1) := by decide +kernel
theorem dX5_isKey_15 : decode cX5_isKey 15 = .ok (.ireturn, 1) := by decide +kernel
theorem dX5_isRule_0 : decode cX5_isRule 0 = .ok (.iload_n 0, 1) := by decide +kernel
theorem dX5_isRule_1 : decode cX5_isRule 1 = .ok (.ifCond .lt 12, 3) := by decide +kernel
theorem dX5_isRule_4 : decode cX5_isRule 4 = .ok (.iload_n 0, 1) := by decide +kernel
theorem dX5_isRule_5 : decode cX5_isRule 5 = .ok (.iconst 4, 1) := by decide +kernel
theorem dX5_isRule_6 : decode cX5_isRule 6 = .ok (.if_icmp .ge 7, 3) := by decide +kernel
theorem dX5_isRule_9 : decode cX5_isRule 9 = .ok (.iconst 1, 1) := by decide +kernel
theorem dX5_isRule_10 : decode cX5_isRule 10 = .ok (.goto 4, 3) := by decide +kernel
theorem dX5_isRule_13 : decode cX5_isRule 13 = .ok (.iconst 0, 1) := by decide +kernel
theorem dX5_isRule_14 : decode cX5_isRule 14 = .ok (.ireturn, 1) := by decide +kernel
theorem dX5_contains_0 : decode cX5_contains 0 = .ok (.iload_n 0, 1) := by decide +kernel
theorem dX5_contains_1 : decode cX5_contains 1 = .ok (.iload_n 1, 1) := by decide +kernel
theorem dX5_contains_2 : decode cX5_contains 2 = .ok (.ishr, 1) := by decide +kernel
theorem dX5_contains_3 : decode cX5_contains 3 = .ok (.iconst 1, 1) := by decide +kernel
theorem dX5_contains_4 : decode cX5_contains 4 = .ok (.iand, 1) := by decide +kernel
theorem dX5_contains_5 : decode cX5_contains 5 = .ok (.iconst 1, 1) := by decide +kernel
theorem dX5_contains_6 : decode cX5_contains 6 = .ok (.if_icmp .ne 7, 3) := by decide +kernel
theorem dX5_contains_9 : decode cX5_contains 9 = .ok (.iconst 1, 1) := by decide +kernel
theorem dX5_contains_10 : decode cX5_contains 10 = .ok (.goto 4, 3) := by decide +kernel
theorem dX5_contains_13 : decode cX5_contains 13 = .ok (.iconst 0, 1) := by decide +kernel
theorem dX5_contains_14 : decode cX5_contains 14 = .ok (.ireturn, 1) := by decide +kernel
