set_option maxRecDepth 20000 in
theorem ggX0_refusal_X0_isLaterWriter : GoodIn wsX0_refusal wsX0_isLaterWriter := goodIn_r _ [4, 5, 6, 7, 8, 9, 45, 46, 47, 48, 49, 50, 51, 52, 53, 54] (by decide +kernel) (by decide +kernel)
set_option maxRecDepth 20000 in
theorem gX0_refusal_X0_isLaterWriter : GoodIn wsX0_refusal (va_wsS RX0 9 yX0_isLaterWriter wsX0_isLaterWriter) := goodIn_app (goodIn_of _ (by decide +kernel)) ggX0_refusal_X0_isLaterWriter
set_option maxRecDepth 20000 in
theorem ggX0_refusal_X0_firstTriple : GoodIn wsX0_refusal wsX0_firstTriple := goodIn_r _ [12, 6, 13, 14, 15, 16, 17, 18, 19, 20, 21, 22, 23, 24, 25, 26, 27, 28, 29, 30, 31, 32, 33, 34, 35, 36, 37, 38, 39, 40, 3, 41, 42, 43, 44, 7, 8, 5, 9, 45, 46, 47, 48, 49, 50, 51, 52, 53, 54] (by decide +kernel) (by decide +kernel)
set_option maxRecDepth 20000 in
theorem gX0_refusal_X0_firstTriple : GoodIn wsX0_refusal (va_wsS RX0 15 yX0_firstTriple wsX0_firstTriple) := goodIn_app (goodIn_of _ (by decide +kernel)) ggX0_refusal_X0_firstTriple
theorem dX0_refusal_0 : decode cX0_refusal 0 = .ok (.aload_n 0, 1) := by decide +kernel
theorem dX0_refusal_1 : decode cX0_refusal 1 = .ok (.iload_n 1, 1) := by decide +kernel
theorem dX0_refusal_2 : decode cX0_refusal 2 = .ok (.invokestatic 9, 3) := by decide +kernel
theorem dX0_refusal_5 : decode cX0_refusal 5 = .ok (.ifCond .eq 5, 3) := by decide +kernel
theorem dX0_refusal_8 : decode cX0_refusal 8 = .ok (.iconst 1, 1) := by decide +kernel
theorem dX0_refusal_9 : decode cX0_refusal 9 = .ok (.ireturn, 1) := by decide +kernel
theorem dX0_refusal_10 : decode cX0_refusal 10 = .ok (.aload_n 0, 1) := by decide +kernel
theorem dX0_refusal_11 : decode cX0_refusal 11 = .ok (.iload_n 1, 1) := by decide +kernel
theorem dX0_refusal_12 : decode cX0_refusal 12 = .ok (.iload_n 2, 1) := by decide +kernel
theorem dX0_refusal_13 : decode cX0_refusal 13 = .ok (.invokestatic 15, 3) := by decide +kernel
theorem dX0_refusal_16 : decode cX0_refusal 16 = .ok (.bipush (-6), 2) := by decide +kernel
theorem dX0_refusal_18 : decode cX0_refusal 18 = .ok (.if_icmp .ne 7, 3) := by decide +kernel
theorem dX0_refusal_21 : decode cX0_refusal 21 = .ok (.iconst 0, 1) := by decide +kernel
theorem dX0_refusal_22 : decode cX0_refusal 22 = .ok (.goto 4, 3) := by decide +kernel
theorem dX0_refusal_25 : decode cX0_refusal 25 = .ok (.iconst 2, 1) := by decide +kernel
theorem dX0_refusal_26 : decode cX0_refusal 26 = .ok (.ireturn, 1) := by decide +kernel
theorem dX0_isLaterWriter_0 : decode cX0_isLaterWriter 0 = .ok (.aload_n 0, 1) := by decide +kernel
theorem dX0_isLaterWriter_1 : decode cX0_isLaterWriter 1 = .ok (.getfield 19, 3) := by decide +kernel
theorem dX0_isLaterWriter_4 : decode cX0_isLaterWriter 4 = .ok (.iload_n 1, 1) := by decide +kernel
theorem dX0_isLaterWriter_5 : decode cX0_isLaterWriter 5 = .ok (.iaload, 1) := by decide +kernel
theorem dX0_isLaterWriter_6 : decode cX0_isLaterWriter 6 = .ok (.istore_n 2, 1) := by decide +kernel
theorem dX0_isLaterWriter_7 : decode cX0_isLaterWriter 7 = .ok (.iconst 0, 1) := by decide +kernel
theorem dX0_isLaterWriter_8 : decode cX0_isLaterWriter 8 = .ok (.istore_n 3, 1) := by decide +kernel
theorem dX0_isLaterWriter_9 : decode cX0_isLaterWriter 9 = .ok (.iload_n 3, 1) := by decide +kernel
theorem dX0_isLaterWriter_10 : decode cX0_isLaterWriter 10 = .ok (.aload_n 0, 1) := by decide +kernel
theorem dX0_isLaterWriter_11 : decode cX0_isLaterWriter 11 = .ok (.getfield 25, 3) := by decide +kernel
theorem dX0_isLaterWriter_14 : decode cX0_isLaterWriter 14 = .ok (.if_icmp .ge 47, 3) := by decide +kernel
theorem dX0_isLaterWriter_17 : decode cX0_isLaterWriter 17 = .ok (.aload_n 0, 1) := by decide +kernel
theorem dX0_isLaterWriter_18 : decode cX0_isLaterWriter 18 = .ok (.getfield 29, 3) := by decide +kernel
theorem dX0_isLaterWriter_21 : decode cX0_isLaterWriter 21 = .ok (.iload_n 3, 1) := by decide +kernel
theorem dX0_isLaterWriter_22 : decode cX0_isLaterWriter 22 = .ok (.iaload, 1) := by decide +kernel
theorem dX0_isLaterWriter_23 : decode cX0_isLaterWriter 23 = .ok (.iconst 1, 1) := by decide +kernel
theorem dX0_isLaterWriter_24 : decode cX0_isLaterWriter 24 = .ok (.if_icmp .ne 31, 3) := by decide +kernel
theorem dX0_isLaterWriter_27 : decode cX0_isLaterWriter 27 = .ok (.aload_n 0, 1) := by decide +kernel
theorem dX0_isLaterWriter_28 : decode cX0_isLaterWriter 28 = .ok (.getfield 32, 3) := by decide +kernel
theorem dX0_isLaterWriter_31 : decode cX0_isLaterWriter 31 = .ok (.iload_n 3, 1) := by decide +kernel
theorem dX0_isLaterWriter_32 : decode cX0_isLaterWriter 32 = .ok (.iaload, 1) := by decide +kernel
theorem dX0_isLaterWriter_33 : decode cX0_isLaterWriter 33 = .ok (.aload_n 0, 1) := by decide +kernel
theorem dX0_isLaterWriter_34 : decode cX0_isLaterWriter 34 = .ok (.getfield 35, 3) := by decide +kernel
theorem dX0_isLaterWriter_37 : decode cX0_isLaterWriter 37 = .ok (.iload_n 1, 1) := by decide +kernel
theorem dX0_isLaterWriter_38 : decode cX0_isLaterWriter 38 = .ok (.iaload, 1) := by decide +kernel
theorem dX0_isLaterWriter_39 : decode cX0_isLaterWriter 39 = .ok (.if_icmp .le 16, 3) := by decide +kernel
theorem dX0_isLaterWriter_42 : decode cX0_isLaterWriter 42 = .ok (.aload_n 0, 1) := by decide +kernel
theorem dX0_isLaterWriter_43 : decode cX0_isLaterWriter 43 = .ok (.getfield 19, 3) := by decide +kernel
theorem dX0_isLaterWriter_46 : decode cX0_isLaterWriter 46 = .ok (.iload_n 3, 1) := by decide +kernel
theorem dX0_isLaterWriter_47 : decode cX0_isLaterWriter 47 = .ok (.iaload, 1) := by decide +kernel
theorem dX0_isLaterWriter_48 : decode cX0_isLaterWriter 48 = .ok (.iload_n 2, 1) := by decide +kernel
theorem dX0_isLaterWriter_49 : decode cX0_isLaterWriter 49 = .ok (.iand, 1) := by decide +kernel
theorem dX0_isLaterWriter_50 : decode cX0_isLaterWriter 50 = .ok (.ifCond .eq 5, 3) := by decide +kernel
theorem dX0_isLaterWriter_53 : decode cX0_isLaterWriter 53 = .ok (.iconst 1, 1) := by decide +kernel
theorem dX0_isLaterWriter_54 : decode cX0_isLaterWriter 54 = .ok (.ireturn, 1) := by decide +kernel
theorem dX0_isLaterWriter_55 : decode cX0_isLaterWriter 55 = .ok (.iinc 3 1, 3) := by decide +kernel
theorem dX0_isLaterWriter_58 : decode cX0_isLaterWriter 58 = .ok (.goto (-49), 3) := by decide +kernel
theorem dX0_isLaterWriter_61 : decode cX0_isLaterWriter 61 = .ok (.iconst 0, 1) := by decide +kernel
theorem dX0_isLaterWriter_62 : decode cX0_isLaterWriter 62 = .ok (.ireturn, 1) := by decide +kernel
set_option maxRecDepth 20000 in
theorem ggX0_firstTriple_X2_inPhase : GoodIn wsX0_firstTriple wsX2_inPhase := goodIn_r _ [6, 7, 8, 39, 40, 41, 42, 43, 44, 45, 46, 47, 48] (by decide +kernel) (by decide +kernel)
set_option maxRecDepth 20000 in
theorem gX0_firstTriple_X2_inPhase : GoodIn wsX0_firstTriple (wsV RX0 38 RX2 yX2_inPhase wsX2_inPhase) := goodIn_app (goodIn_of _ (by decide +kernel)) ggX0_firstTriple_X2_inPhase
set_option maxRecDepth 20000 in
theorem ggX0_firstTriple_X5_contains : GoodIn wsX0_firstTriple wsX5_contains := goodIn_r _ [11] (by decide +kernel) (by decide +kernel)
set_option maxRecDepth 20000 in
theorem gX0_firstTriple_X5_contains_n42 : GoodIn wsX0_firstTriple (wsX5_contains) := ggX0_firstTriple_X5_contains
set_option maxRecDepth 20000 in
theorem ggX0_firstTriple_X2_edgesTo : GoodIn wsX0_firstTriple wsX2_edgesTo := goodIn_r _ [15, 7, 16, 17, 18, 5, 19, 8, 20, 21, 22, 23, 39, 40, 41, 42, 43, 44, 45, 46, 47, 48] (by decide +kernel) (by decide +kernel)
set_option maxRecDepth 20000 in
theorem gX0_firstTriple_X2_edgesTo : GoodIn wsX0_firstTriple (wsV RX0 46 RX2 yX2_edgesTo wsX2_edgesTo) := goodIn_app (goodIn_of _ (by decide +kernel)) ggX0_firstTriple_X2_edgesTo
set_option maxRecDepth 20000 in
theorem ggX0_firstTriple_X2_edgesFrom : GoodIn wsX0_firstTriple wsX2_edgesFrom := goodIn_r _ [27, 7, 16, 17, 18, 5, 19, 8, 20, 21, 22, 23, 39, 40, 41, 42, 43, 44, 45, 46, 47, 48] (by decide +kernel) (by decide +kernel)
set_option maxRecDepth 20000 in
theorem gX0_firstTriple_X2_edgesFrom : GoodIn wsX0_firstTriple (wsV RX0 49 RX2 yX2_edgesFrom wsX2_edgesFrom) := goodIn_app (goodIn_of _ (by decide +kernel)) ggX0_firstTriple_X2_edgesFrom
set_option maxRecDepth 20000 in
theorem ggX0_firstTriple_X0_firstOverPivot : GoodIn wsX0_firstTriple wsX0_firstOverPivot := goodIn_r _ [31, 1, 9, 10, 11, 32, 33, 30, 34, 35, 36, 37, 38, 39, 40, 41, 42, 43, 44, 45, 46, 47, 48] (by decide +kernel) (by decide +kernel)
set_option maxRecDepth 20000 in
theorem gX0_firstTriple_X0_firstOverPivot : GoodIn wsX0_firstTriple (va_wsS RX0 52 yX0_firstOverPivot wsX0_firstOverPivot) := goodIn_app (goodIn_of _ (by decide +kernel)) ggX0_firstTriple_X0_firstOverPivot
theorem dX0_firstTriple_0 : decode cX0_firstTriple 0 = .ok (.aload_n 0, 1) := by decide +kernel
theorem dX0_firstTriple_1 : decode cX0_firstTriple 1 = .ok (.iconst 1, 1) := by decide +kernel
theorem dX0_firstTriple_2 : decode cX0_firstTriple 2 = .ok (.invokevirtual 38, 3) := by decide +kernel
theorem dX0_firstTriple_5 : decode cX0_firstTriple 5 = .ok (.iconst 1, 1) := by decide +kernel
theorem dX0_firstTriple_6 : decode cX0_firstTriple 6 = .ok (.iload_n 1, 1) := by decide +kernel
theorem dX0_firstTriple_7 : decode cX0_firstTriple 7 = .ok (.ishl, 1) := by decide +kernel
theorem dX0_firstTriple_8 : decode cX0_firstTriple 8 = .ok (.ior, 1) := by decide +kernel
theorem dX0_firstTriple_9 : decode cX0_firstTriple 9 = .ok (.istore_n 3, 1) := by decide +kernel
theorem dX0_firstTriple_10 : decode cX0_firstTriple 10 = .ok (.iconst 0, 1) := by decide +kernel
theorem dX0_firstTriple_11 : decode cX0_firstTriple 11 = .ok (.istore 4, 2) := by decide +kernel
theorem dX0_firstTriple_13 : decode cX0_firstTriple 13 = .ok (.iload 4, 2) := by decide +kernel
theorem dX0_firstTriple_15 : decode cX0_firstTriple 15 = .ok (.aload_n 0, 1) := by decide +kernel
theorem dX0_firstTriple_16 : decode cX0_firstTriple 16 = .ok (.getfield 25, 3) := by decide +kernel
theorem dX0_firstTriple_19 : decode cX0_firstTriple 19 = .ok (.if_icmp .ge 62, 3) := by decide +kernel
theorem dX0_firstTriple_22 : decode cX0_firstTriple 22 = .ok (.iload_n 3, 1) := by decide +kernel
theorem dX0_firstTriple_23 : decode cX0_firstTriple 23 = .ok (.iload 4, 2) := by decide +kernel
theorem dX0_firstTriple_25 : decode cX0_firstTriple 25 = .ok (.invokestatic 42, 3) := by decide +kernel
theorem dX0_firstTriple_28 : decode cX0_firstTriple 28 = .ok (.ifCond .eq 47, 3) := by decide +kernel
theorem dX0_firstTriple_31 : decode cX0_firstTriple 31 = .ok (.aload_n 0, 1) := by decide +kernel
theorem dX0_firstTriple_32 : decode cX0_firstTriple 32 = .ok (.iload 4, 2) := by decide +kernel
theorem dX0_firstTriple_34 : decode cX0_firstTriple 34 = .ok (.invokevirtual 46, 3) := by decide +kernel
theorem dX0_firstTriple_37 : decode cX0_firstTriple 37 = .ok (.iload_n 3, 1) := by decide +kernel
theorem dX0_firstTriple_38 : decode cX0_firstTriple 38 = .ok (.iand, 1) := by decide +kernel
theorem dX0_firstTriple_39 : decode cX0_firstTriple 39 = .ok (.istore 5, 2) := by decide +kernel
theorem dX0_firstTriple_41 : decode cX0_firstTriple 41 = .ok (.aload_n 0, 1) := by decide +kernel
theorem dX0_firstTriple_42 : decode cX0_firstTriple 42 = .ok (.iload 4, 2) := by decide +kernel
theorem dX0_firstTriple_44 : decode cX0_firstTriple 44 = .ok (.invokevirtual 49, 3) := by decide +kernel
theorem dX0_firstTriple_47 : decode cX0_firstTriple 47 = .ok (.iload_n 3, 1) := by decide +kernel
theorem dX0_firstTriple_48 : decode cX0_firstTriple 48 = .ok (.iand, 1) := by decide +kernel
theorem dX0_firstTriple_49 : decode cX0_firstTriple 49 = .ok (.istore 6, 2) := by decide +kernel
theorem dX0_firstTriple_51 : decode cX0_firstTriple 51 = .ok (.aload_n 0, 1) := by decide +kernel
theorem dX0_firstTriple_52 : decode cX0_firstTriple 52 = .ok (.iload_n 1, 1) := by decide +kernel
theorem dX0_firstTriple_53 : decode cX0_firstTriple 53 = .ok (.iload_n 2, 1) := by decide +kernel
theorem dX0_firstTriple_54 : decode cX0_firstTriple 54 = .ok (.iload 4, 2) := by decide +kernel
theorem dX0_firstTriple_56 : decode cX0_firstTriple 56 = .ok (.iload 5, 2) := by decide +kernel
theorem dX0_firstTriple_58 : decode cX0_firstTriple 58 = .ok (.iload 6, 2) := by decide +kernel
theorem dX0_firstTriple_60 : decode cX0_firstTriple 60 = .ok (.invokestatic 52, 3) := by decide +kernel
theorem dX0_firstTriple_63 : decode cX0_firstTriple 63 = .ok (.istore 7, 2) := by decide +kernel
theorem dX0_firstTriple_65 : decode cX0_firstTriple 65 = .ok (.iload 7, 2) := by decide +kernel
theorem dX0_firstTriple_67 : decode cX0_firstTriple 67 = .ok (.bipush (-6), 2) := by decide +kernel
theorem dX0_firstTriple_69 : decode cX0_firstTriple 69 = .ok (.if_icmp .eq 6, 3) := by decide +kernel
theorem dX0_firstTriple_72 : decode cX0_firstTriple 72 = .ok (.iload 7, 2) := by decide +kernel
theorem dX0_firstTriple_74 : decode cX0_firstTriple 74 = .ok (.ireturn, 1) := by decide +kernel
theorem dX0_firstTriple_75 : decode cX0_firstTriple 75 = .ok (.iinc 4 1, 3) := by decide +kernel
theorem dX0_firstTriple_78 : decode cX0_firstTriple 78 = .ok (.goto (-65), 3) := by decide +kernel
theorem dX0_firstTriple_81 : decode cX0_firstTriple 81 = .ok (.bipush (-6), 2) := by decide +kernel
theorem dX0_firstTriple_83 : decode cX0_firstTriple 83 = .ok (.ireturn, 1) := by decide +kernel
set_option maxRecDepth 20000 in
theorem ggX0_firstOverPivot_X5_contains : GoodIn wsX0_firstOverPivot wsX5_contains := goodIn_r _ [4] (by decide +kernel) (by decide +kernel)
set_option maxRecDepth 20000 in
theorem gX0_firstOverPivot_X5_contains_n42 : GoodIn wsX0_firstOverPivot (wsX5_contains) := ggX0_firstOverPivot_X5_contains
set_option maxRecDepth 20000 in
theorem ggX0_firstOverPivot_X0_counts : GoodIn wsX0_firstOverPivot wsX0_counts := goodIn_r _ [8, 9, 10, 11, 12, 13, 14, 15, 16, 17, 18, 19, 20, 21, 22] (by decide +kernel) (by decide +kernel)
set_option maxRecDepth 20000 in
theorem gX0_firstOverPivot_X0_counts : GoodIn wsX0_firstOverPivot (va_wsS RX0 56 yX0_counts wsX0_counts) := goodIn_app (goodIn_of _ (by decide +kernel)) ggX0_firstOverPivot_X0_counts
theorem dX0_firstOverPivot_0 : decode cX0_firstOverPivot 0 = .ok (.iconst 0, 1) := by decide +kernel
theorem dX0_firstOverPivot_1 : decode cX0_firstOverPivot 1 = .ok (.istore 6, 2) := by decide +kernel
theorem dX0_firstOverPivot_3 : decode cX0_firstOverPivot 3 = .ok (.iload 6, 2) := by decide +kernel
theorem dX0_firstOverPivot_5 : decode cX0_firstOverPivot 5 = .ok (.aload_n 0, 1) := by decide +kernel
theorem dX0_firstOverPivot_6 : decode cX0_firstOverPivot 6 = .ok (.getfield 25, 3) := by decide +kernel
theorem dX0_firstOverPivot_9 : decode cX0_firstOverPivot 9 = .ok (.if_icmp .ge 101, 3) := by decide +kernel
theorem dX0_firstOverPivot_12 : decode cX0_firstOverPivot 12 = .ok (.iconst 0, 1) := by decide +kernel
theorem dX0_firstOverPivot_13 : decode cX0_firstOverPivot 13 = .ok (.istore 7, 2) := by decide +kernel
theorem dX0_firstOverPivot_15 : decode cX0_firstOverPivot 15 = .ok (.iload 7, 2) := by decide +kernel
theorem dX0_firstOverPivot_17 : decode cX0_firstOverPivot 17 = .ok (.aload_n 0, 1) := by decide +kernel
theorem dX0_firstOverPivot_18 : decode cX0_firstOverPivot 18 = .ok (.getfield 25, 3) := by decide +kernel
theorem dX0_firstOverPivot_21 : decode cX0_firstOverPivot 21 = .ok (.if_icmp .ge 83, 3) := by decide +kernel
theorem dX0_firstOverPivot_24 : decode cX0_firstOverPivot 24 = .ok (.iload 6, 2) := by decide +kernel
theorem dX0_firstOverPivot_26 : decode cX0_firstOverPivot 26 = .ok (.iload_n 1, 1) := by decide +kernel
theorem dX0_firstOverPivot_27 : decode cX0_firstOverPivot 27 = .ok (.if_icmp .eq 14, 3) := by decide +kernel
theorem dX0_firstOverPivot_30 : decode cX0_firstOverPivot 30 = .ok (.iload_n 3, 1) := by decide +kernel
theorem dX0_firstOverPivot_31 : decode cX0_firstOverPivot 31 = .ok (.iload_n 1, 1) := by decide +kernel
theorem dX0_firstOverPivot_32 : decode cX0_firstOverPivot 32 = .ok (.if_icmp .eq 9, 3) := by decide +kernel
theorem dX0_firstOverPivot_35 : decode cX0_firstOverPivot 35 = .ok (.iload 7, 2) := by decide +kernel
theorem dX0_firstOverPivot_37 : decode cX0_firstOverPivot 37 = .ok (.iload_n 1, 1) := by decide +kernel
theorem dX0_firstOverPivot_38 : decode cX0_firstOverPivot 38 = .ok (.if_icmp .ne 7, 3) := by decide +kernel
theorem dX0_firstOverPivot_41 : decode cX0_firstOverPivot 41 = .ok (.iconst 1, 1) := by decide +kernel
theorem dX0_firstOverPivot_42 : decode cX0_firstOverPivot 42 = .ok (.goto 4, 3) := by decide +kernel
theorem dX0_firstOverPivot_45 : decode cX0_firstOverPivot 45 = .ok (.iconst 0, 1) := by decide +kernel
theorem dX0_firstOverPivot_46 : decode cX0_firstOverPivot 46 = .ok (.istore 8, 2) := by decide +kernel
theorem dX0_firstOverPivot_48 : decode cX0_firstOverPivot 48 = .ok (.iload 8, 2) := by decide +kernel
theorem dX0_firstOverPivot_50 : decode cX0_firstOverPivot 50 = .ok (.ifCond .eq 48, 3) := by decide +kernel
theorem dX0_firstOverPivot_53 : decode cX0_firstOverPivot 53 = .ok (.iload 4, 2) := by decide +kernel
theorem dX0_firstOverPivot_55 : decode cX0_firstOverPivot 55 = .ok (.iload 6, 2) := by decide +kernel
theorem dX0_firstOverPivot_57 : decode cX0_firstOverPivot 57 = .ok (.invokestatic 42, 3) := by decide +kernel
theorem dX0_firstOverPivot_60 : decode cX0_firstOverPivot 60 = .ok (.ifCond .eq 38, 3) := by decide +kernel
theorem dX0_firstOverPivot_63 : decode cX0_firstOverPivot 63 = .ok (.iload 5, 2) := by decide +kernel
theorem dX0_firstOverPivot_65 : decode cX0_firstOverPivot 65 = .ok (.iload 7, 2) := by decide +kernel
theorem dX0_firstOverPivot_67 : decode cX0_firstOverPivot 67 = .ok (.invokestatic 42, 3) := by decide +kernel
theorem dX0_firstOverPivot_70 : decode cX0_firstOverPivot 70 = .ok (.ifCond .eq 28, 3) := by decide +kernel
theorem dX0_firstOverPivot_73 : decode cX0_firstOverPivot 73 = .ok (.aload_n 0, 1) := by decide +kernel
theorem dX0_firstOverPivot_74 : decode cX0_firstOverPivot 74 = .ok (.iload_n 2, 1) := by decide +kernel
theorem dX0_firstOverPivot_75 : decode cX0_firstOverPivot 75 = .ok (.iload 6, 2) := by decide +kernel
theorem dX0_firstOverPivot_77 : decode cX0_firstOverPivot 77 = .ok (.iload_n 3, 1) := by decide +kernel
theorem dX0_firstOverPivot_78 : decode cX0_firstOverPivot 78 = .ok (.iload 7, 2) := by decide +kernel
theorem dX0_firstOverPivot_80 : decode cX0_firstOverPivot 80 = .ok (.invokestatic 56, 3) := by decide +kernel
theorem dX0_firstOverPivot_83 : decode cX0_firstOverPivot 83 = .ok (.ifCond .eq 15, 3) := by decide +kernel
theorem dX0_firstOverPivot_86 : decode cX0_firstOverPivot 86 = .ok (.iload_n 3, 1) := by decide +kernel
theorem dX0_firstOverPivot_87 : decode cX0_firstOverPivot 87 = .ok (.iconst 4, 1) := by decide +kernel
theorem dX0_firstOverPivot_88 : decode cX0_firstOverPivot 88 = .ok (.ishl, 1) := by decide +kernel
theorem dX0_firstOverPivot_89 : decode cX0_firstOverPivot 89 = .ok (.iload 6, 2) := by decide +kernel
theorem dX0_firstOverPivot_91 : decode cX0_firstOverPivot 91 = .ok (.ior, 1) := by decide +kernel
theorem dX0_firstOverPivot_92 : decode cX0_firstOverPivot 92 = .ok (.iconst 4, 1) := by decide +kernel
theorem dX0_firstOverPivot_93 : decode cX0_firstOverPivot 93 = .ok (.ishl, 1) := by decide +kernel
theorem dX0_firstOverPivot_94 : decode cX0_firstOverPivot 94 = .ok (.iload 7, 2) := by decide +kernel
theorem dX0_firstOverPivot_96 : decode cX0_firstOverPivot 96 = .ok (.ior, 1) := by decide +kernel
theorem dX0_firstOverPivot_97 : decode cX0_firstOverPivot 97 = .ok (.ireturn, 1) := by decide +kernel
theorem dX0_firstOverPivot_98 : decode cX0_firstOverPivot 98 = .ok (.iinc 7 1, 3) := by decide +kernel
theorem dX0_firstOverPivot_101 : decode cX0_firstOverPivot 101 = .ok (.goto (-86), 3) := by decide +kernel
theorem dX0_firstOverPivot_104 : decode cX0_firstOverPivot 104 = .ok (.iinc 6 1, 3) := by decide +kernel
theorem dX0_firstOverPivot_107 : decode cX0_firstOverPivot 107 = .ok (.goto (-104), 3) := by decide +kernel
theorem dX0_firstOverPivot_110 : decode cX0_firstOverPivot 110 = .ok (.bipush (-6), 2) := by decide +kernel
theorem dX0_firstOverPivot_112 : decode cX0_firstOverPivot 112 = .ok (.ireturn, 1) := by decide +kernel
theorem dX0_counts_0 : decode cX0_counts 0 = .ok (.iload_n 1, 1) := by decide +kernel
theorem dX0_counts_1 : decode cX0_counts 1 = .ok (.ifCond .eq 8, 3) := by decide +kernel
theorem dX0_counts_4 : decode cX0_counts 4 = .ok (.iload_n 1, 1) := by decide +kernel
theorem dX0_counts_5 : decode cX0_counts 5 = .ok (.iconst 3, 1) := by decide +kernel
theorem dX0_counts_6 : decode cX0_counts 6 = .ok (.if_icmp .ne 13, 3) := by decide +kernel
theorem dX0_counts_9 : decode cX0_counts 9 = .ok (.iload_n 1, 1) := by decide +kernel
theorem dX0_counts_10 : decode cX0_counts 10 = .ok (.ifCond .ne 7, 3) := by decide +kernel
theorem dX0_counts_13 : decode cX0_counts 13 = .ok (.iconst 1, 1) := by decide +kernel
theorem dX0_counts_14 : decode cX0_counts 14 = .ok (.goto 4, 3) := by decide +kernel
theorem dX0_counts_17 : decode cX0_counts 17 = .ok (.iconst 0, 1) := by decide +kernel
theorem dX0_counts_18 : decode cX0_counts 18 = .ok (.ireturn, 1) := by decide +kernel
theorem dX0_counts_19 : decode cX0_counts 19 = .ok (.aload_n 0, 1) := by decide +kernel
theorem dX0_counts_20 : decode cX0_counts 20 = .ok (.getfield 29, 3) := by decide +kernel
theorem dX0_counts_23 : decode cX0_counts 23 = .ok (.iload 4, 2) := by decide +kernel
theorem dX0_counts_25 : decode cX0_counts 25 = .ok (.iaload, 1) := by decide +kernel
theorem dX0_counts_26 : decode cX0_counts 26 = .ok (.iconst 1, 1) := by decide +kernel
theorem dX0_counts_27 : decode cX0_counts 27 = .ok (.if_icmp .eq 5, 3) := by decide +kernel
theorem dX0_counts_30 : decode cX0_counts 30 = .ok (.iconst 0, 1) := by decide +kernel
theorem dX0_counts_31 : decode cX0_counts 31 = .ok (.ireturn, 1) := by decide +kernel
theorem dX0_counts_32 : decode cX0_counts 32 = .ok (.aload_n 0, 1) := by decide +kernel
theorem dX0_counts_33 : decode cX0_counts 33 = .ok (.getfield 32, 3) := by decide +kernel
theorem dX0_counts_36 : decode cX0_counts 36 = .ok (.iload 4, 2) := by decide +kernel
theorem dX0_counts_38 : decode cX0_counts 38 = .ok (.iaload, 1) := by decide +kernel
theorem dX0_counts_39 : decode cX0_counts 39 = .ok (.istore 5, 2) := by decide +kernel
theorem dX0_counts_41 : decode cX0_counts 41 = .ok (.aload_n 0, 1) := by decide +kernel
theorem dX0_counts_42 : decode cX0_counts 42 = .ok (.getfield 29, 3) := by decide +kernel
theorem dX0_counts_45 : decode cX0_counts 45 = .ok (.iload_n 3, 1) := by decide +kernel
theorem dX0_counts_46 : decode cX0_counts 46 = .ok (.iaload, 1) := by decide +kernel
theorem dX0_counts_47 : decode cX0_counts 47 = .ok (.iconst 1, 1) := by decide +kernel
theorem dX0_counts_48 : decode cX0_counts 48 = .ok (.if_icmp .ne 16, 3) := by decide +kernel
theorem dX0_counts_51 : decode cX0_counts 51 = .ok (.aload_n 0, 1) := by decide +kernel
theorem dX0_counts_52 : decode cX0_counts 52 = .ok (.getfield 32, 3) := by decide +kernel
theorem dX0_counts_55 : decode cX0_counts 55 = .ok (.iload_n 3, 1) := by decide +kernel
theorem dX0_counts_56 : decode cX0_counts 56 = .ok (.iaload, 1) := by decide +kernel
theorem dX0_counts_57 : decode cX0_counts 57 = .ok (.iload 5, 2) := by decide +kernel
theorem dX0_counts_59 : decode cX0_counts 59 = .ok (.if_icmp .ge 5, 3) := by decide +kernel
theorem dX0_counts_62 : decode cX0_counts 62 = .ok (.iconst 0, 1) := by decide +kernel
theorem dX0_counts_63 : decode cX0_counts 63 = .ok (.ireturn, 1) := by decide +kernel
theorem dX0_counts_64 : decode cX0_counts 64 = .ok (.aload_n 0, 1) := by decide +kernel
theorem dX0_counts_65 : decode cX0_counts 65 = .ok (.getfield 29, 3) := by decide +kernel
theorem dX0_counts_68 : decode cX0_counts 68 = .ok (.iload_n 2, 1) := by decide +kernel
theorem dX0_counts_69 : decode cX0_counts 69 = .ok (.iaload, 1) := by decide +kernel
theorem dX0_counts_70 : decode cX0_counts 70 = .ok (.iconst 1, 1) := by decide +kernel
theorem dX0_counts_71 : decode cX0_counts 71 = .ok (.if_icmp .ne 16, 3) := by decide +kernel
theorem dX0_counts_74 : decode cX0_counts 74 = .ok (.aload_n 0, 1) := by decide +kernel
theorem dX0_counts_75 : decode cX0_counts 75 = .ok (.getfield 32, 3) := by decide +kernel
theorem dX0_counts_78 : decode cX0_counts 78 = .ok (.iload_n 2, 1) := by decide +kernel
theorem dX0_counts_79 : decode cX0_counts 79 = .ok (.iaload, 1) := by decide +kernel
theorem dX0_counts_80 : decode cX0_counts 80 = .ok (.iload 5, 2) := by decide +kernel
theorem dX0_counts_82 : decode cX0_counts 82 = .ok (.if_icmp .ge 5, 3) := by decide +kernel
theorem dX0_counts_85 : decode cX0_counts 85 = .ok (.iconst 0, 1) := by decide +kernel
theorem dX0_counts_86 : decode cX0_counts 86 = .ok (.ireturn, 1) := by decide +kernel
theorem dX0_counts_87 : decode cX0_counts 87 = .ok (.iload_n 1, 1) := by decide +kernel
theorem dX0_counts_88 : decode cX0_counts 88 = .ok (.iconst 1, 1) := by decide +kernel
theorem dX0_counts_89 : decode cX0_counts 89 = .ok (.if_icmp .eq 23, 3) := by decide +kernel
theorem dX0_counts_92 : decode cX0_counts 92 = .ok (.aload_n 0, 1) := by decide +kernel
theorem dX0_counts_93 : decode cX0_counts 93 = .ok (.getfield 19, 3) := by decide +kernel
theorem dX0_counts_96 : decode cX0_counts 96 = .ok (.iload_n 2, 1) := by decide +kernel
theorem dX0_counts_97 : decode cX0_counts 97 = .ok (.iaload, 1) := by decide +kernel
theorem dX0_counts_98 : decode cX0_counts 98 = .ok (.ifCond .ne 14, 3) := by decide +kernel
theorem dX0_counts_101 : decode cX0_counts 101 = .ok (.iload 5, 2) := by decide +kernel
theorem dX0_counts_103 : decode cX0_counts 103 = .ok (.aload_n 0, 1) := by decide +kernel
theorem dX0_counts_104 : decode cX0_counts 104 = .ok (.getfield 35, 3) := by decide +kernel
theorem dX0_counts_107 : decode cX0_counts 107 = .ok (.iload_n 2, 1) := by decide +kernel
theorem dX0_counts_108 : decode cX0_counts 108 = .ok (.iaload, 1) := by decide +kernel
theorem dX0_counts_109 : decode cX0_counts 109 = .ok (.if_icmp .ge 7, 3) := by decide +kernel
theorem dX0_counts_112 : decode cX0_counts 112 = .ok (.iconst 1, 1) := by decide +kernel
theorem dX0_counts_113 : decode cX0_counts 113 = .ok (.goto 4, 3) := by decide +kernel
theorem dX0_counts_116 : decode cX0_counts 116 = .ok (.iconst 0, 1) := by decide +kernel
theorem dX0_counts_117 : decode cX0_counts 117 = .ok (.ireturn, 1) := by decide +kernel
theorem dX0_partOfTriple_0 : decode cX0_partOfTriple 0 = .ok (.iload_n 1, 1) := by decide +kernel
theorem dX0_partOfTriple_1 : decode cX0_partOfTriple 1 = .ok (.lookupswitch 42 #[(0, 27), (1, 34)], 27) := by decide +kernel
theorem dX0_partOfTriple_28 : decode cX0_partOfTriple 28 = .ok (.iload_n 0, 1) := by decide +kernel
theorem dX0_partOfTriple_29 : decode cX0_partOfTriple 29 = .ok (.iconst 4, 1) := by decide +kernel
theorem dX0_partOfTriple_30 : decode cX0_partOfTriple 30 = .ok (.ishr, 1) := by decide +kernel
theorem dX0_partOfTriple_31 : decode cX0_partOfTriple 31 = .ok (.bipush 15, 2) := by decide +kernel
theorem dX0_partOfTriple_33 : decode cX0_partOfTriple 33 = .ok (.iand, 1) := by decide +kernel
theorem dX0_partOfTriple_34 : decode cX0_partOfTriple 34 = .ok (.ireturn, 1) := by decide +kernel
theorem dX0_partOfTriple_35 : decode cX0_partOfTriple 35 = .ok (.iload_n 0, 1) := by decide +kernel
theorem dX0_partOfTriple_36 : decode cX0_partOfTriple 36 = .ok (.bipush 8, 2) := by decide +kernel
theorem dX0_partOfTriple_38 : decode cX0_partOfTriple 38 = .ok (.ishr, 1) := by decide +kernel
theorem dX0_partOfTriple_39 : decode cX0_partOfTriple 39 = .ok (.bipush 15, 2) := by decide +kernel
theorem dX0_partOfTriple_41 : decode cX0_partOfTriple 41 = .ok (.iand, 1) := by decide +kernel
theorem dX0_partOfTriple_42 : decode cX0_partOfTriple 42 = .ok (.ireturn, 1) := by decide +kernel
theorem dX0_partOfTriple_43 : decode cX0_partOfTriple 43 = .ok (.iload_n 0, 1) := by decide +kernel
theorem dX0_partOfTriple_44 : decode cX0_partOfTriple 44 = .ok (.bipush 15, 2) := by decide +kernel
theorem dX0_partOfTriple_46 : decode cX0_partOfTriple 46 = .ok (.iand, 1) := by decide +kernel
theorem dX0_partOfTriple_47 : decode cX0_partOfTriple 47 = .ok (.ireturn, 1) := by decide +kernel
set_option maxRecDepth 20000 in
theorem ggX1_init_X2_init : GoodIn wsX1_init wsX2_init := goodIn_r _ [12, 13, 2, 3, 14, 15, 16, 17, 18, 19, 20, 21, 22, 23, 24, 28, 29, 30, 31, 32, 33, 34, 35, 36, 37] (by decide +kernel) (by decide +kernel)
set_option maxRecDepth 20000 in
theorem gX1_init_X2_init : GoodIn wsX1_init (wsX2_init) := ggX1_init_X2_init
theorem dX1_init_0 : decode cX1_init 0 = .ok (.aload_n 0, 1) := by decide +kernel
theorem dX1_init_1 : decode cX1_init 1 = .ok (.invokespecial 3, 3) := by decide +kernel
theorem dX1_init_4 : decode cX1_init 4 = .ok (.aload_n 0, 1) := by decide +kernel
theorem dX1_init_5 : decode cX1_init 5 = .ok (.iconst 0, 1) := by decide +kernel
theorem dX1_init_6 : decode cX1_init 6 = .ok (.putfield 9, 3) := by decide +kernel
theorem dX1_init_9 : decode cX1_init 9 = .ok (.aload_n 0, 1) := by decide +kernel
theorem dX1_init_10 : decode cX1_init 10 = .ok (.iconst 0, 1) := by decide +kernel
theorem dX1_init_11 : decode cX1_init 11 = .ok (.putfield 15, 3) := by decide +kernel
theorem dX1_init_14 : decode cX1_init 14 = .ok (.aload_n 0, 1) := by decide +kernel
theorem dX1_init_15 : decode cX1_init 15 = .ok (.bipush 7, 2) := by decide +kernel
theorem dX1_init_17 : decode cX1_init 17 = .ok (.anewarray 18, 3) := by decide +kernel
theorem dX1_init_20 : decode cX1_init 20 = .ok (.putfield 20, 3) := by decide +kernel
theorem dX1_init_23 : decode cX1_init 23 = .ok (.iconst 0, 1) := by decide +kernel
theorem dX1_init_24 : decode cX1_init 24 = .ok (.istore_n 1, 1) := by decide +kernel
theorem dX1_init_25 : decode cX1_init 25 = .ok (.iload_n 1, 1) := by decide +kernel
theorem dX1_init_26 : decode cX1_init 26 = .ok (.bipush 7, 2) := by decide +kernel
theorem dX1_init_28 : decode cX1_init 28 = .ok (.if_icmp .ge 22, 3) := by decide +kernel
theorem dX1_init_31 : decode cX1_init 31 = .ok (.aload_n 0, 1) := by decide +kernel
theorem dX1_init_32 : decode cX1_init 32 = .ok (.getfield 20, 3) := by decide +kernel
theorem dX1_init_35 : decode cX1_init 35 = .ok (.iload_n 1, 1) := by decide +kernel
theorem dX1_init_36 : decode cX1_init 36 = .ok (.new 18, 3) := by decide +kernel
theorem dX1_init_39 : decode cX1_init 39 = .ok (.dup, 1) := by decide +kernel
theorem dX1_init_40 : decode cX1_init 40 = .ok (.invokespecial 24, 3) := by decide +kernel
theorem dX1_init_43 : decode cX1_init 43 = .ok (.aastore, 1) := by decide +kernel
theorem dX1_init_44 : decode cX1_init 44 = .ok (.iinc 1 1, 3) := by decide +kernel
theorem dX1_init_47 : decode cX1_init 47 = .ok (.goto (-22), 3) := by decide +kernel
theorem dX1_init_50 : decode cX1_init 50 = .ok (.return_, 1) := by decide +kernel
set_option maxRecDepth 20000 in
theorem ggX1_prepare_X2_copyFrom : GoodIn wsX1_prepare wsX2_copyFrom := goodIn_r _ [7, 8, 9, 10, 11, 12, 13, 14, 15, 16, 17, 18, 19, 20, 21, 25, 26, 27, 28, 29, 30, 31, 32, 33, 34] (by decide +kernel) (by decide +kernel)
set_option maxRecDepth 20000 in
theorem gX1_prepare_X2_copyFrom : GoodIn wsX1_prepare (wsV RX1 25 RX2 yX2_copyFrom wsX2_copyFrom) := goodIn_app (goodIn_of _ (by decide +kernel)) ggX1_prepare_X2_copyFrom
theorem dX1_prepare_0 : decode cX1_prepare 0 = .ok (.aload_n 0, 1) := by decide +kernel
theorem dX1_prepare_1 : decode cX1_prepare 1 = .ok (.getfield 20, 3) := by decide +kernel
theorem dX1_prepare_4 : decode cX1_prepare 4 = .ok (.aload_n 0, 1) := by decide +kernel
theorem dX1_prepare_5 : decode cX1_prepare 5 = .ok (.getfield 15, 3) := by decide +kernel
theorem dX1_prepare_8 : decode cX1_prepare 8 = .ok (.aaload, 1) := by decide +kernel
theorem dX1_prepare_9 : decode cX1_prepare 9 = .ok (.aload_n 1, 1) := by decide +kernel
theorem dX1_prepare_10 : decode cX1_prepare 10 = .ok (.invokevirtual 25, 3) := by decide +kernel
theorem dX1_prepare_13 : decode cX1_prepare 13 = .ok (.return_, 1) := by decide +kernel
theorem dX1_keepUnlessError_0 : decode cX1_keepUnlessError 0 = .ok (.iload_n 1, 1) := by decide +kernel
theorem dX1_keepUnlessError_1 : decode cX1_keepUnlessError 1 = .ok (.ifCond .lt 43, 3) := by decide +kernel
theorem dX1_keepUnlessError_4 : decode cX1_keepUnlessError 4 = .ok (.aload_n 0, 1) := by decide +kernel
theorem dX1_keepUnlessError_5 : decode cX1_keepUnlessError 5 = .ok (.aload_n 0, 1) := by decide +kernel
theorem dX1_keepUnlessError_6 : decode cX1_keepUnlessError 6 = .ok (.getfield 15, 3) := by decide +kernel
theorem dX1_keepUnlessError_9 : decode cX1_keepUnlessError 9 = .ok (.iconst 1, 1) := by decide +kernel
theorem dX1_keepUnlessError_10 : decode cX1_keepUnlessError 10 = .ok (.iadd, 1) := by decide +kernel
theorem dX1_keepUnlessError_11 : decode cX1_keepUnlessError 11 = .ok (.bipush 7, 2) := by decide +kernel
theorem dX1_keepUnlessError_13 : decode cX1_keepUnlessError 13 = .ok (.if_icmp .ge 12, 3) := by decide +kernel
theorem dX1_keepUnlessError_16 : decode cX1_keepUnlessError 16 = .ok (.aload_n 0, 1) := by decide +kernel
theorem dX1_keepUnlessError_17 : decode cX1_keepUnlessError 17 = .ok (.getfield 15, 3) := by decide +kernel
theorem dX1_keepUnlessError_20 : decode cX1_keepUnlessError 20 = .ok (.iconst 1, 1) := by decide +kernel
theorem dX1_keepUnlessError_21 : decode cX1_keepUnlessError 21 = .ok (.iadd, 1) := by decide +kernel
theorem dX1_keepUnlessError_22 : decode cX1_keepUnlessError 22 = .ok (.goto 4, 3) := by decide +kernel
theorem dX1_keepUnlessError_25 : decode cX1_keepUnlessError 25 = .ok (.iconst 0, 1) := by decide +kernel
theorem dX1_keepUnlessError_26 : decode cX1_keepUnlessError 26 = .ok (.putfield 15, 3) := by decide +kernel
theorem dX1_keepUnlessError_29 : decode cX1_keepUnlessError 29 = .ok (.aload_n 0, 1) := by decide +kernel
theorem dX1_keepUnlessError_30 : decode cX1_keepUnlessError 30 = .ok (.aload_n 0, 1) := by decide +kernel
theorem dX1_keepUnlessError_31 : decode cX1_keepUnlessError 31 = .ok (.getfield 9, 3) := by decide +kernel
theorem dX1_keepUnlessError_34 : decode cX1_keepUnlessError 34 = .ok (.iconst 1, 1) := by decide +kernel
theorem dX1_keepUnlessError_35 : decode cX1_keepUnlessError 35 = .ok (.iadd, 1) := by decide +kernel
theorem dX1_keepUnlessError_36 : decode cX1_keepUnlessError 36 = .ok (.bipush 6, 2) := by decide +kernel
theorem dX1_keepUnlessError_38 : decode cX1_keepUnlessError 38 = .ok (.invokestatic 29, 3) := by decide +kernel
theorem dX1_keepUnlessError_41 : decode cX1_keepUnlessError 41 = .ok (.putfield 9, 3) := by decide +kernel
theorem dX1_keepUnlessError_44 : decode cX1_keepUnlessError 44 = .ok (.iload_n 1, 1) := by decide +kernel
theorem dX1_keepUnlessError_45 : decode cX1_keepUnlessError 45 = .ok (.ireturn, 1) := by decide +kernel
theorem dX2_init_0 : decode cX2_init 0 = .ok (.aload_n 0, 1) := by decide +kernel
theorem dX2_init_1 : decode cX2_init 1 = .ok (.invokespecial 3, 3) := by decide +kernel
theorem dX2_init_4 : decode cX2_init 4 = .ok (.aload_n 0, 1) := by decide +kernel
theorem dX2_init_5 : decode cX2_init 5 = .ok (.iconst 1, 1) := by decide +kernel
theorem dX2_init_6 : decode cX2_init 6 = .ok (.putfield 9, 3) := by decide +kernel
theorem dX2_init_9 : decode cX2_init 9 = .ok (.aload_n 0, 1) := by decide +kernel
theorem dX2_init_10 : decode cX2_init 10 = .ok (.iconst 0, 1) := by decide +kernel
theorem dX2_init_11 : decode cX2_init 11 = .ok (.putfield 15, 3) := by decide +kernel
theorem dX2_init_14 : decode cX2_init 14 = .ok (.aload_n 0, 1) := by decide +kernel
theorem dX2_init_15 : decode cX2_init 15 = .ok (.iconst 0, 1) := by decide +kernel
theorem dX2_init_16 : decode cX2_init 16 = .ok (.putfield 18, 3) := by decide +kernel
theorem dX2_init_19 : decode cX2_init 19 = .ok (.aload_n 0, 1) := by decide +kernel
theorem dX2_init_20 : decode cX2_init 20 = .ok (.bipush 12, 2) := by decide +kernel
theorem dX2_init_22 : decode cX2_init 22 = .ok (.newarray .int, 2) := by decide +kernel
theorem dX2_init_24 : decode cX2_init 24 = .ok (.putfield 21, 3) := by decide +kernel
theorem dX2_init_27 : decode cX2_init 27 = .ok (.aload_n 0, 1) := by decide +kernel
theorem dX2_init_28 : decode cX2_init 28 = .ok (.bipush 12, 2) := by decide +kernel
theorem dX2_init_30 : decode cX2_init 30 = .ok (.newarray .int, 2) := by decide +kernel
theorem dX2_init_32 : decode cX2_init 32 = .ok (.putfield 25, 3) := by decide +kernel
theorem dX2_init_35 : decode cX2_init 35 = .ok (.aload_n 0, 1) := by decide +kernel
theorem dX2_init_36 : decode cX2_init 36 = .ok (.bipush 12, 2) := by decide +kernel
theorem dX2_init_38 : decode cX2_init 38 = .ok (.newarray .int, 2) := by decide +kernel
theorem dX2_init_40 : decode cX2_init 40 = .ok (.putfield 28, 3) := by decide +kernel
theorem dX2_init_43 : decode cX2_init 43 = .ok (.aload_n 0, 1) := by decide +kernel
theorem dX2_init_44 : decode cX2_init 44 = .ok (.bipush 12, 2) := by decide +kernel
theorem dX2_init_46 : decode cX2_init 46 = .ok (.newarray .int, 2) := by decide +kernel
theorem dX2_init_48 : decode cX2_init 48 = .ok (.putfield 31, 3) := by decide +kernel
theorem dX2_init_51 : decode cX2_init 51 = .ok (.aload_n 0, 1) := by decide +kernel
theorem dX2_init_52 : decode cX2_init 52 = .ok (.bipush 12, 2) := by decide +kernel
theorem dX2_init_54 : decode cX2_init 54 = .ok (.newarray .int, 2) := by decide +kernel
theorem dX2_init_56 : decode cX2_init 56 = .ok (.putfield 34, 3) := by decide +kernel
theorem dX2_init_59 : decode cX2_init 59 = .ok (.aload_n 0, 1) := by decide +kernel
theorem dX2_init_60 : decode cX2_init 60 = .ok (.bipush 12, 2) := by decide +kernel
theorem dX2_init_62 : decode cX2_init 62 = .ok (.newarray .int, 2) := by decide +kernel
theorem dX2_init_64 : decode cX2_init 64 = .ok (.putfield 37, 3) := by decide +kernel
theorem dX2_init_67 : decode cX2_init 67 = .ok (.aload_n 0, 1) := by decide +kernel
theorem dX2_init_68 : decode cX2_init 68 = .ok (.sipush 192, 3) := by decide +kernel
theorem dX2_init_71 : decode cX2_init 71 = .ok (.newarray .int, 2) := by decide +kernel
theorem dX2_init_73 : decode cX2_init 73 = .ok (.putfield 40, 3) := by decide +kernel
theorem dX2_init_76 : decode cX2_init 76 = .ok (.return_, 1) := by decide +kernel
theorem dX2_copyFrom_0 : decode cX2_copyFrom 0 = .ok (.aload_n 0, 1) := by decide +kernel
theorem dX2_copyFrom_1 : decode cX2_copyFrom 1 = .ok (.aload_n 1, 1) := by decide +kernel
theorem dX2_copyFrom_2 : decode cX2_copyFrom 2 = .ok (.getfield 9, 3) := by decide +kernel
theorem dX2_copyFrom_5 : decode cX2_copyFrom 5 = .ok (.putfield 9, 3) := by decide +kernel
theorem dX2_copyFrom_8 : decode cX2_copyFrom 8 = .ok (.aload_n 0, 1) := by decide +kernel
theorem dX2_copyFrom_9 : decode cX2_copyFrom 9 = .ok (.aload_n 1, 1) := by decide +kernel
theorem dX2_copyFrom_10 : decode cX2_copyFrom 10 = .ok (.getfield 15, 3) := by decide +kernel
theorem dX2_copyFrom_13 : decode cX2_copyFrom 13 = .ok (.putfield 15, 3) := by decide +kernel
theorem dX2_copyFrom_16 : decode cX2_copyFrom 16 = .ok (.aload_n 0, 1) := by decide +kernel
theorem dX2_copyFrom_17 : decode cX2_copyFrom 17 = .ok (.aload_n 1, 1) := by decide +kernel
theorem dX2_copyFrom_18 : decode cX2_copyFrom 18 = .ok (.getfield 18, 3) := by decide +kernel
theorem dX2_copyFrom_21 : decode cX2_copyFrom 21 = .ok (.putfield 18, 3) := by decide +kernel
theorem dX2_copyFrom_24 : decode cX2_copyFrom 24 = .ok (.aload_n 1, 1) := by decide +kernel
theorem dX2_copyFrom_25 : decode cX2_copyFrom 25 = .ok (.getfield 21, 3) := by decide +kernel
theorem dX2_copyFrom_28 : decode cX2_copyFrom 28 = .ok (.iconst 0, 1) := by decide +kernel
theorem dX2_copyFrom_29 : decode cX2_copyFrom 29 = .ok (.aload_n 0, 1) := by decide +kernel
theorem dX2_copyFrom_30 : decode cX2_copyFrom 30 = .ok (.getfield 21, 3) := by decide +kernel
theorem dX2_copyFrom_33 : decode cX2_copyFrom 33 = .ok (.iconst 0, 1) := by decide +kernel
theorem dX2_copyFrom_34 : decode cX2_copyFrom 34 = .ok (.bipush 12, 2) := by decide +kernel
theorem dX2_copyFrom_36 : decode cX2_copyFrom 36 = .ok (.invokestatic 43, 3) := by decide +kernel
theorem dX2_copyFrom_39 : decode cX2_copyFrom 39 = .ok (.aload_n 1, 1) := by decide +kernel
theorem dX2_copyFrom_40 : decode cX2_copyFrom 40 = .ok (.getfield 25, 3) := by decide +kernel
theorem dX2_copyFrom_43 : decode cX2_copyFrom 43 = .ok (.iconst 0, 1) := by decide +kernel
theorem dX2_copyFrom_44 : decode cX2_copyFrom 44 = .ok (.aload_n 0, 1) := by decide +kernel
theorem dX2_copyFrom_45 : decode cX2_copyFrom 45 = .ok (.getfield 25, 3) := by decide +kernel
theorem dX2_copyFrom_48 : decode cX2_copyFrom 48 = .ok (.iconst 0, 1) := by decide +kernel
theorem dX2_copyFrom_49 : decode cX2_copyFrom 49 = .ok (.bipush 12, 2) := by decide +kernel
theorem dX2_copyFrom_51 : decode cX2_copyFrom 51 = .ok (.invokestatic 43, 3) := by decide +kernel
theorem dX2_copyFrom_54 : decode cX2_copyFrom 54 = .ok (.aload_n 1, 1) := by decide +kernel
theorem dX2_copyFrom_55 : decode cX2_copyFrom 55 = .ok (.getfield 28, 3) := by decide +kernel
theorem dX2_copyFrom_58 : decode cX2_copyFrom 58 = .ok (.iconst 0, 1) := by decide +kernel
theorem dX2_copyFrom_59 : decode cX2_copyFrom 59 = .ok (.aload_n 0, 1) := by decide +kernel
theorem dX2_copyFrom_60 : decode cX2_copyFrom 60 = .ok (.getfield 28, 3) := by decide +kernel
theorem dX2_copyFrom_63 : decode cX2_copyFrom 63 = .ok (.iconst 0, 1) := by decide +kernel
theorem dX2_copyFrom_64 : decode cX2_copyFrom 64 = .ok (.bipush 12, 2) := by decide +kernel
theorem dX2_copyFrom_66 : decode cX2_copyFrom 66 = .ok (.invokestatic 43, 3) := by decide +kernel
theorem dX2_copyFrom_69 : decode cX2_copyFrom 69 = .ok (.aload_n 1, 1) := by decide +kernel
theorem dX2_copyFrom_70 : decode cX2_copyFrom 70 = .ok (.getfield 31, 3) := by decide +kernel
theorem dX2_copyFrom_73 : decode cX2_copyFrom 73 = .ok (.iconst 0, 1) := by decide +kernel
theorem dX2_copyFrom_74 : decode cX2_copyFrom 74 = .ok (.aload_n 0, 1) := by decide +kernel
theorem dX2_copyFrom_75 : decode cX2_copyFrom 75 = .ok (.getfield 31, 3) := by decide +kernel
theorem dX2_copyFrom_78 : decode cX2_copyFrom 78 = .ok (.iconst 0, 1) := by decide +kernel
theorem dX2_copyFrom_79 : decode cX2_copyFrom 79 = .ok (.bipush 12, 2) := by decide +kernel
theorem dX2_copyFrom_81 : decode cX2_copyFrom 81 = .ok (.invokestatic 43, 3) := by decide +kernel
theorem dX2_copyFrom_84 : decode cX2_copyFrom 84 = .ok (.aload_n 1, 1) := by decide +kernel
theorem dX2_copyFrom_85 : decode cX2_copyFrom 85 = .ok (.getfield 34, 3) := by decide +kernel
theorem dX2_copyFrom_88 : decode cX2_copyFrom 88 = .ok (.iconst 0, 1) := by decide +kernel
theorem dX2_copyFrom_89 : decode cX2_copyFrom 89 = .ok (.aload_n 0, 1) := by decide +kernel
theorem dX2_copyFrom_90 : decode cX2_copyFrom 90 = .ok (.getfield 34, 3) := by decide +kernel
theorem dX2_copyFrom_93 : decode cX2_copyFrom 93 = .ok (.iconst 0, 1) := by decide +kernel
theorem dX2_copyFrom_94 : decode cX2_copyFrom 94 = .ok (.bipush 12, 2) := by decide +kernel
theorem dX2_copyFrom_96 : decode cX2_copyFrom 96 = .ok (.invokestatic 43, 3) := by decide +kernel
theorem dX2_copyFrom_99 : decode cX2_copyFrom 99 = .ok (.aload_n 1, 1) := by decide +kernel
theorem dX2_copyFrom_100 : decode cX2_copyFrom 100 = .ok (.getfield 37, 3) := by decide +kernel
theorem dX2_copyFrom_103 : decode cX2_copyFrom 103 = .ok (.iconst 0, 1) := by decide +kernel
theorem dX2_copyFrom_104 : decode cX2_copyFrom 104 = .ok (.aload_n 0, 1) := by decide +kernel
theorem dX2_copyFrom_105 : decode cX2_copyFrom 105 = .ok (.getfield 37, 3) := by decide +kernel
theorem dX2_copyFrom_108 : decode cX2_copyFrom 108 = .ok (.iconst 0, 1) := by decide +kernel
theorem dX2_copyFrom_109 : decode cX2_copyFrom 109 = .ok (.bipush 12, 2) := by decide +kernel
theorem dX2_copyFrom_111 : decode cX2_copyFrom 111 = .ok (.invokestatic 43, 3) := by decide +kernel
theorem dX2_copyFrom_114 : decode cX2_copyFrom 114 = .ok (.aload_n 1, 1) := by decide +kernel
theorem dX2_copyFrom_115 : decode cX2_copyFrom 115 = .ok (.getfield 40, 3) := by decide +kernel
theorem dX2_copyFrom_118 : decode cX2_copyFrom 118 = .ok (.iconst 0, 1) := by decide +kernel
theorem dX2_copyFrom_119 : decode cX2_copyFrom 119 = .ok (.aload_n 0, 1) := by decide +kernel
theorem dX2_copyFrom_120 : decode cX2_copyFrom 120 = .ok (.getfield 40, 3) := by decide +kernel
theorem dX2_copyFrom_123 : decode cX2_copyFrom 123 = .ok (.iconst 0, 1) := by decide +kernel
theorem dX2_copyFrom_124 : decode cX2_copyFrom 124 = .ok (.sipush 192, 3) := by decide +kernel
theorem dX2_copyFrom_127 : decode cX2_copyFrom 127 = .ok (.invokestatic 43, 3) := by decide +kernel
theorem dX2_copyFrom_130 : decode cX2_copyFrom 130 = .ok (.return_, 1) := by decide +kernel
theorem dX2_exists_0 : decode cX2_exists 0 = .ok (.iload_n 1, 1) := by decide +kernel
theorem dX2_exists_1 : decode cX2_exists 1 = .ok (.ifCond .lt 15, 3) := by decide +kernel
theorem dX2_exists_4 : decode cX2_exists 4 = .ok (.iload_n 1, 1) := by decide +kernel
theorem dX2_exists_5 : decode cX2_exists 5 = .ok (.aload_n 0, 1) := by decide +kernel
theorem dX2_exists_6 : decode cX2_exists 6 = .ok (.getfield 18, 3) := by decide +kernel
theorem dX2_exists_9 : decode cX2_exists 9 = .ok (.if_icmp .ge 7, 3) := by decide +kernel
theorem dX2_exists_12 : decode cX2_exists 12 = .ok (.iconst 1, 1) := by decide +kernel
theorem dX2_exists_13 : decode cX2_exists 13 = .ok (.goto 4, 3) := by decide +kernel
theorem dX2_exists_16 : decode cX2_exists 16 = .ok (.iconst 0, 1) := by decide +kernel
theorem dX2_exists_17 : decode cX2_exists 17 = .ok (.ireturn, 1) := by decide +kernel
set_option maxRecDepth 20000 in
theorem ggX2_changeRule_X5_isRule : GoodIn wsX2_changeRule wsX5_isRule := goodIn_r _ [4] (by decide +kernel) (by decide +kernel)
set_option maxRecDepth 20000 in
theorem gX2_changeRule_X5_isRule_n49 : GoodIn wsX2_changeRule (wsX5_isRule) := ggX2_changeRule_X5_isRule
theorem dX2_changeRule_0 : decode cX2_changeRule 0 = .ok (.iload_n 1, 1) := by decide +kernel
theorem dX2_changeRule_1 : decode cX2_changeRule 1 = .ok (.invokestatic 49, 3) := by decide +kernel
theorem dX2_changeRule_4 : decode cX2_changeRule 4 = .ok (.ifCond .ne 6, 3) := by decide +kernel
theorem dX2_changeRule_7 : decode cX2_changeRule 7 = .ok (.bipush (-2), 2) := by decide +kernel
theorem dX2_changeRule_9 : decode cX2_changeRule 9 = .ok (.ireturn, 1) := by decide +kernel
theorem dX2_changeRule_10 : decode cX2_changeRule 10 = .ok (.aload_n 0, 1) := by decide +kernel
theorem dX2_changeRule_11 : decode cX2_changeRule 11 = .ok (.getfield 9, 3) := by decide +kernel
theorem dX2_changeRule_14 : decode cX2_changeRule 14 = .ok (.istore_n 2, 1) := by decide +kernel
theorem dX2_changeRule_15 : decode cX2_changeRule 15 = .ok (.aload_n 0, 1) := by decide +kernel
theorem dX2_changeRule_16 : decode cX2_changeRule 16 = .ok (.iload_n 1, 1) := by decide +kernel
theorem dX2_changeRule_17 : decode cX2_changeRule 17 = .ok (.putfield 9, 3) := by decide +kernel
theorem dX2_changeRule_20 : decode cX2_changeRule 20 = .ok (.iload_n 2, 1) := by decide +kernel
theorem dX2_changeRule_21 : decode cX2_changeRule 21 = .ok (.ireturn, 1) := by decide +kernel
theorem dX2_start_0 : decode cX2_start 0 = .ok (.aload_n 0, 1) := by decide +kernel
theorem dX2_start_1 : decode cX2_start 1 = .ok (.getfield 18, 3) := by decide +kernel
theorem dX2_start_4 : decode cX2_start 4 = .ok (.bipush 12, 2) := by decide +kernel
theorem dX2_start_6 : decode cX2_start 6 = .ok (.if_icmp .lt 6, 3) := by decide +kernel
theorem dX2_start_9 : decode cX2_start 9 = .ok (.bipush (-4), 2) := by decide +kernel
theorem dX2_start_11 : decode cX2_start 11 = .ok (.ireturn, 1) := by decide +kernel
theorem dX2_start_12 : decode cX2_start 12 = .ok (.aload_n 0, 1) := by decide +kernel
theorem dX2_start_13 : decode cX2_start 13 = .ok (.getfield 18, 3) := by decide +kernel
theorem dX2_start_16 : decode cX2_start 16 = .ok (.istore_n 1, 1) := by decide +kernel
theorem dX2_start_17 : decode cX2_start 17 = .ok (.aload_n 0, 1) := by decide +kernel
theorem dX2_start_18 : decode cX2_start 18 = .ok (.dup, 1) := by decide +kernel
theorem dX2_start_19 : decode cX2_start 19 = .ok (.getfield 18, 3) := by decide +kernel
theorem dX2_start_22 : decode cX2_start 22 = .ok (.iconst 1, 1) := by decide +kernel
theorem dX2_start_23 : decode cX2_start 23 = .ok (.iadd, 1) := by decide +kernel
theorem dX2_start_24 : decode cX2_start 24 = .ok (.putfield 18, 3) := by decide +kernel
theorem dX2_start_27 : decode cX2_start 27 = .ok (.aload_n 0, 1) := by decide +kernel
theorem dX2_start_28 : decode cX2_start 28 = .ok (.dup, 1) := by decide +kernel
theorem dX2_start_29 : decode cX2_start 29 = .ok (.getfield 15, 3) := by decide +kernel
theorem dX2_start_32 : decode cX2_start 32 = .ok (.iconst 1, 1) := by decide +kernel
theorem dX2_start_33 : decode cX2_start 33 = .ok (.iadd, 1) := by decide +kernel
theorem dX2_start_34 : decode cX2_start 34 = .ok (.putfield 15, 3) := by decide +kernel
theorem dX2_start_37 : decode cX2_start 37 = .ok (.aload_n 0, 1) := by decide +kernel
theorem dX2_start_38 : decode cX2_start 38 = .ok (.getfield 21, 3) := by decide +kernel
theorem dX2_start_41 : decode cX2_start 41 = .ok (.iload_n 1, 1) := by decide +kernel
theorem dX2_start_42 : decode cX2_start 42 = .ok (.iconst 0, 1) := by decide +kernel
theorem dX2_start_43 : decode cX2_start 43 = .ok (.iastore, 1) := by decide +kernel
theorem dX2_start_44 : decode cX2_start 44 = .ok (.aload_n 0, 1) := by decide +kernel
theorem dX2_start_45 : decode cX2_start 45 = .ok (.getfield 25, 3) := by decide +kernel
theorem dX2_start_48 : decode cX2_start 48 = .ok (.iload_n 1, 1) := by decide +kernel
theorem dX2_start_49 : decode cX2_start 49 = .ok (.aload_n 0, 1) := by decide +kernel
theorem dX2_start_50 : decode cX2_start 50 = .ok (.getfield 15, 3) := by decide +kernel
theorem dX2_start_53 : decode cX2_start 53 = .ok (.iastore, 1) := by decide +kernel
theorem dX2_start_54 : decode cX2_start 54 = .ok (.aload_n 0, 1) := by decide +kernel
theorem dX2_start_55 : decode cX2_start 55 = .ok (.getfield 28, 3) := by decide +kernel
theorem dX2_start_58 : decode cX2_start 58 = .ok (.iload_n 1, 1) := by decide +kernel
theorem dX2_start_59 : decode cX2_start 59 = .ok (.bipush (-6), 2) := by decide +kernel
theorem dX2_start_61 : decode cX2_start 61 = .ok (.iastore, 1) := by decide +kernel
theorem dX2_start_62 : decode cX2_start 62 = .ok (.aload_n 0, 1) := by decide +kernel
theorem dX2_start_63 : decode cX2_start 63 = .ok (.getfield 31, 3) := by decide +kernel
theorem dX2_start_66 : decode cX2_start 66 = .ok (.iload_n 1, 1) := by decide +kernel
theorem dX2_start_67 : decode cX2_start 67 = .ok (.iconst 0, 1) := by decide +kernel
theorem dX2_start_68 : decode cX2_start 68 = .ok (.iastore, 1) := by decide +kernel
theorem dX2_start_69 : decode cX2_start 69 = .ok (.aload_n 0, 1) := by decide +kernel
theorem dX2_start_70 : decode cX2_start 70 = .ok (.getfield 34, 3) := by decide +kernel
theorem dX2_start_73 : decode cX2_start 73 = .ok (.iload_n 1, 1) := by decide +kernel
theorem dX2_start_74 : decode cX2_start 74 = .ok (.iconst 0, 1) := by decide +kernel
theorem dX2_start_75 : decode cX2_start 75 = .ok (.iastore, 1) := by decide +kernel
theorem dX2_start_76 : decode cX2_start 76 = .ok (.aload_n 0, 1) := by decide +kernel
theorem dX2_start_77 : decode cX2_start 77 = .ok (.getfield 37, 3) := by decide +kernel
theorem dX2_start_80 : decode cX2_start 80 = .ok (.iload_n 1, 1) := by decide +kernel
theorem dX2_start_81 : decode cX2_start 81 = .ok (.bipush (-6), 2) := by decide +kernel
theorem dX2_start_83 : decode cX2_start 83 = .ok (.iastore, 1) := by decide +kernel
theorem dX2_start_84 : decode cX2_start 84 = .ok (.iload_n 1, 1) := by decide +kernel
theorem dX2_start_85 : decode cX2_start 85 = .ok (.ireturn, 1) := by decide +kernel
set_option maxRecDepth 20000 in
theorem ggX2_look_X2_exists : GoodIn wsX2_look wsX2_exists := goodIn_r _ [8, 9, 30, 31, 32, 33, 34, 35, 36, 37, 38, 39] (by decide +kernel) (by decide +kernel)
set_option maxRecDepth 20000 in
theorem gX2_look_X2_exists : GoodIn wsX2_look (wsV RX2 53 RX2 yX2_exists wsX2_exists) := goodIn_app (goodIn_of _ (by decide +kernel)) ggX2_look_X2_exists
set_option maxRecDepth 20000 in
theorem ggX2_look_X5_isKey : GoodIn wsX2_look wsX5_isKey := goodIn_r _ [12] (by decide +kernel) (by decide +kernel)
set_option maxRecDepth 20000 in
theorem gX2_look_X5_isKey_n56 : GoodIn wsX2_look (wsX5_isKey) := ggX2_look_X5_isKey
set_option maxRecDepth 20000 in
theorem ggX2_look_X5_contains : GoodIn wsX2_look wsX5_contains := goodIn_r _ [14] (by decide +kernel) (by decide +kernel)
set_option maxRecDepth 20000 in
theorem gX2_look_X5_contains_n59 : GoodIn wsX2_look (wsX5_contains) := ggX2_look_X5_contains
set_option maxRecDepth 20000 in
theorem ggX2_look_X2_seenWriter : GoodIn wsX2_look wsX2_seenWriter := goodIn_r _ [18, 2, 19, 13, 11, 14, 20, 21, 22, 7, 23, 9, 1, 24, 30, 31, 32, 33, 34, 35, 36, 37, 38, 39] (by decide +kernel) (by decide +kernel)
set_option maxRecDepth 20000 in
theorem gX2_look_X2_seenWriter : GoodIn wsX2_look (wsV RX2 63 RX2 yX2_seenWriter wsX2_seenWriter) := goodIn_app (goodIn_of _ (by decide +kernel)) ggX2_look_X2_seenWriter
set_option maxRecDepth 20000 in
theorem ggX2_look_X2_valueOfVersion : GoodIn wsX2_look wsX2_valueOfVersion := goodIn_r _ [28, 29, 4, 5, 6, 7, 8, 9, 30, 31, 32, 33, 34, 35, 36, 37, 38, 39] (by decide +kernel) (by decide +kernel)
set_option maxRecDepth 20000 in
theorem gX2_look_X2_valueOfVersion : GoodIn wsX2_look (wsV RX2 67 RX2 yX2_valueOfVersion wsX2_valueOfVersion) := goodIn_app (goodIn_of _ (by decide +kernel)) ggX2_look_X2_valueOfVersion
theorem dX2_look_0 : decode cX2_look 0 = .ok (.aload_n 0, 1) := by decide +kernel
theorem dX2_look_1 : decode cX2_look 1 = .ok (.iload_n 1, 1) := by decide +kernel
theorem dX2_look_2 : decode cX2_look 2 = .ok (.invokevirtual 53, 3) := by decide +kernel
theorem dX2_look_5 : decode cX2_look 5 = .ok (.ifCond .eq 10, 3) := by decide +kernel
theorem dX2_look_8 : decode cX2_look 8 = .ok (.iload_n 2, 1) := by decide +kernel
theorem dX2_look_9 : decode cX2_look 9 = .ok (.invokestatic 56, 3) := by decide +kernel
theorem dX2_look_12 : decode cX2_look 12 = .ok (.ifCond .ne 5, 3) := by decide +kernel
theorem dX2_look_15 : decode cX2_look 15 = .ok (.iconst (-1), 1) := by decide +kernel
theorem dX2_look_16 : decode cX2_look 16 = .ok (.ireturn, 1) := by decide +kernel
theorem dX2_look_17 : decode cX2_look 17 = .ok (.aload_n 0, 1) := by decide +kernel
theorem dX2_look_18 : decode cX2_look 18 = .ok (.getfield 21, 3) := by decide +kernel
theorem dX2_look_21 : decode cX2_look 21 = .ok (.iload_n 1, 1) := by decide +kernel
theorem dX2_look_22 : decode cX2_look 22 = .ok (.iaload, 1) := by decide +kernel
theorem dX2_look_23 : decode cX2_look 23 = .ok (.ifCond .eq 6, 3) := by decide +kernel
theorem dX2_look_26 : decode cX2_look 26 = .ok (.bipush (-5), 2) := by decide +kernel
theorem dX2_look_28 : decode cX2_look 28 = .ok (.ireturn, 1) := by decide +kernel
theorem dX2_look_29 : decode cX2_look 29 = .ok (.aload_n 0, 1) := by decide +kernel
theorem dX2_look_30 : decode cX2_look 30 = .ok (.getfield 34, 3) := by decide +kernel
theorem dX2_look_33 : decode cX2_look 33 = .ok (.iload_n 1, 1) := by decide +kernel
theorem dX2_look_34 : decode cX2_look 34 = .ok (.iaload, 1) := by decide +kernel
theorem dX2_look_35 : decode cX2_look 35 = .ok (.iload_n 2, 1) := by decide +kernel
theorem dX2_look_36 : decode cX2_look 36 = .ok (.invokestatic 59, 3) := by decide +kernel
theorem dX2_look_39 : decode cX2_look 39 = .ok (.ifCond .ne 15, 3) := by decide +kernel
theorem dX2_look_42 : decode cX2_look 42 = .ok (.aload_n 0, 1) := by decide +kernel
theorem dX2_look_43 : decode cX2_look 43 = .ok (.getfield 31, 3) := by decide +kernel
theorem dX2_look_46 : decode cX2_look 46 = .ok (.iload_n 1, 1) := by decide +kernel
theorem dX2_look_47 : decode cX2_look 47 = .ok (.dup2, 1) := by decide +kernel
theorem dX2_look_48 : decode cX2_look 48 = .ok (.iaload, 1) := by decide +kernel
theorem dX2_look_49 : decode cX2_look 49 = .ok (.iconst 1, 1) := by decide +kernel
theorem dX2_look_50 : decode cX2_look 50 = .ok (.iload_n 2, 1) := by decide +kernel
theorem dX2_look_51 : decode cX2_look 51 = .ok (.ishl, 1) := by decide +kernel
theorem dX2_look_52 : decode cX2_look 52 = .ok (.ior, 1) := by decide +kernel
theorem dX2_look_53 : decode cX2_look 53 = .ok (.iastore, 1) := by decide +kernel
theorem dX2_look_54 : decode cX2_look 54 = .ok (.aload_n 0, 1) := by decide +kernel
theorem dX2_look_55 : decode cX2_look 55 = .ok (.aload_n 0, 1) := by decide +kernel
theorem dX2_look_56 : decode cX2_look 56 = .ok (.iload_n 1, 1) := by decide +kernel
theorem dX2_look_57 : decode cX2_look 57 = .ok (.iload_n 2, 1) := by decide +kernel
theorem dX2_look_58 : decode cX2_look 58 = .ok (.invokevirtual 63, 3) := by decide +kernel
theorem dX2_look_61 : decode cX2_look 61 = .ok (.iload_n 2, 1) := by decide +kernel
theorem dX2_look_62 : decode cX2_look 62 = .ok (.invokevirtual 67, 3) := by decide +kernel
theorem dX2_look_65 : decode cX2_look 65 = .ok (.ireturn, 1) := by decide +kernel
set_option maxRecDepth 20000 in
theorem ggX2_enter_X2_exists : GoodIn wsX2_enter wsX2_exists := goodIn_r _ [8, 9, 13, 14, 15, 16, 17, 18, 19, 20, 21, 22] (by decide +kernel) (by decide +kernel)
set_option maxRecDepth 20000 in
theorem gX2_enter_X2_exists : GoodIn wsX2_enter (wsV RX2 53 RX2 yX2_exists wsX2_exists) := goodIn_app (goodIn_of _ (by decide +kernel)) ggX2_enter_X2_exists
set_option maxRecDepth 20000 in
theorem ggX2_enter_X5_isKey : GoodIn wsX2_enter wsX5_isKey := goodIn_r _ [12] (by decide +kernel) (by decide +kernel)
set_option maxRecDepth 20000 in
theorem gX2_enter_X5_isKey_n56 : GoodIn wsX2_enter (wsX5_isKey) := ggX2_enter_X5_isKey
theorem dX2_enter_0 : decode cX2_enter 0 = .ok (.aload_n 0, 1) := by decide +kernel
theorem dX2_enter_1 : decode cX2_enter 1 = .ok (.iload_n 1, 1) := by decide +kernel
theorem dX2_enter_2 : decode cX2_enter 2 = .ok (.invokevirtual 53, 3) := by decide +kernel
theorem dX2_enter_5 : decode cX2_enter 5 = .ok (.ifCond .eq 10, 3) := by decide +kernel
theorem dX2_enter_8 : decode cX2_enter 8 = .ok (.iload_n 2, 1) := by decide +kernel
theorem dX2_enter_9 : decode cX2_enter 9 = .ok (.invokestatic 56, 3) := by decide +kernel
theorem dX2_enter_12 : decode cX2_enter 12 = .ok (.ifCond .ne 5, 3) := by decide +kernel
theorem dX2_enter_15 : decode cX2_enter 15 = .ok (.iconst (-1), 1) := by decide +kernel
theorem dX2_enter_16 : decode cX2_enter 16 = .ok (.ireturn, 1) := by decide +kernel
theorem dX2_enter_17 : decode cX2_enter 17 = .ok (.iload_n 3, 1) := by decide +kernel
theorem dX2_enter_18 : decode cX2_enter 18 = .ok (.ifCond .lt 10, 3) := by decide +kernel
theorem dX2_enter_21 : decode cX2_enter 21 = .ok (.iload_n 3, 1) := by decide +kernel
theorem dX2_enter_22 : decode cX2_enter 22 = .ok (.sipush 1000, 3) := by decide +kernel
theorem dX2_enter_25 : decode cX2_enter 25 = .ok (.if_icmp .lt 6, 3) := by decide +kernel
theorem dX2_enter_28 : decode cX2_enter 28 = .ok (.bipush (-2), 2) := by decide +kernel
theorem dX2_enter_30 : decode cX2_enter 30 = .ok (.ireturn, 1) := by decide +kernel
theorem dX2_enter_31 : decode cX2_enter 31 = .ok (.aload_n 0, 1) := by decide +kernel
theorem dX2_enter_32 : decode cX2_enter 32 = .ok (.getfield 21, 3) := by decide +kernel
theorem dX2_enter_35 : decode cX2_enter 35 = .ok (.iload_n 1, 1) := by decide +kernel
theorem dX2_enter_36 : decode cX2_enter 36 = .ok (.iaload, 1) := by decide +kernel
theorem dX2_enter_37 : decode cX2_enter 37 = .ok (.ifCond .eq 6, 3) := by decide +kernel
theorem dX2_enter_40 : decode cX2_enter 40 = .ok (.bipush (-5), 2) := by decide +kernel
theorem dX2_enter_42 : decode cX2_enter 42 = .ok (.ireturn, 1) := by decide +kernel
theorem dX2_enter_43 : decode cX2_enter 43 = .ok (.aload_n 0, 1) := by decide +kernel
theorem dX2_enter_44 : decode cX2_enter 44 = .ok (.getfield 34, 3) := by decide +kernel
theorem dX2_enter_47 : decode cX2_enter 47 = .ok (.iload_n 1, 1) := by decide +kernel
theorem dX2_enter_48 : decode cX2_enter 48 = .ok (.dup2, 1) := by decide +kernel
theorem dX2_enter_49 : decode cX2_enter 49 = .ok (.iaload, 1) := by decide +kernel
theorem dX2_enter_50 : decode cX2_enter 50 = .ok (.iconst 1, 1) := by decide +kernel
theorem dX2_enter_51 : decode cX2_enter 51 = .ok (.iload_n 2, 1) := by decide +kernel
theorem dX2_enter_52 : decode cX2_enter 52 = .ok (.ishl, 1) := by decide +kernel
theorem dX2_enter_53 : decode cX2_enter 53 = .ok (.ior, 1) := by decide +kernel
theorem dX2_enter_54 : decode cX2_enter 54 = .ok (.iastore, 1) := by decide +kernel
theorem dX2_enter_55 : decode cX2_enter 55 = .ok (.aload_n 0, 1) := by decide +kernel
theorem dX2_enter_56 : decode cX2_enter 56 = .ok (.getfield 40, 3) := by decide +kernel
theorem dX2_enter_59 : decode cX2_enter 59 = .ok (.iload_n 1, 1) := by decide +kernel
theorem dX2_enter_60 : decode cX2_enter 60 = .ok (.bipush 16, 2) := by decide +kernel
theorem dX2_enter_62 : decode cX2_enter 62 = .ok (.imul, 1) := by decide +kernel
theorem dX2_enter_63 : decode cX2_enter 63 = .ok (.iload_n 2, 1) := by decide +kernel
theorem dX2_enter_64 : decode cX2_enter 64 = .ok (.iadd, 1) := by decide +kernel
theorem dX2_enter_65 : decode cX2_enter 65 = .ok (.iload_n 3, 1) := by decide +kernel
theorem dX2_enter_66 : decode cX2_enter 66 = .ok (.iastore, 1) := by decide +kernel
theorem dX2_enter_67 : decode cX2_enter 67 = .ok (.aload_n 0, 1) := by decide +kernel
theorem dX2_enter_68 : decode cX2_enter 68 = .ok (.getfield 34, 3) := by decide +kernel
theorem dX2_enter_71 : decode cX2_enter 71 = .ok (.iload_n 1, 1) := by decide +kernel
theorem dX2_enter_72 : decode cX2_enter 72 = .ok (.iaload, 1) := by decide +kernel
theorem dX2_enter_73 : decode cX2_enter 73 = .ok (.ireturn, 1) := by decide +kernel
set_option maxRecDepth 20000 in
theorem ggX2_finish_X2_exists : GoodIn wsX2_finish wsX2_exists := goodIn_r _ [10, 11, 55, 56, 57, 58, 59, 60, 61, 62, 63, 64] (by decide +kernel) (by decide +kernel)
set_option maxRecDepth 20000 in
theorem gX2_finish_X2_exists : GoodIn wsX2_finish (wsV RX2 53 RX2 yX2_exists wsX2_exists) := goodIn_app (goodIn_of _ (by decide +kernel)) ggX2_finish_X2_exists
set_option maxRecDepth 20000 in
theorem ggX2_finish_X0_refusal : GoodIn wsX2_finish wsX0_refusal := goodIn_r _ [15, 16, 17, 14, 18, 19, 20, 21, 22, 23, 24, 25, 26, 27, 28, 29, 9, 30, 11, 1, 31, 32, 33, 34, 35, 36, 37, 38, 39, 40, 41, 5, 42, 43, 44, 45, 46, 47, 48, 49, 50, 51, 52, 53, 54, 55, 56, 57, 58, 59, 60, 61, 62, 63, 64] (by decide +kernel) (by decide +kernel)
set_option maxRecDepth 20000 in
theorem gX2_finish_X0_refusal : GoodIn wsX2_finish (va_wsS RX2 70 yX0_refusal wsX0_refusal) := goodIn_app (goodIn_of _ (by decide +kernel)) ggX2_finish_X0_refusal
theorem dX2_finish_0 : decode cX2_finish 0 = .ok (.aload_n 0, 1) := by decide +kernel
theorem dX2_finish_1 : decode cX2_finish 1 = .ok (.iload_n 1, 1) := by decide +kernel
theorem dX2_finish_2 : decode cX2_finish 2 = .ok (.invokevirtual 53, 3) := by decide +kernel
theorem dX2_finish_5 : decode cX2_finish 5 = .ok (.ifCond .ne 5, 3) := by decide +kernel
theorem dX2_finish_8 : decode cX2_finish 8 = .ok (.iconst (-1), 1) := by decide +kernel
theorem dX2_finish_9 : decode cX2_finish 9 = .ok (.ireturn, 1) := by decide +kernel
theorem dX2_finish_10 : decode cX2_finish 10 = .ok (.aload_n 0, 1) := by decide +kernel
theorem dX2_finish_11 : decode cX2_finish 11 = .ok (.getfield 21, 3) := by decide +kernel
theorem dX2_finish_14 : decode cX2_finish 14 = .ok (.iload_n 1, 1) := by decide +kernel
theorem dX2_finish_15 : decode cX2_finish 15 = .ok (.iaload, 1) := by decide +kernel
theorem dX2_finish_16 : decode cX2_finish 16 = .ok (.ifCond .eq 6, 3) := by decide +kernel
theorem dX2_finish_19 : decode cX2_finish 19 = .ok (.bipush (-5), 2) := by decide +kernel
theorem dX2_finish_21 : decode cX2_finish 21 = .ok (.ireturn, 1) := by decide +kernel
theorem dX2_finish_22 : decode cX2_finish 22 = .ok (.aload_n 0, 1) := by decide +kernel
theorem dX2_finish_23 : decode cX2_finish 23 = .ok (.iload_n 1, 1) := by decide +kernel
theorem dX2_finish_24 : decode cX2_finish 24 = .ok (.aload_n 0, 1) := by decide +kernel
theorem dX2_finish_25 : decode cX2_finish 25 = .ok (.getfield 9, 3) := by decide +kernel
theorem dX2_finish_28 : decode cX2_finish 28 = .ok (.invokestatic 70, 3) := by decide +kernel
theorem dX2_finish_31 : decode cX2_finish 31 = .ok (.istore_n 2, 1) := by decide +kernel
theorem dX2_finish_32 : decode cX2_finish 32 = .ok (.iload_n 2, 1) := by decide +kernel
theorem dX2_finish_33 : decode cX2_finish 33 = .ok (.ifCond .eq 19, 3) := by decide +kernel
theorem dX2_finish_36 : decode cX2_finish 36 = .ok (.aload_n 0, 1) := by decide +kernel
theorem dX2_finish_37 : decode cX2_finish 37 = .ok (.getfield 21, 3) := by decide +kernel
theorem dX2_finish_40 : decode cX2_finish 40 = .ok (.iload_n 1, 1) := by decide +kernel
theorem dX2_finish_41 : decode cX2_finish 41 = .ok (.iconst 2, 1) := by decide +kernel
theorem dX2_finish_42 : decode cX2_finish 42 = .ok (.iastore, 1) := by decide +kernel
theorem dX2_finish_43 : decode cX2_finish 43 = .ok (.aload_n 0, 1) := by decide +kernel
theorem dX2_finish_44 : decode cX2_finish 44 = .ok (.getfield 37, 3) := by decide +kernel
theorem dX2_finish_47 : decode cX2_finish 47 = .ok (.iload_n 1, 1) := by decide +kernel
theorem dX2_finish_48 : decode cX2_finish 48 = .ok (.iload_n 2, 1) := by decide +kernel
theorem dX2_finish_49 : decode cX2_finish 49 = .ok (.iastore, 1) := by decide +kernel
theorem dX2_finish_50 : decode cX2_finish 50 = .ok (.iload_n 2, 1) := by decide +kernel
theorem dX2_finish_51 : decode cX2_finish 51 = .ok (.ireturn, 1) := by decide +kernel
theorem dX2_finish_52 : decode cX2_finish 52 = .ok (.aload_n 0, 1) := by decide +kernel
theorem dX2_finish_53 : decode cX2_finish 53 = .ok (.dup, 1) := by decide +kernel
theorem dX2_finish_54 : decode cX2_finish 54 = .ok (.getfield 15, 3) := by decide +kernel
theorem dX2_finish_57 : decode cX2_finish 57 = .ok (.iconst 1, 1) := by decide +kernel
theorem dX2_finish_58 : decode cX2_finish 58 = .ok (.iadd, 1) := by decide +kernel
theorem dX2_finish_59 : decode cX2_finish 59 = .ok (.putfield 15, 3) := by decide +kernel
theorem dX2_finish_62 : decode cX2_finish 62 = .ok (.aload_n 0, 1) := by decide +kernel
theorem dX2_finish_63 : decode cX2_finish 63 = .ok (.getfield 21, 3) := by decide +kernel
theorem dX2_finish_66 : decode cX2_finish 66 = .ok (.iload_n 1, 1) := by decide +kernel
theorem dX2_finish_67 : decode cX2_finish 67 = .ok (.iconst 1, 1) := by decide +kernel
theorem dX2_finish_68 : decode cX2_finish 68 = .ok (.iastore, 1) := by decide +kernel
theorem dX2_finish_69 : decode cX2_finish 69 = .ok (.aload_n 0, 1) := by decide +kernel
theorem dX2_finish_70 : decode cX2_finish 70 = .ok (.getfield 28, 3) := by decide +kernel
theorem dX2_finish_73 : decode cX2_finish 73 = .ok (.iload_n 1, 1) := by decide +kernel
theorem dX2_finish_74 : decode cX2_finish 74 = .ok (.aload_n 0, 1) := by decide +kernel
theorem dX2_finish_75 : decode cX2_finish 75 = .ok (.getfield 15, 3) := by decide +kernel
theorem dX2_finish_78 : decode cX2_finish 78 = .ok (.iastore, 1) := by decide +kernel
theorem dX2_finish_79 : decode cX2_finish 79 = .ok (.iconst 0, 1) := by decide +kernel
theorem dX2_finish_80 : decode cX2_finish 80 = .ok (.ireturn, 1) := by decide +kernel
set_option maxRecDepth 20000 in
theorem ggX2_giveUp_X2_exists : GoodIn wsX2_giveUp wsX2_exists := goodIn_r _ [7, 8, 20, 21, 22, 23, 24, 25, 26, 27, 28, 29] (by decide +kernel) (by decide +kernel)
set_option maxRecDepth 20000 in
theorem gX2_giveUp_X2_exists : GoodIn wsX2_giveUp (wsV RX2 53 RX2 yX2_exists wsX2_exists) := goodIn_app (goodIn_of _ (by decide +kernel)) ggX2_giveUp_X2_exists
set_option maxRecDepth 20000 in
theorem ggX2_giveUp_X2_inPhase : GoodIn wsX2_giveUp wsX2_inPhase := goodIn_r _ [12, 8, 1, 20, 21, 22, 23, 24, 25, 26, 27, 28, 29] (by decide +kernel) (by decide +kernel)
set_option maxRecDepth 20000 in
theorem gX2_giveUp_X2_inPhase : GoodIn wsX2_giveUp (wsV RX2 76 RX2 yX2_inPhase wsX2_inPhase) := goodIn_app (goodIn_of _ (by decide +kernel)) ggX2_giveUp_X2_inPhase
set_option maxRecDepth 20000 in
theorem ggX2_giveUp_J6_bitCount_0f7a4 : GoodIn wsX2_giveUp wsJ6_bitCount_0f7a4 := goodIn_r _ [16, 17, 18, 19] (by decide +kernel) (by decide +kernel)
set_option maxRecDepth 20000 in
theorem gX2_giveUp_J6_bitCount_0f7a4 : GoodIn wsX2_giveUp (va_wsS RX2 80 yJ6_bitCount_0f7a4 wsJ6_bitCount_0f7a4) := goodIn_app (goodIn_of _ (by decide +kernel)) ggX2_giveUp_J6_bitCount_0f7a4
theorem dX2_giveUp_0 : decode cX2_giveUp 0 = .ok (.aload_n 0, 1) := by decide +kernel
theorem dX2_giveUp_1 : decode cX2_giveUp 1 = .ok (.iload_n 1, 1) := by decide +kernel
theorem dX2_giveUp_2 : decode cX2_giveUp 2 = .ok (.invokevirtual 53, 3) := by decide +kernel
theorem dX2_giveUp_5 : decode cX2_giveUp 5 = .ok (.ifCond .ne 5, 3) := by decide +kernel
theorem dX2_giveUp_8 : decode cX2_giveUp 8 = .ok (.iconst (-1), 1) := by decide +kernel
theorem dX2_giveUp_9 : decode cX2_giveUp 9 = .ok (.ireturn, 1) := by decide +kernel
theorem dX2_giveUp_10 : decode cX2_giveUp 10 = .ok (.aload_n 0, 1) := by decide +kernel
theorem dX2_giveUp_11 : decode cX2_giveUp 11 = .ok (.getfield 21, 3) := by decide +kernel
theorem dX2_giveUp_14 : decode cX2_giveUp 14 = .ok (.iload_n 1, 1) := by decide +kernel
theorem dX2_giveUp_15 : decode cX2_giveUp 15 = .ok (.iaload, 1) := by decide +kernel
theorem dX2_giveUp_16 : decode cX2_giveUp 16 = .ok (.ifCond .eq 6, 3) := by decide +kernel
theorem dX2_giveUp_19 : decode cX2_giveUp 19 = .ok (.bipush (-5), 2) := by decide +kernel
theorem dX2_giveUp_21 : decode cX2_giveUp 21 = .ok (.ireturn, 1) := by decide +kernel
theorem dX2_giveUp_22 : decode cX2_giveUp 22 = .ok (.aload_n 0, 1) := by decide +kernel
theorem dX2_giveUp_23 : decode cX2_giveUp 23 = .ok (.getfield 21, 3) := by decide +kernel
theorem dX2_giveUp_26 : decode cX2_giveUp 26 = .ok (.iload_n 1, 1) := by decide +kernel
theorem dX2_giveUp_27 : decode cX2_giveUp 27 = .ok (.iconst 2, 1) := by decide +kernel
theorem dX2_giveUp_28 : decode cX2_giveUp 28 = .ok (.iastore, 1) := by decide +kernel
theorem dX2_giveUp_29 : decode cX2_giveUp 29 = .ok (.aload_n 0, 1) := by decide +kernel
theorem dX2_giveUp_30 : decode cX2_giveUp 30 = .ok (.getfield 37, 3) := by decide +kernel
theorem dX2_giveUp_33 : decode cX2_giveUp 33 = .ok (.iload_n 1, 1) := by decide +kernel
theorem dX2_giveUp_34 : decode cX2_giveUp 34 = .ok (.iconst 0, 1) := by decide +kernel
theorem dX2_giveUp_35 : decode cX2_giveUp 35 = .ok (.iastore, 1) := by decide +kernel
theorem dX2_giveUp_36 : decode cX2_giveUp 36 = .ok (.aload_n 0, 1) := by decide +kernel
theorem dX2_giveUp_37 : decode cX2_giveUp 37 = .ok (.iconst 0, 1) := by decide +kernel
theorem dX2_giveUp_38 : decode cX2_giveUp 38 = .ok (.invokevirtual 76, 3) := by decide +kernel
theorem dX2_giveUp_41 : decode cX2_giveUp 41 = .ok (.invokestatic 80, 3) := by decide +kernel
theorem dX2_giveUp_44 : decode cX2_giveUp 44 = .ok (.ireturn, 1) := by decide +kernel
theorem dX2_inPhase_0 : decode cX2_inPhase 0 = .ok (.iconst 0, 1) := by decide +kernel
theorem dX2_inPhase_1 : decode cX2_inPhase 1 = .ok (.istore_n 2, 1) := by decide +kernel
theorem dX2_inPhase_2 : decode cX2_inPhase 2 = .ok (.iconst 0, 1) := by decide +kernel
theorem dX2_inPhase_3 : decode cX2_inPhase 3 = .ok (.istore_n 3, 1) := by decide +kernel
theorem dX2_inPhase_4 : decode cX2_inPhase 4 = .ok (.iload_n 3, 1) := by decide +kernel
theorem dX2_inPhase_5 : decode cX2_inPhase 5 = .ok (.aload_n 0, 1) := by decide +kernel
theorem dX2_inPhase_6 : decode cX2_inPhase 6 = .ok (.getfield 18, 3) := by decide +kernel
theorem dX2_inPhase_9 : decode cX2_inPhase 9 = .ok (.if_icmp .ge 25, 3) := by decide +kernel
theorem dX2_inPhase_12 : decode cX2_inPhase 12 = .ok (.aload_n 0, 1) := by decide +kernel
theorem dX2_inPhase_13 : decode cX2_inPhase 13 = .ok (.getfield 21, 3) := by decide +kernel
theorem dX2_inPhase_16 : decode cX2_inPhase 16 = .ok (.iload_n 3, 1) := by decide +kernel
theorem dX2_inPhase_17 : decode cX2_inPhase 17 = .ok (.iaload, 1) := by decide +kernel
theorem dX2_inPhase_18 : decode cX2_inPhase 18 = .ok (.iload_n 1, 1) := by decide +kernel
theorem dX2_inPhase_19 : decode cX2_inPhase 19 = .ok (.if_icmp .ne 9, 3) := by decide +kernel
theorem dX2_inPhase_22 : decode cX2_inPhase 22 = .ok (.iload_n 2, 1) := by decide +kernel
theorem dX2_inPhase_23 : decode cX2_inPhase 23 = .ok (.iconst 1, 1) := by decide +kernel
theorem dX2_inPhase_24 : decode cX2_inPhase 24 = .ok (.iload_n 3, 1) := by decide +kernel
theorem dX2_inPhase_25 : decode cX2_inPhase 25 = .ok (.ishl, 1) := by decide +kernel
theorem dX2_inPhase_26 : decode cX2_inPhase 26 = .ok (.ior, 1) := by decide +kernel
theorem dX2_inPhase_27 : decode cX2_inPhase 27 = .ok (.istore_n 2, 1) := by decide +kernel
theorem dX2_inPhase_28 : decode cX2_inPhase 28 = .ok (.iinc 3 1, 3) := by decide +kernel
theorem dX2_inPhase_31 : decode cX2_inPhase 31 = .ok (.goto (-27), 3) := by decide +kernel
theorem dX2_inPhase_34 : decode cX2_inPhase 34 = .ok (.iload_n 2, 1) := by decide +kernel
theorem dX2_inPhase_35 : decode cX2_inPhase 35 = .ok (.ireturn, 1) := by decide +kernel
set_option maxRecDepth 20000 in
theorem ggX2_writerAhead_X5_contains : GoodIn wsX2_writerAhead wsX5_contains := goodIn_r _ [7] (by decide +kernel) (by decide +kernel)
set_option maxRecDepth 20000 in
theorem gX2_writerAhead_X5_contains_n59 : GoodIn wsX2_writerAhead (wsX5_contains) := ggX2_writerAhead_X5_contains
theorem dX2_writerAhead_0 : decode cX2_writerAhead 0 = .ok (.bipush (-6), 2) := by decide +kernel
theorem dX2_writerAhead_2 : decode cX2_writerAhead 2 = .ok (.istore_n 3, 1) := by decide +kernel
theorem dX2_writerAhead_3 : decode cX2_writerAhead 3 = .ok (.iconst 0, 1) := by decide +kernel
theorem dX2_writerAhead_4 : decode cX2_writerAhead 4 = .ok (.istore 4, 2) := by decide +kernel
theorem dX2_writerAhead_6 : decode cX2_writerAhead 6 = .ok (.iconst 0, 1) := by decide +kernel
theorem dX2_writerAhead_7 : decode cX2_writerAhead 7 = .ok (.istore 5, 2) := by decide +kernel
theorem dX2_writerAhead_9 : decode cX2_writerAhead 9 = .ok (.iload 5, 2) := by decide +kernel
theorem dX2_writerAhead_11 : decode cX2_writerAhead 11 = .ok (.aload_n 0, 1) := by decide +kernel
theorem dX2_writerAhead_12 : decode cX2_writerAhead 12 = .ok (.getfield 18, 3) := by decide +kernel
theorem dX2_writerAhead_15 : decode cX2_writerAhead 15 = .ok (.if_icmp .ge 69, 3) := by decide +kernel
theorem dX2_writerAhead_18 : decode cX2_writerAhead 18 = .ok (.aload_n 0, 1) := by decide +kernel
theorem dX2_writerAhead_19 : decode cX2_writerAhead 19 = .ok (.getfield 21, 3) := by decide +kernel
theorem dX2_writerAhead_22 : decode cX2_writerAhead 22 = .ok (.iload 5, 2) := by decide +kernel
theorem dX2_writerAhead_24 : decode cX2_writerAhead 24 = .ok (.iaload, 1) := by decide +kernel
theorem dX2_writerAhead_25 : decode cX2_writerAhead 25 = .ok (.iconst 1, 1) := by decide +kernel
theorem dX2_writerAhead_26 : decode cX2_writerAhead 26 = .ok (.if_icmp .ne 52, 3) := by decide +kernel
theorem dX2_writerAhead_29 : decode cX2_writerAhead 29 = .ok (.aload_n 0, 1) := by decide +kernel
theorem dX2_writerAhead_30 : decode cX2_writerAhead 30 = .ok (.getfield 34, 3) := by decide +kernel
theorem dX2_writerAhead_33 : decode cX2_writerAhead 33 = .ok (.iload 5, 2) := by decide +kernel
theorem dX2_writerAhead_35 : decode cX2_writerAhead 35 = .ok (.iaload, 1) := by decide +kernel
theorem dX2_writerAhead_36 : decode cX2_writerAhead 36 = .ok (.iload_n 1, 1) := by decide +kernel
theorem dX2_writerAhead_37 : decode cX2_writerAhead 37 = .ok (.invokestatic 59, 3) := by decide +kernel
theorem dX2_writerAhead_40 : decode cX2_writerAhead 40 = .ok (.ifCond .eq 38, 3) := by decide +kernel
theorem dX2_writerAhead_43 : decode cX2_writerAhead 43 = .ok (.aload_n 0, 1) := by decide +kernel
theorem dX2_writerAhead_44 : decode cX2_writerAhead 44 = .ok (.getfield 28, 3) := by decide +kernel
theorem dX2_writerAhead_47 : decode cX2_writerAhead 47 = .ok (.iload 5, 2) := by decide +kernel
theorem dX2_writerAhead_49 : decode cX2_writerAhead 49 = .ok (.iaload, 1) := by decide +kernel
theorem dX2_writerAhead_50 : decode cX2_writerAhead 50 = .ok (.iload_n 2, 1) := by decide +kernel
theorem dX2_writerAhead_51 : decode cX2_writerAhead 51 = .ok (.if_icmp .ge 27, 3) := by decide +kernel
theorem dX2_writerAhead_54 : decode cX2_writerAhead 54 = .ok (.aload_n 0, 1) := by decide +kernel
theorem dX2_writerAhead_55 : decode cX2_writerAhead 55 = .ok (.getfield 28, 3) := by decide +kernel
theorem dX2_writerAhead_58 : decode cX2_writerAhead 58 = .ok (.iload 5, 2) := by decide +kernel
theorem dX2_writerAhead_60 : decode cX2_writerAhead 60 = .ok (.iaload, 1) := by decide +kernel
theorem dX2_writerAhead_61 : decode cX2_writerAhead 61 = .ok (.iload 4, 2) := by decide +kernel
theorem dX2_writerAhead_63 : decode cX2_writerAhead 63 = .ok (.if_icmp .le 15, 3) := by decide +kernel
theorem dX2_writerAhead_66 : decode cX2_writerAhead 66 = .ok (.iload 5, 2) := by decide +kernel
theorem dX2_writerAhead_68 : decode cX2_writerAhead 68 = .ok (.istore_n 3, 1) := by decide +kernel
theorem dX2_writerAhead_69 : decode cX2_writerAhead 69 = .ok (.aload_n 0, 1) := by decide +kernel
theorem dX2_writerAhead_70 : decode cX2_writerAhead 70 = .ok (.getfield 28, 3) := by decide +kernel
theorem dX2_writerAhead_73 : decode cX2_writerAhead 73 = .ok (.iload 5, 2) := by decide +kernel
theorem dX2_writerAhead_75 : decode cX2_writerAhead 75 = .ok (.iaload, 1) := by decide +kernel
theorem dX2_writerAhead_76 : decode cX2_writerAhead 76 = .ok (.istore 4, 2) := by decide +kernel
theorem dX2_writerAhead_78 : decode cX2_writerAhead 78 = .ok (.iinc 5 1, 3) := by decide +kernel
theorem dX2_writerAhead_81 : decode cX2_writerAhead 81 = .ok (.goto (-72), 3) := by decide +kernel
theorem dX2_writerAhead_84 : decode cX2_writerAhead 84 = .ok (.iload_n 3, 1) := by decide +kernel
theorem dX2_writerAhead_85 : decode cX2_writerAhead 85 = .ok (.ireturn, 1) := by decide +kernel
set_option maxRecDepth 20000 in
theorem ggX2_writerBehind_X5_contains : GoodIn wsX2_writerBehind wsX5_contains := goodIn_r _ [8] (by decide +kernel) (by decide +kernel)
set_option maxRecDepth 20000 in
theorem gX2_writerBehind_X5_contains_n59 : GoodIn wsX2_writerBehind (wsX5_contains) := ggX2_writerBehind_X5_contains
theorem dX2_writerBehind_0 : decode cX2_writerBehind 0 = .ok (.bipush (-6), 2) := by decide +kernel
theorem dX2_writerBehind_2 : decode cX2_writerBehind 2 = .ok (.istore_n 3, 1) := by decide +kernel
theorem dX2_writerBehind_3 : decode cX2_writerBehind 3 = .ok (.aload_n 0, 1) := by decide +kernel
theorem dX2_writerBehind_4 : decode cX2_writerBehind 4 = .ok (.getfield 15, 3) := by decide +kernel
theorem dX2_writerBehind_7 : decode cX2_writerBehind 7 = .ok (.iconst 1, 1) := by decide +kernel
theorem dX2_writerBehind_8 : decode cX2_writerBehind 8 = .ok (.iadd, 1) := by decide +kernel
theorem dX2_writerBehind_9 : decode cX2_writerBehind 9 = .ok (.istore 4, 2) := by decide +kernel
theorem dX2_writerBehind_11 : decode cX2_writerBehind 11 = .ok (.iconst 0, 1) := by decide +kernel
theorem dX2_writerBehind_12 : decode cX2_writerBehind 12 = .ok (.istore 5, 2) := by decide +kernel
theorem dX2_writerBehind_14 : decode cX2_writerBehind 14 = .ok (.iload 5, 2) := by decide +kernel
theorem dX2_writerBehind_16 : decode cX2_writerBehind 16 = .ok (.aload_n 0, 1) := by decide +kernel
theorem dX2_writerBehind_17 : decode cX2_writerBehind 17 = .ok (.getfield 18, 3) := by decide +kernel
theorem dX2_writerBehind_20 : decode cX2_writerBehind 20 = .ok (.if_icmp .ge 69, 3) := by decide +kernel
theorem dX2_writerBehind_23 : decode cX2_writerBehind 23 = .ok (.aload_n 0, 1) := by decide +kernel
theorem dX2_writerBehind_24 : decode cX2_writerBehind 24 = .ok (.getfield 21, 3) := by decide +kernel
theorem dX2_writerBehind_27 : decode cX2_writerBehind 27 = .ok (.iload 5, 2) := by decide +kernel
theorem dX2_writerBehind_29 : decode cX2_writerBehind 29 = .ok (.iaload, 1) := by decide +kernel
theorem dX2_writerBehind_30 : decode cX2_writerBehind 30 = .ok (.iconst 1, 1) := by decide +kernel
theorem dX2_writerBehind_31 : decode cX2_writerBehind 31 = .ok (.if_icmp .ne 52, 3) := by decide +kernel
theorem dX2_writerBehind_34 : decode cX2_writerBehind 34 = .ok (.aload_n 0, 1) := by decide +kernel
theorem dX2_writerBehind_35 : decode cX2_writerBehind 35 = .ok (.getfield 34, 3) := by decide +kernel
theorem dX2_writerBehind_38 : decode cX2_writerBehind 38 = .ok (.iload 5, 2) := by decide +kernel
theorem dX2_writerBehind_40 : decode cX2_writerBehind 40 = .ok (.iaload, 1) := by decide +kernel
theorem dX2_writerBehind_41 : decode cX2_writerBehind 41 = .ok (.iload_n 1, 1) := by decide +kernel
theorem dX2_writerBehind_42 : decode cX2_writerBehind 42 = .ok (.invokestatic 59, 3) := by decide +kernel
theorem dX2_writerBehind_45 : decode cX2_writerBehind 45 = .ok (.ifCond .eq 38, 3) := by decide +kernel
theorem dX2_writerBehind_48 : decode cX2_writerBehind 48 = .ok (.aload_n 0, 1) := by decide +kernel
theorem dX2_writerBehind_49 : decode cX2_writerBehind 49 = .ok (.getfield 28, 3) := by decide +kernel
theorem dX2_writerBehind_52 : decode cX2_writerBehind 52 = .ok (.iload 5, 2) := by decide +kernel
theorem dX2_writerBehind_54 : decode cX2_writerBehind 54 = .ok (.iaload, 1) := by decide +kernel
theorem dX2_writerBehind_55 : decode cX2_writerBehind 55 = .ok (.iload_n 2, 1) := by decide +kernel
theorem dX2_writerBehind_56 : decode cX2_writerBehind 56 = .ok (.if_icmp .le 27, 3) := by decide +kernel
theorem dX2_writerBehind_59 : decode cX2_writerBehind 59 = .ok (.aload_n 0, 1) := by decide +kernel
theorem dX2_writerBehind_60 : decode cX2_writerBehind 60 = .ok (.getfield 28, 3) := by decide +kernel
theorem dX2_writerBehind_63 : decode cX2_writerBehind 63 = .ok (.iload 5, 2) := by decide +kernel
theorem dX2_writerBehind_65 : decode cX2_writerBehind 65 = .ok (.iaload, 1) := by decide +kernel
theorem dX2_writerBehind_66 : decode cX2_writerBehind 66 = .ok (.iload 4, 2) := by decide +kernel
theorem dX2_writerBehind_68 : decode cX2_writerBehind 68 = .ok (.if_icmp .ge 15, 3) := by decide +kernel
theorem dX2_writerBehind_71 : decode cX2_writerBehind 71 = .ok (.iload 5, 2) := by decide +kernel
theorem dX2_writerBehind_73 : decode cX2_writerBehind 73 = .ok (.istore_n 3, 1) := by decide +kernel
theorem dX2_writerBehind_74 : decode cX2_writerBehind 74 = .ok (.aload_n 0, 1) := by decide +kernel
theorem dX2_writerBehind_75 : decode cX2_writerBehind 75 = .ok (.getfield 28, 3) := by decide +kernel
theorem dX2_writerBehind_78 : decode cX2_writerBehind 78 = .ok (.iload 5, 2) := by decide +kernel
theorem dX2_writerBehind_80 : decode cX2_writerBehind 80 = .ok (.iaload, 1) := by decide +kernel
theorem dX2_writerBehind_81 : decode cX2_writerBehind 81 = .ok (.istore 4, 2) := by decide +kernel
theorem dX2_writerBehind_83 : decode cX2_writerBehind 83 = .ok (.iinc 5 1, 3) := by decide +kernel
theorem dX2_writerBehind_86 : decode cX2_writerBehind 86 = .ok (.goto (-72), 3) := by decide +kernel
theorem dX2_writerBehind_89 : decode cX2_writerBehind 89 = .ok (.iload_n 3, 1) := by decide +kernel
theorem dX2_writerBehind_90 : decode cX2_writerBehind 90 = .ok (.ireturn, 1) := by decide +kernel
set_option maxRecDepth 20000 in
theorem ggX2_seenWriter_X5_contains : GoodIn wsX2_seenWriter wsX5_contains := goodIn_r _ [5] (by decide +kernel) (by decide +kernel)
set_option maxRecDepth 20000 in
theorem gX2_seenWriter_X5_contains_n59 : GoodIn wsX2_seenWriter (wsX5_contains) := ggX2_seenWriter_X5_contains
set_option maxRecDepth 20000 in
theorem ggX2_seenWriter_X2_writerAhead : GoodIn wsX2_seenWriter wsX2_writerAhead := goodIn_r _ [10, 11, 12, 1, 13, 3, 4, 5, 14, 15, 16, 17, 18, 19, 20, 21, 22, 23] (by decide +kernel) (by decide +kernel)
set_option maxRecDepth 20000 in
theorem gX2_seenWriter_X2_writerAhead : GoodIn wsX2_seenWriter (wsV RX2 85 RX2 yX2_writerAhead wsX2_writerAhead) := goodIn_app (goodIn_of _ (by decide +kernel)) ggX2_seenWriter_X2_writerAhead
theorem dX2_seenWriter_0 : decode cX2_seenWriter 0 = .ok (.aload_n 0, 1) := by decide +kernel
theorem dX2_seenWriter_1 : decode cX2_seenWriter 1 = .ok (.getfield 34, 3) := by decide +kernel
theorem dX2_seenWriter_4 : decode cX2_seenWriter 4 = .ok (.iload_n 1, 1) := by decide +kernel
theorem dX2_seenWriter_5 : decode cX2_seenWriter 5 = .ok (.iaload, 1) := by decide +kernel
theorem dX2_seenWriter_6 : decode cX2_seenWriter 6 = .ok (.iload_n 2, 1) := by decide +kernel
theorem dX2_seenWriter_7 : decode cX2_seenWriter 7 = .ok (.invokestatic 59, 3) := by decide +kernel
theorem dX2_seenWriter_10 : decode cX2_seenWriter 10 = .ok (.ifCond .eq 5, 3) := by decide +kernel
theorem dX2_seenWriter_13 : decode cX2_seenWriter 13 = .ok (.iload_n 1, 1) := by decide +kernel
theorem dX2_seenWriter_14 : decode cX2_seenWriter 14 = .ok (.ireturn, 1) := by decide +kernel
theorem dX2_seenWriter_15 : decode cX2_seenWriter 15 = .ok (.aload_n 0, 1) := by decide +kernel
theorem dX2_seenWriter_16 : decode cX2_seenWriter 16 = .ok (.iload_n 2, 1) := by decide +kernel
theorem dX2_seenWriter_17 : decode cX2_seenWriter 17 = .ok (.aload_n 0, 1) := by decide +kernel
theorem dX2_seenWriter_18 : decode cX2_seenWriter 18 = .ok (.getfield 25, 3) := by decide +kernel
theorem dX2_seenWriter_21 : decode cX2_seenWriter 21 = .ok (.iload_n 1, 1) := by decide +kernel
theorem dX2_seenWriter_22 : decode cX2_seenWriter 22 = .ok (.iaload, 1) := by decide +kernel
theorem dX2_seenWriter_23 : decode cX2_seenWriter 23 = .ok (.invokevirtual 85, 3) := by decide +kernel
theorem dX2_seenWriter_26 : decode cX2_seenWriter 26 = .ok (.ireturn, 1) := by decide +kernel
set_option maxRecDepth 20000 in
theorem ggX2_valueOfVersion_X2_exists : GoodIn wsX2_valueOfVersion wsX2_exists := goodIn_r _ [6, 7, 8, 9, 10, 11, 12, 13, 14, 15, 16, 17] (by decide +kernel) (by decide +kernel)
set_option maxRecDepth 20000 in
theorem gX2_valueOfVersion_X2_exists : GoodIn wsX2_valueOfVersion (wsV RX2 53 RX2 yX2_exists wsX2_exists) := goodIn_app (goodIn_of _ (by decide +kernel)) ggX2_valueOfVersion_X2_exists
theorem dX2_valueOfVersion_0 : decode cX2_valueOfVersion 0 = .ok (.aload_n 0, 1) := by decide +kernel
theorem dX2_valueOfVersion_1 : decode cX2_valueOfVersion 1 = .ok (.iload_n 1, 1) := by decide +kernel
theorem dX2_valueOfVersion_2 : decode cX2_valueOfVersion 2 = .ok (.invokevirtual 53, 3) := by decide +kernel
theorem dX2_valueOfVersion_5 : decode cX2_valueOfVersion 5 = .ok (.ifCond .eq 17, 3) := by decide +kernel
theorem dX2_valueOfVersion_8 : decode cX2_valueOfVersion 8 = .ok (.aload_n 0, 1) := by decide +kernel
theorem dX2_valueOfVersion_9 : decode cX2_valueOfVersion 9 = .ok (.getfield 40, 3) := by decide +kernel
theorem dX2_valueOfVersion_12 : decode cX2_valueOfVersion 12 = .ok (.iload_n 1, 1) := by decide +kernel
theorem dX2_valueOfVersion_13 : decode cX2_valueOfVersion 13 = .ok (.bipush 16, 2) := by decide +kernel
theorem dX2_valueOfVersion_15 : decode cX2_valueOfVersion 15 = .ok (.imul, 1) := by decide +kernel
theorem dX2_valueOfVersion_16 : decode cX2_valueOfVersion 16 = .ok (.iload_n 2, 1) := by decide +kernel
theorem dX2_valueOfVersion_17 : decode cX2_valueOfVersion 17 = .ok (.iadd, 1) := by decide +kernel
theorem dX2_valueOfVersion_18 : decode cX2_valueOfVersion 18 = .ok (.iaload, 1) := by decide +kernel
theorem dX2_valueOfVersion_19 : decode cX2_valueOfVersion 19 = .ok (.goto 4, 3) := by decide +kernel
theorem dX2_valueOfVersion_22 : decode cX2_valueOfVersion 22 = .ok (.iconst 0, 1) := by decide +kernel
theorem dX2_valueOfVersion_23 : decode cX2_valueOfVersion 23 = .ok (.ireturn, 1) := by decide +kernel
theorem dX2_edgeKeys_0 : decode cX2_edgeKeys 0 = .ok (.iload_n 1, 1) := by decide +kernel
theorem dX2_edgeKeys_1 : decode cX2_edgeKeys 1 = .ok (.iload_n 2, 1) := by decide +kernel
theorem dX2_edgeKeys_2 : decode cX2_edgeKeys 2 = .ok (.if_icmp .eq 23, 3) := by decide +kernel
theorem dX2_edgeKeys_5 : decode cX2_edgeKeys 5 = .ok (.aload_n 0, 1) := by decide +kernel
theorem dX2_edgeKeys_6 : decode cX2_edgeKeys 6 = .ok (.getfield 21, 3) := by decide +kernel
theorem dX2_edgeKeys_9 : decode cX2_edgeKeys 9 = .ok (.iload_n 1, 1) := by decide +kernel
theorem dX2_edgeKeys_10 : decode cX2_edgeKeys 10 = .ok (.iaload, 1) := by decide +kernel
theorem dX2_edgeKeys_11 : decode cX2_edgeKeys 11 = .ok (.iconst 2, 1) := by decide +kernel
theorem dX2_edgeKeys_12 : decode cX2_edgeKeys 12 = .ok (.if_icmp .eq 13, 3) := by decide +kernel
theorem dX2_edgeKeys_15 : decode cX2_edgeKeys 15 = .ok (.aload_n 0, 1) := by decide +kernel
theorem dX2_edgeKeys_16 : decode cX2_edgeKeys 16 = .ok (.getfield 21, 3) := by decide +kernel
theorem dX2_edgeKeys_19 : decode cX2_edgeKeys 19 = .ok (.iload_n 2, 1) := by decide +kernel
theorem dX2_edgeKeys_20 : decode cX2_edgeKeys 20 = .ok (.iaload, 1) := by decide +kernel
theorem dX2_edgeKeys_21 : decode cX2_edgeKeys 21 = .ok (.iconst 2, 1) := by decide +kernel
theorem dX2_edgeKeys_22 : decode cX2_edgeKeys 22 = .ok (.if_icmp .ne 5, 3) := by decide +kernel
theorem dX2_edgeKeys_25 : decode cX2_edgeKeys 25 = .ok (.iconst 0, 1) := by decide +kernel
theorem dX2_edgeKeys_26 : decode cX2_edgeKeys 26 = .ok (.ireturn, 1) := by decide +kernel
theorem dX2_edgeKeys_27 : decode cX2_edgeKeys 27 = .ok (.aload_n 0, 1) := by decide +kernel
theorem dX2_edgeKeys_28 : decode cX2_edgeKeys 28 = .ok (.getfield 21, 3) := by decide +kernel
theorem dX2_edgeKeys_31 : decode cX2_edgeKeys 31 = .ok (.iload_n 1, 1) := by decide +kernel
theorem dX2_edgeKeys_32 : decode cX2_edgeKeys 32 = .ok (.iaload, 1) := by decide +kernel
theorem dX2_edgeKeys_33 : decode cX2_edgeKeys 33 = .ok (.iconst 1, 1) := by decide +kernel
theorem dX2_edgeKeys_34 : decode cX2_edgeKeys 34 = .ok (.if_icmp .ne 20, 3) := by decide +kernel
theorem dX2_edgeKeys_37 : decode cX2_edgeKeys 37 = .ok (.aload_n 0, 1) := by decide +kernel
theorem dX2_edgeKeys_38 : decode cX2_edgeKeys 38 = .ok (.getfield 28, 3) := by decide +kernel
theorem dX2_edgeKeys_41 : decode cX2_edgeKeys 41 = .ok (.iload_n 1, 1) := by decide +kernel
theorem dX2_edgeKeys_42 : decode cX2_edgeKeys 42 = .ok (.iaload, 1) := by decide +kernel
theorem dX2_edgeKeys_43 : decode cX2_edgeKeys 43 = .ok (.aload_n 0, 1) := by decide +kernel
theorem dX2_edgeKeys_44 : decode cX2_edgeKeys 44 = .ok (.getfield 25, 3) := by decide +kernel
theorem dX2_edgeKeys_47 : decode cX2_edgeKeys 47 = .ok (.iload_n 2, 1) := by decide +kernel
theorem dX2_edgeKeys_48 : decode cX2_edgeKeys 48 = .ok (.iaload, 1) := by decide +kernel
theorem dX2_edgeKeys_49 : decode cX2_edgeKeys 49 = .ok (.if_icmp .ge 5, 3) := by decide +kernel
theorem dX2_edgeKeys_52 : decode cX2_edgeKeys 52 = .ok (.iconst 0, 1) := by decide +kernel
theorem dX2_edgeKeys_53 : decode cX2_edgeKeys 53 = .ok (.ireturn, 1) := by decide +kernel
theorem dX2_edgeKeys_54 : decode cX2_edgeKeys 54 = .ok (.aload_n 0, 1) := by decide +kernel
theorem dX2_edgeKeys_55 : decode cX2_edgeKeys 55 = .ok (.getfield 21, 3) := by decide +kernel
theorem dX2_edgeKeys_58 : decode cX2_edgeKeys 58 = .ok (.iload_n 2, 1) := by decide +kernel
theorem dX2_edgeKeys_59 : decode cX2_edgeKeys 59 = .ok (.iaload, 1) := by decide +kernel
theorem dX2_edgeKeys_60 : decode cX2_edgeKeys 60 = .ok (.iconst 1, 1) := by decide +kernel
theorem dX2_edgeKeys_61 : decode cX2_edgeKeys 61 = .ok (.if_icmp .ne 20, 3) := by decide +kernel
theorem dX2_edgeKeys_64 : decode cX2_edgeKeys 64 = .ok (.aload_n 0, 1) := by decide +kernel
theorem dX2_edgeKeys_65 : decode cX2_edgeKeys 65 = .ok (.getfield 28, 3) := by decide +kernel
theorem dX2_edgeKeys_68 : decode cX2_edgeKeys 68 = .ok (.iload_n 2, 1) := by decide +kernel
theorem dX2_edgeKeys_69 : decode cX2_edgeKeys 69 = .ok (.iaload, 1) := by decide +kernel
theorem dX2_edgeKeys_70 : decode cX2_edgeKeys 70 = .ok (.aload_n 0, 1) := by decide +kernel
theorem dX2_edgeKeys_71 : decode cX2_edgeKeys 71 = .ok (.getfield 25, 3) := by decide +kernel
theorem dX2_edgeKeys_74 : decode cX2_edgeKeys 74 = .ok (.iload_n 1, 1) := by decide +kernel
theorem dX2_edgeKeys_75 : decode cX2_edgeKeys 75 = .ok (.iaload, 1) := by decide +kernel
theorem dX2_edgeKeys_76 : decode cX2_edgeKeys 76 = .ok (.if_icmp .ge 5, 3) := by decide +kernel
theorem dX2_edgeKeys_79 : decode cX2_edgeKeys 79 = .ok (.iconst 0, 1) := by decide +kernel
theorem dX2_edgeKeys_80 : decode cX2_edgeKeys 80 = .ok (.ireturn, 1) := by decide +kernel
theorem dX2_edgeKeys_81 : decode cX2_edgeKeys 81 = .ok (.aload_n 0, 1) := by decide +kernel
theorem dX2_edgeKeys_82 : decode cX2_edgeKeys 82 = .ok (.getfield 31, 3) := by decide +kernel
theorem dX2_edgeKeys_85 : decode cX2_edgeKeys 85 = .ok (.iload_n 1, 1) := by decide +kernel
theorem dX2_edgeKeys_86 : decode cX2_edgeKeys 86 = .ok (.iaload, 1) := by decide +kernel
theorem dX2_edgeKeys_87 : decode cX2_edgeKeys 87 = .ok (.aload_n 0, 1) := by decide +kernel
theorem dX2_edgeKeys_88 : decode cX2_edgeKeys 88 = .ok (.getfield 34, 3) := by decide +kernel
theorem dX2_edgeKeys_91 : decode cX2_edgeKeys 91 = .ok (.iload_n 2, 1) := by decide +kernel
theorem dX2_edgeKeys_92 : decode cX2_edgeKeys 92 = .ok (.iaload, 1) := by decide +kernel
theorem dX2_edgeKeys_93 : decode cX2_edgeKeys 93 = .ok (.iand, 1) := by decide +kernel
theorem dX2_edgeKeys_94 : decode cX2_edgeKeys 94 = .ok (.ireturn, 1) := by decide +kernel
set_option maxRecDepth 20000 in
theorem ggX2_edgesFrom_X2_edgeKeys : GoodIn wsX2_edgesFrom wsX2_edgeKeys := goodIn_r _ [6, 7, 8, 9, 10, 11, 12, 13, 14, 15, 16, 17, 18, 19, 20, 21] (by decide +kernel) (by decide +kernel)
set_option maxRecDepth 20000 in
theorem gX2_edgesFrom_X2_edgeKeys : GoodIn wsX2_edgesFrom (wsV RX2 88 RX2 yX2_edgeKeys wsX2_edgeKeys) := goodIn_app (goodIn_of _ (by decide +kernel)) ggX2_edgesFrom_X2_edgeKeys
theorem dX2_edgesFrom_0 : decode cX2_edgesFrom 0 = .ok (.iconst 0, 1) := by decide +kernel
theorem dX2_edgesFrom_1 : decode cX2_edgesFrom 1 = .ok (.istore_n 2, 1) := by decide +kernel
theorem dX2_edgesFrom_2 : decode cX2_edgesFrom 2 = .ok (.iconst 0, 1) := by decide +kernel
theorem dX2_edgesFrom_3 : decode cX2_edgesFrom 3 = .ok (.istore_n 3, 1) := by decide +kernel
theorem dX2_edgesFrom_4 : decode cX2_edgesFrom 4 = .ok (.iload_n 3, 1) := by decide +kernel
theorem dX2_edgesFrom_5 : decode cX2_edgesFrom 5 = .ok (.aload_n 0, 1) := by decide +kernel
theorem dX2_edgesFrom_6 : decode cX2_edgesFrom 6 = .ok (.getfield 18, 3) := by decide +kernel
theorem dX2_edgesFrom_9 : decode cX2_edgesFrom 9 = .ok (.if_icmp .ge 24, 3) := by decide +kernel
theorem dX2_edgesFrom_12 : decode cX2_edgesFrom 12 = .ok (.aload_n 0, 1) := by decide +kernel
theorem dX2_edgesFrom_13 : decode cX2_edgesFrom 13 = .ok (.iload_n 1, 1) := by decide +kernel
theorem dX2_edgesFrom_14 : decode cX2_edgesFrom 14 = .ok (.iload_n 3, 1) := by decide +kernel
theorem dX2_edgesFrom_15 : decode cX2_edgesFrom 15 = .ok (.invokevirtual 88, 3) := by decide +kernel
theorem dX2_edgesFrom_18 : decode cX2_edgesFrom 18 = .ok (.ifCond .eq 9, 3) := by decide +kernel
theorem dX2_edgesFrom_21 : decode cX2_edgesFrom 21 = .ok (.iload_n 2, 1) := by decide +kernel
theorem dX2_edgesFrom_22 : decode cX2_edgesFrom 22 = .ok (.iconst 1, 1) := by decide +kernel
theorem dX2_edgesFrom_23 : decode cX2_edgesFrom 23 = .ok (.iload_n 3, 1) := by decide +kernel
theorem dX2_edgesFrom_24 : decode cX2_edgesFrom 24 = .ok (.ishl, 1) := by decide +kernel
theorem dX2_edgesFrom_25 : decode cX2_edgesFrom 25 = .ok (.ior, 1) := by decide +kernel
theorem dX2_edgesFrom_26 : decode cX2_edgesFrom 26 = .ok (.istore_n 2, 1) := by decide +kernel
theorem dX2_edgesFrom_27 : decode cX2_edgesFrom 27 = .ok (.iinc 3 1, 3) := by decide +kernel
theorem dX2_edgesFrom_30 : decode cX2_edgesFrom 30 = .ok (.goto (-26), 3) := by decide +kernel
theorem dX2_edgesFrom_33 : decode cX2_edgesFrom 33 = .ok (.iload_n 2, 1) := by decide +kernel
theorem dX2_edgesFrom_34 : decode cX2_edgesFrom 34 = .ok (.ireturn, 1) := by decide +kernel
set_option maxRecDepth 20000 in
theorem ggX2_edgesTo_X2_edgeKeys : GoodIn wsX2_edgesTo wsX2_edgeKeys := goodIn_r _ [6, 7, 8, 9, 10, 11, 12, 13, 14, 15, 16, 17, 18, 19, 20, 21] (by decide +kernel) (by decide +kernel)
set_option maxRecDepth 20000 in
theorem gX2_edgesTo_X2_edgeKeys : GoodIn wsX2_edgesTo (wsV RX2 88 RX2 yX2_edgeKeys wsX2_edgeKeys) := goodIn_app (goodIn_of _ (by decide +kernel)) ggX2_edgesTo_X2_edgeKeys
theorem dX2_edgesTo_0 : decode cX2_edgesTo 0 = .ok (.iconst 0, 1) := by decide +kernel
theorem dX2_edgesTo_1 : decode cX2_edgesTo 1 = .ok (.istore_n 2, 1) := by decide +kernel
theorem dX2_edgesTo_2 : decode cX2_edgesTo 2 = .ok (.iconst 0, 1) := by decide +kernel
theorem dX2_edgesTo_3 : decode cX2_edgesTo 3 = .ok (.istore_n 3, 1) := by decide +kernel
theorem dX2_edgesTo_4 : decode cX2_edgesTo 4 = .ok (.iload_n 3, 1) := by decide +kernel
theorem dX2_edgesTo_5 : decode cX2_edgesTo 5 = .ok (.aload_n 0, 1) := by decide +kernel
theorem dX2_edgesTo_6 : decode cX2_edgesTo 6 = .ok (.getfield 18, 3) := by decide +kernel
theorem dX2_edgesTo_9 : decode cX2_edgesTo 9 = .ok (.if_icmp .ge 24, 3) := by decide +kernel
theorem dX2_edgesTo_12 : decode cX2_edgesTo 12 = .ok (.aload_n 0, 1) := by decide +kernel
theorem dX2_edgesTo_13 : decode cX2_edgesTo 13 = .ok (.iload_n 3, 1) := by decide +kernel
theorem dX2_edgesTo_14 : decode cX2_edgesTo 14 = .ok (.iload_n 1, 1) := by decide +kernel
theorem dX2_edgesTo_15 : decode cX2_edgesTo 15 = .ok (.invokevirtual 88, 3) := by decide +kernel
theorem dX2_edgesTo_18 : decode cX2_edgesTo 18 = .ok (.ifCond .eq 9, 3) := by decide +kernel
theorem dX2_edgesTo_21 : decode cX2_edgesTo 21 = .ok (.iload_n 2, 1) := by decide +kernel
theorem dX2_edgesTo_22 : decode cX2_edgesTo 22 = .ok (.iconst 1, 1) := by decide +kernel
theorem dX2_edgesTo_23 : decode cX2_edgesTo 23 = .ok (.iload_n 3, 1) := by decide +kernel
theorem dX2_edgesTo_24 : decode cX2_edgesTo 24 = .ok (.ishl, 1) := by decide +kernel
theorem dX2_edgesTo_25 : decode cX2_edgesTo 25 = .ok (.ior, 1) := by decide +kernel
theorem dX2_edgesTo_26 : decode cX2_edgesTo 26 = .ok (.istore_n 2, 1) := by decide +kernel
theorem dX2_edgesTo_27 : decode cX2_edgesTo 27 = .ok (.iinc 3 1, 3) := by decide +kernel
theorem dX2_edgesTo_30 : decode cX2_edgesTo 30 = .ok (.goto (-26), 3) := by decide +kernel
theorem dX2_edgesTo_33 : decode cX2_edgesTo 33 = .ok (.iload_n 2, 1) := by decide +kernel
theorem dX2_edgesTo_34 : decode cX2_edgesTo 34 = .ok (.ireturn, 1) := by decide +kernel
set_option maxRecDepth 20000 in
theorem ggX2_edgeTotal_X2_edgesFrom : GoodIn wsX2_edgeTotal wsX2_edgesFrom := goodIn_r _ [6, 1, 7, 8, 9, 5, 10, 11, 12, 13, 14, 15, 23, 24, 25, 26, 27, 28, 29, 30, 31, 32] (by decide +kernel) (by decide +kernel)
set_option maxRecDepth 20000 in
theorem gX2_edgeTotal_X2_edgesFrom : GoodIn wsX2_edgeTotal (wsV RX2 91 RX2 yX2_edgesFrom wsX2_edgesFrom) := goodIn_app (goodIn_of _ (by decide +kernel)) ggX2_edgeTotal_X2_edgesFrom
set_option maxRecDepth 20000 in
theorem ggX2_edgeTotal_J6_bitCount_0f7a4 : GoodIn wsX2_edgeTotal wsJ6_bitCount_0f7a4 := goodIn_r _ [19, 20, 21, 22] (by decide +kernel) (by decide +kernel)
set_option maxRecDepth 20000 in
theorem gX2_edgeTotal_J6_bitCount_0f7a4 : GoodIn wsX2_edgeTotal (va_wsS RX2 80 yJ6_bitCount_0f7a4 wsJ6_bitCount_0f7a4) := goodIn_app (goodIn_of _ (by decide +kernel)) ggX2_edgeTotal_J6_bitCount_0f7a4
theorem dX2_edgeTotal_0 : decode cX2_edgeTotal 0 = .ok (.iconst 0, 1) := by decide +kernel
theorem dX2_edgeTotal_1 : decode cX2_edgeTotal 1 = .ok (.istore_n 1, 1) := by decide +kernel
theorem dX2_edgeTotal_2 : decode cX2_edgeTotal 2 = .ok (.iconst 0, 1) := by decide +kernel
theorem dX2_edgeTotal_3 : decode cX2_edgeTotal 3 = .ok (.istore_n 2, 1) := by decide +kernel
theorem dX2_edgeTotal_4 : decode cX2_edgeTotal 4 = .ok (.iload_n 2, 1) := by decide +kernel
theorem dX2_edgeTotal_5 : decode cX2_edgeTotal 5 = .ok (.aload_n 0, 1) := by decide +kernel
theorem dX2_edgeTotal_6 : decode cX2_edgeTotal 6 = .ok (.getfield 18, 3) := by decide +kernel
theorem dX2_edgeTotal_9 : decode cX2_edgeTotal 9 = .ok (.if_icmp .ge 20, 3) := by decide +kernel
theorem dX2_edgeTotal_12 : decode cX2_edgeTotal 12 = .ok (.iload_n 1, 1) := by decide +kernel
theorem dX2_edgeTotal_13 : decode cX2_edgeTotal 13 = .ok (.aload_n 0, 1) := by decide +kernel
theorem dX2_edgeTotal_14 : decode cX2_edgeTotal 14 = .ok (.iload_n 2, 1) := by decide +kernel
theorem dX2_edgeTotal_15 : decode cX2_edgeTotal 15 = .ok (.invokevirtual 91, 3) := by decide +kernel
theorem dX2_edgeTotal_18 : decode cX2_edgeTotal 18 = .ok (.invokestatic 80, 3) := by decide +kernel
theorem dX2_edgeTotal_21 : decode cX2_edgeTotal 21 = .ok (.iadd, 1) := by decide +kernel
theorem dX2_edgeTotal_22 : decode cX2_edgeTotal 22 = .ok (.istore_n 1, 1) := by decide +kernel
theorem dX2_edgeTotal_23 : decode cX2_edgeTotal 23 = .ok (.iinc 2 1, 3) := by decide +kernel
theorem dX2_edgeTotal_26 : decode cX2_edgeTotal 26 = .ok (.goto (-22), 3) := by decide +kernel
theorem dX2_edgeTotal_29 : decode cX2_edgeTotal 29 = .ok (.iload_n 1, 1) := by decide +kernel
theorem dX2_edgeTotal_30 : decode cX2_edgeTotal 30 = .ok (.ireturn, 1) := by decide +kernel
set_option maxRecDepth 20000 in
theorem ggX2_pivots_X2_edgesTo : GoodIn wsX2_pivots wsX2_edgesTo := goodIn_r _ [6, 1, 7, 8, 9, 5, 10, 11, 12, 13, 14, 15, 20, 21, 22, 23, 24, 25, 26, 27, 28, 29] (by decide +kernel) (by decide +kernel)
set_option maxRecDepth 20000 in
theorem gX2_pivots_X2_edgesTo : GoodIn wsX2_pivots (wsV RX2 94 RX2 yX2_edgesTo wsX2_edgesTo) := goodIn_app (goodIn_of _ (by decide +kernel)) ggX2_pivots_X2_edgesTo
set_option maxRecDepth 20000 in
theorem ggX2_pivots_X2_edgesFrom : GoodIn wsX2_pivots wsX2_edgesFrom := goodIn_r _ [19, 1, 7, 8, 9, 5, 10, 11, 12, 13, 14, 15, 20, 21, 22, 23, 24, 25, 26, 27, 28, 29] (by decide +kernel) (by decide +kernel)
set_option maxRecDepth 20000 in
theorem gX2_pivots_X2_edgesFrom : GoodIn wsX2_pivots (wsV RX2 91 RX2 yX2_edgesFrom wsX2_edgesFrom) := goodIn_app (goodIn_of _ (by decide +kernel)) ggX2_pivots_X2_edgesFrom
theorem dX2_pivots_0 : decode cX2_pivots 0 = .ok (.iconst 0, 1) := by decide +kernel
theorem dX2_pivots_1 : decode cX2_pivots 1 = .ok (.istore_n 1, 1) := by decide +kernel
theorem dX2_pivots_2 : decode cX2_pivots 2 = .ok (.iconst 0, 1) := by decide +kernel
theorem dX2_pivots_3 : decode cX2_pivots 3 = .ok (.istore_n 2, 1) := by decide +kernel
theorem dX2_pivots_4 : decode cX2_pivots 4 = .ok (.iload_n 2, 1) := by decide +kernel
theorem dX2_pivots_5 : decode cX2_pivots 5 = .ok (.aload_n 0, 1) := by decide +kernel
theorem dX2_pivots_6 : decode cX2_pivots 6 = .ok (.getfield 18, 3) := by decide +kernel
theorem dX2_pivots_9 : decode cX2_pivots 9 = .ok (.if_icmp .ge 31, 3) := by decide +kernel
theorem dX2_pivots_12 : decode cX2_pivots 12 = .ok (.aload_n 0, 1) := by decide +kernel
theorem dX2_pivots_13 : decode cX2_pivots 13 = .ok (.iload_n 2, 1) := by decide +kernel
theorem dX2_pivots_14 : decode cX2_pivots 14 = .ok (.invokevirtual 94, 3) := by decide +kernel
theorem dX2_pivots_17 : decode cX2_pivots 17 = .ok (.ifCond .eq 17, 3) := by decide +kernel
theorem dX2_pivots_20 : decode cX2_pivots 20 = .ok (.aload_n 0, 1) := by decide +kernel
theorem dX2_pivots_21 : decode cX2_pivots 21 = .ok (.iload_n 2, 1) := by decide +kernel
theorem dX2_pivots_22 : decode cX2_pivots 22 = .ok (.invokevirtual 91, 3) := by decide +kernel
theorem dX2_pivots_25 : decode cX2_pivots 25 = .ok (.ifCond .eq 9, 3) := by decide +kernel
theorem dX2_pivots_28 : decode cX2_pivots 28 = .ok (.iload_n 1, 1) := by decide +kernel
theorem dX2_pivots_29 : decode cX2_pivots 29 = .ok (.iconst 1, 1) := by decide +kernel
theorem dX2_pivots_30 : decode cX2_pivots 30 = .ok (.iload_n 2, 1) := by decide +kernel
theorem dX2_pivots_31 : decode cX2_pivots 31 = .ok (.ishl, 1) := by decide +kernel
theorem dX2_pivots_32 : decode cX2_pivots 32 = .ok (.ior, 1) := by decide +kernel
theorem dX2_pivots_33 : decode cX2_pivots 33 = .ok (.istore_n 1, 1) := by decide +kernel
theorem dX2_pivots_34 : decode cX2_pivots 34 = .ok (.iinc 2 1, 3) := by decide +kernel
theorem dX2_pivots_37 : decode cX2_pivots 37 = .ok (.goto (-33), 3) := by decide +kernel
theorem dX2_pivots_40 : decode cX2_pivots 40 = .ok (.iload_n 1, 1) := by decide +kernel
theorem dX2_pivots_41 : decode cX2_pivots 41 = .ok (.ireturn, 1) := by decide +kernel
set_option maxRecDepth 20000 in
theorem ggX2_tripleTotal_X2_edgesTo : GoodIn wsX2_tripleTotal wsX2_edgesTo := goodIn_r _ [6, 1, 7, 8, 9, 5, 10, 11, 12, 13, 14, 15, 27, 28, 29, 30, 31, 32, 33, 34, 35, 36] (by decide +kernel) (by decide +kernel)
set_option maxRecDepth 20000 in
theorem gX2_tripleTotal_X2_edgesTo : GoodIn wsX2_tripleTotal (wsV RX2 94 RX2 yX2_edgesTo wsX2_edgesTo) := goodIn_app (goodIn_of _ (by decide +kernel)) ggX2_tripleTotal_X2_edgesTo
set_option maxRecDepth 20000 in
theorem ggX2_tripleTotal_J6_bitCount_0f7a4 : GoodIn wsX2_tripleTotal wsJ6_bitCount_0f7a4 := goodIn_r _ [19, 20, 21, 22] (by decide +kernel) (by decide +kernel)
set_option maxRecDepth 20000 in
theorem gX2_tripleTotal_J6_bitCount_0f7a4 : GoodIn wsX2_tripleTotal (va_wsS RX2 80 yJ6_bitCount_0f7a4 wsJ6_bitCount_0f7a4) := goodIn_app (goodIn_of _ (by decide +kernel)) ggX2_tripleTotal_J6_bitCount_0f7a4
set_option maxRecDepth 20000 in
theorem ggX2_tripleTotal_X2_edgesFrom : GoodIn wsX2_tripleTotal wsX2_edgesFrom := goodIn_r _ [26, 1, 7, 8, 9, 5, 10, 11, 12, 13, 14, 15, 27, 28, 29, 30, 31, 32, 33, 34, 35, 36] (by decide +kernel) (by decide +kernel)
set_option maxRecDepth 20000 in
theorem gX2_tripleTotal_X2_edgesFrom : GoodIn wsX2_tripleTotal (wsV RX2 91 RX2 yX2_edgesFrom wsX2_edgesFrom) := goodIn_app (goodIn_of _ (by decide +kernel)) ggX2_tripleTotal_X2_edgesFrom
theorem dX2_tripleTotal_0 : decode cX2_tripleTotal 0 = .ok (.iconst 0, 1) := by decide +kernel
theorem dX2_tripleTotal_1 : decode cX2_tripleTotal 1 = .ok (.istore_n 1, 1) := by decide +kernel
theorem dX2_tripleTotal_2 : decode cX2_tripleTotal 2 = .ok (.iconst 0, 1) := by decide +kernel
theorem dX2_tripleTotal_3 : decode cX2_tripleTotal 3 = .ok (.istore_n 2, 1) := by decide +kernel
theorem dX2_tripleTotal_4 : decode cX2_tripleTotal 4 = .ok (.iload_n 2, 1) := by decide +kernel
theorem dX2_tripleTotal_5 : decode cX2_tripleTotal 5 = .ok (.aload_n 0, 1) := by decide +kernel
theorem dX2_tripleTotal_6 : decode cX2_tripleTotal 6 = .ok (.getfield 18, 3) := by decide +kernel
theorem dX2_tripleTotal_9 : decode cX2_tripleTotal 9 = .ok (.if_icmp .ge 29, 3) := by decide +kernel
theorem dX2_tripleTotal_12 : decode cX2_tripleTotal 12 = .ok (.iload_n 1, 1) := by decide +kernel
theorem dX2_tripleTotal_13 : decode cX2_tripleTotal 13 = .ok (.aload_n 0, 1) := by decide +kernel
theorem dX2_tripleTotal_14 : decode cX2_tripleTotal 14 = .ok (.iload_n 2, 1) := by decide +kernel
theorem dX2_tripleTotal_15 : decode cX2_tripleTotal 15 = .ok (.invokevirtual 94, 3) := by decide +kernel
theorem dX2_tripleTotal_18 : decode cX2_tripleTotal 18 = .ok (.invokestatic 80, 3) := by decide +kernel
theorem dX2_tripleTotal_21 : decode cX2_tripleTotal 21 = .ok (.aload_n 0, 1) := by decide +kernel
theorem dX2_tripleTotal_22 : decode cX2_tripleTotal 22 = .ok (.iload_n 2, 1) := by decide +kernel
theorem dX2_tripleTotal_23 : decode cX2_tripleTotal 23 = .ok (.invokevirtual 91, 3) := by decide +kernel
theorem dX2_tripleTotal_26 : decode cX2_tripleTotal 26 = .ok (.invokestatic 80, 3) := by decide +kernel
theorem dX2_tripleTotal_29 : decode cX2_tripleTotal 29 = .ok (.imul, 1) := by decide +kernel
theorem dX2_tripleTotal_30 : decode cX2_tripleTotal 30 = .ok (.iadd, 1) := by decide +kernel
theorem dX2_tripleTotal_31 : decode cX2_tripleTotal 31 = .ok (.istore_n 1, 1) := by decide +kernel
theorem dX2_tripleTotal_32 : decode cX2_tripleTotal 32 = .ok (.iinc 2 1, 3) := by decide +kernel
theorem dX2_tripleTotal_35 : decode cX2_tripleTotal 35 = .ok (.goto (-31), 3) := by decide +kernel
theorem dX2_tripleTotal_38 : decode cX2_tripleTotal 38 = .ok (.iload_n 1, 1) := by decide +kernel
theorem dX2_tripleTotal_39 : decode cX2_tripleTotal 39 = .ok (.ireturn, 1) := by decide +kernel
set_option maxRecDepth 20000 in
theorem ggX2_snapshot_X2_spoils : GoodIn wsX2_snapshot wsX2_spoils := goodIn_r _ [8, 2, 9, 10, 11, 12, 13, 7, 14, 15, 16, 17, 18, 3, 19, 1, 20, 21, 22, 23, 24, 25, 26, 27, 28, 29, 30, 31, 32] (by decide +kernel) (by decide +kernel)
set_option maxRecDepth 20000 in
theorem gX2_snapshot_X2_spoils : GoodIn wsX2_snapshot (wsV RX2 97 RX2 yX2_spoils wsX2_spoils) := goodIn_app (goodIn_of _ (by decide +kernel)) ggX2_snapshot_X2_spoils
theorem dX2_snapshot_0 : decode cX2_snapshot 0 = .ok (.aload_n 0, 1) := by decide +kernel
theorem dX2_snapshot_1 : decode cX2_snapshot 1 = .ok (.getfield 34, 3) := by decide +kernel
theorem dX2_snapshot_4 : decode cX2_snapshot 4 = .ok (.iload_n 1, 1) := by decide +kernel
theorem dX2_snapshot_5 : decode cX2_snapshot 5 = .ok (.iaload, 1) := by decide +kernel
theorem dX2_snapshot_6 : decode cX2_snapshot 6 = .ok (.ifCond .ne 13, 3) := by decide +kernel
theorem dX2_snapshot_9 : decode cX2_snapshot 9 = .ok (.aload_n 0, 1) := by decide +kernel
theorem dX2_snapshot_10 : decode cX2_snapshot 10 = .ok (.getfield 21, 3) := by decide +kernel
theorem dX2_snapshot_13 : decode cX2_snapshot 13 = .ok (.iload_n 1, 1) := by decide +kernel
theorem dX2_snapshot_14 : decode cX2_snapshot 14 = .ok (.iaload, 1) := by decide +kernel
theorem dX2_snapshot_15 : decode cX2_snapshot 15 = .ok (.iconst 2, 1) := by decide +kernel
theorem dX2_snapshot_16 : decode cX2_snapshot 16 = .ok (.if_icmp .ne 6, 3) := by decide +kernel
theorem dX2_snapshot_19 : decode cX2_snapshot 19 = .ok (.bipush (-6), 2) := by decide +kernel
theorem dX2_snapshot_21 : decode cX2_snapshot 21 = .ok (.ireturn, 1) := by decide +kernel
theorem dX2_snapshot_22 : decode cX2_snapshot 22 = .ok (.iconst 0, 1) := by decide +kernel
theorem dX2_snapshot_23 : decode cX2_snapshot 23 = .ok (.istore_n 2, 1) := by decide +kernel
theorem dX2_snapshot_24 : decode cX2_snapshot 24 = .ok (.iconst 0, 1) := by decide +kernel
theorem dX2_snapshot_25 : decode cX2_snapshot 25 = .ok (.istore_n 3, 1) := by decide +kernel
theorem dX2_snapshot_26 : decode cX2_snapshot 26 = .ok (.iload_n 3, 1) := by decide +kernel
theorem dX2_snapshot_27 : decode cX2_snapshot 27 = .ok (.iload_n 1, 1) := by decide +kernel
theorem dX2_snapshot_28 : decode cX2_snapshot 28 = .ok (.if_icmp .ge 39, 3) := by decide +kernel
theorem dX2_snapshot_31 : decode cX2_snapshot 31 = .ok (.aload_n 0, 1) := by decide +kernel
theorem dX2_snapshot_32 : decode cX2_snapshot 32 = .ok (.getfield 21, 3) := by decide +kernel
theorem dX2_snapshot_35 : decode cX2_snapshot 35 = .ok (.iload_n 3, 1) := by decide +kernel
theorem dX2_snapshot_36 : decode cX2_snapshot 36 = .ok (.iaload, 1) := by decide +kernel
theorem dX2_snapshot_37 : decode cX2_snapshot 37 = .ok (.ifCond .ne 8, 3) := by decide +kernel
theorem dX2_snapshot_40 : decode cX2_snapshot 40 = .ok (.iconst 1, 1) := by decide +kernel
theorem dX2_snapshot_41 : decode cX2_snapshot 41 = .ok (.istore_n 2, 1) := by decide +kernel
theorem dX2_snapshot_42 : decode cX2_snapshot 42 = .ok (.goto 19, 3) := by decide +kernel
theorem dX2_snapshot_45 : decode cX2_snapshot 45 = .ok (.aload_n 0, 1) := by decide +kernel
theorem dX2_snapshot_46 : decode cX2_snapshot 46 = .ok (.iload_n 3, 1) := by decide +kernel
theorem dX2_snapshot_47 : decode cX2_snapshot 47 = .ok (.aload_n 0, 1) := by decide +kernel
theorem dX2_snapshot_48 : decode cX2_snapshot 48 = .ok (.getfield 25, 3) := by decide +kernel
theorem dX2_snapshot_51 : decode cX2_snapshot 51 = .ok (.iload_n 1, 1) := by decide +kernel
theorem dX2_snapshot_52 : decode cX2_snapshot 52 = .ok (.iaload, 1) := by decide +kernel
theorem dX2_snapshot_53 : decode cX2_snapshot 53 = .ok (.invokevirtual 97, 3) := by decide +kernel
theorem dX2_snapshot_56 : decode cX2_snapshot 56 = .ok (.ifCond .eq 5, 3) := by decide +kernel
theorem dX2_snapshot_59 : decode cX2_snapshot 59 = .ok (.iconst 0, 1) := by decide +kernel
theorem dX2_snapshot_60 : decode cX2_snapshot 60 = .ok (.ireturn, 1) := by decide +kernel
theorem dX2_snapshot_61 : decode cX2_snapshot 61 = .ok (.iinc 3 1, 3) := by decide +kernel
theorem dX2_snapshot_64 : decode cX2_snapshot 64 = .ok (.goto (-38), 3) := by decide +kernel
theorem dX2_snapshot_67 : decode cX2_snapshot 67 = .ok (.iload_n 2, 1) := by decide +kernel
theorem dX2_snapshot_68 : decode cX2_snapshot 68 = .ok (.ifCond .eq 7, 3) := by decide +kernel
theorem dX2_snapshot_71 : decode cX2_snapshot 71 = .ok (.iconst 2, 1) := by decide +kernel
theorem dX2_snapshot_72 : decode cX2_snapshot 72 = .ok (.goto 4, 3) := by decide +kernel
theorem dX2_snapshot_75 : decode cX2_snapshot 75 = .ok (.iconst 1, 1) := by decide +kernel
theorem dX2_snapshot_76 : decode cX2_snapshot 76 = .ok (.ireturn, 1) := by decide +kernel
set_option maxRecDepth 20000 in
theorem ggX2_spoils_X2_edgesFrom : GoodIn wsX2_spoils wsX2_edgesFrom := goodIn_r _ [8, 3, 9, 10, 11, 7, 12, 1, 2, 13, 14, 15, 19, 20, 21, 22, 23, 24, 25, 26, 27, 28] (by decide +kernel) (by decide +kernel)
set_option maxRecDepth 20000 in
theorem gX2_spoils_X2_edgesFrom : GoodIn wsX2_spoils (wsV RX2 91 RX2 yX2_edgesFrom wsX2_edgesFrom) := goodIn_app (goodIn_of _ (by decide +kernel)) ggX2_spoils_X2_edgesFrom
set_option maxRecDepth 20000 in
theorem ggX2_spoils_X5_contains : GoodIn wsX2_spoils wsX5_contains := goodIn_r _ [18] (by decide +kernel) (by decide +kernel)
set_option maxRecDepth 20000 in
theorem gX2_spoils_X5_contains_n59 : GoodIn wsX2_spoils (wsX5_contains) := ggX2_spoils_X5_contains
theorem dX2_spoils_0 : decode cX2_spoils 0 = .ok (.aload_n 0, 1) := by decide +kernel
theorem dX2_spoils_1 : decode cX2_spoils 1 = .ok (.getfield 21, 3) := by decide +kernel
theorem dX2_spoils_4 : decode cX2_spoils 4 = .ok (.iload_n 1, 1) := by decide +kernel
theorem dX2_spoils_5 : decode cX2_spoils 5 = .ok (.iaload, 1) := by decide +kernel
theorem dX2_spoils_6 : decode cX2_spoils 6 = .ok (.iconst 1, 1) := by decide +kernel
theorem dX2_spoils_7 : decode cX2_spoils 7 = .ok (.if_icmp .ne 13, 3) := by decide +kernel
theorem dX2_spoils_10 : decode cX2_spoils 10 = .ok (.aload_n 0, 1) := by decide +kernel
theorem dX2_spoils_11 : decode cX2_spoils 11 = .ok (.getfield 28, 3) := by decide +kernel
theorem dX2_spoils_14 : decode cX2_spoils 14 = .ok (.iload_n 1, 1) := by decide +kernel
theorem dX2_spoils_15 : decode cX2_spoils 15 = .ok (.iaload, 1) := by decide +kernel
theorem dX2_spoils_16 : decode cX2_spoils 16 = .ok (.iload_n 2, 1) := by decide +kernel
theorem dX2_spoils_17 : decode cX2_spoils 17 = .ok (.if_icmp .ge 5, 3) := by decide +kernel
theorem dX2_spoils_20 : decode cX2_spoils 20 = .ok (.iconst 0, 1) := by decide +kernel
theorem dX2_spoils_21 : decode cX2_spoils 21 = .ok (.ireturn, 1) := by decide +kernel
theorem dX2_spoils_22 : decode cX2_spoils 22 = .ok (.aload_n 0, 1) := by decide +kernel
theorem dX2_spoils_23 : decode cX2_spoils 23 = .ok (.iload_n 1, 1) := by decide +kernel
theorem dX2_spoils_24 : decode cX2_spoils 24 = .ok (.invokevirtual 91, 3) := by decide +kernel
theorem dX2_spoils_27 : decode cX2_spoils 27 = .ok (.istore_n 3, 1) := by decide +kernel
theorem dX2_spoils_28 : decode cX2_spoils 28 = .ok (.iconst 0, 1) := by decide +kernel
theorem dX2_spoils_29 : decode cX2_spoils 29 = .ok (.istore 4, 2) := by decide +kernel
theorem dX2_spoils_31 : decode cX2_spoils 31 = .ok (.iload 4, 2) := by decide +kernel
theorem dX2_spoils_33 : decode cX2_spoils 33 = .ok (.aload_n 0, 1) := by decide +kernel
theorem dX2_spoils_34 : decode cX2_spoils 34 = .ok (.getfield 18, 3) := by decide +kernel
theorem dX2_spoils_37 : decode cX2_spoils 37 = .ok (.if_icmp .ge 42, 3) := by decide +kernel
theorem dX2_spoils_40 : decode cX2_spoils 40 = .ok (.iload_n 3, 1) := by decide +kernel
theorem dX2_spoils_41 : decode cX2_spoils 41 = .ok (.iload 4, 2) := by decide +kernel
theorem dX2_spoils_43 : decode cX2_spoils 43 = .ok (.invokestatic 59, 3) := by decide +kernel
theorem dX2_spoils_46 : decode cX2_spoils 46 = .ok (.ifCond .eq 27, 3) := by decide +kernel
theorem dX2_spoils_49 : decode cX2_spoils 49 = .ok (.aload_n 0, 1) := by decide +kernel
theorem dX2_spoils_50 : decode cX2_spoils 50 = .ok (.getfield 21, 3) := by decide +kernel
theorem dX2_spoils_53 : decode cX2_spoils 53 = .ok (.iload 4, 2) := by decide +kernel
theorem dX2_spoils_55 : decode cX2_spoils 55 = .ok (.iaload, 1) := by decide +kernel
theorem dX2_spoils_56 : decode cX2_spoils 56 = .ok (.iconst 1, 1) := by decide +kernel
theorem dX2_spoils_57 : decode cX2_spoils 57 = .ok (.if_icmp .ne 16, 3) := by decide +kernel
theorem dX2_spoils_60 : decode cX2_spoils 60 = .ok (.aload_n 0, 1) := by decide +kernel
theorem dX2_spoils_61 : decode cX2_spoils 61 = .ok (.getfield 28, 3) := by decide +kernel
theorem dX2_spoils_64 : decode cX2_spoils 64 = .ok (.iload 4, 2) := by decide +kernel
theorem dX2_spoils_66 : decode cX2_spoils 66 = .ok (.iaload, 1) := by decide +kernel
theorem dX2_spoils_67 : decode cX2_spoils 67 = .ok (.iload_n 2, 1) := by decide +kernel
theorem dX2_spoils_68 : decode cX2_spoils 68 = .ok (.if_icmp .ge 5, 3) := by decide +kernel
theorem dX2_spoils_71 : decode cX2_spoils 71 = .ok (.iconst 1, 1) := by decide +kernel
theorem dX2_spoils_72 : decode cX2_spoils 72 = .ok (.ireturn, 1) := by decide +kernel
theorem dX2_spoils_73 : decode cX2_spoils 73 = .ok (.iinc 4 1, 3) := by decide +kernel
theorem dX2_spoils_76 : decode cX2_spoils 76 = .ok (.goto (-45), 3) := by decide +kernel
theorem dX2_spoils_79 : decode cX2_spoils 79 = .ok (.iconst 0, 1) := by decide +kernel
theorem dX2_spoils_80 : decode cX2_spoils 80 = .ok (.ireturn, 1) := by decide +kernel
