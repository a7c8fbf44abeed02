theorem dX6_commit_7 : decode cX6_commit 7 = .ok (.ifCond .ge 5, 3) := by decide +kernel
theorem dX6_commit_10 : decode cX6_commit 10 = .ok (.iload_n 2, 1) := by decide +kernel
theorem dX6_commit_11 : decode cX6_commit 11 = .ok (.ireturn, 1) := by decide +kernel
theorem dX6_commit_12 : decode cX6_commit 12 = .ok (.aload_n 0, 1) := by decide +kernel
theorem dX6_commit_13 : decode cX6_commit 13 = .ok (.invokevirtual 48, 3) := by decide +kernel
theorem dX6_commit_16 : decode cX6_commit 16 = .ok (.aload_n 0, 1) := by decide +kernel
theorem dX6_commit_17 : decode cX6_commit 17 = .ok (.iload_n 1, 1) := by decide +kernel
theorem dX6_commit_18 : decode cX6_commit 18 = .ok (.invokevirtual 137, 3) := by decide +kernel
theorem dX6_commit_21 : decode cX6_commit 21 = .ok (.ireturn, 1) := by decide +kernel
set_option maxRecDepth 20000 in
theorem ggX6_abort_X6_whyNotEnd : GoodIn wsX6_abort wsX6_whyNotEnd := goodIn_r _ [5, 6, 7, 8, 4, 9, 10, 11, 12, 13, 14, 15, 16, 17, 18, 40, 41, 42, 43, 44, 45, 46, 47, 48, 49, 50, 51, 52, 53, 54, 55] (by decide +kernel) (by decide +kernel)
set_option maxRecDepth 20000 in
theorem gX6_abort_X6_whyNotEnd : GoodIn wsX6_abort (wsV RX6 134 RX6 yX6_whyNotEnd wsX6_whyNotEnd) := goodIn_app (goodIn_of _ (by decide +kernel)) ggX6_abort_X6_whyNotEnd
set_option maxRecDepth 20000 in
theorem ggX6_abort_X6_record : GoodIn wsX6_abort wsX6_record := goodIn_r _ [22, 23, 24, 10, 40, 41, 42, 43, 44, 45, 46, 47, 48, 49, 50, 51, 52, 53, 54, 55] (by decide +kernel) (by decide +kernel)
set_option maxRecDepth 20000 in
theorem gX6_abort_X6_record : GoodIn wsX6_abort (wsV RX6 48 RX6 yX6_record wsX6_record) := goodIn_app (goodIn_of _ (by decide +kernel)) ggX6_abort_X6_record
set_option maxRecDepth 20000 in
theorem ggX6_abort_X6_abortOne : GoodIn wsX6_abort wsX6_abortOne := goodIn_r _ [28, 29, 30, 31, 4, 32, 10, 40, 41, 42, 43, 44, 45, 46, 47, 48, 49, 50, 51, 52, 53, 54, 55] (by decide +kernel) (by decide +kernel)
set_option maxRecDepth 20000 in
theorem gX6_abort_X6_abortOne : GoodIn wsX6_abort (wsV RX6 130 RX6 yX6_abortOne wsX6_abortOne) := goodIn_app (goodIn_of _ (by decide +kernel)) ggX6_abort_X6_abortOne
set_option maxRecDepth 20000 in
theorem ggX6_abort_X6_setOf : GoodIn wsX6_abort wsX6_setOf := goodIn_r _ [36, 10, 11, 12, 13, 4, 14, 15, 16, 17, 18, 40, 41, 42, 43, 44, 45, 46, 47, 48, 49, 50, 51, 52, 53, 54, 55] (by decide +kernel) (by decide +kernel)
set_option maxRecDepth 20000 in
theorem gX6_abort_X6_setOf : GoodIn wsX6_abort (wsV RX6 93 RX6 yX6_setOf wsX6_setOf) := goodIn_app (goodIn_of _ (by decide +kernel)) ggX6_abort_X6_setOf
set_option maxRecDepth 20000 in
theorem ggX6_abort_X6_bits : GoodIn wsX6_abort wsX6_bits := goodIn_r _ [39] (by decide +kernel) (by decide +kernel)
set_option maxRecDepth 20000 in
theorem gX6_abort_X6_bits : GoodIn wsX6_abort (va_wsS RX6 140 yX6_bits wsX6_bits) := goodIn_app (goodIn_of _ (by decide +kernel)) ggX6_abort_X6_bits
theorem dX6_abort_0 : decode cX6_abort 0 = .ok (.aload_n 0, 1) := by decide +kernel
theorem dX6_abort_1 : decode cX6_abort 1 = .ok (.iload_n 1, 1) := by decide +kernel
theorem dX6_abort_2 : decode cX6_abort 2 = .ok (.invokevirtual 134, 3) := by decide +kernel
theorem dX6_abort_5 : decode cX6_abort 5 = .ok (.istore_n 2, 1) := by decide +kernel
theorem dX6_abort_6 : decode cX6_abort 6 = .ok (.iload_n 2, 1) := by decide +kernel
theorem dX6_abort_7 : decode cX6_abort 7 = .ok (.ifCond .ge 5, 3) := by decide +kernel
theorem dX6_abort_10 : decode cX6_abort 10 = .ok (.iload_n 2, 1) := by decide +kernel
theorem dX6_abort_11 : decode cX6_abort 11 = .ok (.ireturn, 1) := by decide +kernel
theorem dX6_abort_12 : decode cX6_abort 12 = .ok (.aload_n 0, 1) := by decide +kernel
theorem dX6_abort_13 : decode cX6_abort 13 = .ok (.invokevirtual 48, 3) := by decide +kernel
theorem dX6_abort_16 : decode cX6_abort 16 = .ok (.aload_n 0, 1) := by decide +kernel
theorem dX6_abort_17 : decode cX6_abort 17 = .ok (.iload_n 1, 1) := by decide +kernel
theorem dX6_abort_18 : decode cX6_abort 18 = .ok (.iconst 0, 1) := by decide +kernel
theorem dX6_abort_19 : decode cX6_abort 19 = .ok (.invokevirtual 130, 3) := by decide +kernel
theorem dX6_abort_22 : decode cX6_abort 22 = .ok (.aload_n 0, 1) := by decide +kernel
theorem dX6_abort_23 : decode cX6_abort 23 = .ok (.iconst 0, 1) := by decide +kernel
theorem dX6_abort_24 : decode cX6_abort 24 = .ok (.invokevirtual 93, 3) := by decide +kernel
theorem dX6_abort_27 : decode cX6_abort 27 = .ok (.invokestatic 140, 3) := by decide +kernel
theorem dX6_abort_30 : decode cX6_abort 30 = .ok (.ireturn, 1) := by decide +kernel
set_option maxRecDepth 20000 in
theorem ggX6_value_X6_isKey : GoodIn wsX6_value wsX6_isKey := goodIn_r _ [5, 6, 7, 4, 8] (by decide +kernel) (by decide +kernel)
set_option maxRecDepth 20000 in
theorem gX6_value_X6_isKey : GoodIn wsX6_value (va_wsS RX6 105 yX6_isKey wsX6_isKey) := goodIn_app (goodIn_of _ (by decide +kernel)) ggX6_value_X6_isKey
set_option maxRecDepth 20000 in
theorem ggX6_value_X6_writerAhead : GoodIn wsX6_value wsX6_writerAhead := goodIn_r _ [12, 1, 13, 14, 15, 4, 16, 17, 18, 19, 20, 21, 22, 23, 24, 25, 26, 27, 28, 29, 30, 31, 32, 33, 34, 35, 36, 37, 38, 39, 40] (by decide +kernel) (by decide +kernel)
set_option maxRecDepth 20000 in
theorem gX6_value_X6_writerAhead : GoodIn wsX6_value (wsV RX6 108 RX6 yX6_writerAhead wsX6_writerAhead) := goodIn_app (goodIn_of _ (by decide +kernel)) ggX6_value_X6_writerAhead
set_option maxRecDepth 20000 in
theorem ggX6_value_X6_its : GoodIn wsX6_value wsX6_its := goodIn_r _ [20, 1, 25, 26, 27, 28, 29, 30, 31, 32, 33, 34, 35, 36, 37, 38, 39, 40] (by decide +kernel) (by decide +kernel)
set_option maxRecDepth 20000 in
theorem gX6_value_X6_its : GoodIn wsX6_value (wsV RX6 40 RX6 yX6_its wsX6_its) := goodIn_app (goodIn_of _ (by decide +kernel)) ggX6_value_X6_its
theorem dX6_value_0 : decode cX6_value 0 = .ok (.iload_n 1, 1) := by decide +kernel
theorem dX6_value_1 : decode cX6_value 1 = .ok (.invokestatic 105, 3) := by decide +kernel
theorem dX6_value_4 : decode cX6_value 4 = .ok (.ifCond .ne 5, 3) := by decide +kernel
theorem dX6_value_7 : decode cX6_value 7 = .ok (.iconst (-1), 1) := by decide +kernel
theorem dX6_value_8 : decode cX6_value 8 = .ok (.ireturn, 1) := by decide +kernel
theorem dX6_value_9 : decode cX6_value 9 = .ok (.aload_n 0, 1) := by decide +kernel
theorem dX6_value_10 : decode cX6_value 10 = .ok (.iload_n 1, 1) := by decide +kernel
theorem dX6_value_11 : decode cX6_value 11 = .ok (.aload_n 0, 1) := by decide +kernel
theorem dX6_value_12 : decode cX6_value 12 = .ok (.getfield 7, 3) := by decide +kernel
theorem dX6_value_15 : decode cX6_value 15 = .ok (.iconst 1, 1) := by decide +kernel
theorem dX6_value_16 : decode cX6_value 16 = .ok (.iaload, 1) := by decide +kernel
theorem dX6_value_17 : decode cX6_value 17 = .ok (.iconst 1, 1) := by decide +kernel
theorem dX6_value_18 : decode cX6_value 18 = .ok (.iadd, 1) := by decide +kernel
theorem dX6_value_19 : decode cX6_value 19 = .ok (.invokevirtual 108, 3) := by decide +kernel
theorem dX6_value_22 : decode cX6_value 22 = .ok (.istore_n 2, 1) := by decide +kernel
theorem dX6_value_23 : decode cX6_value 23 = .ok (.iload_n 2, 1) := by decide +kernel
theorem dX6_value_24 : decode cX6_value 24 = .ok (.bipush (-6), 2) := by decide +kernel
theorem dX6_value_26 : decode cX6_value 26 = .ok (.if_icmp .ne 7, 3) := by decide +kernel
theorem dX6_value_29 : decode cX6_value 29 = .ok (.iconst 0, 1) := by decide +kernel
theorem dX6_value_30 : decode cX6_value 30 = .ok (.goto 12, 3) := by decide +kernel
theorem dX6_value_33 : decode cX6_value 33 = .ok (.aload_n 0, 1) := by decide +kernel
theorem dX6_value_34 : decode cX6_value 34 = .ok (.iload_n 2, 1) := by decide +kernel
theorem dX6_value_35 : decode cX6_value 35 = .ok (.bipush 7, 2) := by decide +kernel
theorem dX6_value_37 : decode cX6_value 37 = .ok (.iload_n 1, 1) := by decide +kernel
theorem dX6_value_38 : decode cX6_value 38 = .ok (.iadd, 1) := by decide +kernel
theorem dX6_value_39 : decode cX6_value 39 = .ok (.invokevirtual 40, 3) := by decide +kernel
theorem dX6_value_42 : decode cX6_value 42 = .ok (.ireturn, 1) := by decide +kernel
set_option maxRecDepth 20000 in
theorem ggX6_edgesFrom_X6_isEdge : GoodIn wsX6_edgesFrom wsX6_isEdge := goodIn_r _ [6, 7, 8, 9, 5, 10, 1, 11, 12, 13, 14, 15, 16, 17, 18, 19, 20, 21, 22, 23, 24, 25, 26, 27, 28, 29, 30, 31, 32, 33, 34, 35, 36, 37, 38] (by decide +kernel) (by decide +kernel)
set_option maxRecDepth 20000 in
theorem gX6_edgesFrom_X6_isEdge : GoodIn wsX6_edgesFrom (wsV RX6 64 RX6 yX6_isEdge wsX6_isEdge) := goodIn_app (goodIn_of _ (by decide +kernel)) ggX6_edgesFrom_X6_isEdge
theorem dX6_edgesFrom_0 : decode cX6_edgesFrom 0 = .ok (.iconst 0, 1) := by decide +kernel
theorem dX6_edgesFrom_1 : decode cX6_edgesFrom 1 = .ok (.istore_n 2, 1) := by decide +kernel
theorem dX6_edgesFrom_2 : decode cX6_edgesFrom 2 = .ok (.iconst 0, 1) := by decide +kernel
theorem dX6_edgesFrom_3 : decode cX6_edgesFrom 3 = .ok (.istore_n 3, 1) := by decide +kernel
theorem dX6_edgesFrom_4 : decode cX6_edgesFrom 4 = .ok (.iload_n 3, 1) := by decide +kernel
theorem dX6_edgesFrom_5 : decode cX6_edgesFrom 5 = .ok (.aload_n 0, 1) := by decide +kernel
theorem dX6_edgesFrom_6 : decode cX6_edgesFrom 6 = .ok (.getfield 7, 3) := by decide +kernel
theorem dX6_edgesFrom_9 : decode cX6_edgesFrom 9 = .ok (.iconst 2, 1) := by decide +kernel
theorem dX6_edgesFrom_10 : decode cX6_edgesFrom 10 = .ok (.iaload, 1) := by decide +kernel
theorem dX6_edgesFrom_11 : decode cX6_edgesFrom 11 = .ok (.if_icmp .ge 28, 3) := by decide +kernel
theorem dX6_edgesFrom_14 : decode cX6_edgesFrom 14 = .ok (.iload_n 2, 1) := by decide +kernel
theorem dX6_edgesFrom_15 : decode cX6_edgesFrom 15 = .ok (.aload_n 0, 1) := by decide +kernel
theorem dX6_edgesFrom_16 : decode cX6_edgesFrom 16 = .ok (.iload_n 1, 1) := by decide +kernel
theorem dX6_edgesFrom_17 : decode cX6_edgesFrom 17 = .ok (.iload_n 3, 1) := by decide +kernel
theorem dX6_edgesFrom_18 : decode cX6_edgesFrom 18 = .ok (.invokevirtual 64, 3) := by decide +kernel
theorem dX6_edgesFrom_21 : decode cX6_edgesFrom 21 = .ok (.ifCond .eq 9, 3) := by decide +kernel
theorem dX6_edgesFrom_24 : decode cX6_edgesFrom 24 = .ok (.iconst 1, 1) := by decide +kernel
theorem dX6_edgesFrom_25 : decode cX6_edgesFrom 25 = .ok (.iload_n 3, 1) := by decide +kernel
theorem dX6_edgesFrom_26 : decode cX6_edgesFrom 26 = .ok (.ishl, 1) := by decide +kernel
theorem dX6_edgesFrom_27 : decode cX6_edgesFrom 27 = .ok (.goto 4, 3) := by decide +kernel
theorem dX6_edgesFrom_30 : decode cX6_edgesFrom 30 = .ok (.iconst 0, 1) := by decide +kernel
theorem dX6_edgesFrom_31 : decode cX6_edgesFrom 31 = .ok (.ior, 1) := by decide +kernel
theorem dX6_edgesFrom_32 : decode cX6_edgesFrom 32 = .ok (.istore_n 2, 1) := by decide +kernel
theorem dX6_edgesFrom_33 : decode cX6_edgesFrom 33 = .ok (.iinc 3 1, 3) := by decide +kernel
theorem dX6_edgesFrom_36 : decode cX6_edgesFrom 36 = .ok (.goto (-32), 3) := by decide +kernel
theorem dX6_edgesFrom_39 : decode cX6_edgesFrom 39 = .ok (.iload_n 2, 1) := by decide +kernel
theorem dX6_edgesFrom_40 : decode cX6_edgesFrom 40 = .ok (.ireturn, 1) := by decide +kernel
set_option maxRecDepth 20000 in
theorem ggX6_edgesTo_X6_isEdge : GoodIn wsX6_edgesTo wsX6_isEdge := goodIn_r _ [6, 7, 8, 9, 5, 10, 1, 11, 12, 13, 14, 15, 16, 17, 18, 19, 20, 21, 22, 23, 24, 25, 26, 27, 28, 29, 30, 31, 32, 33, 34, 35, 36, 37, 38] (by decide +kernel) (by decide +kernel)
set_option maxRecDepth 20000 in
theorem gX6_edgesTo_X6_isEdge : GoodIn wsX6_edgesTo (wsV RX6 64 RX6 yX6_isEdge wsX6_isEdge) := goodIn_app (goodIn_of _ (by decide +kernel)) ggX6_edgesTo_X6_isEdge
theorem dX6_edgesTo_0 : decode cX6_edgesTo 0 = .ok (.iconst 0, 1) := by decide +kernel
theorem dX6_edgesTo_1 : decode cX6_edgesTo 1 = .ok (.istore_n 2, 1) := by decide +kernel
theorem dX6_edgesTo_2 : decode cX6_edgesTo 2 = .ok (.iconst 0, 1) := by decide +kernel
theorem dX6_edgesTo_3 : decode cX6_edgesTo 3 = .ok (.istore_n 3, 1) := by decide +kernel
theorem dX6_edgesTo_4 : decode cX6_edgesTo 4 = .ok (.iload_n 3, 1) := by decide +kernel
theorem dX6_edgesTo_5 : decode cX6_edgesTo 5 = .ok (.aload_n 0, 1) := by decide +kernel
theorem dX6_edgesTo_6 : decode cX6_edgesTo 6 = .ok (.getfield 7, 3) := by decide +kernel
theorem dX6_edgesTo_9 : decode cX6_edgesTo 9 = .ok (.iconst 2, 1) := by decide +kernel
theorem dX6_edgesTo_10 : decode cX6_edgesTo 10 = .ok (.iaload, 1) := by decide +kernel
theorem dX6_edgesTo_11 : decode cX6_edgesTo 11 = .ok (.if_icmp .ge 28, 3) := by decide +kernel
theorem dX6_edgesTo_14 : decode cX6_edgesTo 14 = .ok (.iload_n 2, 1) := by decide +kernel
theorem dX6_edgesTo_15 : decode cX6_edgesTo 15 = .ok (.aload_n 0, 1) := by decide +kernel
theorem dX6_edgesTo_16 : decode cX6_edgesTo 16 = .ok (.iload_n 3, 1) := by decide +kernel
theorem dX6_edgesTo_17 : decode cX6_edgesTo 17 = .ok (.iload_n 1, 1) := by decide +kernel
theorem dX6_edgesTo_18 : decode cX6_edgesTo 18 = .ok (.invokevirtual 64, 3) := by decide +kernel
theorem dX6_edgesTo_21 : decode cX6_edgesTo 21 = .ok (.ifCond .eq 9, 3) := by decide +kernel
theorem dX6_edgesTo_24 : decode cX6_edgesTo 24 = .ok (.iconst 1, 1) := by decide +kernel
theorem dX6_edgesTo_25 : decode cX6_edgesTo 25 = .ok (.iload_n 3, 1) := by decide +kernel
theorem dX6_edgesTo_26 : decode cX6_edgesTo 26 = .ok (.ishl, 1) := by decide +kernel
theorem dX6_edgesTo_27 : decode cX6_edgesTo 27 = .ok (.goto 4, 3) := by decide +kernel
theorem dX6_edgesTo_30 : decode cX6_edgesTo 30 = .ok (.iconst 0, 1) := by decide +kernel
theorem dX6_edgesTo_31 : decode cX6_edgesTo 31 = .ok (.ior, 1) := by decide +kernel
theorem dX6_edgesTo_32 : decode cX6_edgesTo 32 = .ok (.istore_n 2, 1) := by decide +kernel
theorem dX6_edgesTo_33 : decode cX6_edgesTo 33 = .ok (.iinc 3 1, 3) := by decide +kernel
theorem dX6_edgesTo_36 : decode cX6_edgesTo 36 = .ok (.goto (-32), 3) := by decide +kernel
theorem dX6_edgesTo_39 : decode cX6_edgesTo 39 = .ok (.iload_n 2, 1) := by decide +kernel
theorem dX6_edgesTo_40 : decode cX6_edgesTo 40 = .ok (.ireturn, 1) := by decide +kernel
set_option maxRecDepth 20000 in
theorem ggX6_endangers_X6_isIn : GoodIn wsX6_endangers wsX6_isIn := goodIn_r _ [6, 7, 8, 9, 5, 10, 1, 23, 24, 25, 26, 27, 28, 29, 30, 31, 32, 33, 34, 35, 36, 37, 38] (by decide +kernel) (by decide +kernel)
set_option maxRecDepth 20000 in
theorem gX6_endangers_X6_isIn : GoodIn wsX6_endangers (wsV RX6 51 RX6 yX6_isIn wsX6_isIn) := goodIn_app (goodIn_of _ (by decide +kernel)) ggX6_endangers_X6_isIn
set_option maxRecDepth 20000 in
theorem ggX6_endangers_X6_isEdge : GoodIn wsX6_endangers wsX6_isEdge := goodIn_r _ [14, 7, 8, 9, 5, 10, 1, 15, 16, 17, 18, 2, 3, 4, 6, 19, 20, 21, 22, 23, 24, 25, 26, 27, 28, 29, 30, 31, 32, 33, 34, 35, 36, 37, 38] (by decide +kernel) (by decide +kernel)
set_option maxRecDepth 20000 in
theorem gX6_endangers_X6_isEdge : GoodIn wsX6_endangers (wsV RX6 64 RX6 yX6_isEdge wsX6_isEdge) := goodIn_app (goodIn_of _ (by decide +kernel)) ggX6_endangers_X6_isEdge
set_option maxRecDepth 20000 in
theorem ggX6_endangers_X6_isCommittedAhead : GoodIn wsX6_endangers wsX6_isCommittedAhead := goodIn_r _ [22, 2, 3, 4, 5, 6, 7, 8, 9, 10, 1, 23, 24, 25, 26, 27, 28, 29, 30, 31, 32, 33, 34, 35, 36, 37, 38] (by decide +kernel) (by decide +kernel)
set_option maxRecDepth 20000 in
theorem gX6_endangers_X6_isCommittedAhead : GoodIn wsX6_endangers (wsV RX6 58 RX6 yX6_isCommittedAhead wsX6_isCommittedAhead) := goodIn_app (goodIn_of _ (by decide +kernel)) ggX6_endangers_X6_isCommittedAhead
theorem dX6_endangers_0 : decode cX6_endangers 0 = .ok (.iconst 0, 1) := by decide +kernel
theorem dX6_endangers_1 : decode cX6_endangers 1 = .ok (.istore_n 3, 1) := by decide +kernel
theorem dX6_endangers_2 : decode cX6_endangers 2 = .ok (.iconst 0, 1) := by decide +kernel
theorem dX6_endangers_3 : decode cX6_endangers 3 = .ok (.istore 4, 2) := by decide +kernel
theorem dX6_endangers_5 : decode cX6_endangers 5 = .ok (.iload 4, 2) := by decide +kernel
theorem dX6_endangers_7 : decode cX6_endangers 7 = .ok (.aload_n 0, 1) := by decide +kernel
theorem dX6_endangers_8 : decode cX6_endangers 8 = .ok (.getfield 7, 3) := by decide +kernel
theorem dX6_endangers_11 : decode cX6_endangers 11 = .ok (.iconst 2, 1) := by decide +kernel
theorem dX6_endangers_12 : decode cX6_endangers 12 = .ok (.iaload, 1) := by decide +kernel
theorem dX6_endangers_13 : decode cX6_endangers 13 = .ok (.if_icmp .ge 48, 3) := by decide +kernel
theorem dX6_endangers_16 : decode cX6_endangers 16 = .ok (.iload_n 3, 1) := by decide +kernel
theorem dX6_endangers_17 : decode cX6_endangers 17 = .ok (.ifCond .ne 32, 3) := by decide +kernel
theorem dX6_endangers_20 : decode cX6_endangers 20 = .ok (.aload_n 0, 1) := by decide +kernel
theorem dX6_endangers_21 : decode cX6_endangers 21 = .ok (.iload_n 1, 1) := by decide +kernel
theorem dX6_endangers_22 : decode cX6_endangers 22 = .ok (.iconst 1, 1) := by decide +kernel
theorem dX6_endangers_23 : decode cX6_endangers 23 = .ok (.invokevirtual 51, 3) := by decide +kernel
theorem dX6_endangers_26 : decode cX6_endangers 26 = .ok (.ifCond .eq 27, 3) := by decide +kernel
theorem dX6_endangers_29 : decode cX6_endangers 29 = .ok (.aload_n 0, 1) := by decide +kernel
theorem dX6_endangers_30 : decode cX6_endangers 30 = .ok (.iload_n 1, 1) := by decide +kernel
theorem dX6_endangers_31 : decode cX6_endangers 31 = .ok (.iload 4, 2) := by decide +kernel
theorem dX6_endangers_33 : decode cX6_endangers 33 = .ok (.invokevirtual 64, 3) := by decide +kernel
theorem dX6_endangers_36 : decode cX6_endangers 36 = .ok (.ifCond .eq 17, 3) := by decide +kernel
theorem dX6_endangers_39 : decode cX6_endangers 39 = .ok (.aload_n 0, 1) := by decide +kernel
theorem dX6_endangers_40 : decode cX6_endangers 40 = .ok (.iload 4, 2) := by decide +kernel
theorem dX6_endangers_42 : decode cX6_endangers 42 = .ok (.iload_n 2, 1) := by decide +kernel
theorem dX6_endangers_43 : decode cX6_endangers 43 = .ok (.invokevirtual 58, 3) := by decide +kernel
theorem dX6_endangers_46 : decode cX6_endangers 46 = .ok (.ifCond .eq 7, 3) := by decide +kernel
theorem dX6_endangers_49 : decode cX6_endangers 49 = .ok (.iconst 1, 1) := by decide +kernel
theorem dX6_endangers_50 : decode cX6_endangers 50 = .ok (.goto 4, 3) := by decide +kernel
theorem dX6_endangers_53 : decode cX6_endangers 53 = .ok (.iconst 0, 1) := by decide +kernel
theorem dX6_endangers_54 : decode cX6_endangers 54 = .ok (.istore_n 3, 1) := by decide +kernel
theorem dX6_endangers_55 : decode cX6_endangers 55 = .ok (.iinc 4 1, 3) := by decide +kernel
theorem dX6_endangers_58 : decode cX6_endangers 58 = .ok (.goto (-53), 3) := by decide +kernel
theorem dX6_endangers_61 : decode cX6_endangers 61 = .ok (.iload_n 3, 1) := by decide +kernel
theorem dX6_endangers_62 : decode cX6_endangers 62 = .ok (.ireturn, 1) := by decide +kernel
set_option maxRecDepth 20000 in
theorem ggX6_safety_X6_isIn : GoodIn wsX6_safety wsX6_isIn := goodIn_r _ [6, 7, 8, 9, 5, 10, 1, 27, 28, 29, 30, 31, 32, 33, 34, 35, 36, 37, 38, 39, 40, 41, 42] (by decide +kernel) (by decide +kernel)
set_option maxRecDepth 20000 in
theorem gX6_safety_X6_isIn : GoodIn wsX6_safety (wsV RX6 51 RX6 yX6_isIn wsX6_isIn) := goodIn_app (goodIn_of _ (by decide +kernel)) ggX6_safety_X6_isIn
set_option maxRecDepth 20000 in
theorem ggX6_safety_X6_its : GoodIn wsX6_safety wsX6_its := goodIn_r _ [10, 1, 27, 28, 29, 30, 31, 32, 33, 34, 35, 36, 37, 38, 39, 40, 41, 42] (by decide +kernel) (by decide +kernel)
set_option maxRecDepth 20000 in
theorem gX6_safety_X6_its : GoodIn wsX6_safety (wsV RX6 40 RX6 yX6_its wsX6_its) := goodIn_app (goodIn_of _ (by decide +kernel)) ggX6_safety_X6_its
set_option maxRecDepth 20000 in
theorem ggX6_safety_X6_endangers : GoodIn wsX6_safety wsX6_endangers := goodIn_r _ [14, 1, 2, 3, 4, 5, 6, 7, 8, 9, 10, 15, 16, 17, 18, 19, 20, 21, 22, 23, 24, 25, 26, 27, 28, 29, 30, 31, 32, 33, 34, 35, 36, 37, 38, 39, 40, 41, 42] (by decide +kernel) (by decide +kernel)
set_option maxRecDepth 20000 in
theorem gX6_safety_X6_endangers : GoodIn wsX6_safety (wsV RX6 143 RX6 yX6_endangers wsX6_endangers) := goodIn_app (goodIn_of _ (by decide +kernel)) ggX6_safety_X6_endangers
theorem dX6_safety_0 : decode cX6_safety 0 = .ok (.aload_n 0, 1) := by decide +kernel
theorem dX6_safety_1 : decode cX6_safety 1 = .ok (.iload_n 1, 1) := by decide +kernel
theorem dX6_safety_2 : decode cX6_safety 2 = .ok (.iconst 2, 1) := by decide +kernel
theorem dX6_safety_3 : decode cX6_safety 3 = .ok (.invokevirtual 51, 3) := by decide +kernel
theorem dX6_safety_6 : decode cX6_safety 6 = .ok (.ifCond .ne 12, 3) := by decide +kernel
theorem dX6_safety_9 : decode cX6_safety 9 = .ok (.aload_n 0, 1) := by decide +kernel
theorem dX6_safety_10 : decode cX6_safety 10 = .ok (.iload_n 1, 1) := by decide +kernel
theorem dX6_safety_11 : decode cX6_safety 11 = .ok (.iconst 4, 1) := by decide +kernel
theorem dX6_safety_12 : decode cX6_safety 12 = .ok (.invokevirtual 40, 3) := by decide +kernel
theorem dX6_safety_15 : decode cX6_safety 15 = .ok (.ifCond .eq 6, 3) := by decide +kernel
theorem dX6_safety_18 : decode cX6_safety 18 = .ok (.bipush (-6), 2) := by decide +kernel
theorem dX6_safety_20 : decode cX6_safety 20 = .ok (.ireturn, 1) := by decide +kernel
theorem dX6_safety_21 : decode cX6_safety 21 = .ok (.iconst 1, 1) := by decide +kernel
theorem dX6_safety_22 : decode cX6_safety 22 = .ok (.istore_n 2, 1) := by decide +kernel
theorem dX6_safety_23 : decode cX6_safety 23 = .ok (.iconst 0, 1) := by decide +kernel
theorem dX6_safety_24 : decode cX6_safety 24 = .ok (.istore_n 3, 1) := by decide +kernel
theorem dX6_safety_25 : decode cX6_safety 25 = .ok (.iload_n 3, 1) := by decide +kernel
theorem dX6_safety_26 : decode cX6_safety 26 = .ok (.aload_n 0, 1) := by decide +kernel
theorem dX6_safety_27 : decode cX6_safety 27 = .ok (.getfield 7, 3) := by decide +kernel
theorem dX6_safety_30 : decode cX6_safety 30 = .ok (.iconst 2, 1) := by decide +kernel
theorem dX6_safety_31 : decode cX6_safety 31 = .ok (.iaload, 1) := by decide +kernel
theorem dX6_safety_32 : decode cX6_safety 32 = .ok (.if_icmp .ge 59, 3) := by decide +kernel
theorem dX6_safety_35 : decode cX6_safety 35 = .ok (.aload_n 0, 1) := by decide +kernel
theorem dX6_safety_36 : decode cX6_safety 36 = .ok (.iload_n 1, 1) := by decide +kernel
theorem dX6_safety_37 : decode cX6_safety 37 = .ok (.bipush 6, 2) := by decide +kernel
theorem dX6_safety_39 : decode cX6_safety 39 = .ok (.invokevirtual 40, 3) := by decide +kernel
theorem dX6_safety_42 : decode cX6_safety 42 = .ok (.iload_n 3, 1) := by decide +kernel
theorem dX6_safety_43 : decode cX6_safety 43 = .ok (.ishr, 1) := by decide +kernel
theorem dX6_safety_44 : decode cX6_safety 44 = .ok (.iconst 1, 1) := by decide +kernel
theorem dX6_safety_45 : decode cX6_safety 45 = .ok (.iand, 1) := by decide +kernel
theorem dX6_safety_46 : decode cX6_safety 46 = .ok (.iconst 1, 1) := by decide +kernel
theorem dX6_safety_47 : decode cX6_safety 47 = .ok (.if_icmp .ne 38, 3) := by decide +kernel
theorem dX6_safety_50 : decode cX6_safety 50 = .ok (.aload_n 0, 1) := by decide +kernel
theorem dX6_safety_51 : decode cX6_safety 51 = .ok (.iload_n 3, 1) := by decide +kernel
theorem dX6_safety_52 : decode cX6_safety 52 = .ok (.aload_n 0, 1) := by decide +kernel
theorem dX6_safety_53 : decode cX6_safety 53 = .ok (.iload_n 1, 1) := by decide +kernel
theorem dX6_safety_54 : decode cX6_safety 54 = .ok (.iconst 1, 1) := by decide +kernel
theorem dX6_safety_55 : decode cX6_safety 55 = .ok (.invokevirtual 40, 3) := by decide +kernel
theorem dX6_safety_58 : decode cX6_safety 58 = .ok (.invokevirtual 143, 3) := by decide +kernel
theorem dX6_safety_61 : decode cX6_safety 61 = .ok (.ifCond .eq 5, 3) := by decide +kernel
theorem dX6_safety_64 : decode cX6_safety 64 = .ok (.iconst 0, 1) := by decide +kernel
theorem dX6_safety_65 : decode cX6_safety 65 = .ok (.ireturn, 1) := by decide +kernel
theorem dX6_safety_66 : decode cX6_safety 66 = .ok (.iload_n 2, 1) := by decide +kernel
theorem dX6_safety_67 : decode cX6_safety 67 = .ok (.ifCond .eq 16, 3) := by decide +kernel
theorem dX6_safety_70 : decode cX6_safety 70 = .ok (.aload_n 0, 1) := by decide +kernel
theorem dX6_safety_71 : decode cX6_safety 71 = .ok (.iload_n 3, 1) := by decide +kernel
theorem dX6_safety_72 : decode cX6_safety 72 = .ok (.iconst 0, 1) := by decide +kernel
theorem dX6_safety_73 : decode cX6_safety 73 = .ok (.invokevirtual 51, 3) := by decide +kernel
theorem dX6_safety_76 : decode cX6_safety 76 = .ok (.ifCond .ne 7, 3) := by decide +kernel
theorem dX6_safety_79 : decode cX6_safety 79 = .ok (.iconst 1, 1) := by decide +kernel
theorem dX6_safety_80 : decode cX6_safety 80 = .ok (.goto 4, 3) := by decide +kernel
theorem dX6_safety_83 : decode cX6_safety 83 = .ok (.iconst 0, 1) := by decide +kernel
theorem dX6_safety_84 : decode cX6_safety 84 = .ok (.istore_n 2, 1) := by decide +kernel
theorem dX6_safety_85 : decode cX6_safety 85 = .ok (.iinc 3 1, 3) := by decide +kernel
theorem dX6_safety_88 : decode cX6_safety 88 = .ok (.goto (-63), 3) := by decide +kernel
theorem dX6_safety_91 : decode cX6_safety 91 = .ok (.iload_n 2, 1) := by decide +kernel
theorem dX6_safety_92 : decode cX6_safety 92 = .ok (.ifCond .eq 7, 3) := by decide +kernel
theorem dX6_safety_95 : decode cX6_safety 95 = .ok (.iconst 1, 1) := by decide +kernel
theorem dX6_safety_96 : decode cX6_safety 96 = .ok (.goto 4, 3) := by decide +kernel
theorem dX6_safety_99 : decode cX6_safety 99 = .ok (.iconst 2, 1) := by decide +kernel
theorem dX6_safety_100 : decode cX6_safety 100 = .ok (.ireturn, 1) := by decide +kernel
set_option maxRecDepth 20000 in
theorem ggX6_of_X6_isTransaction : GoodIn wsX6_of wsX6_isTransaction := goodIn_r _ [5, 6, 43, 44, 45, 46, 47, 48, 49, 50, 51, 52, 53, 54, 55, 56, 57, 58] (by decide +kernel) (by decide +kernel)
set_option maxRecDepth 20000 in
theorem gX6_of_X6_isTransaction : GoodIn wsX6_of (wsV RX6 101 RX6 yX6_isTransaction wsX6_isTransaction) := goodIn_app (goodIn_of _ (by decide +kernel)) ggX6_of_X6_isTransaction
set_option maxRecDepth 20000 in
theorem ggX6_of_X6_its : GoodIn wsX6_of wsX6_its := goodIn_r _ [10, 6, 43, 44, 45, 46, 47, 48, 49, 50, 51, 52, 53, 54, 55, 56, 57, 58] (by decide +kernel) (by decide +kernel)
set_option maxRecDepth 20000 in
theorem gX6_of_X6_its : GoodIn wsX6_of (wsV RX6 40 RX6 yX6_its wsX6_its) := goodIn_app (goodIn_of _ (by decide +kernel)) ggX6_of_X6_its
set_option maxRecDepth 20000 in
theorem ggX6_of_X6_edgesFrom : GoodIn wsX6_of wsX6_edgesFrom := goodIn_r _ [14, 6, 15, 16, 17, 4, 18, 7, 8, 9, 10, 19, 20, 21, 22, 23, 24, 25, 26, 27, 28, 29, 30, 43, 44, 45, 46, 47, 48, 49, 50, 51, 52, 53, 54, 55, 56, 57, 58] (by decide +kernel) (by decide +kernel)
set_option maxRecDepth 20000 in
theorem gX6_of_X6_edgesFrom : GoodIn wsX6_of (wsV RX6 146 RX6 yX6_edgesFrom wsX6_edgesFrom) := goodIn_app (goodIn_of _ (by decide +kernel)) ggX6_of_X6_edgesFrom
set_option maxRecDepth 20000 in
theorem ggX6_of_X6_edgesTo : GoodIn wsX6_of wsX6_edgesTo := goodIn_r _ [34, 6, 15, 16, 17, 4, 18, 7, 8, 9, 10, 19, 20, 21, 22, 23, 24, 25, 26, 27, 28, 29, 30, 43, 44, 45, 46, 47, 48, 49, 50, 51, 52, 53, 54, 55, 56, 57, 58] (by decide +kernel) (by decide +kernel)
set_option maxRecDepth 20000 in
theorem gX6_of_X6_edgesTo : GoodIn wsX6_of (wsV RX6 149 RX6 yX6_edgesTo wsX6_edgesTo) := goodIn_app (goodIn_of _ (by decide +kernel)) ggX6_of_X6_edgesTo
set_option maxRecDepth 20000 in
theorem ggX6_of_X6_safety : GoodIn wsX6_of wsX6_safety := goodIn_r _ [38, 6, 23, 24, 25, 4, 26, 7, 8, 9, 10, 39, 40, 41, 42, 15, 16, 17, 18, 19, 20, 21, 22, 27, 28, 29, 30, 43, 44, 45, 46, 47, 48, 49, 50, 51, 52, 53, 54, 55, 56, 57, 58] (by decide +kernel) (by decide +kernel)
set_option maxRecDepth 20000 in
theorem gX6_of_X6_safety : GoodIn wsX6_of (wsV RX6 152 RX6 yX6_safety wsX6_safety) := goodIn_app (goodIn_of _ (by decide +kernel)) ggX6_of_X6_safety
theorem dX6_of_0 : decode cX6_of 0 = .ok (.aload_n 0, 1) := by decide +kernel
theorem dX6_of_1 : decode cX6_of 1 = .ok (.iload_n 1, 1) := by decide +kernel
theorem dX6_of_2 : decode cX6_of 2 = .ok (.invokevirtual 101, 3) := by decide +kernel
theorem dX6_of_5 : decode cX6_of 5 = .ok (.ifCond .ne 5, 3) := by decide +kernel
theorem dX6_of_8 : decode cX6_of 8 = .ok (.iconst (-1), 1) := by decide +kernel
theorem dX6_of_9 : decode cX6_of 9 = .ok (.ireturn, 1) := by decide +kernel
theorem dX6_of_10 : decode cX6_of 10 = .ok (.iload_n 2, 1) := by decide +kernel
theorem dX6_of_11 : decode cX6_of 11 = .ok (.tableswitch 81 0 8 #[49, 49, 49, 49, 49, 56, 62, 68, 75], 49) := by decide +kernel
theorem dX6_of_60 : decode cX6_of 60 = .ok (.aload_n 0, 1) := by decide +kernel
theorem dX6_of_61 : decode cX6_of 61 = .ok (.iload_n 1, 1) := by decide +kernel
theorem dX6_of_62 : decode cX6_of 62 = .ok (.iload_n 2, 1) := by decide +kernel
theorem dX6_of_63 : decode cX6_of 63 = .ok (.invokevirtual 40, 3) := by decide +kernel
theorem dX6_of_66 : decode cX6_of 66 = .ok (.ireturn, 1) := by decide +kernel
theorem dX6_of_67 : decode cX6_of 67 = .ok (.aload_n 0, 1) := by decide +kernel
theorem dX6_of_68 : decode cX6_of 68 = .ok (.iload_n 1, 1) := by decide +kernel
theorem dX6_of_69 : decode cX6_of 69 = .ok (.invokevirtual 146, 3) := by decide +kernel
theorem dX6_of_72 : decode cX6_of 72 = .ok (.ireturn, 1) := by decide +kernel
theorem dX6_of_73 : decode cX6_of 73 = .ok (.aload_n 0, 1) := by decide +kernel
theorem dX6_of_74 : decode cX6_of 74 = .ok (.iload_n 1, 1) := by decide +kernel
theorem dX6_of_75 : decode cX6_of 75 = .ok (.invokevirtual 149, 3) := by decide +kernel
theorem dX6_of_78 : decode cX6_of 78 = .ok (.ireturn, 1) := by decide +kernel
theorem dX6_of_79 : decode cX6_of 79 = .ok (.aload_n 0, 1) := by decide +kernel
theorem dX6_of_80 : decode cX6_of 80 = .ok (.iload_n 1, 1) := by decide +kernel
theorem dX6_of_81 : decode cX6_of 81 = .ok (.iconst 5, 1) := by decide +kernel
theorem dX6_of_82 : decode cX6_of 82 = .ok (.invokevirtual 40, 3) := by decide +kernel
theorem dX6_of_85 : decode cX6_of 85 = .ok (.ireturn, 1) := by decide +kernel
theorem dX6_of_86 : decode cX6_of 86 = .ok (.aload_n 0, 1) := by decide +kernel
theorem dX6_of_87 : decode cX6_of 87 = .ok (.iload_n 1, 1) := by decide +kernel
theorem dX6_of_88 : decode cX6_of 88 = .ok (.invokevirtual 152, 3) := by decide +kernel
theorem dX6_of_91 : decode cX6_of 91 = .ok (.ireturn, 1) := by decide +kernel
theorem dX6_of_92 : decode cX6_of 92 = .ok (.bipush (-2), 2) := by decide +kernel
theorem dX6_of_94 : decode cX6_of 94 = .ok (.ireturn, 1) := by decide +kernel
set_option maxRecDepth 20000 in
theorem ggX6_edge_X6_isTransaction : GoodIn wsX6_edge wsX6_isTransaction := goodIn_r _ [5, 6, 27, 28, 29, 30, 31, 32, 33, 34, 35, 36, 37, 38, 39, 40, 41, 42] (by decide +kernel) (by decide +kernel)
set_option maxRecDepth 20000 in
theorem gX6_edge_X6_isTransaction : GoodIn wsX6_edge (wsV RX6 101 RX6 yX6_isTransaction wsX6_isTransaction) := goodIn_app (goodIn_of _ (by decide +kernel)) ggX6_edge_X6_isTransaction
set_option maxRecDepth 20000 in
theorem ggX6_edge_X6_isEdge : GoodIn wsX6_edge wsX6_isEdge := goodIn_r _ [10, 11, 12, 13, 4, 14, 6, 15, 16, 17, 18, 19, 20, 21, 22, 23, 24, 25, 26, 27, 28, 29, 30, 31, 32, 33, 34, 35, 36, 37, 38, 39, 40, 41, 42] (by decide +kernel) (by decide +kernel)
set_option maxRecDepth 20000 in
theorem gX6_edge_X6_isEdge : GoodIn wsX6_edge (wsV RX6 64 RX6 yX6_isEdge wsX6_isEdge) := goodIn_app (goodIn_of _ (by decide +kernel)) ggX6_edge_X6_isEdge
theorem dX6_edge_0 : decode cX6_edge 0 = .ok (.aload_n 0, 1) := by decide +kernel
theorem dX6_edge_1 : decode cX6_edge 1 = .ok (.iload_n 1, 1) := by decide +kernel
theorem dX6_edge_2 : decode cX6_edge 2 = .ok (.invokevirtual 101, 3) := by decide +kernel
theorem dX6_edge_5 : decode cX6_edge 5 = .ok (.ifCond .eq 11, 3) := by decide +kernel
theorem dX6_edge_8 : decode cX6_edge 8 = .ok (.aload_n 0, 1) := by decide +kernel
theorem dX6_edge_9 : decode cX6_edge 9 = .ok (.iload_n 2, 1) := by decide +kernel
theorem dX6_edge_10 : decode cX6_edge 10 = .ok (.invokevirtual 101, 3) := by decide +kernel
theorem dX6_edge_13 : decode cX6_edge 13 = .ok (.ifCond .ne 5, 3) := by decide +kernel
theorem dX6_edge_16 : decode cX6_edge 16 = .ok (.iconst (-1), 1) := by decide +kernel
theorem dX6_edge_17 : decode cX6_edge 17 = .ok (.ireturn, 1) := by decide +kernel
theorem dX6_edge_18 : decode cX6_edge 18 = .ok (.aload_n 0, 1) := by decide +kernel
theorem dX6_edge_19 : decode cX6_edge 19 = .ok (.iload_n 1, 1) := by decide +kernel
theorem dX6_edge_20 : decode cX6_edge 20 = .ok (.iload_n 2, 1) := by decide +kernel
theorem dX6_edge_21 : decode cX6_edge 21 = .ok (.invokevirtual 64, 3) := by decide +kernel
theorem dX6_edge_24 : decode cX6_edge 24 = .ok (.ifCond .eq 7, 3) := by decide +kernel
theorem dX6_edge_27 : decode cX6_edge 27 = .ok (.iconst 1, 1) := by decide +kernel
theorem dX6_edge_28 : decode cX6_edge 28 = .ok (.goto 4, 3) := by decide +kernel
theorem dX6_edge_31 : decode cX6_edge 31 = .ok (.iconst 0, 1) := by decide +kernel
theorem dX6_edge_32 : decode cX6_edge 32 = .ok (.ireturn, 1) := by decide +kernel
set_option maxRecDepth 20000 in
theorem ggX6_over_X6_isTransaction : GoodIn wsX6_over wsX6_isTransaction := goodIn_r _ [5, 6, 30, 31, 32, 33, 34, 35, 36, 37, 38, 39, 40, 41, 42, 43, 44, 45] (by decide +kernel) (by decide +kernel)
set_option maxRecDepth 20000 in
theorem gX6_over_X6_isTransaction : GoodIn wsX6_over (wsV RX6 101 RX6 yX6_isTransaction wsX6_isTransaction) := goodIn_app (goodIn_of _ (by decide +kernel)) ggX6_over_X6_isTransaction
set_option maxRecDepth 20000 in
theorem ggX6_over_X6_isEdge : GoodIn wsX6_over wsX6_isEdge := goodIn_r _ [10, 11, 12, 13, 4, 14, 6, 15, 16, 17, 18, 19, 20, 21, 22, 23, 24, 25, 26, 30, 31, 32, 33, 34, 35, 36, 37, 38, 39, 40, 41, 42, 43, 44, 45] (by decide +kernel) (by decide +kernel)
set_option maxRecDepth 20000 in
theorem gX6_over_X6_isEdge : GoodIn wsX6_over (wsV RX6 64 RX6 yX6_isEdge wsX6_isEdge) := goodIn_app (goodIn_of _ (by decide +kernel)) ggX6_over_X6_isEdge
set_option maxRecDepth 20000 in
theorem ggX6_over_X6_its : GoodIn wsX6_over wsX6_its := goodIn_r _ [14, 6, 30, 31, 32, 33, 34, 35, 36, 37, 38, 39, 40, 41, 42, 43, 44, 45] (by decide +kernel) (by decide +kernel)
set_option maxRecDepth 20000 in
theorem gX6_over_X6_its : GoodIn wsX6_over (wsV RX6 40 RX6 yX6_its wsX6_its) := goodIn_app (goodIn_of _ (by decide +kernel)) ggX6_over_X6_its
set_option maxRecDepth 20000 in
theorem ggX6_over_X6_bits : GoodIn wsX6_over wsX6_bits := goodIn_r _ [29] (by decide +kernel) (by decide +kernel)
set_option maxRecDepth 20000 in
theorem gX6_over_X6_bits : GoodIn wsX6_over (va_wsS RX6 140 yX6_bits wsX6_bits) := goodIn_app (goodIn_of _ (by decide +kernel)) ggX6_over_X6_bits
theorem dX6_over_0 : decode cX6_over 0 = .ok (.aload_n 0, 1) := by decide +kernel
theorem dX6_over_1 : decode cX6_over 1 = .ok (.iload_n 1, 1) := by decide +kernel
theorem dX6_over_2 : decode cX6_over 2 = .ok (.invokevirtual 101, 3) := by decide +kernel
theorem dX6_over_5 : decode cX6_over 5 = .ok (.ifCond .eq 11, 3) := by decide +kernel
theorem dX6_over_8 : decode cX6_over 8 = .ok (.aload_n 0, 1) := by decide +kernel
theorem dX6_over_9 : decode cX6_over 9 = .ok (.iload_n 2, 1) := by decide +kernel
theorem dX6_over_10 : decode cX6_over 10 = .ok (.invokevirtual 101, 3) := by decide +kernel
theorem dX6_over_13 : decode cX6_over 13 = .ok (.ifCond .ne 5, 3) := by decide +kernel
theorem dX6_over_16 : decode cX6_over 16 = .ok (.iconst (-1), 1) := by decide +kernel
theorem dX6_over_17 : decode cX6_over 17 = .ok (.ireturn, 1) := by decide +kernel
theorem dX6_over_18 : decode cX6_over 18 = .ok (.aload_n 0, 1) := by decide +kernel
theorem dX6_over_19 : decode cX6_over 19 = .ok (.iload_n 1, 1) := by decide +kernel
theorem dX6_over_20 : decode cX6_over 20 = .ok (.iload_n 2, 1) := by decide +kernel
theorem dX6_over_21 : decode cX6_over 21 = .ok (.invokevirtual 64, 3) := by decide +kernel
theorem dX6_over_24 : decode cX6_over 24 = .ok (.ifCond .ne 6, 3) := by decide +kernel
theorem dX6_over_27 : decode cX6_over 27 = .ok (.bipush (-6), 2) := by decide +kernel
theorem dX6_over_29 : decode cX6_over 29 = .ok (.ireturn, 1) := by decide +kernel
theorem dX6_over_30 : decode cX6_over 30 = .ok (.aload_n 0, 1) := by decide +kernel
theorem dX6_over_31 : decode cX6_over 31 = .ok (.iload_n 1, 1) := by decide +kernel
theorem dX6_over_32 : decode cX6_over 32 = .ok (.iconst 3, 1) := by decide +kernel
theorem dX6_over_33 : decode cX6_over 33 = .ok (.invokevirtual 40, 3) := by decide +kernel
theorem dX6_over_36 : decode cX6_over 36 = .ok (.aload_n 0, 1) := by decide +kernel
theorem dX6_over_37 : decode cX6_over 37 = .ok (.iload_n 2, 1) := by decide +kernel
theorem dX6_over_38 : decode cX6_over 38 = .ok (.iconst 4, 1) := by decide +kernel
theorem dX6_over_39 : decode cX6_over 39 = .ok (.invokevirtual 40, 3) := by decide +kernel
theorem dX6_over_42 : decode cX6_over 42 = .ok (.iand, 1) := by decide +kernel
theorem dX6_over_43 : decode cX6_over 43 = .ok (.istore_n 3, 1) := by decide +kernel
theorem dX6_over_44 : decode cX6_over 44 = .ok (.iload_n 3, 1) := by decide +kernel
theorem dX6_over_45 : decode cX6_over 45 = .ok (.iload_n 3, 1) := by decide +kernel
theorem dX6_over_46 : decode cX6_over 46 = .ok (.ineg, 1) := by decide +kernel
theorem dX6_over_47 : decode cX6_over 47 = .ok (.iand, 1) := by decide +kernel
theorem dX6_over_48 : decode cX6_over 48 = .ok (.iconst 1, 1) := by decide +kernel
theorem dX6_over_49 : decode cX6_over 49 = .ok (.isub, 1) := by decide +kernel
theorem dX6_over_50 : decode cX6_over 50 = .ok (.invokestatic 140, 3) := by decide +kernel
theorem dX6_over_53 : decode cX6_over 53 = .ok (.ireturn, 1) := by decide +kernel
set_option maxRecDepth 20000 in
theorem ggX6_edges_X6_edgesFrom : GoodIn wsX6_edges wsX6_edgesFrom := goodIn_r _ [6, 1, 7, 8, 9, 5, 10, 11, 12, 13, 14, 15, 16, 17, 18, 19, 20, 21, 22, 23, 24, 25, 26, 30, 31, 32, 33, 34, 35, 36, 37, 38, 39, 40, 41, 42, 43, 44, 45] (by decide +kernel) (by decide +kernel)
set_option maxRecDepth 20000 in
theorem gX6_edges_X6_edgesFrom : GoodIn wsX6_edges (wsV RX6 146 RX6 yX6_edgesFrom wsX6_edgesFrom) := goodIn_app (goodIn_of _ (by decide +kernel)) ggX6_edges_X6_edgesFrom
set_option maxRecDepth 20000 in
theorem ggX6_edges_X6_bits : GoodIn wsX6_edges wsX6_bits := goodIn_r _ [29] (by decide +kernel) (by decide +kernel)
set_option maxRecDepth 20000 in
theorem gX6_edges_X6_bits : GoodIn wsX6_edges (va_wsS RX6 140 yX6_bits wsX6_bits) := goodIn_app (goodIn_of _ (by decide +kernel)) ggX6_edges_X6_bits
theorem dX6_edges_0 : decode cX6_edges 0 = .ok (.iconst 0, 1) := by decide +kernel
theorem dX6_edges_1 : decode cX6_edges 1 = .ok (.istore_n 1, 1) := by decide +kernel
theorem dX6_edges_2 : decode cX6_edges 2 = .ok (.iconst 0, 1) := by decide +kernel
theorem dX6_edges_3 : decode cX6_edges 3 = .ok (.istore_n 2, 1) := by decide +kernel
theorem dX6_edges_4 : decode cX6_edges 4 = .ok (.iload_n 2, 1) := by decide +kernel
theorem dX6_edges_5 : decode cX6_edges 5 = .ok (.aload_n 0, 1) := by decide +kernel
theorem dX6_edges_6 : decode cX6_edges 6 = .ok (.getfield 7, 3) := by decide +kernel
theorem dX6_edges_9 : decode cX6_edges 9 = .ok (.iconst 2, 1) := by decide +kernel
theorem dX6_edges_10 : decode cX6_edges 10 = .ok (.iaload, 1) := by decide +kernel
theorem dX6_edges_11 : decode cX6_edges 11 = .ok (.if_icmp .ge 20, 3) := by decide +kernel
theorem dX6_edges_14 : decode cX6_edges 14 = .ok (.iload_n 1, 1) := by decide +kernel
theorem dX6_edges_15 : decode cX6_edges 15 = .ok (.aload_n 0, 1) := by decide +kernel
theorem dX6_edges_16 : decode cX6_edges 16 = .ok (.iload_n 2, 1) := by decide +kernel
theorem dX6_edges_17 : decode cX6_edges 17 = .ok (.invokevirtual 146, 3) := by decide +kernel
theorem dX6_edges_20 : decode cX6_edges 20 = .ok (.invokestatic 140, 3) := by decide +kernel
theorem dX6_edges_23 : decode cX6_edges 23 = .ok (.iadd, 1) := by decide +kernel
theorem dX6_edges_24 : decode cX6_edges 24 = .ok (.istore_n 1, 1) := by decide +kernel
theorem dX6_edges_25 : decode cX6_edges 25 = .ok (.iinc 2 1, 3) := by decide +kernel
theorem dX6_edges_28 : decode cX6_edges 28 = .ok (.goto (-24), 3) := by decide +kernel
theorem dX6_edges_31 : decode cX6_edges 31 = .ok (.iload_n 1, 1) := by decide +kernel
theorem dX6_edges_32 : decode cX6_edges 32 = .ok (.ireturn, 1) := by decide +kernel
set_option maxRecDepth 20000 in
theorem ggX6_pivots_X6_edgesFrom : GoodIn wsX6_pivots wsX6_edgesFrom := goodIn_r _ [6, 1, 7, 8, 9, 5, 10, 11, 12, 13, 14, 15, 16, 17, 18, 19, 20, 21, 22, 23, 24, 25, 26, 31, 32, 33, 34, 35, 36, 37, 38, 39, 40, 41, 42, 43, 44, 45, 46] (by decide +kernel) (by decide +kernel)
set_option maxRecDepth 20000 in
theorem gX6_pivots_X6_edgesFrom : GoodIn wsX6_pivots (wsV RX6 146 RX6 yX6_edgesFrom wsX6_edgesFrom) := goodIn_app (goodIn_of _ (by decide +kernel)) ggX6_pivots_X6_edgesFrom
set_option maxRecDepth 20000 in
theorem ggX6_pivots_X6_edgesTo : GoodIn wsX6_pivots wsX6_edgesTo := goodIn_r _ [30, 1, 7, 8, 9, 5, 10, 11, 12, 13, 14, 15, 16, 17, 18, 19, 20, 21, 22, 23, 24, 25, 26, 31, 32, 33, 34, 35, 36, 37, 38, 39, 40, 41, 42, 43, 44, 45, 46] (by decide +kernel) (by decide +kernel)
set_option maxRecDepth 20000 in
theorem gX6_pivots_X6_edgesTo : GoodIn wsX6_pivots (wsV RX6 149 RX6 yX6_edgesTo wsX6_edgesTo) := goodIn_app (goodIn_of _ (by decide +kernel)) ggX6_pivots_X6_edgesTo
theorem dX6_pivots_0 : decode cX6_pivots 0 = .ok (.iconst 0, 1) := by decide +kernel
theorem dX6_pivots_1 : decode cX6_pivots 1 = .ok (.istore_n 1, 1) := by decide +kernel
theorem dX6_pivots_2 : decode cX6_pivots 2 = .ok (.iconst 0, 1) := by decide +kernel
theorem dX6_pivots_3 : decode cX6_pivots 3 = .ok (.istore_n 2, 1) := by decide +kernel
theorem dX6_pivots_4 : decode cX6_pivots 4 = .ok (.iload_n 2, 1) := by decide +kernel
theorem dX6_pivots_5 : decode cX6_pivots 5 = .ok (.aload_n 0, 1) := by decide +kernel
theorem dX6_pivots_6 : decode cX6_pivots 6 = .ok (.getfield 7, 3) := by decide +kernel
theorem dX6_pivots_9 : decode cX6_pivots 9 = .ok (.iconst 2, 1) := by decide +kernel
theorem dX6_pivots_10 : decode cX6_pivots 10 = .ok (.iaload, 1) := by decide +kernel
theorem dX6_pivots_11 : decode cX6_pivots 11 = .ok (.if_icmp .ge 35, 3) := by decide +kernel
theorem dX6_pivots_14 : decode cX6_pivots 14 = .ok (.iload_n 1, 1) := by decide +kernel
theorem dX6_pivots_15 : decode cX6_pivots 15 = .ok (.aload_n 0, 1) := by decide +kernel
theorem dX6_pivots_16 : decode cX6_pivots 16 = .ok (.iload_n 2, 1) := by decide +kernel
theorem dX6_pivots_17 : decode cX6_pivots 17 = .ok (.invokevirtual 146, 3) := by decide +kernel
theorem dX6_pivots_20 : decode cX6_pivots 20 = .ok (.ifCond .eq 17, 3) := by decide +kernel
theorem dX6_pivots_23 : decode cX6_pivots 23 = .ok (.aload_n 0, 1) := by decide +kernel
theorem dX6_pivots_24 : decode cX6_pivots 24 = .ok (.iload_n 2, 1) := by decide +kernel
theorem dX6_pivots_25 : decode cX6_pivots 25 = .ok (.invokevirtual 149, 3) := by decide +kernel
theorem dX6_pivots_28 : decode cX6_pivots 28 = .ok (.ifCond .eq 9, 3) := by decide +kernel
theorem dX6_pivots_31 : decode cX6_pivots 31 = .ok (.iconst 1, 1) := by decide +kernel
theorem dX6_pivots_32 : decode cX6_pivots 32 = .ok (.iload_n 2, 1) := by decide +kernel
theorem dX6_pivots_33 : decode cX6_pivots 33 = .ok (.ishl, 1) := by decide +kernel
theorem dX6_pivots_34 : decode cX6_pivots 34 = .ok (.goto 4, 3) := by decide +kernel
theorem dX6_pivots_37 : decode cX6_pivots 37 = .ok (.iconst 0, 1) := by decide +kernel
theorem dX6_pivots_38 : decode cX6_pivots 38 = .ok (.ior, 1) := by decide +kernel
theorem dX6_pivots_39 : decode cX6_pivots 39 = .ok (.istore_n 1, 1) := by decide +kernel
theorem dX6_pivots_40 : decode cX6_pivots 40 = .ok (.iinc 2 1, 3) := by decide +kernel
theorem dX6_pivots_43 : decode cX6_pivots 43 = .ok (.goto (-39), 3) := by decide +kernel
theorem dX6_pivots_46 : decode cX6_pivots 46 = .ok (.iload_n 1, 1) := by decide +kernel
theorem dX6_pivots_47 : decode cX6_pivots 47 = .ok (.ireturn, 1) := by decide +kernel
set_option maxRecDepth 20000 in
theorem ggX6_triples_X6_edgesFrom : GoodIn wsX6_triples wsX6_edgesFrom := goodIn_r _ [6, 1, 7, 8, 9, 5, 10, 11, 12, 13, 14, 15, 16, 17, 18, 19, 20, 21, 22, 23, 24, 25, 26, 34, 35, 36, 37, 38, 39, 40, 41, 42, 43, 44, 45, 46, 47, 48, 49] (by decide +kernel) (by decide +kernel)
set_option maxRecDepth 20000 in
theorem gX6_triples_X6_edgesFrom : GoodIn wsX6_triples (wsV RX6 146 RX6 yX6_edgesFrom wsX6_edgesFrom) := goodIn_app (goodIn_of _ (by decide +kernel)) ggX6_triples_X6_edgesFrom
set_option maxRecDepth 20000 in
theorem ggX6_triples_X6_bits : GoodIn wsX6_triples wsX6_bits := goodIn_r _ [29] (by decide +kernel) (by decide +kernel)
set_option maxRecDepth 20000 in
theorem gX6_triples_X6_bits : GoodIn wsX6_triples (va_wsS RX6 140 yX6_bits wsX6_bits) := goodIn_app (goodIn_of _ (by decide +kernel)) ggX6_triples_X6_bits
set_option maxRecDepth 20000 in
theorem ggX6_triples_X6_edgesTo : GoodIn wsX6_triples wsX6_edgesTo := goodIn_r _ [33, 1, 7, 8, 9, 5, 10, 11, 12, 13, 14, 15, 16, 17, 18, 19, 20, 21, 22, 23, 24, 25, 26, 34, 35, 36, 37, 38, 39, 40, 41, 42, 43, 44, 45, 46, 47, 48, 49] (by decide +kernel) (by decide +kernel)
set_option maxRecDepth 20000 in
theorem gX6_triples_X6_edgesTo : GoodIn wsX6_triples (wsV RX6 149 RX6 yX6_edgesTo wsX6_edgesTo) := goodIn_app (goodIn_of _ (by decide +kernel)) ggX6_triples_X6_edgesTo
theorem dX6_triples_0 : decode cX6_triples 0 = .ok (.iconst 0, 1) := by decide +kernel
theorem dX6_triples_1 : decode cX6_triples 1 = .ok (.istore_n 1, 1) := by decide +kernel
theorem dX6_triples_2 : decode cX6_triples 2 = .ok (.iconst 0, 1) := by decide +kernel
theorem dX6_triples_3 : decode cX6_triples 3 = .ok (.istore_n 2, 1) := by decide +kernel
theorem dX6_triples_4 : decode cX6_triples 4 = .ok (.iload_n 2, 1) := by decide +kernel
theorem dX6_triples_5 : decode cX6_triples 5 = .ok (.aload_n 0, 1) := by decide +kernel
theorem dX6_triples_6 : decode cX6_triples 6 = .ok (.getfield 7, 3) := by decide +kernel
theorem dX6_triples_9 : decode cX6_triples 9 = .ok (.iconst 2, 1) := by decide +kernel
theorem dX6_triples_10 : decode cX6_triples 10 = .ok (.iaload, 1) := by decide +kernel
theorem dX6_triples_11 : decode cX6_triples 11 = .ok (.if_icmp .ge 29, 3) := by decide +kernel
theorem dX6_triples_14 : decode cX6_triples 14 = .ok (.iload_n 1, 1) := by decide +kernel
theorem dX6_triples_15 : decode cX6_triples 15 = .ok (.aload_n 0, 1) := by decide +kernel
theorem dX6_triples_16 : decode cX6_triples 16 = .ok (.iload_n 2, 1) := by decide +kernel
theorem dX6_triples_17 : decode cX6_triples 17 = .ok (.invokevirtual 146, 3) := by decide +kernel
theorem dX6_triples_20 : decode cX6_triples 20 = .ok (.invokestatic 140, 3) := by decide +kernel
theorem dX6_triples_23 : decode cX6_triples 23 = .ok (.aload_n 0, 1) := by decide +kernel
theorem dX6_triples_24 : decode cX6_triples 24 = .ok (.iload_n 2, 1) := by decide +kernel
theorem dX6_triples_25 : decode cX6_triples 25 = .ok (.invokevirtual 149, 3) := by decide +kernel
theorem dX6_triples_28 : decode cX6_triples 28 = .ok (.invokestatic 140, 3) := by decide +kernel
theorem dX6_triples_31 : decode cX6_triples 31 = .ok (.imul, 1) := by decide +kernel
theorem dX6_triples_32 : decode cX6_triples 32 = .ok (.iadd, 1) := by decide +kernel
theorem dX6_triples_33 : decode cX6_triples 33 = .ok (.istore_n 1, 1) := by decide +kernel
theorem dX6_triples_34 : decode cX6_triples 34 = .ok (.iinc 2 1, 3) := by decide +kernel
theorem dX6_triples_37 : decode cX6_triples 37 = .ok (.goto (-33), 3) := by decide +kernel
theorem dX6_triples_40 : decode cX6_triples 40 = .ok (.iload_n 1, 1) := by decide +kernel
theorem dX6_triples_41 : decode cX6_triples 41 = .ok (.ireturn, 1) := by decide +kernel
set_option maxRecDepth 20000 in
theorem ggX6_count_X6_setOf : GoodIn wsX6_count wsX6_setOf := goodIn_r _ [8, 1, 9, 10, 11, 7, 12, 13, 14, 15, 16, 82, 83, 84, 85, 86, 87, 88, 89, 90, 91, 92, 93, 94, 95, 96, 97] (by decide +kernel) (by decide +kernel)
set_option maxRecDepth 20000 in
theorem gX6_count_X6_setOf : GoodIn wsX6_count (wsV RX6 93 RX6 yX6_setOf wsX6_setOf) := goodIn_app (goodIn_of _ (by decide +kernel)) ggX6_count_X6_setOf
set_option maxRecDepth 20000 in
theorem ggX6_count_X6_edges : GoodIn wsX6_count wsX6_edges := goodIn_r _ [20, 1, 21, 22, 23, 7, 24, 25, 26, 27, 28, 13, 14, 15, 16, 29, 30, 31, 32, 9, 10, 11, 12, 33, 34, 35, 36, 37, 38, 39, 82, 83, 84, 85, 86, 87, 88, 89, 90, 91, 92, 93, 94, 95, 96, 97] (by decide +kernel) (by decide +kernel)
set_option maxRecDepth 20000 in
theorem gX6_count_X6_edges : GoodIn wsX6_count (wsV RX6 155 RX6 yX6_edges wsX6_edges) := goodIn_app (goodIn_of _ (by decide +kernel)) ggX6_count_X6_edges
set_option maxRecDepth 20000 in
theorem ggX6_count_X6_pivots : GoodIn wsX6_count wsX6_pivots := goodIn_r _ [43, 1, 21, 22, 23, 7, 24, 25, 26, 27, 28, 13, 14, 15, 16, 29, 30, 31, 32, 9, 10, 11, 12, 33, 34, 35, 36, 44, 45, 46, 47, 82, 83, 84, 85, 86, 87, 88, 89, 90, 91, 92, 93, 94, 95, 96, 97] (by decide +kernel) (by decide +kernel)
set_option maxRecDepth 20000 in
theorem gX6_count_X6_pivots : GoodIn wsX6_count (wsV RX6 158 RX6 yX6_pivots wsX6_pivots) := goodIn_app (goodIn_of _ (by decide +kernel)) ggX6_count_X6_pivots
set_option maxRecDepth 20000 in
theorem ggX6_count_X6_triples : GoodIn wsX6_count wsX6_triples := goodIn_r _ [51, 1, 21, 22, 23, 7, 24, 25, 26, 27, 28, 13, 14, 15, 16, 29, 30, 31, 32, 9, 10, 11, 12, 33, 34, 35, 36, 37, 38, 39, 44, 45, 46, 47, 82, 83, 84, 85, 86, 87, 88, 89, 90, 91, 92, 93, 94, 95, 96, 97] (by decide +kernel) (by decide +kernel)
set_option maxRecDepth 20000 in
theorem gX6_count_X6_triples : GoodIn wsX6_count (wsV RX6 161 RX6 yX6_triples wsX6_triples) := goodIn_app (goodIn_of _ (by decide +kernel)) ggX6_count_X6_triples
set_option maxRecDepth 20000 in
theorem ggX6_count_X6_isSerial : GoodIn wsX6_count wsX6_isSerial := goodIn_r _ [55, 56, 57, 58, 7, 59, 1, 60, 61, 62, 63, 64, 65, 9, 10, 11, 12, 13, 14, 15, 16, 66, 67, 68, 69, 70, 71, 72, 73, 74, 75, 76, 77, 78, 79, 80, 81, 4, 5, 6, 8, 37, 38, 39, 82, 83, 84, 85, 86, 87, 88, 89, 90, 91, 92, 93, 94, 95, 96, 97] (by decide +kernel) (by decide +kernel)
set_option maxRecDepth 20000 in
theorem gX6_count_X6_isSerial : GoodIn wsX6_count (wsV RX6 164 RX6 yX6_isSerial wsX6_isSerial) := goodIn_app (goodIn_of _ (by decide +kernel)) ggX6_count_X6_isSerial
theorem dX6_count_0 : decode cX6_count 0 = .ok (.iload_n 1, 1) := by decide +kernel
theorem dX6_count_1 : decode cX6_count 1 = .ok (.tableswitch 130 0 11 #[63, 70, 70, 70, 78, 85, 92, 97, 102, 107, 120, 125], 63) := by decide +kernel
theorem dX6_count_64 : decode cX6_count 64 = .ok (.aload_n 0, 1) := by decide +kernel
theorem dX6_count_65 : decode cX6_count 65 = .ok (.getfield 7, 3) := by decide +kernel
theorem dX6_count_68 : decode cX6_count 68 = .ok (.iconst 2, 1) := by decide +kernel
theorem dX6_count_69 : decode cX6_count 69 = .ok (.iaload, 1) := by decide +kernel
theorem dX6_count_70 : decode cX6_count 70 = .ok (.ireturn, 1) := by decide +kernel
theorem dX6_count_71 : decode cX6_count 71 = .ok (.aload_n 0, 1) := by decide +kernel
theorem dX6_count_72 : decode cX6_count 72 = .ok (.iload_n 1, 1) := by decide +kernel
theorem dX6_count_73 : decode cX6_count 73 = .ok (.iconst 1, 1) := by decide +kernel
theorem dX6_count_74 : decode cX6_count 74 = .ok (.isub, 1) := by decide +kernel
theorem dX6_count_75 : decode cX6_count 75 = .ok (.invokevirtual 93, 3) := by decide +kernel
theorem dX6_count_78 : decode cX6_count 78 = .ok (.ireturn, 1) := by decide +kernel
theorem dX6_count_79 : decode cX6_count 79 = .ok (.aload_n 0, 1) := by decide +kernel
theorem dX6_count_80 : decode cX6_count 80 = .ok (.getfield 7, 3) := by decide +kernel
theorem dX6_count_83 : decode cX6_count 83 = .ok (.iconst 1, 1) := by decide +kernel
theorem dX6_count_84 : decode cX6_count 84 = .ok (.iaload, 1) := by decide +kernel
theorem dX6_count_85 : decode cX6_count 85 = .ok (.ireturn, 1) := by decide +kernel
theorem dX6_count_86 : decode cX6_count 86 = .ok (.aload_n 0, 1) := by decide +kernel
theorem dX6_count_87 : decode cX6_count 87 = .ok (.getfield 7, 3) := by decide +kernel
theorem dX6_count_90 : decode cX6_count 90 = .ok (.iconst 0, 1) := by decide +kernel
theorem dX6_count_91 : decode cX6_count 91 = .ok (.iaload, 1) := by decide +kernel
theorem dX6_count_92 : decode cX6_count 92 = .ok (.ireturn, 1) := by decide +kernel
theorem dX6_count_93 : decode cX6_count 93 = .ok (.aload_n 0, 1) := by decide +kernel
theorem dX6_count_94 : decode cX6_count 94 = .ok (.invokevirtual 155, 3) := by decide +kernel
theorem dX6_count_97 : decode cX6_count 97 = .ok (.ireturn, 1) := by decide +kernel
theorem dX6_count_98 : decode cX6_count 98 = .ok (.aload_n 0, 1) := by decide +kernel
theorem dX6_count_99 : decode cX6_count 99 = .ok (.invokevirtual 158, 3) := by decide +kernel
theorem dX6_count_102 : decode cX6_count 102 = .ok (.ireturn, 1) := by decide +kernel
theorem dX6_count_103 : decode cX6_count 103 = .ok (.aload_n 0, 1) := by decide +kernel
theorem dX6_count_104 : decode cX6_count 104 = .ok (.invokevirtual 161, 3) := by decide +kernel
theorem dX6_count_107 : decode cX6_count 107 = .ok (.ireturn, 1) := by decide +kernel
theorem dX6_count_108 : decode cX6_count 108 = .ok (.aload_n 0, 1) := by decide +kernel
theorem dX6_count_109 : decode cX6_count 109 = .ok (.invokevirtual 164, 3) := by decide +kernel
theorem dX6_count_112 : decode cX6_count 112 = .ok (.ifCond .eq 7, 3) := by decide +kernel
theorem dX6_count_115 : decode cX6_count 115 = .ok (.iconst 1, 1) := by decide +kernel
theorem dX6_count_116 : decode cX6_count 116 = .ok (.goto 4, 3) := by decide +kernel
theorem dX6_count_119 : decode cX6_count 119 = .ok (.iconst 0, 1) := by decide +kernel
theorem dX6_count_120 : decode cX6_count 120 = .ok (.ireturn, 1) := by decide +kernel
theorem dX6_count_121 : decode cX6_count 121 = .ok (.aload_n 0, 1) := by decide +kernel
theorem dX6_count_122 : decode cX6_count 122 = .ok (.getfield 168, 3) := by decide +kernel
theorem dX6_count_125 : decode cX6_count 125 = .ok (.ireturn, 1) := by decide +kernel
theorem dX6_count_126 : decode cX6_count 126 = .ok (.aload_n 0, 1) := by decide +kernel
theorem dX6_count_127 : decode cX6_count 127 = .ok (.getfield 44, 3) := by decide +kernel
theorem dX6_count_130 : decode cX6_count 130 = .ok (.ireturn, 1) := by decide +kernel
theorem dX6_count_131 : decode cX6_count 131 = .ok (.bipush (-2), 2) := by decide +kernel
theorem dX6_count_133 : decode cX6_count 133 = .ok (.ireturn, 1) := by decide +kernel
theorem dX6_depend_0 : decode cX6_depend 0 = .ok (.iload_n 1, 1) := by decide +kernel
theorem dX6_depend_1 : decode cX6_depend 1 = .ok (.bipush (-6), 2) := by decide +kernel
theorem dX6_depend_3 : decode cX6_depend 3 = .ok (.if_icmp .eq 26, 3) := by decide +kernel
theorem dX6_depend_6 : decode cX6_depend 6 = .ok (.iload_n 2, 1) := by decide +kernel
theorem dX6_depend_7 : decode cX6_depend 7 = .ok (.bipush (-6), 2) := by decide +kernel
theorem dX6_depend_9 : decode cX6_depend 9 = .ok (.if_icmp .eq 20, 3) := by decide +kernel
theorem dX6_depend_12 : decode cX6_depend 12 = .ok (.iload_n 1, 1) := by decide +kernel
theorem dX6_depend_13 : decode cX6_depend 13 = .ok (.iload_n 2, 1) := by decide +kernel
theorem dX6_depend_14 : decode cX6_depend 14 = .ok (.if_icmp .eq 15, 3) := by decide +kernel
theorem dX6_depend_17 : decode cX6_depend 17 = .ok (.aload_n 0, 1) := by decide +kernel
theorem dX6_depend_18 : decode cX6_depend 18 = .ok (.getfield 27, 3) := by decide +kernel
theorem dX6_depend_21 : decode cX6_depend 21 = .ok (.iload_n 2, 1) := by decide +kernel
theorem dX6_depend_22 : decode cX6_depend 22 = .ok (.dup2, 1) := by decide +kernel
theorem dX6_depend_23 : decode cX6_depend 23 = .ok (.iaload, 1) := by decide +kernel
theorem dX6_depend_24 : decode cX6_depend 24 = .ok (.iconst 1, 1) := by decide +kernel
theorem dX6_depend_25 : decode cX6_depend 25 = .ok (.iload_n 1, 1) := by decide +kernel
theorem dX6_depend_26 : decode cX6_depend 26 = .ok (.ishl, 1) := by decide +kernel
theorem dX6_depend_27 : decode cX6_depend 27 = .ok (.ior, 1) := by decide +kernel
theorem dX6_depend_28 : decode cX6_depend 28 = .ok (.iastore, 1) := by decide +kernel
theorem dX6_depend_29 : decode cX6_depend 29 = .ok (.return_, 1) := by decide +kernel
set_option maxRecDepth 20000 in
theorem ggX6_layAhead_X6_isIn : GoodIn wsX6_layAhead wsX6_isIn := goodIn_r _ [7, 8, 9, 10, 6, 11, 2, 28, 29, 30, 31, 32, 33, 34, 35, 36, 37, 38, 39, 40, 41, 42, 43] (by decide +kernel) (by decide +kernel)
set_option maxRecDepth 20000 in
theorem gX6_layAhead_X6_isIn : GoodIn wsX6_layAhead (wsV RX6 51 RX6 yX6_isIn wsX6_isIn) := goodIn_app (goodIn_of _ (by decide +kernel)) ggX6_layAhead_X6_isIn
set_option maxRecDepth 20000 in
theorem ggX6_layAhead_X6_wrote : GoodIn wsX6_layAhead wsX6_wrote := goodIn_r _ [15, 8, 9, 10, 6, 11, 2, 28, 29, 30, 31, 32, 33, 34, 35, 36, 37, 38, 39, 40, 41, 42, 43] (by decide +kernel) (by decide +kernel)
set_option maxRecDepth 20000 in
theorem gX6_layAhead_X6_wrote : GoodIn wsX6_layAhead (wsV RX6 55 RX6 yX6_wrote wsX6_wrote) := goodIn_app (goodIn_of _ (by decide +kernel)) ggX6_layAhead_X6_wrote
set_option maxRecDepth 20000 in
theorem ggX6_layAhead_X6_its : GoodIn wsX6_layAhead wsX6_its := goodIn_r _ [11, 2, 28, 29, 30, 31, 32, 33, 34, 35, 36, 37, 38, 39, 40, 41, 42, 43] (by decide +kernel) (by decide +kernel)
set_option maxRecDepth 20000 in
theorem gX6_layAhead_X6_its : GoodIn wsX6_layAhead (wsV RX6 40 RX6 yX6_its wsX6_its) := goodIn_app (goodIn_of _ (by decide +kernel)) ggX6_layAhead_X6_its
set_option maxRecDepth 20000 in
theorem ggX6_layAhead_X6_writerBehind : GoodIn wsX6_layAhead wsX6_writerBehind := goodIn_r _ [19, 2, 3, 4, 5, 6, 7, 8, 9, 10, 11, 12, 13, 14, 15, 28, 29, 30, 31, 32, 33, 34, 35, 36, 37, 38, 39, 40, 41, 42, 43] (by decide +kernel) (by decide +kernel)
set_option maxRecDepth 20000 in
theorem gX6_layAhead_X6_writerBehind : GoodIn wsX6_layAhead (wsV RX6 83 RX6 yX6_writerBehind wsX6_writerBehind) := goodIn_app (goodIn_of _ (by decide +kernel)) ggX6_layAhead_X6_writerBehind
set_option maxRecDepth 20000 in
theorem ggX6_layAhead_X6_depend : GoodIn wsX6_layAhead wsX6_depend := goodIn_r _ [23, 1, 28, 29, 30, 31, 32, 33, 34, 35, 36, 37, 38, 39, 40, 41, 42, 43] (by decide +kernel) (by decide +kernel)
set_option maxRecDepth 20000 in
theorem gX6_layAhead_X6_depend : GoodIn wsX6_layAhead (wsV RX6 171 RX6 yX6_depend wsX6_depend) := goodIn_app (goodIn_of _ (by decide +kernel)) ggX6_layAhead_X6_depend
set_option maxRecDepth 20000 in
theorem ggX6_layAhead_X6_writerAhead : GoodIn wsX6_layAhead wsX6_writerAhead := goodIn_r _ [27, 2, 3, 4, 5, 6, 7, 8, 9, 10, 11, 12, 13, 14, 15, 28, 29, 30, 31, 32, 33, 34, 35, 36, 37, 38, 39, 40, 41, 42, 43] (by decide +kernel) (by decide +kernel)
set_option maxRecDepth 20000 in
theorem gX6_layAhead_X6_writerAhead : GoodIn wsX6_layAhead (wsV RX6 108 RX6 yX6_writerAhead wsX6_writerAhead) := goodIn_app (goodIn_of _ (by decide +kernel)) ggX6_layAhead_X6_writerAhead
theorem dX6_layAhead_0 : decode cX6_layAhead 0 = .ok (.iconst 0, 1) := by decide +kernel
theorem dX6_layAhead_1 : decode cX6_layAhead 1 = .ok (.istore_n 1, 1) := by decide +kernel
theorem dX6_layAhead_2 : decode cX6_layAhead 2 = .ok (.iload_n 1, 1) := by decide +kernel
theorem dX6_layAhead_3 : decode cX6_layAhead 3 = .ok (.bipush 12, 2) := by decide +kernel
theorem dX6_layAhead_5 : decode cX6_layAhead 5 = .ok (.if_icmp .ge 16, 3) := by decide +kernel
theorem dX6_layAhead_8 : decode cX6_layAhead 8 = .ok (.aload_n 0, 1) := by decide +kernel
theorem dX6_layAhead_9 : decode cX6_layAhead 9 = .ok (.getfield 27, 3) := by decide +kernel
theorem dX6_layAhead_12 : decode cX6_layAhead 12 = .ok (.iload_n 1, 1) := by decide +kernel
theorem dX6_layAhead_13 : decode cX6_layAhead 13 = .ok (.iconst 0, 1) := by decide +kernel
theorem dX6_layAhead_14 : decode cX6_layAhead 14 = .ok (.iastore, 1) := by decide +kernel
theorem dX6_layAhead_15 : decode cX6_layAhead 15 = .ok (.iinc 1 1, 3) := by decide +kernel
theorem dX6_layAhead_18 : decode cX6_layAhead 18 = .ok (.goto (-16), 3) := by decide +kernel
theorem dX6_layAhead_21 : decode cX6_layAhead 21 = .ok (.iconst 0, 1) := by decide +kernel
theorem dX6_layAhead_22 : decode cX6_layAhead 22 = .ok (.istore_n 1, 1) := by decide +kernel
theorem dX6_layAhead_23 : decode cX6_layAhead 23 = .ok (.iload_n 1, 1) := by decide +kernel
theorem dX6_layAhead_24 : decode cX6_layAhead 24 = .ok (.aload_n 0, 1) := by decide +kernel
theorem dX6_layAhead_25 : decode cX6_layAhead 25 = .ok (.getfield 7, 3) := by decide +kernel
theorem dX6_layAhead_28 : decode cX6_layAhead 28 = .ok (.iconst 2, 1) := by decide +kernel
theorem dX6_layAhead_29 : decode cX6_layAhead 29 = .ok (.iaload, 1) := by decide +kernel
theorem dX6_layAhead_30 : decode cX6_layAhead 30 = .ok (.if_icmp .ge 115, 3) := by decide +kernel
theorem dX6_layAhead_33 : decode cX6_layAhead 33 = .ok (.iconst 0, 1) := by decide +kernel
theorem dX6_layAhead_34 : decode cX6_layAhead 34 = .ok (.istore_n 2, 1) := by decide +kernel
theorem dX6_layAhead_35 : decode cX6_layAhead 35 = .ok (.iload_n 2, 1) := by decide +kernel
theorem dX6_layAhead_36 : decode cX6_layAhead 36 = .ok (.bipush 16, 2) := by decide +kernel
theorem dX6_layAhead_38 : decode cX6_layAhead 38 = .ok (.if_icmp .ge 101, 3) := by decide +kernel
theorem dX6_layAhead_41 : decode cX6_layAhead 41 = .ok (.aload_n 0, 1) := by decide +kernel
theorem dX6_layAhead_42 : decode cX6_layAhead 42 = .ok (.iload_n 1, 1) := by decide +kernel
theorem dX6_layAhead_43 : decode cX6_layAhead 43 = .ok (.iconst 1, 1) := by decide +kernel
theorem dX6_layAhead_44 : decode cX6_layAhead 44 = .ok (.invokevirtual 51, 3) := by decide +kernel
theorem dX6_layAhead_47 : decode cX6_layAhead 47 = .ok (.ifCond .eq 92, 3) := by decide +kernel
theorem dX6_layAhead_50 : decode cX6_layAhead 50 = .ok (.aload_n 0, 1) := by decide +kernel
theorem dX6_layAhead_51 : decode cX6_layAhead 51 = .ok (.iload_n 1, 1) := by decide +kernel
theorem dX6_layAhead_52 : decode cX6_layAhead 52 = .ok (.iload_n 2, 1) := by decide +kernel
theorem dX6_layAhead_53 : decode cX6_layAhead 53 = .ok (.invokevirtual 55, 3) := by decide +kernel
theorem dX6_layAhead_56 : decode cX6_layAhead 56 = .ok (.ifCond .eq 19, 3) := by decide +kernel
theorem dX6_layAhead_59 : decode cX6_layAhead 59 = .ok (.aload_n 0, 1) := by decide +kernel
theorem dX6_layAhead_60 : decode cX6_layAhead 60 = .ok (.iload_n 1, 1) := by decide +kernel
theorem dX6_layAhead_61 : decode cX6_layAhead 61 = .ok (.aload_n 0, 1) := by decide +kernel
theorem dX6_layAhead_62 : decode cX6_layAhead 62 = .ok (.iload_n 2, 1) := by decide +kernel
theorem dX6_layAhead_63 : decode cX6_layAhead 63 = .ok (.aload_n 0, 1) := by decide +kernel
theorem dX6_layAhead_64 : decode cX6_layAhead 64 = .ok (.iload_n 1, 1) := by decide +kernel
theorem dX6_layAhead_65 : decode cX6_layAhead 65 = .ok (.iconst 2, 1) := by decide +kernel
theorem dX6_layAhead_66 : decode cX6_layAhead 66 = .ok (.invokevirtual 40, 3) := by decide +kernel
theorem dX6_layAhead_69 : decode cX6_layAhead 69 = .ok (.invokevirtual 83, 3) := by decide +kernel
theorem dX6_layAhead_72 : decode cX6_layAhead 72 = .ok (.invokevirtual 171, 3) := by decide +kernel
theorem dX6_layAhead_75 : decode cX6_layAhead 75 = .ok (.aload_n 0, 1) := by decide +kernel
theorem dX6_layAhead_76 : decode cX6_layAhead 76 = .ok (.iload_n 1, 1) := by decide +kernel
theorem dX6_layAhead_77 : decode cX6_layAhead 77 = .ok (.iconst 3, 1) := by decide +kernel
theorem dX6_layAhead_78 : decode cX6_layAhead 78 = .ok (.invokevirtual 40, 3) := by decide +kernel
theorem dX6_layAhead_81 : decode cX6_layAhead 81 = .ok (.iload_n 2, 1) := by decide +kernel
theorem dX6_layAhead_82 : decode cX6_layAhead 82 = .ok (.ishr, 1) := by decide +kernel
theorem dX6_layAhead_83 : decode cX6_layAhead 83 = .ok (.iconst 1, 1) := by decide +kernel
theorem dX6_layAhead_84 : decode cX6_layAhead 84 = .ok (.iand, 1) := by decide +kernel
theorem dX6_layAhead_85 : decode cX6_layAhead 85 = .ok (.iconst 1, 1) := by decide +kernel
theorem dX6_layAhead_86 : decode cX6_layAhead 86 = .ok (.if_icmp .ne 47, 3) := by decide +kernel
theorem dX6_layAhead_89 : decode cX6_layAhead 89 = .ok (.aload_n 0, 1) := by decide +kernel
theorem dX6_layAhead_90 : decode cX6_layAhead 90 = .ok (.iload_n 2, 1) := by decide +kernel
theorem dX6_layAhead_91 : decode cX6_layAhead 91 = .ok (.aload_n 0, 1) := by decide +kernel
theorem dX6_layAhead_92 : decode cX6_layAhead 92 = .ok (.iload_n 1, 1) := by decide +kernel
theorem dX6_layAhead_93 : decode cX6_layAhead 93 = .ok (.iconst 1, 1) := by decide +kernel
theorem dX6_layAhead_94 : decode cX6_layAhead 94 = .ok (.invokevirtual 40, 3) := by decide +kernel
theorem dX6_layAhead_97 : decode cX6_layAhead 97 = .ok (.invokevirtual 108, 3) := by decide +kernel
theorem dX6_layAhead_100 : decode cX6_layAhead 100 = .ok (.istore_n 3, 1) := by decide +kernel
theorem dX6_layAhead_101 : decode cX6_layAhead 101 = .ok (.aload_n 0, 1) := by decide +kernel
theorem dX6_layAhead_102 : decode cX6_layAhead 102 = .ok (.iload_n 3, 1) := by decide +kernel
theorem dX6_layAhead_103 : decode cX6_layAhead 103 = .ok (.iload_n 1, 1) := by decide +kernel
theorem dX6_layAhead_104 : decode cX6_layAhead 104 = .ok (.invokevirtual 171, 3) := by decide +kernel
theorem dX6_layAhead_107 : decode cX6_layAhead 107 = .ok (.aload_n 0, 1) := by decide +kernel
theorem dX6_layAhead_108 : decode cX6_layAhead 108 = .ok (.iload_n 1, 1) := by decide +kernel
theorem dX6_layAhead_109 : decode cX6_layAhead 109 = .ok (.aload_n 0, 1) := by decide +kernel
theorem dX6_layAhead_110 : decode cX6_layAhead 110 = .ok (.iload_n 2, 1) := by decide +kernel
theorem dX6_layAhead_111 : decode cX6_layAhead 111 = .ok (.iload_n 3, 1) := by decide +kernel
theorem dX6_layAhead_112 : decode cX6_layAhead 112 = .ok (.bipush (-6), 2) := by decide +kernel
theorem dX6_layAhead_114 : decode cX6_layAhead 114 = .ok (.if_icmp .ne 7, 3) := by decide +kernel
theorem dX6_layAhead_117 : decode cX6_layAhead 117 = .ok (.iconst 0, 1) := by decide +kernel
theorem dX6_layAhead_118 : decode cX6_layAhead 118 = .ok (.goto 9, 3) := by decide +kernel
theorem dX6_layAhead_121 : decode cX6_layAhead 121 = .ok (.aload_n 0, 1) := by decide +kernel
theorem dX6_layAhead_122 : decode cX6_layAhead 122 = .ok (.iload_n 3, 1) := by decide +kernel
theorem dX6_layAhead_123 : decode cX6_layAhead 123 = .ok (.iconst 2, 1) := by decide +kernel
theorem dX6_layAhead_124 : decode cX6_layAhead 124 = .ok (.invokevirtual 40, 3) := by decide +kernel
theorem dX6_layAhead_127 : decode cX6_layAhead 127 = .ok (.invokevirtual 83, 3) := by decide +kernel
theorem dX6_layAhead_130 : decode cX6_layAhead 130 = .ok (.invokevirtual 171, 3) := by decide +kernel
theorem dX6_layAhead_133 : decode cX6_layAhead 133 = .ok (.iinc 2 1, 3) := by decide +kernel
theorem dX6_layAhead_136 : decode cX6_layAhead 136 = .ok (.goto (-101), 3) := by decide +kernel
theorem dX6_layAhead_139 : decode cX6_layAhead 139 = .ok (.iinc 1 1, 3) := by decide +kernel
theorem dX6_layAhead_142 : decode cX6_layAhead 142 = .ok (.goto (-119), 3) := by decide +kernel
theorem dX6_layAhead_145 : decode cX6_layAhead 145 = .ok (.return_, 1) := by decide +kernel
set_option maxRecDepth 20000 in
theorem ggX6_layOrder_X6_layAhead : GoodIn wsX6_layOrder wsX6_layAhead := goodIn_r _ [8, 2, 1, 9, 10, 11, 7, 12, 13, 14, 15, 16, 17, 18, 19, 20, 21, 22, 23, 24, 25, 26, 27, 28, 29, 30, 31, 32, 37, 38, 39, 40, 41, 42, 43, 44, 45, 46, 47, 48, 49, 50, 51, 52] (by decide +kernel) (by decide +kernel)
set_option maxRecDepth 20000 in
theorem gX6_layOrder_X6_layAhead : GoodIn wsX6_layOrder (wsV RX6 174 RX6 yX6_layAhead wsX6_layAhead) := goodIn_app (goodIn_of _ (by decide +kernel)) ggX6_layOrder_X6_layAhead
set_option maxRecDepth 20000 in
theorem ggX6_layOrder_X6_setOf : GoodIn wsX6_layOrder wsX6_setOf := goodIn_r _ [36, 1, 9, 10, 11, 7, 12, 13, 14, 15, 16, 37, 38, 39, 40, 41, 42, 43, 44, 45, 46, 47, 48, 49, 50, 51, 52] (by decide +kernel) (by decide +kernel)
set_option maxRecDepth 20000 in
theorem gX6_layOrder_X6_setOf : GoodIn wsX6_layOrder (wsV RX6 93 RX6 yX6_setOf wsX6_setOf) := goodIn_app (goodIn_of _ (by decide +kernel)) ggX6_layOrder_X6_setOf
theorem dX6_layOrder_0 : decode cX6_layOrder 0 = .ok (.aload_n 0, 1) := by decide +kernel
theorem dX6_layOrder_1 : decode cX6_layOrder 1 = .ok (.invokevirtual 174, 3) := by decide +kernel
theorem dX6_layOrder_4 : decode cX6_layOrder 4 = .ok (.aload_n 0, 1) := by decide +kernel
theorem dX6_layOrder_5 : decode cX6_layOrder 5 = .ok (.iconst 1, 1) := by decide +kernel
theorem dX6_layOrder_6 : decode cX6_layOrder 6 = .ok (.invokevirtual 93, 3) := by decide +kernel
theorem dX6_layOrder_9 : decode cX6_layOrder 9 = .ok (.istore_n 1, 1) := by decide +kernel
theorem dX6_layOrder_10 : decode cX6_layOrder 10 = .ok (.iconst 0, 1) := by decide +kernel
theorem dX6_layOrder_11 : decode cX6_layOrder 11 = .ok (.istore_n 2, 1) := by decide +kernel
theorem dX6_layOrder_12 : decode cX6_layOrder 12 = .ok (.iconst 1, 1) := by decide +kernel
theorem dX6_layOrder_13 : decode cX6_layOrder 13 = .ok (.istore_n 3, 1) := by decide +kernel
theorem dX6_layOrder_14 : decode cX6_layOrder 14 = .ok (.iload_n 3, 1) := by decide +kernel
theorem dX6_layOrder_15 : decode cX6_layOrder 15 = .ok (.ifCond .eq 99, 3) := by decide +kernel
theorem dX6_layOrder_18 : decode cX6_layOrder 18 = .ok (.bipush (-6), 2) := by decide +kernel
theorem dX6_layOrder_20 : decode cX6_layOrder 20 = .ok (.istore 4, 2) := by decide +kernel
theorem dX6_layOrder_22 : decode cX6_layOrder 22 = .ok (.aload_n 0, 1) := by decide +kernel
theorem dX6_layOrder_23 : decode cX6_layOrder 23 = .ok (.getfield 7, 3) := by decide +kernel
theorem dX6_layOrder_26 : decode cX6_layOrder 26 = .ok (.iconst 2, 1) := by decide +kernel
theorem dX6_layOrder_27 : decode cX6_layOrder 27 = .ok (.iaload, 1) := by decide +kernel
theorem dX6_layOrder_28 : decode cX6_layOrder 28 = .ok (.iconst 1, 1) := by decide +kernel
theorem dX6_layOrder_29 : decode cX6_layOrder 29 = .ok (.isub, 1) := by decide +kernel
theorem dX6_layOrder_30 : decode cX6_layOrder 30 = .ok (.istore 5, 2) := by decide +kernel
theorem dX6_layOrder_32 : decode cX6_layOrder 32 = .ok (.iload 5, 2) := by decide +kernel
theorem dX6_layOrder_34 : decode cX6_layOrder 34 = .ok (.ifCond .lt 40, 3) := by decide +kernel
theorem dX6_layOrder_37 : decode cX6_layOrder 37 = .ok (.iload_n 1, 1) := by decide +kernel
theorem dX6_layOrder_38 : decode cX6_layOrder 38 = .ok (.iload 5, 2) := by decide +kernel
theorem dX6_layOrder_40 : decode cX6_layOrder 40 = .ok (.ishr, 1) := by decide +kernel
theorem dX6_layOrder_41 : decode cX6_layOrder 41 = .ok (.iconst 1, 1) := by decide +kernel
theorem dX6_layOrder_42 : decode cX6_layOrder 42 = .ok (.iand, 1) := by decide +kernel
theorem dX6_layOrder_43 : decode cX6_layOrder 43 = .ok (.iconst 1, 1) := by decide +kernel
theorem dX6_layOrder_44 : decode cX6_layOrder 44 = .ok (.if_icmp .ne 20, 3) := by decide +kernel
theorem dX6_layOrder_47 : decode cX6_layOrder 47 = .ok (.aload_n 0, 1) := by decide +kernel
theorem dX6_layOrder_48 : decode cX6_layOrder 48 = .ok (.getfield 27, 3) := by decide +kernel
theorem dX6_layOrder_51 : decode cX6_layOrder 51 = .ok (.iload 5, 2) := by decide +kernel
theorem dX6_layOrder_53 : decode cX6_layOrder 53 = .ok (.iaload, 1) := by decide +kernel
theorem dX6_layOrder_54 : decode cX6_layOrder 54 = .ok (.iload_n 1, 1) := by decide +kernel
theorem dX6_layOrder_55 : decode cX6_layOrder 55 = .ok (.iand, 1) := by decide +kernel
theorem dX6_layOrder_56 : decode cX6_layOrder 56 = .ok (.ifCond .ne 8, 3) := by decide +kernel
theorem dX6_layOrder_59 : decode cX6_layOrder 59 = .ok (.iload 5, 2) := by decide +kernel
theorem dX6_layOrder_61 : decode cX6_layOrder 61 = .ok (.goto 5, 3) := by decide +kernel
theorem dX6_layOrder_64 : decode cX6_layOrder 64 = .ok (.iload 4, 2) := by decide +kernel
theorem dX6_layOrder_66 : decode cX6_layOrder 66 = .ok (.istore 4, 2) := by decide +kernel
theorem dX6_layOrder_68 : decode cX6_layOrder 68 = .ok (.iinc 5 (-1), 3) := by decide +kernel
theorem dX6_layOrder_71 : decode cX6_layOrder 71 = .ok (.goto (-39), 3) := by decide +kernel
theorem dX6_layOrder_74 : decode cX6_layOrder 74 = .ok (.iload 4, 2) := by decide +kernel
theorem dX6_layOrder_76 : decode cX6_layOrder 76 = .ok (.bipush (-6), 2) := by decide +kernel
theorem dX6_layOrder_78 : decode cX6_layOrder 78 = .ok (.if_icmp .eq 7, 3) := by decide +kernel
theorem dX6_layOrder_81 : decode cX6_layOrder 81 = .ok (.iconst 1, 1) := by decide +kernel
theorem dX6_layOrder_82 : decode cX6_layOrder 82 = .ok (.goto 4, 3) := by decide +kernel
theorem dX6_layOrder_85 : decode cX6_layOrder 85 = .ok (.iconst 0, 1) := by decide +kernel
theorem dX6_layOrder_86 : decode cX6_layOrder 86 = .ok (.istore_n 3, 1) := by decide +kernel
theorem dX6_layOrder_87 : decode cX6_layOrder 87 = .ok (.iload_n 3, 1) := by decide +kernel
theorem dX6_layOrder_88 : decode cX6_layOrder 88 = .ok (.ifCond .eq 23, 3) := by decide +kernel
theorem dX6_layOrder_91 : decode cX6_layOrder 91 = .ok (.aload_n 0, 1) := by decide +kernel
theorem dX6_layOrder_92 : decode cX6_layOrder 92 = .ok (.getfield 30, 3) := by decide +kernel
theorem dX6_layOrder_95 : decode cX6_layOrder 95 = .ok (.iload_n 2, 1) := by decide +kernel
theorem dX6_layOrder_96 : decode cX6_layOrder 96 = .ok (.iload 4, 2) := by decide +kernel
theorem dX6_layOrder_98 : decode cX6_layOrder 98 = .ok (.iastore, 1) := by decide +kernel
theorem dX6_layOrder_99 : decode cX6_layOrder 99 = .ok (.iinc 2 1, 3) := by decide +kernel
theorem dX6_layOrder_102 : decode cX6_layOrder 102 = .ok (.iload_n 1, 1) := by decide +kernel
theorem dX6_layOrder_103 : decode cX6_layOrder 103 = .ok (.iconst 1, 1) := by decide +kernel
theorem dX6_layOrder_104 : decode cX6_layOrder 104 = .ok (.iload 4, 2) := by decide +kernel
theorem dX6_layOrder_106 : decode cX6_layOrder 106 = .ok (.ishl, 1) := by decide +kernel
theorem dX6_layOrder_107 : decode cX6_layOrder 107 = .ok (.iconst (-1), 1) := by decide +kernel
theorem dX6_layOrder_108 : decode cX6_layOrder 108 = .ok (.ixor, 1) := by decide +kernel
theorem dX6_layOrder_109 : decode cX6_layOrder 109 = .ok (.iand, 1) := by decide +kernel
theorem dX6_layOrder_110 : decode cX6_layOrder 110 = .ok (.istore_n 1, 1) := by decide +kernel
theorem dX6_layOrder_111 : decode cX6_layOrder 111 = .ok (.goto (-97), 3) := by decide +kernel
theorem dX6_layOrder_114 : decode cX6_layOrder 114 = .ok (.iload_n 2, 1) := by decide +kernel
theorem dX6_layOrder_115 : decode cX6_layOrder 115 = .ok (.ireturn, 1) := by decide +kernel
set_option maxRecDepth 20000 in
theorem ggX6_isSerial_X6_layOrder : GoodIn wsX6_isSerial wsX6_layOrder := goodIn_r _ [5, 6, 7, 8, 9, 10, 11, 4, 12, 13, 14, 15, 16, 17, 18, 19, 20, 21, 22, 23, 24, 25, 26, 27, 28, 29, 30, 31, 32, 33, 34, 35, 36, 37, 38, 39, 40, 44, 45, 46, 47, 48, 49, 50, 51, 52, 53, 54, 55, 56, 57, 58, 59] (by decide +kernel) (by decide +kernel)
set_option maxRecDepth 20000 in
theorem gX6_isSerial_X6_layOrder : GoodIn wsX6_isSerial (wsV RX6 177 RX6 yX6_layOrder wsX6_layOrder) := goodIn_app (goodIn_of _ (by decide +kernel)) ggX6_isSerial_X6_layOrder
set_option maxRecDepth 20000 in
theorem ggX6_isSerial_X6_setOf : GoodIn wsX6_isSerial wsX6_setOf := goodIn_r _ [40, 6, 13, 14, 15, 4, 16, 17, 18, 19, 20, 44, 45, 46, 47, 48, 49, 50, 51, 52, 53, 54, 55, 56, 57, 58, 59] (by decide +kernel) (by decide +kernel)
set_option maxRecDepth 20000 in
theorem gX6_isSerial_X6_setOf : GoodIn wsX6_isSerial (wsV RX6 93 RX6 yX6_setOf wsX6_setOf) := goodIn_app (goodIn_of _ (by decide +kernel)) ggX6_isSerial_X6_setOf
set_option maxRecDepth 20000 in
theorem ggX6_isSerial_X6_bits : GoodIn wsX6_isSerial wsX6_bits := goodIn_r _ [43] (by decide +kernel) (by decide +kernel)
set_option maxRecDepth 20000 in
theorem gX6_isSerial_X6_bits : GoodIn wsX6_isSerial (va_wsS RX6 140 yX6_bits wsX6_bits) := goodIn_app (goodIn_of _ (by decide +kernel)) ggX6_isSerial_X6_bits
theorem dX6_isSerial_0 : decode cX6_isSerial 0 = .ok (.aload_n 0, 1) := by decide +kernel
theorem dX6_isSerial_1 : decode cX6_isSerial 1 = .ok (.invokevirtual 177, 3) := by decide +kernel
theorem dX6_isSerial_4 : decode cX6_isSerial 4 = .ok (.aload_n 0, 1) := by decide +kernel
theorem dX6_isSerial_5 : decode cX6_isSerial 5 = .ok (.iconst 1, 1) := by decide +kernel
theorem dX6_isSerial_6 : decode cX6_isSerial 6 = .ok (.invokevirtual 93, 3) := by decide +kernel
theorem dX6_isSerial_9 : decode cX6_isSerial 9 = .ok (.invokestatic 140, 3) := by decide +kernel
theorem dX6_isSerial_12 : decode cX6_isSerial 12 = .ok (.if_icmp .ne 7, 3) := by decide +kernel
theorem dX6_isSerial_15 : decode cX6_isSerial 15 = .ok (.iconst 1, 1) := by decide +kernel
theorem dX6_isSerial_16 : decode cX6_isSerial 16 = .ok (.goto 4, 3) := by decide +kernel
theorem dX6_isSerial_19 : decode cX6_isSerial 19 = .ok (.iconst 0, 1) := by decide +kernel
theorem dX6_isSerial_20 : decode cX6_isSerial 20 = .ok (.ireturn, 1) := by decide +kernel
set_option maxRecDepth 20000 in
theorem ggX6_order_X6_setOf : GoodIn wsX6_order wsX6_setOf := goodIn_r _ [6, 7, 8, 9, 10, 5, 11, 12, 13, 14, 15, 48, 49, 50, 51, 52, 53, 54, 55, 56, 57, 58, 59, 60, 61, 62, 63] (by decide +kernel) (by decide +kernel)
set_option maxRecDepth 20000 in
theorem gX6_order_X6_setOf : GoodIn wsX6_order (wsV RX6 93 RX6 yX6_setOf wsX6_setOf) := goodIn_app (goodIn_of _ (by decide +kernel)) ggX6_order_X6_setOf
set_option maxRecDepth 20000 in
theorem ggX6_order_X6_bits : GoodIn wsX6_order wsX6_bits := goodIn_r _ [18] (by decide +kernel) (by decide +kernel)
set_option maxRecDepth 20000 in
theorem gX6_order_X6_bits : GoodIn wsX6_order (va_wsS RX6 140 yX6_bits wsX6_bits) := goodIn_app (goodIn_of _ (by decide +kernel)) ggX6_order_X6_bits
set_option maxRecDepth 20000 in
theorem ggX6_order_X6_isSerial : GoodIn wsX6_order wsX6_isSerial := goodIn_r _ [22, 23, 24, 25, 5, 26, 7, 27, 1, 28, 29, 30, 31, 8, 9, 10, 11, 12, 13, 14, 15, 32, 33, 34, 35, 36, 37, 38, 39, 40, 41, 42, 43, 44, 45, 46, 47, 2, 3, 4, 6, 16, 17, 18, 48, 49, 50, 51, 52, 53, 54, 55, 56, 57, 58, 59, 60, 61, 62, 63] (by decide +kernel) (by decide +kernel)
set_option maxRecDepth 20000 in
theorem gX6_order_X6_isSerial : GoodIn wsX6_order (wsV RX6 164 RX6 yX6_isSerial wsX6_isSerial) := goodIn_app (goodIn_of _ (by decide +kernel)) ggX6_order_X6_isSerial
theorem dX6_order_0 : decode cX6_order 0 = .ok (.iload_n 1, 1) := by decide +kernel
theorem dX6_order_1 : decode cX6_order 1 = .ok (.ifCond .lt 15, 3) := by decide +kernel
theorem dX6_order_4 : decode cX6_order 4 = .ok (.iload_n 1, 1) := by decide +kernel
theorem dX6_order_5 : decode cX6_order 5 = .ok (.aload_n 0, 1) := by decide +kernel
theorem dX6_order_6 : decode cX6_order 6 = .ok (.iconst 1, 1) := by decide +kernel
theorem dX6_order_7 : decode cX6_order 7 = .ok (.invokevirtual 93, 3) := by decide +kernel
theorem dX6_order_10 : decode cX6_order 10 = .ok (.invokestatic 140, 3) := by decide +kernel
theorem dX6_order_13 : decode cX6_order 13 = .ok (.if_icmp .lt 5, 3) := by decide +kernel
theorem dX6_order_16 : decode cX6_order 16 = .ok (.iconst (-1), 1) := by decide +kernel
theorem dX6_order_17 : decode cX6_order 17 = .ok (.ireturn, 1) := by decide +kernel
theorem dX6_order_18 : decode cX6_order 18 = .ok (.aload_n 0, 1) := by decide +kernel
theorem dX6_order_19 : decode cX6_order 19 = .ok (.invokevirtual 164, 3) := by decide +kernel
theorem dX6_order_22 : decode cX6_order 22 = .ok (.ifCond .eq 12, 3) := by decide +kernel
theorem dX6_order_25 : decode cX6_order 25 = .ok (.aload_n 0, 1) := by decide +kernel
theorem dX6_order_26 : decode cX6_order 26 = .ok (.getfield 30, 3) := by decide +kernel
theorem dX6_order_29 : decode cX6_order 29 = .ok (.iload_n 1, 1) := by decide +kernel
theorem dX6_order_30 : decode cX6_order 30 = .ok (.iaload, 1) := by decide +kernel
theorem dX6_order_31 : decode cX6_order 31 = .ok (.goto 5, 3) := by decide +kernel
theorem dX6_order_34 : decode cX6_order 34 = .ok (.bipush (-5), 2) := by decide +kernel
theorem dX6_order_36 : decode cX6_order 36 = .ok (.ireturn, 1) := by decide +kernel
set_option maxRecDepth 20000 in
theorem ggX6_sees_X6_isTransaction : GoodIn wsX6_sees wsX6_isTransaction := goodIn_r _ [5, 6, 33, 34, 35, 36, 37, 38, 39, 40, 41, 42, 43, 44, 45, 46, 47, 48] (by decide +kernel) (by decide +kernel)
set_option maxRecDepth 20000 in
theorem gX6_sees_X6_isTransaction : GoodIn wsX6_sees (wsV RX6 101 RX6 yX6_isTransaction wsX6_isTransaction) := goodIn_app (goodIn_of _ (by decide +kernel)) ggX6_sees_X6_isTransaction
set_option maxRecDepth 20000 in
theorem ggX6_sees_X6_isKey : GoodIn wsX6_sees wsX6_isKey := goodIn_r _ [9, 10, 11, 4, 12] (by decide +kernel) (by decide +kernel)
set_option maxRecDepth 20000 in
theorem gX6_sees_X6_isKey : GoodIn wsX6_sees (va_wsS RX6 105 yX6_isKey wsX6_isKey) := goodIn_app (goodIn_of _ (by decide +kernel)) ggX6_sees_X6_isKey
set_option maxRecDepth 20000 in
theorem ggX6_sees_X6_writerSeen : GoodIn wsX6_sees wsX6_writerSeen := goodIn_r _ [16, 17, 18, 19, 4, 20, 21, 22, 23, 24, 6, 25, 26, 27, 28, 29, 30, 31, 32, 33, 34, 35, 36, 37, 38, 39, 40, 41, 42, 43, 44, 45, 46, 47, 48] (by decide +kernel) (by decide +kernel)
set_option maxRecDepth 20000 in
theorem gX6_sees_X6_writerSeen : GoodIn wsX6_sees (wsV RX6 111 RX6 yX6_writerSeen wsX6_writerSeen) := goodIn_app (goodIn_of _ (by decide +kernel)) ggX6_sees_X6_writerSeen
theorem dX6_sees_0 : decode cX6_sees 0 = .ok (.aload_n 0, 1) := by decide +kernel
theorem dX6_sees_1 : decode cX6_sees 1 = .ok (.iload_n 1, 1) := by decide +kernel
theorem dX6_sees_2 : decode cX6_sees 2 = .ok (.invokevirtual 101, 3) := by decide +kernel
theorem dX6_sees_5 : decode cX6_sees 5 = .ok (.ifCond .eq 10, 3) := by decide +kernel
theorem dX6_sees_8 : decode cX6_sees 8 = .ok (.iload_n 2, 1) := by decide +kernel
theorem dX6_sees_9 : decode cX6_sees 9 = .ok (.invokestatic 105, 3) := by decide +kernel
theorem dX6_sees_12 : decode cX6_sees 12 = .ok (.ifCond .ne 5, 3) := by decide +kernel
theorem dX6_sees_15 : decode cX6_sees 15 = .ok (.iconst (-1), 1) := by decide +kernel
theorem dX6_sees_16 : decode cX6_sees 16 = .ok (.ireturn, 1) := by decide +kernel
theorem dX6_sees_17 : decode cX6_sees 17 = .ok (.aload_n 0, 1) := by decide +kernel
theorem dX6_sees_18 : decode cX6_sees 18 = .ok (.iload_n 1, 1) := by decide +kernel
theorem dX6_sees_19 : decode cX6_sees 19 = .ok (.iload_n 2, 1) := by decide +kernel
theorem dX6_sees_20 : decode cX6_sees 20 = .ok (.invokevirtual 111, 3) := by decide +kernel
theorem dX6_sees_23 : decode cX6_sees 23 = .ok (.ireturn, 1) := by decide +kernel
set_option maxRecDepth 20000 in
theorem ggX6_would_X6_whyNotEnd : GoodIn wsX6_would wsX6_whyNotEnd := goodIn_r _ [6, 7, 8, 9, 5, 10, 1, 11, 12, 13, 14, 15, 16, 17, 18, 62, 63, 64, 65, 66, 67, 68, 69, 70, 71, 72, 73, 74, 75, 76, 77] (by decide +kernel) (by decide +kernel)
set_option maxRecDepth 20000 in
theorem gX6_would_X6_whyNotEnd : GoodIn wsX6_would (wsV RX6 134 RX6 yX6_whyNotEnd wsX6_whyNotEnd) := goodIn_app (goodIn_of _ (by decide +kernel)) ggX6_would_X6_whyNotEnd
set_option maxRecDepth 20000 in
theorem ggX6_would_X6_reasonFor : GoodIn wsX6_would wsX6_reasonFor := goodIn_r _ [22, 1, 23, 24, 25, 5, 26, 15, 16, 17, 18, 27, 28, 29, 30, 11, 12, 13, 14, 31, 32, 33, 34, 35, 36, 37, 38, 39, 40, 41, 42, 43, 44, 45, 46, 47, 48, 49, 50, 51, 52, 53, 54, 55, 56, 57, 58, 59, 60, 61, 62, 63, 64, 65, 66, 67, 68, 69, 70, 71, 72, 73, 74, 75, 76, 77] (by decide +kernel) (by decide +kernel)
set_option maxRecDepth 20000 in
theorem gX6_would_X6_reasonFor : GoodIn wsX6_would (wsV RX6 127 RX6 yX6_reasonFor wsX6_reasonFor) := goodIn_app (goodIn_of _ (by decide +kernel)) ggX6_would_X6_reasonFor
theorem dX6_would_0 : decode cX6_would 0 = .ok (.aload_n 0, 1) := by decide +kernel
theorem dX6_would_1 : decode cX6_would 1 = .ok (.iload_n 1, 1) := by decide +kernel
theorem dX6_would_2 : decode cX6_would 2 = .ok (.invokevirtual 134, 3) := by decide +kernel
theorem dX6_would_5 : decode cX6_would 5 = .ok (.istore_n 2, 1) := by decide +kernel
theorem dX6_would_6 : decode cX6_would 6 = .ok (.iload_n 2, 1) := by decide +kernel
theorem dX6_would_7 : decode cX6_would 7 = .ok (.ifCond .ge 7, 3) := by decide +kernel
theorem dX6_would_10 : decode cX6_would 10 = .ok (.iload_n 2, 1) := by decide +kernel
theorem dX6_would_11 : decode cX6_would 11 = .ok (.goto 14, 3) := by decide +kernel
theorem dX6_would_14 : decode cX6_would 14 = .ok (.aload_n 0, 1) := by decide +kernel
theorem dX6_would_15 : decode cX6_would 15 = .ok (.iload_n 1, 1) := by decide +kernel
theorem dX6_would_16 : decode cX6_would 16 = .ok (.aload_n 0, 1) := by decide +kernel
theorem dX6_would_17 : decode cX6_would 17 = .ok (.getfield 7, 3) := by decide +kernel
theorem dX6_would_20 : decode cX6_would 20 = .ok (.iconst 0, 1) := by decide +kernel
theorem dX6_would_21 : decode cX6_would 21 = .ok (.iaload, 1) := by decide +kernel
theorem dX6_would_22 : decode cX6_would 22 = .ok (.invokevirtual 127, 3) := by decide +kernel
theorem dX6_would_25 : decode cX6_would 25 = .ok (.ireturn, 1) := by decide +kernel
set_option maxRecDepth 20000 in
theorem ggX6_triple_X6_isTransaction : GoodIn wsX6_triple wsX6_isTransaction := goodIn_r _ [9, 1, 61, 62, 63, 64, 65, 66, 67, 68, 69, 70, 71, 72, 73, 74, 75, 76] (by decide +kernel) (by decide +kernel)
set_option maxRecDepth 20000 in
theorem gX6_triple_X6_isTransaction : GoodIn wsX6_triple (wsV RX6 101 RX6 yX6_isTransaction wsX6_isTransaction) := goodIn_app (goodIn_of _ (by decide +kernel)) ggX6_triple_X6_isTransaction
set_option maxRecDepth 20000 in
theorem ggX6_triple_X6_in : GoodIn wsX6_triple wsX6_in := goodIn_r _ [12] (by decide +kernel) (by decide +kernel)
set_option maxRecDepth 20000 in
theorem gX6_triple_X6_in : GoodIn wsX6_triple (va_wsS RX6 36 yX6_in wsX6_in) := goodIn_app (goodIn_of _ (by decide +kernel)) ggX6_triple_X6_in
set_option maxRecDepth 20000 in
theorem ggX6_triple_X6_isIn : GoodIn wsX6_triple wsX6_isIn := goodIn_r _ [16, 17, 18, 19, 8, 20, 1, 61, 62, 63, 64, 65, 66, 67, 68, 69, 70, 71, 72, 73, 74, 75, 76] (by decide +kernel) (by decide +kernel)
set_option maxRecDepth 20000 in
theorem gX6_triple_X6_isIn : GoodIn wsX6_triple (wsV RX6 51 RX6 yX6_isIn wsX6_isIn) := goodIn_app (goodIn_of _ (by decide +kernel)) ggX6_triple_X6_isIn
set_option maxRecDepth 20000 in
theorem ggX6_triple_X6_reasonFor : GoodIn wsX6_triple wsX6_reasonFor := goodIn_r _ [24, 1, 25, 26, 27, 8, 28, 17, 18, 19, 20, 29, 30, 31, 32, 13, 14, 15, 16, 33, 34, 35, 36, 37, 38, 39, 40, 2, 3, 4, 41, 42, 43, 44, 45, 46, 47, 48, 49, 50, 51, 52, 53, 54, 55, 56, 57, 58, 59, 60, 61, 62, 63, 64, 65, 66, 67, 68, 69, 70, 71, 72, 73, 74, 75, 76] (by decide +kernel) (by decide +kernel)
set_option maxRecDepth 20000 in
theorem gX6_triple_X6_reasonFor : GoodIn wsX6_triple (wsV RX6 127 RX6 yX6_reasonFor wsX6_reasonFor) := goodIn_app (goodIn_of _ (by decide +kernel)) ggX6_triple_X6_reasonFor
theorem dX6_triple_0 : decode cX6_triple 0 = .ok (.aload_n 0, 1) := by decide +kernel
theorem dX6_triple_1 : decode cX6_triple 1 = .ok (.iload_n 1, 1) := by decide +kernel
theorem dX6_triple_2 : decode cX6_triple 2 = .ok (.invokevirtual 101, 3) := by decide +kernel
theorem dX6_triple_5 : decode cX6_triple 5 = .ok (.ifCond .ne 5, 3) := by decide +kernel
theorem dX6_triple_8 : decode cX6_triple 8 = .ok (.iconst (-1), 1) := by decide +kernel
theorem dX6_triple_9 : decode cX6_triple 9 = .ok (.ireturn, 1) := by decide +kernel
theorem dX6_triple_10 : decode cX6_triple 10 = .ok (.iload_n 2, 1) := by decide +kernel
theorem dX6_triple_11 : decode cX6_triple 11 = .ok (.iconst 0, 1) := by decide +kernel
theorem dX6_triple_12 : decode cX6_triple 12 = .ok (.iconst 2, 1) := by decide +kernel
theorem dX6_triple_13 : decode cX6_triple 13 = .ok (.invokestatic 36, 3) := by decide +kernel
theorem dX6_triple_16 : decode cX6_triple 16 = .ok (.ifCond .ne 6, 3) := by decide +kernel
theorem dX6_triple_19 : decode cX6_triple 19 = .ok (.bipush (-2), 2) := by decide +kernel
theorem dX6_triple_21 : decode cX6_triple 21 = .ok (.ireturn, 1) := by decide +kernel
theorem dX6_triple_22 : decode cX6_triple 22 = .ok (.aload_n 0, 1) := by decide +kernel
theorem dX6_triple_23 : decode cX6_triple 23 = .ok (.iload_n 1, 1) := by decide +kernel
theorem dX6_triple_24 : decode cX6_triple 24 = .ok (.iconst 0, 1) := by decide +kernel
theorem dX6_triple_25 : decode cX6_triple 25 = .ok (.invokevirtual 51, 3) := by decide +kernel
theorem dX6_triple_28 : decode cX6_triple 28 = .ok (.ifCond .ne 6, 3) := by decide +kernel
theorem dX6_triple_31 : decode cX6_triple 31 = .ok (.bipush (-5), 2) := by decide +kernel
theorem dX6_triple_33 : decode cX6_triple 33 = .ok (.ireturn, 1) := by decide +kernel
theorem dX6_triple_34 : decode cX6_triple 34 = .ok (.aload_n 0, 1) := by decide +kernel
theorem dX6_triple_35 : decode cX6_triple 35 = .ok (.iload_n 1, 1) := by decide +kernel
theorem dX6_triple_36 : decode cX6_triple 36 = .ok (.aload_n 0, 1) := by decide +kernel
theorem dX6_triple_37 : decode cX6_triple 37 = .ok (.getfield 7, 3) := by decide +kernel
theorem dX6_triple_40 : decode cX6_triple 40 = .ok (.iconst 0, 1) := by decide +kernel
theorem dX6_triple_41 : decode cX6_triple 41 = .ok (.iaload, 1) := by decide +kernel
theorem dX6_triple_42 : decode cX6_triple 42 = .ok (.invokevirtual 127, 3) := by decide +kernel
theorem dX6_triple_45 : decode cX6_triple 45 = .ok (.iconst 2, 1) := by decide +kernel
theorem dX6_triple_46 : decode cX6_triple 46 = .ok (.if_icmp .eq 6, 3) := by decide +kernel
theorem dX6_triple_49 : decode cX6_triple 49 = .ok (.bipush (-6), 2) := by decide +kernel
theorem dX6_triple_51 : decode cX6_triple 51 = .ok (.ireturn, 1) := by decide +kernel
theorem dX6_triple_52 : decode cX6_triple 52 = .ok (.iload_n 2, 1) := by decide +kernel
theorem dX6_triple_53 : decode cX6_triple 53 = .ok (.ifCond .ne 10, 3) := by decide +kernel
theorem dX6_triple_56 : decode cX6_triple 56 = .ok (.aload_n 0, 1) := by decide +kernel
theorem dX6_triple_57 : decode cX6_triple 57 = .ok (.getfield 74, 3) := by decide +kernel
theorem dX6_triple_60 : decode cX6_triple 60 = .ok (.goto 19, 3) := by decide +kernel
theorem dX6_triple_63 : decode cX6_triple 63 = .ok (.iload_n 2, 1) := by decide +kernel
theorem dX6_triple_64 : decode cX6_triple 64 = .ok (.iconst 1, 1) := by decide +kernel
theorem dX6_triple_65 : decode cX6_triple 65 = .ok (.if_icmp .ne 10, 3) := by decide +kernel
theorem dX6_triple_68 : decode cX6_triple 68 = .ok (.aload_n 0, 1) := by decide +kernel
theorem dX6_triple_69 : decode cX6_triple 69 = .ok (.getfield 77, 3) := by decide +kernel
theorem dX6_triple_72 : decode cX6_triple 72 = .ok (.goto 7, 3) := by decide +kernel
theorem dX6_triple_75 : decode cX6_triple 75 = .ok (.aload_n 0, 1) := by decide +kernel
theorem dX6_triple_76 : decode cX6_triple 76 = .ok (.getfield 80, 3) := by decide +kernel
theorem dX6_triple_79 : decode cX6_triple 79 = .ok (.ireturn, 1) := by decide +kernel
set_option maxRecDepth 20000 in
theorem ggX6_doomed_X6_in : GoodIn wsX6_doomed wsX6_in := goodIn_r _ [5] (by decide +kernel) (by decide +kernel)
set_option maxRecDepth 20000 in
theorem gX6_doomed_X6_in : GoodIn wsX6_doomed (va_wsS RX6 36 yX6_in wsX6_in) := goodIn_app (goodIn_of _ (by decide +kernel)) ggX6_doomed_X6_in
set_option maxRecDepth 20000 in
theorem ggX6_doomed_X6_isIn : GoodIn wsX6_doomed wsX6_isIn := goodIn_r _ [9, 10, 11, 12, 4, 13, 1, 57, 58, 59, 60, 61, 62, 63, 64, 65, 66, 67, 68, 69, 70, 71, 72] (by decide +kernel) (by decide +kernel)
set_option maxRecDepth 20000 in
theorem gX6_doomed_X6_isIn : GoodIn wsX6_doomed (wsV RX6 51 RX6 yX6_isIn wsX6_isIn) := goodIn_app (goodIn_of _ (by decide +kernel)) ggX6_doomed_X6_isIn
set_option maxRecDepth 20000 in
theorem ggX6_doomed_X6_reasonFor : GoodIn wsX6_doomed wsX6_reasonFor := goodIn_r _ [17, 1, 18, 19, 20, 4, 21, 10, 11, 12, 13, 22, 23, 24, 25, 6, 7, 8, 9, 26, 27, 28, 29, 30, 31, 32, 33, 34, 35, 36, 37, 38, 39, 40, 41, 42, 43, 44, 45, 46, 47, 48, 49, 50, 51, 52, 53, 54, 55, 56, 57, 58, 59, 60, 61, 62, 63, 64, 65, 66, 67, 68, 69, 70, 71, 72] (by decide +kernel) (by decide +kernel)
set_option maxRecDepth 20000 in
theorem gX6_doomed_X6_reasonFor : GoodIn wsX6_doomed (wsV RX6 127 RX6 yX6_reasonFor wsX6_reasonFor) := goodIn_app (goodIn_of _ (by decide +kernel)) ggX6_doomed_X6_reasonFor
theorem dX6_doomed_0 : decode cX6_doomed 0 = .ok (.iload_n 1, 1) := by decide +kernel
theorem dX6_doomed_1 : decode cX6_doomed 1 = .ok (.iconst 0, 1) := by decide +kernel
theorem dX6_doomed_2 : decode cX6_doomed 2 = .ok (.iconst 3, 1) := by decide +kernel
theorem dX6_doomed_3 : decode cX6_doomed 3 = .ok (.invokestatic 36, 3) := by decide +kernel
theorem dX6_doomed_6 : decode cX6_doomed 6 = .ok (.ifCond .ne 6, 3) := by decide +kernel
theorem dX6_doomed_9 : decode cX6_doomed 9 = .ok (.bipush (-2), 2) := by decide +kernel
theorem dX6_doomed_11 : decode cX6_doomed 11 = .ok (.ireturn, 1) := by decide +kernel
theorem dX6_doomed_12 : decode cX6_doomed 12 = .ok (.iconst 0, 1) := by decide +kernel
theorem dX6_doomed_13 : decode cX6_doomed 13 = .ok (.istore_n 2, 1) := by decide +kernel
theorem dX6_doomed_14 : decode cX6_doomed 14 = .ok (.iconst 0, 1) := by decide +kernel
theorem dX6_doomed_15 : decode cX6_doomed 15 = .ok (.istore_n 3, 1) := by decide +kernel
theorem dX6_doomed_16 : decode cX6_doomed 16 = .ok (.iload_n 3, 1) := by decide +kernel
theorem dX6_doomed_17 : decode cX6_doomed 17 = .ok (.aload_n 0, 1) := by decide +kernel
theorem dX6_doomed_18 : decode cX6_doomed 18 = .ok (.getfield 7, 3) := by decide +kernel
theorem dX6_doomed_21 : decode cX6_doomed 21 = .ok (.iconst 2, 1) := by decide +kernel
theorem dX6_doomed_22 : decode cX6_doomed 22 = .ok (.iaload, 1) := by decide +kernel
theorem dX6_doomed_23 : decode cX6_doomed 23 = .ok (.if_icmp .ge 49, 3) := by decide +kernel
theorem dX6_doomed_26 : decode cX6_doomed 26 = .ok (.aload_n 0, 1) := by decide +kernel
theorem dX6_doomed_27 : decode cX6_doomed 27 = .ok (.iload_n 3, 1) := by decide +kernel
theorem dX6_doomed_28 : decode cX6_doomed 28 = .ok (.iconst 0, 1) := by decide +kernel
theorem dX6_doomed_29 : decode cX6_doomed 29 = .ok (.invokevirtual 51, 3) := by decide +kernel
theorem dX6_doomed_32 : decode cX6_doomed 32 = .ok (.ifCond .eq 16, 3) := by decide +kernel
theorem dX6_doomed_35 : decode cX6_doomed 35 = .ok (.aload_n 0, 1) := by decide +kernel
theorem dX6_doomed_36 : decode cX6_doomed 36 = .ok (.iload_n 3, 1) := by decide +kernel
theorem dX6_doomed_37 : decode cX6_doomed 37 = .ok (.iload_n 1, 1) := by decide +kernel
theorem dX6_doomed_38 : decode cX6_doomed 38 = .ok (.invokevirtual 127, 3) := by decide +kernel
theorem dX6_doomed_41 : decode cX6_doomed 41 = .ok (.ifCond .le 7, 3) := by decide +kernel
theorem dX6_doomed_44 : decode cX6_doomed 44 = .ok (.iconst 1, 1) := by decide +kernel
theorem dX6_doomed_45 : decode cX6_doomed 45 = .ok (.goto 4, 3) := by decide +kernel
theorem dX6_doomed_48 : decode cX6_doomed 48 = .ok (.iconst 0, 1) := by decide +kernel
theorem dX6_doomed_49 : decode cX6_doomed 49 = .ok (.istore 4, 2) := by decide +kernel
theorem dX6_doomed_51 : decode cX6_doomed 51 = .ok (.iload_n 2, 1) := by decide +kernel
theorem dX6_doomed_52 : decode cX6_doomed 52 = .ok (.iload 4, 2) := by decide +kernel
theorem dX6_doomed_54 : decode cX6_doomed 54 = .ok (.ifCond .eq 9, 3) := by decide +kernel
theorem dX6_doomed_57 : decode cX6_doomed 57 = .ok (.iconst 1, 1) := by decide +kernel
theorem dX6_doomed_58 : decode cX6_doomed 58 = .ok (.iload_n 3, 1) := by decide +kernel
theorem dX6_doomed_59 : decode cX6_doomed 59 = .ok (.ishl, 1) := by decide +kernel
theorem dX6_doomed_60 : decode cX6_doomed 60 = .ok (.goto 4, 3) := by decide +kernel
theorem dX6_doomed_63 : decode cX6_doomed 63 = .ok (.iconst 0, 1) := by decide +kernel
theorem dX6_doomed_64 : decode cX6_doomed 64 = .ok (.ior, 1) := by decide +kernel
theorem dX6_doomed_65 : decode cX6_doomed 65 = .ok (.istore_n 2, 1) := by decide +kernel
theorem dX6_doomed_66 : decode cX6_doomed 66 = .ok (.iinc 3 1, 3) := by decide +kernel
theorem dX6_doomed_69 : decode cX6_doomed 69 = .ok (.goto (-53), 3) := by decide +kernel
theorem dX6_doomed_72 : decode cX6_doomed 72 = .ok (.iload_n 2, 1) := by decide +kernel
theorem dX6_doomed_73 : decode cX6_doomed 73 = .ok (.ireturn, 1) := by decide +kernel
set_option maxRecDepth 20000 in
theorem ggX6_put_X6_in : GoodIn wsX6_put wsX6_in := goodIn_r _ [7] (by decide +kernel) (by decide +kernel)
set_option maxRecDepth 20000 in
theorem gX6_put_X6_in : GoodIn wsX6_put (va_wsS RX6 36 yX6_in wsX6_in) := goodIn_app (goodIn_of _ (by decide +kernel)) ggX6_put_X6_in
theorem dX6_put_0 : decode cX6_put 0 = .ok (.iconst 0, 1) := by decide +kernel
theorem dX6_put_1 : decode cX6_put 1 = .ok (.istore_n 3, 1) := by decide +kernel
theorem dX6_put_2 : decode cX6_put 2 = .ok (.lload_n 1, 1) := by decide +kernel
theorem dX6_put_3 : decode cX6_put 3 = .ok (.lstore 4, 2) := by decide +kernel
theorem dX6_put_5 : decode cX6_put 5 = .ok (.iconst 1, 1) := by decide +kernel
theorem dX6_put_6 : decode cX6_put 6 = .ok (.istore 6, 2) := by decide +kernel
theorem dX6_put_8 : decode cX6_put 8 = .ok (.lload 4, 2) := by decide +kernel
theorem dX6_put_10 : decode cX6_put 10 = .ok (.lconst 0, 1) := by decide +kernel
theorem dX6_put_11 : decode cX6_put 11 = .ok (.lcmp, 1) := by decide +kernel
theorem dX6_put_12 : decode cX6_put 12 = .ok (.ifCond .eq 37, 3) := by decide +kernel
theorem dX6_put_15 : decode cX6_put 15 = .ok (.iload 6, 2) := by decide +kernel
theorem dX6_put_17 : decode cX6_put 17 = .ok (.ifCond .eq 32, 3) := by decide +kernel
theorem dX6_put_20 : decode cX6_put 20 = .ok (.lload 4, 2) := by decide +kernel
theorem dX6_put_22 : decode cX6_put 22 = .ok (.ldc2_w 180, 3) := by decide +kernel
theorem dX6_put_25 : decode cX6_put 25 = .ok (.land, 1) := by decide +kernel
theorem dX6_put_26 : decode cX6_put 26 = .ok (.l2i, 1) := by decide +kernel
theorem dX6_put_27 : decode cX6_put 27 = .ok (.bipush 33, 2) := by decide +kernel
theorem dX6_put_29 : decode cX6_put 29 = .ok (.bipush 126, 2) := by decide +kernel
theorem dX6_put_31 : decode cX6_put 31 = .ok (.invokestatic 36, 3) := by decide +kernel
theorem dX6_put_34 : decode cX6_put 34 = .ok (.istore 6, 2) := by decide +kernel
theorem dX6_put_36 : decode cX6_put 36 = .ok (.lload 4, 2) := by decide +kernel
theorem dX6_put_38 : decode cX6_put 38 = .ok (.bipush 8, 2) := by decide +kernel
theorem dX6_put_40 : decode cX6_put 40 = .ok (.lushr, 1) := by decide +kernel
theorem dX6_put_41 : decode cX6_put 41 = .ok (.lstore 4, 2) := by decide +kernel
theorem dX6_put_43 : decode cX6_put 43 = .ok (.iinc 3 1, 3) := by decide +kernel
theorem dX6_put_46 : decode cX6_put 46 = .ok (.goto (-38), 3) := by decide +kernel
theorem dX6_put_49 : decode cX6_put 49 = .ok (.iload_n 3, 1) := by decide +kernel
theorem dX6_put_50 : decode cX6_put 50 = .ok (.ifCond .eq 8, 3) := by decide +kernel
theorem dX6_put_53 : decode cX6_put 53 = .ok (.iload 6, 2) := by decide +kernel
theorem dX6_put_55 : decode cX6_put 55 = .ok (.ifCond .ne 6, 3) := by decide +kernel
theorem dX6_put_58 : decode cX6_put 58 = .ok (.bipush (-2), 2) := by decide +kernel
theorem dX6_put_60 : decode cX6_put 60 = .ok (.ireturn, 1) := by decide +kernel
theorem dX6_put_61 : decode cX6_put 61 = .ok (.aload_n 0, 1) := by decide +kernel
theorem dX6_put_62 : decode cX6_put 62 = .ok (.getfield 168, 3) := by decide +kernel
theorem dX6_put_65 : decode cX6_put 65 = .ok (.iload_n 3, 1) := by decide +kernel
theorem dX6_put_66 : decode cX6_put 66 = .ok (.iadd, 1) := by decide +kernel
theorem dX6_put_67 : decode cX6_put 67 = .ok (.bipush 80, 2) := by decide +kernel
theorem dX6_put_69 : decode cX6_put 69 = .ok (.if_icmp .le 6, 3) := by decide +kernel
theorem dX6_put_72 : decode cX6_put 72 = .ok (.bipush (-4), 2) := by decide +kernel
theorem dX6_put_74 : decode cX6_put 74 = .ok (.ireturn, 1) := by decide +kernel
theorem dX6_put_75 : decode cX6_put 75 = .ok (.iload_n 3, 1) := by decide +kernel
theorem dX6_put_76 : decode cX6_put 76 = .ok (.iconst 1, 1) := by decide +kernel
theorem dX6_put_77 : decode cX6_put 77 = .ok (.isub, 1) := by decide +kernel
theorem dX6_put_78 : decode cX6_put 78 = .ok (.istore 7, 2) := by decide +kernel
theorem dX6_put_80 : decode cX6_put 80 = .ok (.iload 7, 2) := by decide +kernel
theorem dX6_put_82 : decode cX6_put 82 = .ok (.ifCond .lt 41, 3) := by decide +kernel
theorem dX6_put_85 : decode cX6_put 85 = .ok (.aload_n 0, 1) := by decide +kernel
theorem dX6_put_86 : decode cX6_put 86 = .ok (.getfield 23, 3) := by decide +kernel
theorem dX6_put_89 : decode cX6_put 89 = .ok (.aload_n 0, 1) := by decide +kernel
theorem dX6_put_90 : decode cX6_put 90 = .ok (.getfield 168, 3) := by decide +kernel
theorem dX6_put_93 : decode cX6_put 93 = .ok (.lload_n 1, 1) := by decide +kernel
theorem dX6_put_94 : decode cX6_put 94 = .ok (.bipush 8, 2) := by decide +kernel
theorem dX6_put_96 : decode cX6_put 96 = .ok (.iload 7, 2) := by decide +kernel
theorem dX6_put_98 : decode cX6_put 98 = .ok (.imul, 1) := by decide +kernel
theorem dX6_put_99 : decode cX6_put 99 = .ok (.lushr, 1) := by decide +kernel
theorem dX6_put_100 : decode cX6_put 100 = .ok (.ldc2_w 180, 3) := by decide +kernel
theorem dX6_put_103 : decode cX6_put 103 = .ok (.land, 1) := by decide +kernel
theorem dX6_put_104 : decode cX6_put 104 = .ok (.l2i, 1) := by decide +kernel
theorem dX6_put_105 : decode cX6_put 105 = .ok (.i2c, 1) := by decide +kernel
theorem dX6_put_106 : decode cX6_put 106 = .ok (.castore, 1) := by decide +kernel
theorem dX6_put_107 : decode cX6_put 107 = .ok (.aload_n 0, 1) := by decide +kernel
theorem dX6_put_108 : decode cX6_put 108 = .ok (.dup, 1) := by decide +kernel
theorem dX6_put_109 : decode cX6_put 109 = .ok (.getfield 168, 3) := by decide +kernel
theorem dX6_put_112 : decode cX6_put 112 = .ok (.iconst 1, 1) := by decide +kernel
theorem dX6_put_113 : decode cX6_put 113 = .ok (.iadd, 1) := by decide +kernel
theorem dX6_put_114 : decode cX6_put 114 = .ok (.putfield 168, 3) := by decide +kernel
theorem dX6_put_117 : decode cX6_put 117 = .ok (.iinc 7 (-1), 3) := by decide +kernel
theorem dX6_put_120 : decode cX6_put 120 = .ok (.goto (-40), 3) := by decide +kernel
theorem dX6_put_123 : decode cX6_put 123 = .ok (.aload_n 0, 1) := by decide +kernel
theorem dX6_put_124 : decode cX6_put 124 = .ok (.getfield 168, 3) := by decide +kernel
theorem dX6_put_127 : decode cX6_put 127 = .ok (.ireturn, 1) := by decide +kernel
theorem dX6_wipe_0 : decode cX6_wipe 0 = .ok (.aload_n 0, 1) := by decide +kernel
theorem dX6_wipe_1 : decode cX6_wipe 1 = .ok (.getfield 168, 3) := by decide +kernel
theorem dX6_wipe_4 : decode cX6_wipe 4 = .ok (.istore_n 1, 1) := by decide +kernel
theorem dX6_wipe_5 : decode cX6_wipe 5 = .ok (.aload_n 0, 1) := by decide +kernel
theorem dX6_wipe_6 : decode cX6_wipe 6 = .ok (.iconst 0, 1) := by decide +kernel
theorem dX6_wipe_7 : decode cX6_wipe 7 = .ok (.putfield 168, 3) := by decide +kernel
theorem dX6_wipe_10 : decode cX6_wipe 10 = .ok (.iload_n 1, 1) := by decide +kernel
theorem dX6_wipe_11 : decode cX6_wipe 11 = .ok (.ireturn, 1) := by decide +kernel
theorem dX6_letter_0 : decode cX6_letter 0 = .ok (.aload_n 0, 1) := by decide +kernel
theorem dX6_letter_1 : decode cX6_letter 1 = .ok (.getfield 182, 3) := by decide +kernel
theorem dX6_letter_4 : decode cX6_letter 4 = .ok (.aload_n 0, 1) := by decide +kernel
theorem dX6_letter_5 : decode cX6_letter 5 = .ok (.getfield 168, 3) := by decide +kernel
theorem dX6_letter_8 : decode cX6_letter 8 = .ok (.if_icmp .ge 15, 3) := by decide +kernel
theorem dX6_letter_11 : decode cX6_letter 11 = .ok (.aload_n 0, 1) := by decide +kernel
theorem dX6_letter_12 : decode cX6_letter 12 = .ok (.getfield 23, 3) := by decide +kernel
theorem dX6_letter_15 : decode cX6_letter 15 = .ok (.aload_n 0, 1) := by decide +kernel
theorem dX6_letter_16 : decode cX6_letter 16 = .ok (.getfield 182, 3) := by decide +kernel
theorem dX6_letter_19 : decode cX6_letter 19 = .ok (.caload, 1) := by decide +kernel
theorem dX6_letter_20 : decode cX6_letter 20 = .ok (.goto 5, 3) := by decide +kernel
theorem dX6_letter_23 : decode cX6_letter 23 = .ok (.bipush (-6), 2) := by decide +kernel
theorem dX6_letter_25 : decode cX6_letter 25 = .ok (.ireturn, 1) := by decide +kernel
theorem dX6_wants_0 : decode cX6_wants 0 = .ok (.aload_n 0, 1) := by decide +kernel
theorem dX6_wants_1 : decode cX6_wants 1 = .ok (.getfield 185, 3) := by decide +kernel
theorem dX6_wants_4 : decode cX6_wants 4 = .ok (.bipush (-6), 2) := by decide +kernel
theorem dX6_wants_6 : decode cX6_wants 6 = .ok (.if_icmp .ne 30, 3) := by decide +kernel
theorem dX6_wants_9 : decode cX6_wants 9 = .ok (.aload_n 0, 1) := by decide +kernel
theorem dX6_wants_10 : decode cX6_wants 10 = .ok (.iload_n 1, 1) := by decide +kernel
theorem dX6_wants_11 : decode cX6_wants 11 = .ok (.ifCond .eq 8, 3) := by decide +kernel
theorem dX6_wants_14 : decode cX6_wants 14 = .ok (.bipush (-6), 2) := by decide +kernel
theorem dX6_wants_16 : decode cX6_wants 16 = .ok (.goto 7, 3) := by decide +kernel
theorem dX6_wants_19 : decode cX6_wants 19 = .ok (.aload_n 0, 1) := by decide +kernel
theorem dX6_wants_20 : decode cX6_wants 20 = .ok (.getfield 182, 3) := by decide +kernel
theorem dX6_wants_23 : decode cX6_wants 23 = .ok (.putfield 185, 3) := by decide +kernel
theorem dX6_wants_26 : decode cX6_wants 26 = .ok (.aload_n 0, 1) := by decide +kernel
theorem dX6_wants_27 : decode cX6_wants 27 = .ok (.dup, 1) := by decide +kernel
theorem dX6_wants_28 : decode cX6_wants 28 = .ok (.getfield 182, 3) := by decide +kernel
theorem dX6_wants_31 : decode cX6_wants 31 = .ok (.iconst 1, 1) := by decide +kernel
theorem dX6_wants_32 : decode cX6_wants 32 = .ok (.iadd, 1) := by decide +kernel
theorem dX6_wants_33 : decode cX6_wants 33 = .ok (.putfield 182, 3) := by decide +kernel
theorem dX6_wants_36 : decode cX6_wants 36 = .ok (.return_, 1) := by decide +kernel
set_option maxRecDepth 20000 in
theorem ggX6_number_X6_letter : GoodIn wsX6_number wsX6_letter := goodIn_r _ [7, 2, 8, 9, 17, 18, 19, 20, 21, 22, 23, 24, 25, 26, 27, 28, 29, 30, 31, 32] (by decide +kernel) (by decide +kernel)
set_option maxRecDepth 20000 in
theorem gX6_number_X6_letter : GoodIn wsX6_number (wsV RX6 188 RX6 yX6_letter wsX6_letter) := goodIn_app (goodIn_of _ (by decide +kernel)) ggX6_number_X6_letter
set_option maxRecDepth 20000 in
theorem ggX6_number_X6_in : GoodIn wsX6_number wsX6_in := goodIn_r _ [12] (by decide +kernel) (by decide +kernel)
set_option maxRecDepth 20000 in
theorem gX6_number_X6_in : GoodIn wsX6_number (va_wsS RX6 36 yX6_in wsX6_in) := goodIn_app (goodIn_of _ (by decide +kernel)) ggX6_number_X6_in
set_option maxRecDepth 20000 in
theorem ggX6_number_X6_wants : GoodIn wsX6_number wsX6_wants := goodIn_r _ [16, 1, 2, 17, 18, 19, 20, 21, 22, 23, 24, 25, 26, 27, 28, 29, 30, 31, 32] (by decide +kernel) (by decide +kernel)
set_option maxRecDepth 20000 in
theorem gX6_number_X6_wants : GoodIn wsX6_number (wsV RX6 191 RX6 yX6_wants wsX6_wants) := goodIn_app (goodIn_of _ (by decide +kernel)) ggX6_number_X6_wants
theorem dX6_number_0 : decode cX6_number 0 = .ok (.aload_n 0, 1) := by decide +kernel
theorem dX6_number_1 : decode cX6_number 1 = .ok (.invokevirtual 188, 3) := by decide +kernel
theorem dX6_number_4 : decode cX6_number 4 = .ok (.bipush 48, 2) := by decide +kernel
theorem dX6_number_6 : decode cX6_number 6 = .ok (.isub, 1) := by decide +kernel
theorem dX6_number_7 : decode cX6_number 7 = .ok (.istore_n 1, 1) := by decide +kernel
theorem dX6_number_8 : decode cX6_number 8 = .ok (.aload_n 0, 1) := by decide +kernel
theorem dX6_number_9 : decode cX6_number 9 = .ok (.iload_n 1, 1) := by decide +kernel
theorem dX6_number_10 : decode cX6_number 10 = .ok (.iconst 0, 1) := by decide +kernel
theorem dX6_number_11 : decode cX6_number 11 = .ok (.bipush 9, 2) := by decide +kernel
theorem dX6_number_13 : decode cX6_number 13 = .ok (.invokestatic 36, 3) := by decide +kernel
theorem dX6_number_16 : decode cX6_number 16 = .ok (.invokevirtual 191, 3) := by decide +kernel
theorem dX6_number_19 : decode cX6_number 19 = .ok (.aload_n 0, 1) := by decide +kernel
theorem dX6_number_20 : decode cX6_number 20 = .ok (.invokevirtual 188, 3) := by decide +kernel
theorem dX6_number_23 : decode cX6_number 23 = .ok (.bipush 48, 2) := by decide +kernel
theorem dX6_number_25 : decode cX6_number 25 = .ok (.isub, 1) := by decide +kernel
theorem dX6_number_26 : decode cX6_number 26 = .ok (.istore_n 2, 1) := by decide +kernel
theorem dX6_number_27 : decode cX6_number 27 = .ok (.aload_n 0, 1) := by decide +kernel
theorem dX6_number_28 : decode cX6_number 28 = .ok (.getfield 185, 3) := by decide +kernel
theorem dX6_number_31 : decode cX6_number 31 = .ok (.bipush (-6), 2) := by decide +kernel
theorem dX6_number_33 : decode cX6_number 33 = .ok (.if_icmp .ne 57, 3) := by decide +kernel
theorem dX6_number_36 : decode cX6_number 36 = .ok (.iload_n 1, 1) := by decide +kernel
theorem dX6_number_37 : decode cX6_number 37 = .ok (.ifCond .le 53, 3) := by decide +kernel
theorem dX6_number_40 : decode cX6_number 40 = .ok (.iload_n 2, 1) := by decide +kernel
theorem dX6_number_41 : decode cX6_number 41 = .ok (.iconst 0, 1) := by decide +kernel
theorem dX6_number_42 : decode cX6_number 42 = .ok (.bipush 9, 2) := by decide +kernel
theorem dX6_number_44 : decode cX6_number 44 = .ok (.invokestatic 36, 3) := by decide +kernel
theorem dX6_number_47 : decode cX6_number 47 = .ok (.ifCond .eq 43, 3) := by decide +kernel
theorem dX6_number_50 : decode cX6_number 50 = .ok (.bipush 10, 2) := by decide +kernel
theorem dX6_number_52 : decode cX6_number 52 = .ok (.iload_n 1, 1) := by decide +kernel
theorem dX6_number_53 : decode cX6_number 53 = .ok (.imul, 1) := by decide +kernel
theorem dX6_number_54 : decode cX6_number 54 = .ok (.iload_n 2, 1) := by decide +kernel
theorem dX6_number_55 : decode cX6_number 55 = .ok (.iadd, 1) := by decide +kernel
theorem dX6_number_56 : decode cX6_number 56 = .ok (.sipush 999, 3) := by decide +kernel
theorem dX6_number_59 : decode cX6_number 59 = .ok (.if_icmp .gt 31, 3) := by decide +kernel
theorem dX6_number_62 : decode cX6_number 62 = .ok (.bipush 10, 2) := by decide +kernel
theorem dX6_number_64 : decode cX6_number 64 = .ok (.iload_n 1, 1) := by decide +kernel
theorem dX6_number_65 : decode cX6_number 65 = .ok (.imul, 1) := by decide +kernel
theorem dX6_number_66 : decode cX6_number 66 = .ok (.iload_n 2, 1) := by decide +kernel
theorem dX6_number_67 : decode cX6_number 67 = .ok (.iadd, 1) := by decide +kernel
theorem dX6_number_68 : decode cX6_number 68 = .ok (.istore_n 1, 1) := by decide +kernel
theorem dX6_number_69 : decode cX6_number 69 = .ok (.aload_n 0, 1) := by decide +kernel
theorem dX6_number_70 : decode cX6_number 70 = .ok (.dup, 1) := by decide +kernel
theorem dX6_number_71 : decode cX6_number 71 = .ok (.getfield 182, 3) := by decide +kernel
theorem dX6_number_74 : decode cX6_number 74 = .ok (.iconst 1, 1) := by decide +kernel
theorem dX6_number_75 : decode cX6_number 75 = .ok (.iadd, 1) := by decide +kernel
theorem dX6_number_76 : decode cX6_number 76 = .ok (.putfield 182, 3) := by decide +kernel
theorem dX6_number_79 : decode cX6_number 79 = .ok (.aload_n 0, 1) := by decide +kernel
theorem dX6_number_80 : decode cX6_number 80 = .ok (.invokevirtual 188, 3) := by decide +kernel
theorem dX6_number_83 : decode cX6_number 83 = .ok (.bipush 48, 2) := by decide +kernel
theorem dX6_number_85 : decode cX6_number 85 = .ok (.isub, 1) := by decide +kernel
theorem dX6_number_86 : decode cX6_number 86 = .ok (.istore_n 2, 1) := by decide +kernel
theorem dX6_number_87 : decode cX6_number 87 = .ok (.goto (-60), 3) := by decide +kernel
theorem dX6_number_90 : decode cX6_number 90 = .ok (.iload_n 1, 1) := by decide +kernel
theorem dX6_number_91 : decode cX6_number 91 = .ok (.ireturn, 1) := by decide +kernel
set_option maxRecDepth 20000 in
theorem ggX6_readOrder_X6_letter : GoodIn wsX6_readOrder wsX6_letter := goodIn_r _ [7, 8, 9, 10, 23, 24, 25, 26, 27, 28, 29, 30, 31, 32, 33, 34, 35, 36, 37, 38] (by decide +kernel) (by decide +kernel)
set_option maxRecDepth 20000 in
theorem gX6_readOrder_X6_letter : GoodIn wsX6_readOrder (wsV RX6 188 RX6 yX6_letter wsX6_letter) := goodIn_app (goodIn_of _ (by decide +kernel)) ggX6_readOrder_X6_letter
set_option maxRecDepth 20000 in
theorem ggX6_readOrder_X6_wants : GoodIn wsX6_readOrder wsX6_wants := goodIn_r _ [14, 15, 8, 23, 24, 25, 26, 27, 28, 29, 30, 31, 32, 33, 34, 35, 36, 37, 38] (by decide +kernel) (by decide +kernel)
set_option maxRecDepth 20000 in
theorem gX6_readOrder_X6_wants : GoodIn wsX6_readOrder (wsV RX6 191 RX6 yX6_wants wsX6_wants) := goodIn_app (goodIn_of _ (by decide +kernel)) ggX6_readOrder_X6_wants
set_option maxRecDepth 20000 in
theorem ggX6_readOrder_X6_number : GoodIn wsX6_readOrder wsX6_number := goodIn_r _ [19, 15, 8, 3, 4, 5, 6, 7, 9, 10, 20, 21, 22, 11, 12, 13, 14, 23, 24, 25, 26, 27, 28, 29, 30, 31, 32, 33, 34, 35, 36, 37, 38] (by decide +kernel) (by decide +kernel)
set_option maxRecDepth 20000 in
theorem gX6_readOrder_X6_number : GoodIn wsX6_readOrder (wsV RX6 198 RX6 yX6_number wsX6_number) := goodIn_app (goodIn_of _ (by decide +kernel)) ggX6_readOrder_X6_number
theorem dX6_readOrder_0 : decode cX6_readOrder 0 = .ok (.iconst 4, 1) := by decide +kernel
theorem dX6_readOrder_1 : decode cX6_readOrder 1 = .ok (.aload_n 0, 1) := by decide +kernel
theorem dX6_readOrder_2 : decode cX6_readOrder 2 = .ok (.getfield 195, 3) := by decide +kernel
theorem dX6_readOrder_5 : decode cX6_readOrder 5 = .ok (.imul, 1) := by decide +kernel
theorem dX6_readOrder_6 : decode cX6_readOrder 6 = .ok (.istore_n 1, 1) := by decide +kernel
theorem dX6_readOrder_7 : decode cX6_readOrder 7 = .ok (.aload_n 0, 1) := by decide +kernel
theorem dX6_readOrder_8 : decode cX6_readOrder 8 = .ok (.invokevirtual 188, 3) := by decide +kernel
theorem dX6_readOrder_11 : decode cX6_readOrder 11 = .ok (.istore_n 2, 1) := by decide +kernel
theorem dX6_readOrder_12 : decode cX6_readOrder 12 = .ok (.iload_n 2, 1) := by decide +kernel
theorem dX6_readOrder_13 : decode cX6_readOrder 13 = .ok (.bipush 119, 2) := by decide +kernel
theorem dX6_readOrder_15 : decode cX6_readOrder 15 = .ok (.if_icmp .ne 7, 3) := by decide +kernel
theorem dX6_readOrder_18 : decode cX6_readOrder 18 = .ok (.iconst 1, 1) := by decide +kernel
theorem dX6_readOrder_19 : decode cX6_readOrder 19 = .ok (.goto 4, 3) := by decide +kernel
theorem dX6_readOrder_22 : decode cX6_readOrder 22 = .ok (.iconst 0, 1) := by decide +kernel
theorem dX6_readOrder_23 : decode cX6_readOrder 23 = .ok (.istore_n 3, 1) := by decide +kernel
theorem dX6_readOrder_24 : decode cX6_readOrder 24 = .ok (.iload_n 2, 1) := by decide +kernel
theorem dX6_readOrder_25 : decode cX6_readOrder 25 = .ok (.bipush 114, 2) := by decide +kernel
theorem dX6_readOrder_27 : decode cX6_readOrder 27 = .ok (.if_icmp .eq 7, 3) := by decide +kernel
theorem dX6_readOrder_30 : decode cX6_readOrder 30 = .ok (.iload_n 3, 1) := by decide +kernel
theorem dX6_readOrder_31 : decode cX6_readOrder 31 = .ok (.ifCond .eq 7, 3) := by decide +kernel
theorem dX6_readOrder_34 : decode cX6_readOrder 34 = .ok (.iconst 1, 1) := by decide +kernel
theorem dX6_readOrder_35 : decode cX6_readOrder 35 = .ok (.goto 4, 3) := by decide +kernel
theorem dX6_readOrder_38 : decode cX6_readOrder 38 = .ok (.iconst 0, 1) := by decide +kernel
theorem dX6_readOrder_39 : decode cX6_readOrder 39 = .ok (.istore 4, 2) := by decide +kernel
theorem dX6_readOrder_41 : decode cX6_readOrder 41 = .ok (.iload 4, 2) := by decide +kernel
theorem dX6_readOrder_43 : decode cX6_readOrder 43 = .ok (.ifCond .ne 15, 3) := by decide +kernel
theorem dX6_readOrder_46 : decode cX6_readOrder 46 = .ok (.iload_n 2, 1) := by decide +kernel
theorem dX6_readOrder_47 : decode cX6_readOrder 47 = .ok (.bipush 99, 2) := by decide +kernel
theorem dX6_readOrder_49 : decode cX6_readOrder 49 = .ok (.if_icmp .eq 9, 3) := by decide +kernel
theorem dX6_readOrder_52 : decode cX6_readOrder 52 = .ok (.iload_n 2, 1) := by decide +kernel
theorem dX6_readOrder_53 : decode cX6_readOrder 53 = .ok (.bipush 120, 2) := by decide +kernel
theorem dX6_readOrder_55 : decode cX6_readOrder 55 = .ok (.if_icmp .ne 7, 3) := by decide +kernel
theorem dX6_readOrder_58 : decode cX6_readOrder 58 = .ok (.iconst 1, 1) := by decide +kernel
theorem dX6_readOrder_59 : decode cX6_readOrder 59 = .ok (.goto 4, 3) := by decide +kernel
theorem dX6_readOrder_62 : decode cX6_readOrder 62 = .ok (.iconst 0, 1) := by decide +kernel
theorem dX6_readOrder_63 : decode cX6_readOrder 63 = .ok (.istore 5, 2) := by decide +kernel
theorem dX6_readOrder_65 : decode cX6_readOrder 65 = .ok (.aload_n 0, 1) := by decide +kernel
theorem dX6_readOrder_66 : decode cX6_readOrder 66 = .ok (.iload 5, 2) := by decide +kernel
theorem dX6_readOrder_68 : decode cX6_readOrder 68 = .ok (.ifCond .ne 9, 3) := by decide +kernel
theorem dX6_readOrder_71 : decode cX6_readOrder 71 = .ok (.iload_n 2, 1) := by decide +kernel
theorem dX6_readOrder_72 : decode cX6_readOrder 72 = .ok (.bipush 98, 2) := by decide +kernel
theorem dX6_readOrder_74 : decode cX6_readOrder 74 = .ok (.if_icmp .ne 7, 3) := by decide +kernel
theorem dX6_readOrder_77 : decode cX6_readOrder 77 = .ok (.iconst 1, 1) := by decide +kernel
theorem dX6_readOrder_78 : decode cX6_readOrder 78 = .ok (.goto 4, 3) := by decide +kernel
theorem dX6_readOrder_81 : decode cX6_readOrder 81 = .ok (.iconst 0, 1) := by decide +kernel
theorem dX6_readOrder_82 : decode cX6_readOrder 82 = .ok (.invokevirtual 191, 3) := by decide +kernel
theorem dX6_readOrder_85 : decode cX6_readOrder 85 = .ok (.aload_n 0, 1) := by decide +kernel
theorem dX6_readOrder_86 : decode cX6_readOrder 86 = .ok (.getfield 33, 3) := by decide +kernel
theorem dX6_readOrder_89 : decode cX6_readOrder 89 = .ok (.iload_n 1, 1) := by decide +kernel
theorem dX6_readOrder_90 : decode cX6_readOrder 90 = .ok (.iload_n 2, 1) := by decide +kernel
theorem dX6_readOrder_91 : decode cX6_readOrder 91 = .ok (.iastore, 1) := by decide +kernel
theorem dX6_readOrder_92 : decode cX6_readOrder 92 = .ok (.aload_n 0, 1) := by decide +kernel
theorem dX6_readOrder_93 : decode cX6_readOrder 93 = .ok (.getfield 33, 3) := by decide +kernel
theorem dX6_readOrder_96 : decode cX6_readOrder 96 = .ok (.iload_n 1, 1) := by decide +kernel
theorem dX6_readOrder_97 : decode cX6_readOrder 97 = .ok (.iconst 1, 1) := by decide +kernel
theorem dX6_readOrder_98 : decode cX6_readOrder 98 = .ok (.iadd, 1) := by decide +kernel
theorem dX6_readOrder_99 : decode cX6_readOrder 99 = .ok (.iload 5, 2) := by decide +kernel
theorem dX6_readOrder_101 : decode cX6_readOrder 101 = .ok (.ifCond .eq 10, 3) := by decide +kernel
theorem dX6_readOrder_104 : decode cX6_readOrder 104 = .ok (.aload_n 0, 1) := by decide +kernel
theorem dX6_readOrder_105 : decode cX6_readOrder 105 = .ok (.invokevirtual 198, 3) := by decide +kernel
theorem dX6_readOrder_108 : decode cX6_readOrder 108 = .ok (.goto 4, 3) := by decide +kernel
theorem dX6_readOrder_111 : decode cX6_readOrder 111 = .ok (.iconst 0, 1) := by decide +kernel
theorem dX6_readOrder_112 : decode cX6_readOrder 112 = .ok (.iastore, 1) := by decide +kernel
theorem dX6_readOrder_113 : decode cX6_readOrder 113 = .ok (.iload 4, 2) := by decide +kernel
theorem dX6_readOrder_115 : decode cX6_readOrder 115 = .ok (.ifCond .eq 33, 3) := by decide +kernel
theorem dX6_readOrder_118 : decode cX6_readOrder 118 = .ok (.aload_n 0, 1) := by decide +kernel
theorem dX6_readOrder_119 : decode cX6_readOrder 119 = .ok (.aload_n 0, 1) := by decide +kernel
theorem dX6_readOrder_120 : decode cX6_readOrder 120 = .ok (.invokevirtual 188, 3) := by decide +kernel
theorem dX6_readOrder_123 : decode cX6_readOrder 123 = .ok (.bipush 46, 2) := by decide +kernel
theorem dX6_readOrder_125 : decode cX6_readOrder 125 = .ok (.if_icmp .ne 7, 3) := by decide +kernel
theorem dX6_readOrder_128 : decode cX6_readOrder 128 = .ok (.iconst 1, 1) := by decide +kernel
theorem dX6_readOrder_129 : decode cX6_readOrder 129 = .ok (.goto 4, 3) := by decide +kernel
theorem dX6_readOrder_132 : decode cX6_readOrder 132 = .ok (.iconst 0, 1) := by decide +kernel
theorem dX6_readOrder_133 : decode cX6_readOrder 133 = .ok (.invokevirtual 191, 3) := by decide +kernel
theorem dX6_readOrder_136 : decode cX6_readOrder 136 = .ok (.aload_n 0, 1) := by decide +kernel
theorem dX6_readOrder_137 : decode cX6_readOrder 137 = .ok (.getfield 33, 3) := by decide +kernel
theorem dX6_readOrder_140 : decode cX6_readOrder 140 = .ok (.iload_n 1, 1) := by decide +kernel
theorem dX6_readOrder_141 : decode cX6_readOrder 141 = .ok (.iconst 2, 1) := by decide +kernel
theorem dX6_readOrder_142 : decode cX6_readOrder 142 = .ok (.iadd, 1) := by decide +kernel
theorem dX6_readOrder_143 : decode cX6_readOrder 143 = .ok (.aload_n 0, 1) := by decide +kernel
theorem dX6_readOrder_144 : decode cX6_readOrder 144 = .ok (.invokevirtual 198, 3) := by decide +kernel
theorem dX6_readOrder_147 : decode cX6_readOrder 147 = .ok (.iastore, 1) := by decide +kernel
theorem dX6_readOrder_148 : decode cX6_readOrder 148 = .ok (.iload_n 3, 1) := by decide +kernel
theorem dX6_readOrder_149 : decode cX6_readOrder 149 = .ok (.ifCond .eq 33, 3) := by decide +kernel
theorem dX6_readOrder_152 : decode cX6_readOrder 152 = .ok (.aload_n 0, 1) := by decide +kernel
theorem dX6_readOrder_153 : decode cX6_readOrder 153 = .ok (.aload_n 0, 1) := by decide +kernel
theorem dX6_readOrder_154 : decode cX6_readOrder 154 = .ok (.invokevirtual 188, 3) := by decide +kernel
theorem dX6_readOrder_157 : decode cX6_readOrder 157 = .ok (.bipush 61, 2) := by decide +kernel
theorem dX6_readOrder_159 : decode cX6_readOrder 159 = .ok (.if_icmp .ne 7, 3) := by decide +kernel
theorem dX6_readOrder_162 : decode cX6_readOrder 162 = .ok (.iconst 1, 1) := by decide +kernel
theorem dX6_readOrder_163 : decode cX6_readOrder 163 = .ok (.goto 4, 3) := by decide +kernel
theorem dX6_readOrder_166 : decode cX6_readOrder 166 = .ok (.iconst 0, 1) := by decide +kernel
theorem dX6_readOrder_167 : decode cX6_readOrder 167 = .ok (.invokevirtual 191, 3) := by decide +kernel
theorem dX6_readOrder_170 : decode cX6_readOrder 170 = .ok (.aload_n 0, 1) := by decide +kernel
theorem dX6_readOrder_171 : decode cX6_readOrder 171 = .ok (.getfield 33, 3) := by decide +kernel
theorem dX6_readOrder_174 : decode cX6_readOrder 174 = .ok (.iload_n 1, 1) := by decide +kernel
theorem dX6_readOrder_175 : decode cX6_readOrder 175 = .ok (.iconst 3, 1) := by decide +kernel
theorem dX6_readOrder_176 : decode cX6_readOrder 176 = .ok (.iadd, 1) := by decide +kernel
theorem dX6_readOrder_177 : decode cX6_readOrder 177 = .ok (.aload_n 0, 1) := by decide +kernel
theorem dX6_readOrder_178 : decode cX6_readOrder 178 = .ok (.invokevirtual 198, 3) := by decide +kernel
theorem dX6_readOrder_181 : decode cX6_readOrder 181 = .ok (.iastore, 1) := by decide +kernel
theorem dX6_readOrder_182 : decode cX6_readOrder 182 = .ok (.aload_n 0, 1) := by decide +kernel
theorem dX6_readOrder_183 : decode cX6_readOrder 183 = .ok (.dup, 1) := by decide +kernel
theorem dX6_readOrder_184 : decode cX6_readOrder 184 = .ok (.getfield 195, 3) := by decide +kernel
theorem dX6_readOrder_187 : decode cX6_readOrder 187 = .ok (.iconst 1, 1) := by decide +kernel
theorem dX6_readOrder_188 : decode cX6_readOrder 188 = .ok (.iadd, 1) := by decide +kernel
theorem dX6_readOrder_189 : decode cX6_readOrder 189 = .ok (.putfield 195, 3) := by decide +kernel
theorem dX6_readOrder_192 : decode cX6_readOrder 192 = .ok (.return_, 1) := by decide +kernel
set_option maxRecDepth 20000 in
theorem ggX6_readPad_X6_readOrder : GoodIn wsX6_readPad wsX6_readOrder := goodIn_r _ [9, 1, 10, 11, 12, 13, 8, 14, 2, 4, 15, 16, 17, 18, 19, 3, 20, 21, 22, 23, 24, 25, 26, 27, 28, 29, 30, 31, 32, 33, 34, 35, 36, 37, 38, 39, 40, 41, 42] (by decide +kernel) (by decide +kernel)
set_option maxRecDepth 20000 in
theorem gX6_readPad_X6_readOrder : GoodIn wsX6_readPad (wsV RX6 201 RX6 yX6_readOrder wsX6_readOrder) := goodIn_app (goodIn_of _ (by decide +kernel)) ggX6_readPad_X6_readOrder
set_option maxRecDepth 20000 in
theorem ggX6_readPad_X6_letter : GoodIn wsX6_readPad wsX6_letter := goodIn_r _ [14, 2, 4, 15, 27, 28, 29, 30, 31, 32, 33, 34, 35, 36, 37, 38, 39, 40, 41, 42] (by decide +kernel) (by decide +kernel)
set_option maxRecDepth 20000 in
theorem gX6_readPad_X6_letter : GoodIn wsX6_readPad (wsV RX6 188 RX6 yX6_letter wsX6_letter) := goodIn_app (goodIn_of _ (by decide +kernel)) ggX6_readPad_X6_letter
set_option maxRecDepth 20000 in
theorem ggX6_readPad_X6_wants : GoodIn wsX6_readPad wsX6_wants := goodIn_r _ [19, 3, 2, 27, 28, 29, 30, 31, 32, 33, 34, 35, 36, 37, 38, 39, 40, 41, 42] (by decide +kernel) (by decide +kernel)
set_option maxRecDepth 20000 in
theorem gX6_readPad_X6_wants : GoodIn wsX6_readPad (wsV RX6 191 RX6 yX6_wants wsX6_wants) := goodIn_app (goodIn_of _ (by decide +kernel)) ggX6_readPad_X6_wants
theorem dX6_readPad_0 : decode cX6_readPad 0 = .ok (.aload_n 0, 1) := by decide +kernel
theorem dX6_readPad_1 : decode cX6_readPad 1 = .ok (.iconst 0, 1) := by decide +kernel
theorem dX6_readPad_2 : decode cX6_readPad 2 = .ok (.putfield 195, 3) := by decide +kernel
theorem dX6_readPad_5 : decode cX6_readPad 5 = .ok (.aload_n 0, 1) := by decide +kernel
theorem dX6_readPad_6 : decode cX6_readPad 6 = .ok (.iconst 0, 1) := by decide +kernel
theorem dX6_readPad_7 : decode cX6_readPad 7 = .ok (.putfield 182, 3) := by decide +kernel
theorem dX6_readPad_10 : decode cX6_readPad 10 = .ok (.aload_n 0, 1) := by decide +kernel
theorem dX6_readPad_11 : decode cX6_readPad 11 = .ok (.bipush (-6), 2) := by decide +kernel
theorem dX6_readPad_13 : decode cX6_readPad 13 = .ok (.putfield 185, 3) := by decide +kernel
theorem dX6_readPad_16 : decode cX6_readPad 16 = .ok (.iconst 1, 1) := by decide +kernel
theorem dX6_readPad_17 : decode cX6_readPad 17 = .ok (.istore_n 1, 1) := by decide +kernel
theorem dX6_readPad_18 : decode cX6_readPad 18 = .ok (.iload_n 1, 1) := by decide +kernel
theorem dX6_readPad_19 : decode cX6_readPad 19 = .ok (.ifCond .eq 73, 3) := by decide +kernel
theorem dX6_readPad_22 : decode cX6_readPad 22 = .ok (.aload_n 0, 1) := by decide +kernel
theorem dX6_readPad_23 : decode cX6_readPad 23 = .ok (.invokevirtual 201, 3) := by decide +kernel
theorem dX6_readPad_26 : decode cX6_readPad 26 = .ok (.aload_n 0, 1) := by decide +kernel
theorem dX6_readPad_27 : decode cX6_readPad 27 = .ok (.getfield 185, 3) := by decide +kernel
theorem dX6_readPad_30 : decode cX6_readPad 30 = .ok (.bipush (-6), 2) := by decide +kernel
theorem dX6_readPad_32 : decode cX6_readPad 32 = .ok (.if_icmp .ne 18, 3) := by decide +kernel
theorem dX6_readPad_35 : decode cX6_readPad 35 = .ok (.aload_n 0, 1) := by decide +kernel
theorem dX6_readPad_36 : decode cX6_readPad 36 = .ok (.getfield 182, 3) := by decide +kernel
theorem dX6_readPad_39 : decode cX6_readPad 39 = .ok (.aload_n 0, 1) := by decide +kernel
theorem dX6_readPad_40 : decode cX6_readPad 40 = .ok (.getfield 168, 3) := by decide +kernel
theorem dX6_readPad_43 : decode cX6_readPad 43 = .ok (.if_icmp .ge 7, 3) := by decide +kernel
theorem dX6_readPad_46 : decode cX6_readPad 46 = .ok (.iconst 1, 1) := by decide +kernel
theorem dX6_readPad_47 : decode cX6_readPad 47 = .ok (.goto 4, 3) := by decide +kernel
theorem dX6_readPad_50 : decode cX6_readPad 50 = .ok (.iconst 0, 1) := by decide +kernel
theorem dX6_readPad_51 : decode cX6_readPad 51 = .ok (.istore_n 1, 1) := by decide +kernel
theorem dX6_readPad_52 : decode cX6_readPad 52 = .ok (.iload_n 1, 1) := by decide +kernel
theorem dX6_readPad_53 : decode cX6_readPad 53 = .ok (.ifCond .eq (-35), 3) := by decide +kernel
theorem dX6_readPad_56 : decode cX6_readPad 56 = .ok (.aload_n 0, 1) := by decide +kernel
theorem dX6_readPad_57 : decode cX6_readPad 57 = .ok (.aload_n 0, 1) := by decide +kernel
theorem dX6_readPad_58 : decode cX6_readPad 58 = .ok (.invokevirtual 188, 3) := by decide +kernel
theorem dX6_readPad_61 : decode cX6_readPad 61 = .ok (.bipush 59, 2) := by decide +kernel
theorem dX6_readPad_63 : decode cX6_readPad 63 = .ok (.if_icmp .ne 7, 3) := by decide +kernel
theorem dX6_readPad_66 : decode cX6_readPad 66 = .ok (.iconst 1, 1) := by decide +kernel
theorem dX6_readPad_67 : decode cX6_readPad 67 = .ok (.goto 4, 3) := by decide +kernel
theorem dX6_readPad_70 : decode cX6_readPad 70 = .ok (.iconst 0, 1) := by decide +kernel
theorem dX6_readPad_71 : decode cX6_readPad 71 = .ok (.invokevirtual 191, 3) := by decide +kernel
theorem dX6_readPad_74 : decode cX6_readPad 74 = .ok (.aload_n 0, 1) := by decide +kernel
theorem dX6_readPad_75 : decode cX6_readPad 75 = .ok (.getfield 185, 3) := by decide +kernel
theorem dX6_readPad_78 : decode cX6_readPad 78 = .ok (.bipush (-6), 2) := by decide +kernel
theorem dX6_readPad_80 : decode cX6_readPad 80 = .ok (.if_icmp .ne 7, 3) := by decide +kernel
theorem dX6_readPad_83 : decode cX6_readPad 83 = .ok (.iconst 1, 1) := by decide +kernel
theorem dX6_readPad_84 : decode cX6_readPad 84 = .ok (.goto 4, 3) := by decide +kernel
theorem dX6_readPad_87 : decode cX6_readPad 87 = .ok (.iconst 0, 1) := by decide +kernel
theorem dX6_readPad_88 : decode cX6_readPad 88 = .ok (.istore_n 1, 1) := by decide +kernel
theorem dX6_readPad_89 : decode cX6_readPad 89 = .ok (.goto (-71), 3) := by decide +kernel
theorem dX6_readPad_92 : decode cX6_readPad 92 = .ok (.aload_n 0, 1) := by decide +kernel
theorem dX6_readPad_93 : decode cX6_readPad 93 = .ok (.getfield 185, 3) := by decide +kernel
theorem dX6_readPad_96 : decode cX6_readPad 96 = .ok (.ireturn, 1) := by decide +kernel
set_option maxRecDepth 20000 in
theorem ggX6_fault_X6_readPad : GoodIn wsX6_fault wsX6_readPad := goodIn_r _ [5, 6, 7, 8, 9, 10, 11, 12, 4, 13, 14, 15, 16, 17, 18, 19, 20, 21, 22, 23, 24, 25, 26, 27, 28, 29, 30, 31, 32, 33, 34, 35, 36, 37, 38, 39, 40, 41, 42, 43, 44, 45, 46] (by decide +kernel) (by decide +kernel)
set_option maxRecDepth 20000 in
theorem gX6_fault_X6_readPad : GoodIn wsX6_fault (wsV RX6 204 RX6 yX6_readPad wsX6_readPad) := goodIn_app (goodIn_of _ (by decide +kernel)) ggX6_fault_X6_readPad
theorem dX6_fault_0 : decode cX6_fault 0 = .ok (.aload_n 0, 1) := by decide +kernel
theorem dX6_fault_1 : decode cX6_fault 1 = .ok (.invokevirtual 204, 3) := by decide +kernel
theorem dX6_fault_4 : decode cX6_fault 4 = .ok (.ireturn, 1) := by decide +kernel
set_option maxRecDepth 20000 in
theorem ggX6_does_X6_beginOne : GoodIn wsX6_does wsX6_beginOne := goodIn_r _ [7, 2, 8, 9, 10, 6, 11, 12, 13, 14, 15, 16, 17, 18, 19, 20, 21, 22, 23, 109, 110, 111, 112, 113, 114, 115, 116, 117, 118, 119, 120, 121, 122, 123, 124] (by decide +kernel) (by decide +kernel)
set_option maxRecDepth 20000 in
theorem gX6_does_X6_beginOne : GoodIn wsX6_does (wsV RX6 97 RX6 yX6_beginOne wsX6_beginOne) := goodIn_app (goodIn_of _ (by decide +kernel)) ggX6_does_X6_beginOne
set_option maxRecDepth 20000 in
theorem ggX6_does_X6_whyNotRead : GoodIn wsX6_does wsX6_whyNotRead := goodIn_r _ [27, 28, 29, 30, 6, 31, 2, 32, 33, 34, 35, 36, 37, 12, 13, 14, 15, 16, 17, 18, 19, 109, 110, 111, 112, 113, 114, 115, 116, 117, 118, 119, 120, 121, 122, 123, 124] (by decide +kernel) (by decide +kernel)
set_option maxRecDepth 20000 in
theorem gX6_does_X6_whyNotRead : GoodIn wsX6_does (wsV RX6 114 RX6 yX6_whyNotRead wsX6_whyNotRead) := goodIn_app (goodIn_of _ (by decide +kernel)) ggX6_does_X6_whyNotRead
set_option maxRecDepth 20000 in
theorem ggX6_does_X6_readOne : GoodIn wsX6_does wsX6_readOne := goodIn_r _ [41, 42, 43, 44, 6, 45, 46, 47, 48, 49, 16, 17, 18, 19, 2, 50, 51, 52, 53, 12, 13, 14, 15, 20, 21, 22, 23, 109, 110, 111, 112, 113, 114, 115, 116, 117, 118, 119, 120, 121, 122, 123, 124] (by decide +kernel) (by decide +kernel)
set_option maxRecDepth 20000 in
theorem gX6_does_X6_readOne : GoodIn wsX6_does (wsV RX6 117 RX6 yX6_readOne wsX6_readOne) := goodIn_app (goodIn_of _ (by decide +kernel)) ggX6_does_X6_readOne
set_option maxRecDepth 20000 in
theorem ggX6_does_X6_whyNotWrite : GoodIn wsX6_does wsX6_whyNotWrite := goodIn_r _ [57, 28, 29, 30, 6, 31, 2, 32, 33, 34, 35, 36, 37, 12, 13, 14, 15, 16, 17, 18, 19, 109, 110, 111, 112, 113, 114, 115, 116, 117, 118, 119, 120, 121, 122, 123, 124] (by decide +kernel) (by decide +kernel)
set_option maxRecDepth 20000 in
theorem gX6_does_X6_whyNotWrite : GoodIn wsX6_does (wsV RX6 120 RX6 yX6_whyNotWrite wsX6_whyNotWrite) := goodIn_app (goodIn_of _ (by decide +kernel)) ggX6_does_X6_whyNotWrite
set_option maxRecDepth 20000 in
theorem ggX6_does_X6_writeOne : GoodIn wsX6_does wsX6_writeOne := goodIn_r _ [61, 16, 17, 18, 6, 19, 2, 20, 21, 22, 23, 109, 110, 111, 112, 113, 114, 115, 116, 117, 118, 119, 120, 121, 122, 123, 124] (by decide +kernel) (by decide +kernel)
set_option maxRecDepth 20000 in
theorem gX6_does_X6_writeOne : GoodIn wsX6_does (wsV RX6 124 RX6 yX6_writeOne wsX6_writeOne) := goodIn_app (goodIn_of _ (by decide +kernel)) ggX6_does_X6_writeOne
set_option maxRecDepth 20000 in
theorem ggX6_does_X6_whyNotEnd : GoodIn wsX6_does wsX6_whyNotEnd := goodIn_r _ [65, 28, 29, 30, 6, 31, 2, 12, 13, 14, 15, 16, 17, 18, 19, 109, 110, 111, 112, 113, 114, 115, 116, 117, 118, 119, 120, 121, 122, 123, 124] (by decide +kernel) (by decide +kernel)
set_option maxRecDepth 20000 in
theorem gX6_does_X6_whyNotEnd : GoodIn wsX6_does (wsV RX6 134 RX6 yX6_whyNotEnd wsX6_whyNotEnd) := goodIn_app (goodIn_of _ (by decide +kernel)) ggX6_does_X6_whyNotEnd
set_option maxRecDepth 20000 in
theorem ggX6_does_X6_commitOne : GoodIn wsX6_does wsX6_commitOne := goodIn_r _ [69, 2, 70, 71, 72, 6, 73, 46, 47, 48, 49, 16, 17, 18, 19, 74, 75, 76, 77, 12, 13, 14, 15, 20, 21, 22, 23, 78, 79, 80, 81, 82, 83, 84, 85, 86, 87, 88, 89, 90, 91, 92, 93, 94, 95, 96, 97, 98, 99, 100, 101, 102, 103, 104, 105, 106, 107, 108, 109, 110, 111, 112, 113, 114, 115, 116, 117, 118, 119, 120, 121, 122, 123, 124] (by decide +kernel) (by decide +kernel)
set_option maxRecDepth 20000 in
theorem gX6_does_X6_commitOne : GoodIn wsX6_does (wsV RX6 137 RX6 yX6_commitOne wsX6_commitOne) := goodIn_app (goodIn_of _ (by decide +kernel)) ggX6_does_X6_commitOne
set_option maxRecDepth 20000 in
theorem ggX6_does_X6_abortOne : GoodIn wsX6_does wsX6_abortOne := goodIn_r _ [108, 20, 21, 22, 6, 23, 2, 109, 110, 111, 112, 113, 114, 115, 116, 117, 118, 119, 120, 121, 122, 123, 124] (by decide +kernel) (by decide +kernel)
set_option maxRecDepth 20000 in
theorem gX6_does_X6_abortOne : GoodIn wsX6_does (wsV RX6 130 RX6 yX6_abortOne wsX6_abortOne) := goodIn_app (goodIn_of _ (by decide +kernel)) ggX6_does_X6_abortOne
theorem dX6_does_0 : decode cX6_does 0 = .ok (.aload_n 0, 1) := by decide +kernel
theorem dX6_does_1 : decode cX6_does 1 = .ok (.getfield 33, 3) := by decide +kernel
theorem dX6_does_4 : decode cX6_does 4 = .ok (.iconst 4, 1) := by decide +kernel
theorem dX6_does_5 : decode cX6_does 5 = .ok (.iload_n 1, 1) := by decide +kernel
theorem dX6_does_6 : decode cX6_does 6 = .ok (.imul, 1) := by decide +kernel
theorem dX6_does_7 : decode cX6_does 7 = .ok (.iconst 1, 1) := by decide +kernel
theorem dX6_does_8 : decode cX6_does 8 = .ok (.iadd, 1) := by decide +kernel
theorem dX6_does_9 : decode cX6_does 9 = .ok (.iaload, 1) := by decide +kernel
theorem dX6_does_10 : decode cX6_does 10 = .ok (.istore_n 2, 1) := by decide +kernel
theorem dX6_does_11 : decode cX6_does 11 = .ok (.aload_n 0, 1) := by decide +kernel
theorem dX6_does_12 : decode cX6_does 12 = .ok (.getfield 33, 3) := by decide +kernel
theorem dX6_does_15 : decode cX6_does 15 = .ok (.iconst 4, 1) := by decide +kernel
theorem dX6_does_16 : decode cX6_does 16 = .ok (.iload_n 1, 1) := by decide +kernel
theorem dX6_does_17 : decode cX6_does 17 = .ok (.imul, 1) := by decide +kernel
theorem dX6_does_18 : decode cX6_does 18 = .ok (.iconst 2, 1) := by decide +kernel
theorem dX6_does_19 : decode cX6_does 19 = .ok (.iadd, 1) := by decide +kernel
theorem dX6_does_20 : decode cX6_does 20 = .ok (.iaload, 1) := by decide +kernel
theorem dX6_does_21 : decode cX6_does 21 = .ok (.istore_n 3, 1) := by decide +kernel
theorem dX6_does_22 : decode cX6_does 22 = .ok (.aload_n 0, 1) := by decide +kernel
theorem dX6_does_23 : decode cX6_does 23 = .ok (.getfield 33, 3) := by decide +kernel
theorem dX6_does_26 : decode cX6_does 26 = .ok (.iconst 4, 1) := by decide +kernel
theorem dX6_does_27 : decode cX6_does 27 = .ok (.iload_n 1, 1) := by decide +kernel
theorem dX6_does_28 : decode cX6_does 28 = .ok (.imul, 1) := by decide +kernel
theorem dX6_does_29 : decode cX6_does 29 = .ok (.iconst 3, 1) := by decide +kernel
theorem dX6_does_30 : decode cX6_does 30 = .ok (.iadd, 1) := by decide +kernel
theorem dX6_does_31 : decode cX6_does 31 = .ok (.iaload, 1) := by decide +kernel
theorem dX6_does_32 : decode cX6_does 32 = .ok (.istore 4, 2) := by decide +kernel
theorem dX6_does_34 : decode cX6_does 34 = .ok (.aload_n 0, 1) := by decide +kernel
theorem dX6_does_35 : decode cX6_does 35 = .ok (.getfield 33, 3) := by decide +kernel
theorem dX6_does_38 : decode cX6_does 38 = .ok (.iconst 4, 1) := by decide +kernel
theorem dX6_does_39 : decode cX6_does 39 = .ok (.iload_n 1, 1) := by decide +kernel
theorem dX6_does_40 : decode cX6_does 40 = .ok (.imul, 1) := by decide +kernel
theorem dX6_does_41 : decode cX6_does 41 = .ok (.iaload, 1) := by decide +kernel
theorem dX6_does_42 : decode cX6_does 42 = .ok (.lookupswitch 140 #[(98, 42), (99, 117), (114, 63), (119, 88)], 42) := by decide +kernel
theorem dX6_does_84 : decode cX6_does 84 = .ok (.aload_n 0, 1) := by decide +kernel
theorem dX6_does_85 : decode cX6_does 85 = .ok (.getfield 7, 3) := by decide +kernel
theorem dX6_does_88 : decode cX6_does 88 = .ok (.iconst 2, 1) := by decide +kernel
theorem dX6_does_89 : decode cX6_does 89 = .ok (.iaload, 1) := by decide +kernel
theorem dX6_does_90 : decode cX6_does 90 = .ok (.bipush 12, 2) := by decide +kernel
theorem dX6_does_92 : decode cX6_does 92 = .ok (.if_icmp .ne 8, 3) := by decide +kernel
theorem dX6_does_95 : decode cX6_does 95 = .ok (.bipush (-4), 2) := by decide +kernel
theorem dX6_does_97 : decode cX6_does 97 = .ok (.goto 7, 3) := by decide +kernel
theorem dX6_does_100 : decode cX6_does 100 = .ok (.aload_n 0, 1) := by decide +kernel
theorem dX6_does_101 : decode cX6_does 101 = .ok (.invokevirtual 97, 3) := by decide +kernel
theorem dX6_does_104 : decode cX6_does 104 = .ok (.ireturn, 1) := by decide +kernel
theorem dX6_does_105 : decode cX6_does 105 = .ok (.aload_n 0, 1) := by decide +kernel
theorem dX6_does_106 : decode cX6_does 106 = .ok (.iload_n 2, 1) := by decide +kernel
theorem dX6_does_107 : decode cX6_does 107 = .ok (.iload_n 3, 1) := by decide +kernel
theorem dX6_does_108 : decode cX6_does 108 = .ok (.invokevirtual 114, 3) := by decide +kernel
theorem dX6_does_111 : decode cX6_does 111 = .ok (.istore 5, 2) := by decide +kernel
theorem dX6_does_113 : decode cX6_does 113 = .ok (.iload 5, 2) := by decide +kernel
theorem dX6_does_115 : decode cX6_does 115 = .ok (.ifCond .ge 8, 3) := by decide +kernel
theorem dX6_does_118 : decode cX6_does 118 = .ok (.iload 5, 2) := by decide +kernel
theorem dX6_does_120 : decode cX6_does 120 = .ok (.goto 9, 3) := by decide +kernel
theorem dX6_does_123 : decode cX6_does 123 = .ok (.aload_n 0, 1) := by decide +kernel
theorem dX6_does_124 : decode cX6_does 124 = .ok (.iload_n 2, 1) := by decide +kernel
theorem dX6_does_125 : decode cX6_does 125 = .ok (.iload_n 3, 1) := by decide +kernel
theorem dX6_does_126 : decode cX6_does 126 = .ok (.invokevirtual 117, 3) := by decide +kernel
theorem dX6_does_129 : decode cX6_does 129 = .ok (.ireturn, 1) := by decide +kernel
theorem dX6_does_130 : decode cX6_does 130 = .ok (.aload_n 0, 1) := by decide +kernel
theorem dX6_does_131 : decode cX6_does 131 = .ok (.iload_n 2, 1) := by decide +kernel
theorem dX6_does_132 : decode cX6_does 132 = .ok (.iload_n 3, 1) := by decide +kernel
theorem dX6_does_133 : decode cX6_does 133 = .ok (.iload 4, 2) := by decide +kernel
theorem dX6_does_135 : decode cX6_does 135 = .ok (.invokevirtual 120, 3) := by decide +kernel
theorem dX6_does_138 : decode cX6_does 138 = .ok (.istore 5, 2) := by decide +kernel
theorem dX6_does_140 : decode cX6_does 140 = .ok (.iload 5, 2) := by decide +kernel
theorem dX6_does_142 : decode cX6_does 142 = .ok (.ifCond .ge 8, 3) := by decide +kernel
theorem dX6_does_145 : decode cX6_does 145 = .ok (.iload 5, 2) := by decide +kernel
theorem dX6_does_147 : decode cX6_does 147 = .ok (.goto 11, 3) := by decide +kernel
theorem dX6_does_150 : decode cX6_does 150 = .ok (.aload_n 0, 1) := by decide +kernel
theorem dX6_does_151 : decode cX6_does 151 = .ok (.iload_n 2, 1) := by decide +kernel
theorem dX6_does_152 : decode cX6_does 152 = .ok (.iload_n 3, 1) := by decide +kernel
theorem dX6_does_153 : decode cX6_does 153 = .ok (.iload 4, 2) := by decide +kernel
theorem dX6_does_155 : decode cX6_does 155 = .ok (.invokevirtual 124, 3) := by decide +kernel
theorem dX6_does_158 : decode cX6_does 158 = .ok (.ireturn, 1) := by decide +kernel
theorem dX6_does_159 : decode cX6_does 159 = .ok (.aload_n 0, 1) := by decide +kernel
theorem dX6_does_160 : decode cX6_does 160 = .ok (.iload_n 2, 1) := by decide +kernel
theorem dX6_does_161 : decode cX6_does 161 = .ok (.invokevirtual 134, 3) := by decide +kernel
theorem dX6_does_164 : decode cX6_does 164 = .ok (.istore 5, 2) := by decide +kernel
theorem dX6_does_166 : decode cX6_does 166 = .ok (.iload 5, 2) := by decide +kernel
theorem dX6_does_168 : decode cX6_does 168 = .ok (.ifCond .ge 8, 3) := by decide +kernel
theorem dX6_does_171 : decode cX6_does 171 = .ok (.iload 5, 2) := by decide +kernel
theorem dX6_does_173 : decode cX6_does 173 = .ok (.goto 8, 3) := by decide +kernel
theorem dX6_does_176 : decode cX6_does 176 = .ok (.aload_n 0, 1) := by decide +kernel
theorem dX6_does_177 : decode cX6_does 177 = .ok (.iload_n 2, 1) := by decide +kernel
theorem dX6_does_178 : decode cX6_does 178 = .ok (.invokevirtual 137, 3) := by decide +kernel
theorem dX6_does_181 : decode cX6_does 181 = .ok (.ireturn, 1) := by decide +kernel
theorem dX6_does_182 : decode cX6_does 182 = .ok (.aload_n 0, 1) := by decide +kernel
theorem dX6_does_183 : decode cX6_does 183 = .ok (.iload_n 2, 1) := by decide +kernel
theorem dX6_does_184 : decode cX6_does 184 = .ok (.invokevirtual 134, 3) := by decide +kernel
theorem dX6_does_187 : decode cX6_does 187 = .ok (.istore 5, 2) := by decide +kernel
theorem dX6_does_189 : decode cX6_does 189 = .ok (.iload 5, 2) := by decide +kernel
theorem dX6_does_191 : decode cX6_does 191 = .ok (.ifCond .ne 9, 3) := by decide +kernel
theorem dX6_does_194 : decode cX6_does 194 = .ok (.aload_n 0, 1) := by decide +kernel
theorem dX6_does_195 : decode cX6_does 195 = .ok (.iload_n 2, 1) := by decide +kernel
theorem dX6_does_196 : decode cX6_does 196 = .ok (.iconst 0, 1) := by decide +kernel
theorem dX6_does_197 : decode cX6_does 197 = .ok (.invokevirtual 130, 3) := by decide +kernel
theorem dX6_does_200 : decode cX6_does 200 = .ok (.iload 5, 2) := by decide +kernel
theorem dX6_does_202 : decode cX6_does 202 = .ok (.ireturn, 1) := by decide +kernel
set_option maxRecDepth 20000 in
theorem ggX6_carryOut_X6_readPad : GoodIn wsX6_carryOut wsX6_readPad := goodIn_r _ [7, 1, 8, 9, 2, 10, 11, 12, 6, 13, 14, 15, 16, 17, 18, 19, 20, 21, 22, 23, 24, 25, 26, 27, 28, 29, 30, 144, 145, 146, 147, 148, 149, 150, 151, 152, 153, 154, 155, 156, 157, 158, 159] (by decide +kernel) (by decide +kernel)
set_option maxRecDepth 20000 in
theorem gX6_carryOut_X6_readPad : GoodIn wsX6_carryOut (wsV RX6 204 RX6 yX6_readPad wsX6_readPad) := goodIn_app (goodIn_of _ (by decide +kernel)) ggX6_carryOut_X6_readPad
set_option maxRecDepth 20000 in
theorem ggX6_carryOut_X6_record : GoodIn wsX6_carryOut wsX6_record := goodIn_r _ [34, 35, 36, 37, 144, 145, 146, 147, 148, 149, 150, 151, 152, 153, 154, 155, 156, 157, 158, 159] (by decide +kernel) (by decide +kernel)
set_option maxRecDepth 20000 in
theorem gX6_carryOut_X6_record : GoodIn wsX6_carryOut (wsV RX6 48 RX6 yX6_record wsX6_record) := goodIn_app (goodIn_of _ (by decide +kernel)) ggX6_carryOut_X6_record
set_option maxRecDepth 20000 in
theorem ggX6_carryOut_X6_does : GoodIn wsX6_carryOut wsX6_does := goodIn_r _ [41, 14, 37, 42, 43, 44, 6, 45, 46, 47, 48, 49, 50, 51, 52, 53, 54, 55, 56, 57, 58, 59, 60, 61, 62, 63, 64, 65, 66, 67, 68, 69, 70, 71, 72, 28, 29, 30, 73, 74, 75, 76, 77, 78, 79, 80, 81, 82, 83, 84, 85, 86, 87, 88, 89, 90, 91, 92, 93, 94, 95, 96, 97, 98, 99, 100, 101, 102, 103, 104, 105, 106, 107, 108, 109, 110, 111, 112, 113, 114, 115, 116, 117, 118, 119, 120, 121, 122, 123, 124, 125, 126, 127, 128, 129, 130, 131, 132, 133, 134, 135, 136, 137, 138, 139, 140, 141, 142, 143, 144, 145, 146, 147, 148, 149, 150, 151, 152, 153, 154, 155, 156, 157, 158, 159] (by decide +kernel) (by decide +kernel)
set_option maxRecDepth 20000 in
theorem gX6_carryOut_X6_does : GoodIn wsX6_carryOut (wsV RX6 207 RX6 yX6_does wsX6_does) := goodIn_app (goodIn_of _ (by decide +kernel)) ggX6_carryOut_X6_does
theorem dX6_carryOut_0 : decode cX6_carryOut 0 = .ok (.aload_n 0, 1) := by decide +kernel
theorem dX6_carryOut_1 : decode cX6_carryOut 1 = .ok (.invokevirtual 204, 3) := by decide +kernel
theorem dX6_carryOut_4 : decode cX6_carryOut 4 = .ok (.bipush (-6), 2) := by decide +kernel
theorem dX6_carryOut_6 : decode cX6_carryOut 6 = .ok (.if_icmp .eq 6, 3) := by decide +kernel
theorem dX6_carryOut_9 : decode cX6_carryOut 9 = .ok (.bipush (-3), 2) := by decide +kernel
theorem dX6_carryOut_11 : decode cX6_carryOut 11 = .ok (.ireturn, 1) := by decide +kernel
theorem dX6_carryOut_12 : decode cX6_carryOut 12 = .ok (.aload_n 0, 1) := by decide +kernel
theorem dX6_carryOut_13 : decode cX6_carryOut 13 = .ok (.invokevirtual 48, 3) := by decide +kernel
theorem dX6_carryOut_16 : decode cX6_carryOut 16 = .ok (.iconst 0, 1) := by decide +kernel
theorem dX6_carryOut_17 : decode cX6_carryOut 17 = .ok (.istore_n 1, 1) := by decide +kernel
theorem dX6_carryOut_18 : decode cX6_carryOut 18 = .ok (.iload_n 1, 1) := by decide +kernel
theorem dX6_carryOut_19 : decode cX6_carryOut 19 = .ok (.aload_n 0, 1) := by decide +kernel
theorem dX6_carryOut_20 : decode cX6_carryOut 20 = .ok (.getfield 195, 3) := by decide +kernel
theorem dX6_carryOut_23 : decode cX6_carryOut 23 = .ok (.if_icmp .ge 17, 3) := by decide +kernel
theorem dX6_carryOut_26 : decode cX6_carryOut 26 = .ok (.aload_n 0, 1) := by decide +kernel
theorem dX6_carryOut_27 : decode cX6_carryOut 27 = .ok (.iload_n 1, 1) := by decide +kernel
theorem dX6_carryOut_28 : decode cX6_carryOut 28 = .ok (.invokevirtual 207, 3) := by decide +kernel
theorem dX6_carryOut_31 : decode cX6_carryOut 31 = .ok (.ifCond .lt 9, 3) := by decide +kernel
theorem dX6_carryOut_34 : decode cX6_carryOut 34 = .ok (.iinc 1 1, 3) := by decide +kernel
theorem dX6_carryOut_37 : decode cX6_carryOut 37 = .ok (.goto (-19), 3) := by decide +kernel
theorem dX6_carryOut_40 : decode cX6_carryOut 40 = .ok (.aload_n 0, 1) := by decide +kernel
theorem dX6_carryOut_41 : decode cX6_carryOut 41 = .ok (.iconst 0, 1) := by decide +kernel
theorem dX6_carryOut_42 : decode cX6_carryOut 42 = .ok (.putfield 168, 3) := by decide +kernel
theorem dX6_carryOut_45 : decode cX6_carryOut 45 = .ok (.iload_n 1, 1) := by decide +kernel
theorem dX6_carryOut_46 : decode cX6_carryOut 46 = .ok (.ireturn, 1) := by decide +kernel
