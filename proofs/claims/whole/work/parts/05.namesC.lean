theorem dX6_init_0 : decode cX6_init 0 = .ok (.aload_n 0, 1) := by decide +kernel
theorem dX6_init_1 : decode cX6_init 1 = .ok (.invokespecial 1, 3) := by decide +kernel
theorem dX6_init_4 : decode cX6_init 4 = .ok (.aload_n 0, 1) := by decide +kernel
theorem dX6_init_5 : decode cX6_init 5 = .ok (.sipush 279, 3) := by decide +kernel
theorem dX6_init_8 : decode cX6_init 8 = .ok (.newarray .int, 2) := by decide +kernel
theorem dX6_init_10 : decode cX6_init 10 = .ok (.putfield 7, 3) := by decide +kernel
theorem dX6_init_13 : decode cX6_init 13 = .ok (.aload_n 0, 1) := by decide +kernel
theorem dX6_init_14 : decode cX6_init 14 = .ok (.sipush 1674, 3) := by decide +kernel
theorem dX6_init_17 : decode cX6_init 17 = .ok (.newarray .int, 2) := by decide +kernel
theorem dX6_init_19 : decode cX6_init 19 = .ok (.putfield 13, 3) := by decide +kernel
theorem dX6_init_22 : decode cX6_init 22 = .ok (.aload_n 0, 1) := by decide +kernel
theorem dX6_init_23 : decode cX6_init 23 = .ok (.sipush 558, 3) := by decide +kernel
theorem dX6_init_26 : decode cX6_init 26 = .ok (.newarray .int, 2) := by decide +kernel
theorem dX6_init_28 : decode cX6_init 28 = .ok (.putfield 16, 3) := by decide +kernel
theorem dX6_init_31 : decode cX6_init 31 = .ok (.aload_n 0, 1) := by decide +kernel
theorem dX6_init_32 : decode cX6_init 32 = .ok (.iconst 2, 1) := by decide +kernel
theorem dX6_init_33 : decode cX6_init 33 = .ok (.newarray .boolean, 2) := by decide +kernel
theorem dX6_init_35 : decode cX6_init 35 = .ok (.putfield 19, 3) := by decide +kernel
theorem dX6_init_38 : decode cX6_init 38 = .ok (.aload_n 0, 1) := by decide +kernel
theorem dX6_init_39 : decode cX6_init 39 = .ok (.bipush 80, 2) := by decide +kernel
theorem dX6_init_41 : decode cX6_init 41 = .ok (.newarray .char, 2) := by decide +kernel
theorem dX6_init_43 : decode cX6_init 43 = .ok (.putfield 23, 3) := by decide +kernel
theorem dX6_init_46 : decode cX6_init 46 = .ok (.aload_n 0, 1) := by decide +kernel
theorem dX6_init_47 : decode cX6_init 47 = .ok (.bipush 12, 2) := by decide +kernel
theorem dX6_init_49 : decode cX6_init 49 = .ok (.newarray .int, 2) := by decide +kernel
theorem dX6_init_51 : decode cX6_init 51 = .ok (.putfield 27, 3) := by decide +kernel
theorem dX6_init_54 : decode cX6_init 54 = .ok (.aload_n 0, 1) := by decide +kernel
theorem dX6_init_55 : decode cX6_init 55 = .ok (.bipush 12, 2) := by decide +kernel
theorem dX6_init_57 : decode cX6_init 57 = .ok (.newarray .int, 2) := by decide +kernel
theorem dX6_init_59 : decode cX6_init 59 = .ok (.putfield 30, 3) := by decide +kernel
theorem dX6_init_62 : decode cX6_init 62 = .ok (.aload_n 0, 1) := by decide +kernel
theorem dX6_init_63 : decode cX6_init 63 = .ok (.sipush 164, 3) := by decide +kernel
theorem dX6_init_66 : decode cX6_init 66 = .ok (.newarray .int, 2) := by decide +kernel
theorem dX6_init_68 : decode cX6_init 68 = .ok (.putfield 33, 3) := by decide +kernel
theorem dX6_init_71 : decode cX6_init 71 = .ok (.aload_n 0, 1) := by decide +kernel
theorem dX6_init_72 : decode cX6_init 72 = .ok (.getfield 7, 3) := by decide +kernel
theorem dX6_init_75 : decode cX6_init 75 = .ok (.iconst 0, 1) := by decide +kernel
theorem dX6_init_76 : decode cX6_init 76 = .ok (.iconst 1, 1) := by decide +kernel
theorem dX6_init_77 : decode cX6_init 77 = .ok (.iastore, 1) := by decide +kernel
theorem dX6_init_78 : decode cX6_init 78 = .ok (.return_, 1) := by decide +kernel
theorem dX6_in_0 : decode cX6_in 0 = .ok (.iload_n 0, 1) := by decide +kernel
theorem dX6_in_1 : decode cX6_in 1 = .ok (.iload_n 1, 1) := by decide +kernel
theorem dX6_in_2 : decode cX6_in 2 = .ok (.if_icmp .lt 12, 3) := by decide +kernel
theorem dX6_in_5 : decode cX6_in 5 = .ok (.iload_n 0, 1) := by decide +kernel
theorem dX6_in_6 : decode cX6_in 6 = .ok (.iload_n 2, 1) := by decide +kernel
theorem dX6_in_7 : decode cX6_in 7 = .ok (.if_icmp .gt 7, 3) := by decide +kernel
theorem dX6_in_10 : decode cX6_in 10 = .ok (.iconst 1, 1) := by decide +kernel
theorem dX6_in_11 : decode cX6_in 11 = .ok (.goto 4, 3) := by decide +kernel
theorem dX6_in_14 : decode cX6_in 14 = .ok (.iconst 0, 1) := by decide +kernel
theorem dX6_in_15 : decode cX6_in 15 = .ok (.ireturn, 1) := by decide +kernel
theorem dX6_isTransaction_0 : decode cX6_isTransaction 0 = .ok (.iload_n 1, 1) := by decide +kernel
theorem dX6_isTransaction_1 : decode cX6_isTransaction 1 = .ok (.ifCond .lt 17, 3) := by decide +kernel
theorem dX6_isTransaction_4 : decode cX6_isTransaction 4 = .ok (.iload_n 1, 1) := by decide +kernel
theorem dX6_isTransaction_5 : decode cX6_isTransaction 5 = .ok (.aload_n 0, 1) := by decide +kernel
theorem dX6_isTransaction_6 : decode cX6_isTransaction 6 = .ok (.getfield 7, 3) := by decide +kernel
theorem dX6_isTransaction_9 : decode cX6_isTransaction 9 = .ok (.iconst 2, 1) := by decide +kernel
theorem dX6_isTransaction_10 : decode cX6_isTransaction 10 = .ok (.iaload, 1) := by decide +kernel
theorem dX6_isTransaction_11 : decode cX6_isTransaction 11 = .ok (.if_icmp .ge 7, 3) := by decide +kernel
theorem dX6_isTransaction_14 : decode cX6_isTransaction 14 = .ok (.iconst 1, 1) := by decide +kernel
theorem dX6_isTransaction_15 : decode cX6_isTransaction 15 = .ok (.goto 4, 3) := by decide +kernel
theorem dX6_isTransaction_18 : decode cX6_isTransaction 18 = .ok (.iconst 0, 1) := by decide +kernel
theorem dX6_isTransaction_19 : decode cX6_isTransaction 19 = .ok (.ireturn, 1) := by decide +kernel
set_option maxRecDepth 20000 in
theorem ggX6_isKey_X6_in : GoodIn wsX6_isKey wsX6_in := goodIn_r _ [4] (by decide +kernel) (by decide +kernel)
set_option maxRecDepth 20000 in
theorem gX6_isKey_X6_in : GoodIn wsX6_isKey (va_wsS RX6 36 yX6_in wsX6_in) := goodIn_app (goodIn_of _ (by decide +kernel)) ggX6_isKey_X6_in
theorem dX6_isKey_0 : decode cX6_isKey 0 = .ok (.iload_n 0, 1) := by decide +kernel
theorem dX6_isKey_1 : decode cX6_isKey 1 = .ok (.iconst 0, 1) := by decide +kernel
theorem dX6_isKey_2 : decode cX6_isKey 2 = .ok (.bipush 15, 2) := by decide +kernel
theorem dX6_isKey_4 : decode cX6_isKey 4 = .ok (.invokestatic 36, 3) := by decide +kernel
theorem dX6_isKey_7 : decode cX6_isKey 7 = .ok (.ireturn, 1) := by decide +kernel
theorem dX6_its_0 : decode cX6_its 0 = .ok (.aload_n 0, 1) := by decide +kernel
theorem dX6_its_1 : decode cX6_its 1 = .ok (.getfield 7, 3) := by decide +kernel
theorem dX6_its_4 : decode cX6_its 4 = .ok (.iconst 3, 1) := by decide +kernel
theorem dX6_its_5 : decode cX6_its 5 = .ok (.bipush 23, 2) := by decide +kernel
theorem dX6_its_7 : decode cX6_its 7 = .ok (.iload_n 1, 1) := by decide +kernel
theorem dX6_its_8 : decode cX6_its 8 = .ok (.imul, 1) := by decide +kernel
theorem dX6_its_9 : decode cX6_its 9 = .ok (.iadd, 1) := by decide +kernel
theorem dX6_its_10 : decode cX6_its 10 = .ok (.iload_n 2, 1) := by decide +kernel
theorem dX6_its_11 : decode cX6_its 11 = .ok (.iadd, 1) := by decide +kernel
theorem dX6_its_12 : decode cX6_its 12 = .ok (.iaload, 1) := by decide +kernel
theorem dX6_its_13 : decode cX6_its 13 = .ok (.ireturn, 1) := by decide +kernel
theorem dX6_lay_0 : decode cX6_lay 0 = .ok (.aload_n 0, 1) := by decide +kernel
theorem dX6_lay_1 : decode cX6_lay 1 = .ok (.getfield 7, 3) := by decide +kernel
theorem dX6_lay_4 : decode cX6_lay 4 = .ok (.iconst 3, 1) := by decide +kernel
theorem dX6_lay_5 : decode cX6_lay 5 = .ok (.bipush 23, 2) := by decide +kernel
theorem dX6_lay_7 : decode cX6_lay 7 = .ok (.iload_n 1, 1) := by decide +kernel
theorem dX6_lay_8 : decode cX6_lay 8 = .ok (.imul, 1) := by decide +kernel
theorem dX6_lay_9 : decode cX6_lay 9 = .ok (.iadd, 1) := by decide +kernel
theorem dX6_lay_10 : decode cX6_lay 10 = .ok (.iload_n 2, 1) := by decide +kernel
theorem dX6_lay_11 : decode cX6_lay 11 = .ok (.iadd, 1) := by decide +kernel
theorem dX6_lay_12 : decode cX6_lay 12 = .ok (.iload_n 3, 1) := by decide +kernel
theorem dX6_lay_13 : decode cX6_lay 13 = .ok (.iastore, 1) := by decide +kernel
theorem dX6_lay_14 : decode cX6_lay 14 = .ok (.return_, 1) := by decide +kernel
set_option maxRecDepth 20000 in
theorem ggX6_isIn_X6_its : GoodIn wsX6_isIn wsX6_its := goodIn_r _ [5, 6, 7, 8, 9, 10, 11, 12, 13, 14, 15, 16, 17, 18, 19, 20, 21, 22] (by decide +kernel) (by decide +kernel)
set_option maxRecDepth 20000 in
theorem gX6_isIn_X6_its : GoodIn wsX6_isIn (wsV RX6 40 RX6 yX6_its wsX6_its) := goodIn_app (goodIn_of _ (by decide +kernel)) ggX6_isIn_X6_its
theorem dX6_isIn_0 : decode cX6_isIn 0 = .ok (.aload_n 0, 1) := by decide +kernel
theorem dX6_isIn_1 : decode cX6_isIn 1 = .ok (.iload_n 1, 1) := by decide +kernel
theorem dX6_isIn_2 : decode cX6_isIn 2 = .ok (.iconst 0, 1) := by decide +kernel
theorem dX6_isIn_3 : decode cX6_isIn 3 = .ok (.invokevirtual 40, 3) := by decide +kernel
theorem dX6_isIn_6 : decode cX6_isIn 6 = .ok (.iload_n 2, 1) := by decide +kernel
theorem dX6_isIn_7 : decode cX6_isIn 7 = .ok (.if_icmp .ne 7, 3) := by decide +kernel
theorem dX6_isIn_10 : decode cX6_isIn 10 = .ok (.iconst 1, 1) := by decide +kernel
theorem dX6_isIn_11 : decode cX6_isIn 11 = .ok (.goto 4, 3) := by decide +kernel
theorem dX6_isIn_14 : decode cX6_isIn 14 = .ok (.iconst 0, 1) := by decide +kernel
theorem dX6_isIn_15 : decode cX6_isIn 15 = .ok (.ireturn, 1) := by decide +kernel
set_option maxRecDepth 20000 in
theorem ggX6_wrote_X6_its : GoodIn wsX6_wrote wsX6_its := goodIn_r _ [5, 6, 7, 8, 9, 10, 11, 12, 13, 14, 15, 16, 17, 18, 19, 20, 21, 22] (by decide +kernel) (by decide +kernel)
set_option maxRecDepth 20000 in
theorem gX6_wrote_X6_its : GoodIn wsX6_wrote (wsV RX6 40 RX6 yX6_its wsX6_its) := goodIn_app (goodIn_of _ (by decide +kernel)) ggX6_wrote_X6_its
theorem dX6_wrote_0 : decode cX6_wrote 0 = .ok (.aload_n 0, 1) := by decide +kernel
theorem dX6_wrote_1 : decode cX6_wrote 1 = .ok (.iload_n 1, 1) := by decide +kernel
theorem dX6_wrote_2 : decode cX6_wrote 2 = .ok (.iconst 4, 1) := by decide +kernel
theorem dX6_wrote_3 : decode cX6_wrote 3 = .ok (.invokevirtual 40, 3) := by decide +kernel
theorem dX6_wrote_6 : decode cX6_wrote 6 = .ok (.iload_n 2, 1) := by decide +kernel
theorem dX6_wrote_7 : decode cX6_wrote 7 = .ok (.ishr, 1) := by decide +kernel
theorem dX6_wrote_8 : decode cX6_wrote 8 = .ok (.iconst 1, 1) := by decide +kernel
theorem dX6_wrote_9 : decode cX6_wrote 9 = .ok (.iand, 1) := by decide +kernel
theorem dX6_wrote_10 : decode cX6_wrote 10 = .ok (.iconst 1, 1) := by decide +kernel
theorem dX6_wrote_11 : decode cX6_wrote 11 = .ok (.if_icmp .ne 7, 3) := by decide +kernel
theorem dX6_wrote_14 : decode cX6_wrote 14 = .ok (.iconst 1, 1) := by decide +kernel
theorem dX6_wrote_15 : decode cX6_wrote 15 = .ok (.goto 4, 3) := by decide +kernel
theorem dX6_wrote_18 : decode cX6_wrote 18 = .ok (.iconst 0, 1) := by decide +kernel
theorem dX6_wrote_19 : decode cX6_wrote 19 = .ok (.ireturn, 1) := by decide +kernel
theorem dX6_record_0 : decode cX6_record 0 = .ok (.aload_n 0, 1) := by decide +kernel
theorem dX6_record_1 : decode cX6_record 1 = .ok (.getfield 44, 3) := by decide +kernel
theorem dX6_record_4 : decode cX6_record 4 = .ok (.bipush 6, 2) := by decide +kernel
theorem dX6_record_6 : decode cX6_record 6 = .ok (.if_icmp .ne 44, 3) := by decide +kernel
theorem dX6_record_9 : decode cX6_record 9 = .ok (.iconst 0, 1) := by decide +kernel
theorem dX6_record_10 : decode cX6_record 10 = .ok (.istore_n 1, 1) := by decide +kernel
theorem dX6_record_11 : decode cX6_record 11 = .ok (.iload_n 1, 1) := by decide +kernel
theorem dX6_record_12 : decode cX6_record 12 = .ok (.sipush 1395, 3) := by decide +kernel
theorem dX6_record_15 : decode cX6_record 15 = .ok (.if_icmp .ge 25, 3) := by decide +kernel
theorem dX6_record_18 : decode cX6_record 18 = .ok (.aload_n 0, 1) := by decide +kernel
theorem dX6_record_19 : decode cX6_record 19 = .ok (.getfield 13, 3) := by decide +kernel
theorem dX6_record_22 : decode cX6_record 22 = .ok (.iload_n 1, 1) := by decide +kernel
theorem dX6_record_23 : decode cX6_record 23 = .ok (.aload_n 0, 1) := by decide +kernel
theorem dX6_record_24 : decode cX6_record 24 = .ok (.getfield 13, 3) := by decide +kernel
theorem dX6_record_27 : decode cX6_record 27 = .ok (.iload_n 1, 1) := by decide +kernel
theorem dX6_record_28 : decode cX6_record 28 = .ok (.sipush 279, 3) := by decide +kernel
theorem dX6_record_31 : decode cX6_record 31 = .ok (.iadd, 1) := by decide +kernel
theorem dX6_record_32 : decode cX6_record 32 = .ok (.iaload, 1) := by decide +kernel
theorem dX6_record_33 : decode cX6_record 33 = .ok (.iastore, 1) := by decide +kernel
theorem dX6_record_34 : decode cX6_record 34 = .ok (.iinc 1 1, 3) := by decide +kernel
theorem dX6_record_37 : decode cX6_record 37 = .ok (.goto (-26), 3) := by decide +kernel
theorem dX6_record_40 : decode cX6_record 40 = .ok (.aload_n 0, 1) := by decide +kernel
theorem dX6_record_41 : decode cX6_record 41 = .ok (.dup, 1) := by decide +kernel
theorem dX6_record_42 : decode cX6_record 42 = .ok (.getfield 44, 3) := by decide +kernel
theorem dX6_record_45 : decode cX6_record 45 = .ok (.iconst 1, 1) := by decide +kernel
theorem dX6_record_46 : decode cX6_record 46 = .ok (.isub, 1) := by decide +kernel
theorem dX6_record_47 : decode cX6_record 47 = .ok (.putfield 44, 3) := by decide +kernel
theorem dX6_record_50 : decode cX6_record 50 = .ok (.iconst 0, 1) := by decide +kernel
theorem dX6_record_51 : decode cX6_record 51 = .ok (.istore_n 1, 1) := by decide +kernel
theorem dX6_record_52 : decode cX6_record 52 = .ok (.iload_n 1, 1) := by decide +kernel
theorem dX6_record_53 : decode cX6_record 53 = .ok (.sipush 279, 3) := by decide +kernel
theorem dX6_record_56 : decode cX6_record 56 = .ok (.if_icmp .ge 30, 3) := by decide +kernel
theorem dX6_record_59 : decode cX6_record 59 = .ok (.aload_n 0, 1) := by decide +kernel
theorem dX6_record_60 : decode cX6_record 60 = .ok (.getfield 13, 3) := by decide +kernel
theorem dX6_record_63 : decode cX6_record 63 = .ok (.aload_n 0, 1) := by decide +kernel
theorem dX6_record_64 : decode cX6_record 64 = .ok (.getfield 44, 3) := by decide +kernel
theorem dX6_record_67 : decode cX6_record 67 = .ok (.sipush 279, 3) := by decide +kernel
theorem dX6_record_70 : decode cX6_record 70 = .ok (.imul, 1) := by decide +kernel
theorem dX6_record_71 : decode cX6_record 71 = .ok (.iload_n 1, 1) := by decide +kernel
theorem dX6_record_72 : decode cX6_record 72 = .ok (.iadd, 1) := by decide +kernel
theorem dX6_record_73 : decode cX6_record 73 = .ok (.aload_n 0, 1) := by decide +kernel
theorem dX6_record_74 : decode cX6_record 74 = .ok (.getfield 7, 3) := by decide +kernel
theorem dX6_record_77 : decode cX6_record 77 = .ok (.iload_n 1, 1) := by decide +kernel
theorem dX6_record_78 : decode cX6_record 78 = .ok (.iaload, 1) := by decide +kernel
theorem dX6_record_79 : decode cX6_record 79 = .ok (.iastore, 1) := by decide +kernel
theorem dX6_record_80 : decode cX6_record 80 = .ok (.iinc 1 1, 3) := by decide +kernel
theorem dX6_record_83 : decode cX6_record 83 = .ok (.goto (-31), 3) := by decide +kernel
theorem dX6_record_86 : decode cX6_record 86 = .ok (.aload_n 0, 1) := by decide +kernel
theorem dX6_record_87 : decode cX6_record 87 = .ok (.dup, 1) := by decide +kernel
theorem dX6_record_88 : decode cX6_record 88 = .ok (.getfield 44, 3) := by decide +kernel
theorem dX6_record_91 : decode cX6_record 91 = .ok (.iconst 1, 1) := by decide +kernel
theorem dX6_record_92 : decode cX6_record 92 = .ok (.iadd, 1) := by decide +kernel
theorem dX6_record_93 : decode cX6_record 93 = .ok (.putfield 44, 3) := by decide +kernel
theorem dX6_record_96 : decode cX6_record 96 = .ok (.return_, 1) := by decide +kernel
theorem dX6_undo_0 : decode cX6_undo 0 = .ok (.aload_n 0, 1) := by decide +kernel
theorem dX6_undo_1 : decode cX6_undo 1 = .ok (.getfield 44, 3) := by decide +kernel
theorem dX6_undo_4 : decode cX6_undo 4 = .ok (.ifCond .ne 6, 3) := by decide +kernel
theorem dX6_undo_7 : decode cX6_undo 7 = .ok (.bipush (-5), 2) := by decide +kernel
theorem dX6_undo_9 : decode cX6_undo 9 = .ok (.ireturn, 1) := by decide +kernel
theorem dX6_undo_10 : decode cX6_undo 10 = .ok (.aload_n 0, 1) := by decide +kernel
theorem dX6_undo_11 : decode cX6_undo 11 = .ok (.dup, 1) := by decide +kernel
theorem dX6_undo_12 : decode cX6_undo 12 = .ok (.getfield 44, 3) := by decide +kernel
theorem dX6_undo_15 : decode cX6_undo 15 = .ok (.iconst 1, 1) := by decide +kernel
theorem dX6_undo_16 : decode cX6_undo 16 = .ok (.isub, 1) := by decide +kernel
theorem dX6_undo_17 : decode cX6_undo 17 = .ok (.putfield 44, 3) := by decide +kernel
theorem dX6_undo_20 : decode cX6_undo 20 = .ok (.iconst 0, 1) := by decide +kernel
theorem dX6_undo_21 : decode cX6_undo 21 = .ok (.istore_n 1, 1) := by decide +kernel
theorem dX6_undo_22 : decode cX6_undo 22 = .ok (.iload_n 1, 1) := by decide +kernel
theorem dX6_undo_23 : decode cX6_undo 23 = .ok (.sipush 279, 3) := by decide +kernel
theorem dX6_undo_26 : decode cX6_undo 26 = .ok (.if_icmp .ge 30, 3) := by decide +kernel
theorem dX6_undo_29 : decode cX6_undo 29 = .ok (.aload_n 0, 1) := by decide +kernel
theorem dX6_undo_30 : decode cX6_undo 30 = .ok (.getfield 7, 3) := by decide +kernel
theorem dX6_undo_33 : decode cX6_undo 33 = .ok (.iload_n 1, 1) := by decide +kernel
theorem dX6_undo_34 : decode cX6_undo 34 = .ok (.aload_n 0, 1) := by decide +kernel
theorem dX6_undo_35 : decode cX6_undo 35 = .ok (.getfield 13, 3) := by decide +kernel
theorem dX6_undo_38 : decode cX6_undo 38 = .ok (.aload_n 0, 1) := by decide +kernel
theorem dX6_undo_39 : decode cX6_undo 39 = .ok (.getfield 44, 3) := by decide +kernel
theorem dX6_undo_42 : decode cX6_undo 42 = .ok (.sipush 279, 3) := by decide +kernel
theorem dX6_undo_45 : decode cX6_undo 45 = .ok (.imul, 1) := by decide +kernel
theorem dX6_undo_46 : decode cX6_undo 46 = .ok (.iload_n 1, 1) := by decide +kernel
theorem dX6_undo_47 : decode cX6_undo 47 = .ok (.iadd, 1) := by decide +kernel
theorem dX6_undo_48 : decode cX6_undo 48 = .ok (.iaload, 1) := by decide +kernel
theorem dX6_undo_49 : decode cX6_undo 49 = .ok (.iastore, 1) := by decide +kernel
theorem dX6_undo_50 : decode cX6_undo 50 = .ok (.iinc 1 1, 3) := by decide +kernel
theorem dX6_undo_53 : decode cX6_undo 53 = .ok (.goto (-31), 3) := by decide +kernel
theorem dX6_undo_56 : decode cX6_undo 56 = .ok (.aload_n 0, 1) := by decide +kernel
theorem dX6_undo_57 : decode cX6_undo 57 = .ok (.getfield 44, 3) := by decide +kernel
theorem dX6_undo_60 : decode cX6_undo 60 = .ok (.ireturn, 1) := by decide +kernel
set_option maxRecDepth 20000 in
theorem ggX6_save_X6_in : GoodIn wsX6_save wsX6_in := goodIn_r _ [7] (by decide +kernel) (by decide +kernel)
set_option maxRecDepth 20000 in
theorem gX6_save_X6_in : GoodIn wsX6_save (va_wsS RX6 36 yX6_in wsX6_in) := goodIn_app (goodIn_of _ (by decide +kernel)) ggX6_save_X6_in
theorem dX6_save_0 : decode cX6_save 0 = .ok (.iload_n 1, 1) := by decide +kernel
theorem dX6_save_1 : decode cX6_save 1 = .ok (.iconst 0, 1) := by decide +kernel
theorem dX6_save_2 : decode cX6_save 2 = .ok (.iconst 1, 1) := by decide +kernel
theorem dX6_save_3 : decode cX6_save 3 = .ok (.invokestatic 36, 3) := by decide +kernel
theorem dX6_save_6 : decode cX6_save 6 = .ok (.ifCond .ne 6, 3) := by decide +kernel
theorem dX6_save_9 : decode cX6_save 9 = .ok (.bipush (-2), 2) := by decide +kernel
theorem dX6_save_11 : decode cX6_save 11 = .ok (.ireturn, 1) := by decide +kernel
theorem dX6_save_12 : decode cX6_save 12 = .ok (.aload_n 0, 1) := by decide +kernel
theorem dX6_save_13 : decode cX6_save 13 = .ok (.getfield 19, 3) := by decide +kernel
theorem dX6_save_16 : decode cX6_save 16 = .ok (.iload_n 1, 1) := by decide +kernel
theorem dX6_save_17 : decode cX6_save 17 = .ok (.iconst 1, 1) := by decide +kernel
theorem dX6_save_18 : decode cX6_save 18 = .ok (.bastore, 1) := by decide +kernel
theorem dX6_save_19 : decode cX6_save 19 = .ok (.iconst 0, 1) := by decide +kernel
theorem dX6_save_20 : decode cX6_save 20 = .ok (.istore_n 2, 1) := by decide +kernel
theorem dX6_save_21 : decode cX6_save 21 = .ok (.iload_n 2, 1) := by decide +kernel
theorem dX6_save_22 : decode cX6_save 22 = .ok (.sipush 279, 3) := by decide +kernel
theorem dX6_save_25 : decode cX6_save 25 = .ok (.if_icmp .ge 27, 3) := by decide +kernel
theorem dX6_save_28 : decode cX6_save 28 = .ok (.aload_n 0, 1) := by decide +kernel
theorem dX6_save_29 : decode cX6_save 29 = .ok (.getfield 16, 3) := by decide +kernel
theorem dX6_save_32 : decode cX6_save 32 = .ok (.iload_n 1, 1) := by decide +kernel
theorem dX6_save_33 : decode cX6_save 33 = .ok (.sipush 279, 3) := by decide +kernel
theorem dX6_save_36 : decode cX6_save 36 = .ok (.imul, 1) := by decide +kernel
theorem dX6_save_37 : decode cX6_save 37 = .ok (.iload_n 2, 1) := by decide +kernel
theorem dX6_save_38 : decode cX6_save 38 = .ok (.iadd, 1) := by decide +kernel
theorem dX6_save_39 : decode cX6_save 39 = .ok (.aload_n 0, 1) := by decide +kernel
theorem dX6_save_40 : decode cX6_save 40 = .ok (.getfield 7, 3) := by decide +kernel
theorem dX6_save_43 : decode cX6_save 43 = .ok (.iload_n 2, 1) := by decide +kernel
theorem dX6_save_44 : decode cX6_save 44 = .ok (.iaload, 1) := by decide +kernel
theorem dX6_save_45 : decode cX6_save 45 = .ok (.iastore, 1) := by decide +kernel
theorem dX6_save_46 : decode cX6_save 46 = .ok (.iinc 2 1, 3) := by decide +kernel
theorem dX6_save_49 : decode cX6_save 49 = .ok (.goto (-28), 3) := by decide +kernel
theorem dX6_save_52 : decode cX6_save 52 = .ok (.aload_n 0, 1) := by decide +kernel
theorem dX6_save_53 : decode cX6_save 53 = .ok (.getfield 7, 3) := by decide +kernel
theorem dX6_save_56 : decode cX6_save 56 = .ok (.iconst 2, 1) := by decide +kernel
theorem dX6_save_57 : decode cX6_save 57 = .ok (.iaload, 1) := by decide +kernel
theorem dX6_save_58 : decode cX6_save 58 = .ok (.ireturn, 1) := by decide +kernel
set_option maxRecDepth 20000 in
theorem ggX6_restore_X6_in : GoodIn wsX6_restore wsX6_in := goodIn_r _ [7] (by decide +kernel) (by decide +kernel)
set_option maxRecDepth 20000 in
theorem gX6_restore_X6_in : GoodIn wsX6_restore (va_wsS RX6 36 yX6_in wsX6_in) := goodIn_app (goodIn_of _ (by decide +kernel)) ggX6_restore_X6_in
set_option maxRecDepth 20000 in
theorem ggX6_restore_X6_record : GoodIn wsX6_restore wsX6_record := goodIn_r _ [11, 12, 13, 2, 14, 15, 16, 17, 18, 19, 20, 21, 22, 23, 24, 25, 26, 27, 28, 29] (by decide +kernel) (by decide +kernel)
set_option maxRecDepth 20000 in
theorem gX6_restore_X6_record : GoodIn wsX6_restore (wsV RX6 48 RX6 yX6_record wsX6_record) := goodIn_app (goodIn_of _ (by decide +kernel)) ggX6_restore_X6_record
theorem dX6_restore_0 : decode cX6_restore 0 = .ok (.iload_n 1, 1) := by decide +kernel
theorem dX6_restore_1 : decode cX6_restore 1 = .ok (.iconst 0, 1) := by decide +kernel
theorem dX6_restore_2 : decode cX6_restore 2 = .ok (.iconst 1, 1) := by decide +kernel
theorem dX6_restore_3 : decode cX6_restore 3 = .ok (.invokestatic 36, 3) := by decide +kernel
theorem dX6_restore_6 : decode cX6_restore 6 = .ok (.ifCond .ne 6, 3) := by decide +kernel
theorem dX6_restore_9 : decode cX6_restore 9 = .ok (.bipush (-2), 2) := by decide +kernel
theorem dX6_restore_11 : decode cX6_restore 11 = .ok (.ireturn, 1) := by decide +kernel
theorem dX6_restore_12 : decode cX6_restore 12 = .ok (.aload_n 0, 1) := by decide +kernel
theorem dX6_restore_13 : decode cX6_restore 13 = .ok (.getfield 19, 3) := by decide +kernel
theorem dX6_restore_16 : decode cX6_restore 16 = .ok (.iload_n 1, 1) := by decide +kernel
theorem dX6_restore_17 : decode cX6_restore 17 = .ok (.baload, 1) := by decide +kernel
theorem dX6_restore_18 : decode cX6_restore 18 = .ok (.ifCond .ne 6, 3) := by decide +kernel
theorem dX6_restore_21 : decode cX6_restore 21 = .ok (.bipush (-5), 2) := by decide +kernel
theorem dX6_restore_23 : decode cX6_restore 23 = .ok (.ireturn, 1) := by decide +kernel
theorem dX6_restore_24 : decode cX6_restore 24 = .ok (.aload_n 0, 1) := by decide +kernel
theorem dX6_restore_25 : decode cX6_restore 25 = .ok (.invokevirtual 48, 3) := by decide +kernel
theorem dX6_restore_28 : decode cX6_restore 28 = .ok (.iconst 0, 1) := by decide +kernel
theorem dX6_restore_29 : decode cX6_restore 29 = .ok (.istore_n 2, 1) := by decide +kernel
theorem dX6_restore_30 : decode cX6_restore 30 = .ok (.iload_n 2, 1) := by decide +kernel
theorem dX6_restore_31 : decode cX6_restore 31 = .ok (.sipush 279, 3) := by decide +kernel
theorem dX6_restore_34 : decode cX6_restore 34 = .ok (.if_icmp .ge 27, 3) := by decide +kernel
theorem dX6_restore_37 : decode cX6_restore 37 = .ok (.aload_n 0, 1) := by decide +kernel
theorem dX6_restore_38 : decode cX6_restore 38 = .ok (.getfield 7, 3) := by decide +kernel
theorem dX6_restore_41 : decode cX6_restore 41 = .ok (.iload_n 2, 1) := by decide +kernel
theorem dX6_restore_42 : decode cX6_restore 42 = .ok (.aload_n 0, 1) := by decide +kernel
theorem dX6_restore_43 : decode cX6_restore 43 = .ok (.getfield 16, 3) := by decide +kernel
theorem dX6_restore_46 : decode cX6_restore 46 = .ok (.iload_n 1, 1) := by decide +kernel
theorem dX6_restore_47 : decode cX6_restore 47 = .ok (.sipush 279, 3) := by decide +kernel
theorem dX6_restore_50 : decode cX6_restore 50 = .ok (.imul, 1) := by decide +kernel
theorem dX6_restore_51 : decode cX6_restore 51 = .ok (.iload_n 2, 1) := by decide +kernel
theorem dX6_restore_52 : decode cX6_restore 52 = .ok (.iadd, 1) := by decide +kernel
theorem dX6_restore_53 : decode cX6_restore 53 = .ok (.iaload, 1) := by decide +kernel
theorem dX6_restore_54 : decode cX6_restore 54 = .ok (.iastore, 1) := by decide +kernel
theorem dX6_restore_55 : decode cX6_restore 55 = .ok (.iinc 2 1, 3) := by decide +kernel
theorem dX6_restore_58 : decode cX6_restore 58 = .ok (.goto (-28), 3) := by decide +kernel
theorem dX6_restore_61 : decode cX6_restore 61 = .ok (.aload_n 0, 1) := by decide +kernel
theorem dX6_restore_62 : decode cX6_restore 62 = .ok (.getfield 7, 3) := by decide +kernel
theorem dX6_restore_65 : decode cX6_restore 65 = .ok (.iconst 2, 1) := by decide +kernel
theorem dX6_restore_66 : decode cX6_restore 66 = .ok (.iaload, 1) := by decide +kernel
theorem dX6_restore_67 : decode cX6_restore 67 = .ok (.ireturn, 1) := by decide +kernel
set_option maxRecDepth 20000 in
theorem ggX6_writerAhead_X6_isIn : GoodIn wsX6_writerAhead wsX6_isIn := goodIn_r _ [6, 7, 8, 9, 5, 10, 1, 15, 16, 17, 18, 19, 20, 21, 22, 23, 24, 25, 26, 27, 28, 29, 30] (by decide +kernel) (by decide +kernel)
set_option maxRecDepth 20000 in
theorem gX6_writerAhead_X6_isIn : GoodIn wsX6_writerAhead (wsV RX6 51 RX6 yX6_isIn wsX6_isIn) := goodIn_app (goodIn_of _ (by decide +kernel)) ggX6_writerAhead_X6_isIn
set_option maxRecDepth 20000 in
theorem ggX6_writerAhead_X6_wrote : GoodIn wsX6_writerAhead wsX6_wrote := goodIn_r _ [14, 7, 8, 9, 5, 10, 1, 15, 16, 17, 18, 19, 20, 21, 22, 23, 24, 25, 26, 27, 28, 29, 30] (by decide +kernel) (by decide +kernel)
set_option maxRecDepth 20000 in
theorem gX6_writerAhead_X6_wrote : GoodIn wsX6_writerAhead (wsV RX6 55 RX6 yX6_wrote wsX6_wrote) := goodIn_app (goodIn_of _ (by decide +kernel)) ggX6_writerAhead_X6_wrote
set_option maxRecDepth 20000 in
theorem ggX6_writerAhead_X6_its : GoodIn wsX6_writerAhead wsX6_its := goodIn_r _ [10, 1, 15, 16, 17, 18, 19, 20, 21, 22, 23, 24, 25, 26, 27, 28, 29, 30] (by decide +kernel) (by decide +kernel)
set_option maxRecDepth 20000 in
theorem gX6_writerAhead_X6_its : GoodIn wsX6_writerAhead (wsV RX6 40 RX6 yX6_its wsX6_its) := goodIn_app (goodIn_of _ (by decide +kernel)) ggX6_writerAhead_X6_its
theorem dX6_writerAhead_0 : decode cX6_writerAhead 0 = .ok (.bipush (-6), 2) := by decide +kernel
theorem dX6_writerAhead_2 : decode cX6_writerAhead 2 = .ok (.istore_n 3, 1) := by decide +kernel
theorem dX6_writerAhead_3 : decode cX6_writerAhead 3 = .ok (.iconst 0, 1) := by decide +kernel
theorem dX6_writerAhead_4 : decode cX6_writerAhead 4 = .ok (.istore 4, 2) := by decide +kernel
theorem dX6_writerAhead_6 : decode cX6_writerAhead 6 = .ok (.iload 4, 2) := by decide +kernel
theorem dX6_writerAhead_8 : decode cX6_writerAhead 8 = .ok (.aload_n 0, 1) := by decide +kernel
theorem dX6_writerAhead_9 : decode cX6_writerAhead 9 = .ok (.getfield 7, 3) := by decide +kernel
theorem dX6_writerAhead_12 : decode cX6_writerAhead 12 = .ok (.iconst 2, 1) := by decide +kernel
theorem dX6_writerAhead_13 : decode cX6_writerAhead 13 = .ok (.iaload, 1) := by decide +kernel
theorem dX6_writerAhead_14 : decode cX6_writerAhead 14 = .ok (.if_icmp .ge 81, 3) := by decide +kernel
theorem dX6_writerAhead_17 : decode cX6_writerAhead 17 = .ok (.aload_n 0, 1) := by decide +kernel
theorem dX6_writerAhead_18 : decode cX6_writerAhead 18 = .ok (.iload 4, 2) := by decide +kernel
theorem dX6_writerAhead_20 : decode cX6_writerAhead 20 = .ok (.iconst 1, 1) := by decide +kernel
theorem dX6_writerAhead_21 : decode cX6_writerAhead 21 = .ok (.invokevirtual 51, 3) := by decide +kernel
theorem dX6_writerAhead_24 : decode cX6_writerAhead 24 = .ok (.ifCond .eq 28, 3) := by decide +kernel
theorem dX6_writerAhead_27 : decode cX6_writerAhead 27 = .ok (.aload_n 0, 1) := by decide +kernel
theorem dX6_writerAhead_28 : decode cX6_writerAhead 28 = .ok (.iload 4, 2) := by decide +kernel
theorem dX6_writerAhead_30 : decode cX6_writerAhead 30 = .ok (.iload_n 1, 1) := by decide +kernel
theorem dX6_writerAhead_31 : decode cX6_writerAhead 31 = .ok (.invokevirtual 55, 3) := by decide +kernel
theorem dX6_writerAhead_34 : decode cX6_writerAhead 34 = .ok (.ifCond .eq 18, 3) := by decide +kernel
theorem dX6_writerAhead_37 : decode cX6_writerAhead 37 = .ok (.aload_n 0, 1) := by decide +kernel
theorem dX6_writerAhead_38 : decode cX6_writerAhead 38 = .ok (.iload 4, 2) := by decide +kernel
theorem dX6_writerAhead_40 : decode cX6_writerAhead 40 = .ok (.iconst 2, 1) := by decide +kernel
theorem dX6_writerAhead_41 : decode cX6_writerAhead 41 = .ok (.invokevirtual 40, 3) := by decide +kernel
theorem dX6_writerAhead_44 : decode cX6_writerAhead 44 = .ok (.iload_n 2, 1) := by decide +kernel
theorem dX6_writerAhead_45 : decode cX6_writerAhead 45 = .ok (.if_icmp .ge 7, 3) := by decide +kernel
theorem dX6_writerAhead_48 : decode cX6_writerAhead 48 = .ok (.iconst 1, 1) := by decide +kernel
theorem dX6_writerAhead_49 : decode cX6_writerAhead 49 = .ok (.goto 4, 3) := by decide +kernel
theorem dX6_writerAhead_52 : decode cX6_writerAhead 52 = .ok (.iconst 0, 1) := by decide +kernel
theorem dX6_writerAhead_53 : decode cX6_writerAhead 53 = .ok (.istore 5, 2) := by decide +kernel
theorem dX6_writerAhead_55 : decode cX6_writerAhead 55 = .ok (.iload 5, 2) := by decide +kernel
theorem dX6_writerAhead_57 : decode cX6_writerAhead 57 = .ok (.ifCond .eq 30, 3) := by decide +kernel
theorem dX6_writerAhead_60 : decode cX6_writerAhead 60 = .ok (.iload_n 3, 1) := by decide +kernel
theorem dX6_writerAhead_61 : decode cX6_writerAhead 61 = .ok (.bipush (-6), 2) := by decide +kernel
theorem dX6_writerAhead_63 : decode cX6_writerAhead 63 = .ok (.if_icmp .eq 19, 3) := by decide +kernel
theorem dX6_writerAhead_66 : decode cX6_writerAhead 66 = .ok (.aload_n 0, 1) := by decide +kernel
theorem dX6_writerAhead_67 : decode cX6_writerAhead 67 = .ok (.iload 4, 2) := by decide +kernel
theorem dX6_writerAhead_69 : decode cX6_writerAhead 69 = .ok (.iconst 2, 1) := by decide +kernel
theorem dX6_writerAhead_70 : decode cX6_writerAhead 70 = .ok (.invokevirtual 40, 3) := by decide +kernel
theorem dX6_writerAhead_73 : decode cX6_writerAhead 73 = .ok (.aload_n 0, 1) := by decide +kernel
theorem dX6_writerAhead_74 : decode cX6_writerAhead 74 = .ok (.iload_n 3, 1) := by decide +kernel
theorem dX6_writerAhead_75 : decode cX6_writerAhead 75 = .ok (.iconst 2, 1) := by decide +kernel
theorem dX6_writerAhead_76 : decode cX6_writerAhead 76 = .ok (.invokevirtual 40, 3) := by decide +kernel
theorem dX6_writerAhead_79 : decode cX6_writerAhead 79 = .ok (.if_icmp .le 8, 3) := by decide +kernel
theorem dX6_writerAhead_82 : decode cX6_writerAhead 82 = .ok (.iload 4, 2) := by decide +kernel
theorem dX6_writerAhead_84 : decode cX6_writerAhead 84 = .ok (.goto 4, 3) := by decide +kernel
theorem dX6_writerAhead_87 : decode cX6_writerAhead 87 = .ok (.iload_n 3, 1) := by decide +kernel
theorem dX6_writerAhead_88 : decode cX6_writerAhead 88 = .ok (.istore_n 3, 1) := by decide +kernel
theorem dX6_writerAhead_89 : decode cX6_writerAhead 89 = .ok (.iinc 4 1, 3) := by decide +kernel
theorem dX6_writerAhead_92 : decode cX6_writerAhead 92 = .ok (.goto (-86), 3) := by decide +kernel
theorem dX6_writerAhead_95 : decode cX6_writerAhead 95 = .ok (.iload_n 3, 1) := by decide +kernel
theorem dX6_writerAhead_96 : decode cX6_writerAhead 96 = .ok (.ireturn, 1) := by decide +kernel
set_option maxRecDepth 20000 in
theorem ggX6_writerBehind_X6_isIn : GoodIn wsX6_writerBehind wsX6_isIn := goodIn_r _ [6, 7, 8, 9, 5, 10, 1, 15, 16, 17, 18, 19, 20, 21, 22, 23, 24, 25, 26, 27, 28, 29, 30] (by decide +kernel) (by decide +kernel)
set_option maxRecDepth 20000 in
theorem gX6_writerBehind_X6_isIn : GoodIn wsX6_writerBehind (wsV RX6 51 RX6 yX6_isIn wsX6_isIn) := goodIn_app (goodIn_of _ (by decide +kernel)) ggX6_writerBehind_X6_isIn
set_option maxRecDepth 20000 in
theorem ggX6_writerBehind_X6_wrote : GoodIn wsX6_writerBehind wsX6_wrote := goodIn_r _ [14, 7, 8, 9, 5, 10, 1, 15, 16, 17, 18, 19, 20, 21, 22, 23, 24, 25, 26, 27, 28, 29, 30] (by decide +kernel) (by decide +kernel)
set_option maxRecDepth 20000 in
theorem gX6_writerBehind_X6_wrote : GoodIn wsX6_writerBehind (wsV RX6 55 RX6 yX6_wrote wsX6_wrote) := goodIn_app (goodIn_of _ (by decide +kernel)) ggX6_writerBehind_X6_wrote
set_option maxRecDepth 20000 in
theorem ggX6_writerBehind_X6_its : GoodIn wsX6_writerBehind wsX6_its := goodIn_r _ [10, 1, 15, 16, 17, 18, 19, 20, 21, 22, 23, 24, 25, 26, 27, 28, 29, 30] (by decide +kernel) (by decide +kernel)
set_option maxRecDepth 20000 in
theorem gX6_writerBehind_X6_its : GoodIn wsX6_writerBehind (wsV RX6 40 RX6 yX6_its wsX6_its) := goodIn_app (goodIn_of _ (by decide +kernel)) ggX6_writerBehind_X6_its
theorem dX6_writerBehind_0 : decode cX6_writerBehind 0 = .ok (.bipush (-6), 2) := by decide +kernel
theorem dX6_writerBehind_2 : decode cX6_writerBehind 2 = .ok (.istore_n 3, 1) := by decide +kernel
theorem dX6_writerBehind_3 : decode cX6_writerBehind 3 = .ok (.iconst 0, 1) := by decide +kernel
theorem dX6_writerBehind_4 : decode cX6_writerBehind 4 = .ok (.istore 4, 2) := by decide +kernel
theorem dX6_writerBehind_6 : decode cX6_writerBehind 6 = .ok (.iload 4, 2) := by decide +kernel
theorem dX6_writerBehind_8 : decode cX6_writerBehind 8 = .ok (.aload_n 0, 1) := by decide +kernel
theorem dX6_writerBehind_9 : decode cX6_writerBehind 9 = .ok (.getfield 7, 3) := by decide +kernel
theorem dX6_writerBehind_12 : decode cX6_writerBehind 12 = .ok (.iconst 2, 1) := by decide +kernel
theorem dX6_writerBehind_13 : decode cX6_writerBehind 13 = .ok (.iaload, 1) := by decide +kernel
theorem dX6_writerBehind_14 : decode cX6_writerBehind 14 = .ok (.if_icmp .ge 81, 3) := by decide +kernel
theorem dX6_writerBehind_17 : decode cX6_writerBehind 17 = .ok (.aload_n 0, 1) := by decide +kernel
theorem dX6_writerBehind_18 : decode cX6_writerBehind 18 = .ok (.iload 4, 2) := by decide +kernel
theorem dX6_writerBehind_20 : decode cX6_writerBehind 20 = .ok (.iconst 1, 1) := by decide +kernel
theorem dX6_writerBehind_21 : decode cX6_writerBehind 21 = .ok (.invokevirtual 51, 3) := by decide +kernel
theorem dX6_writerBehind_24 : decode cX6_writerBehind 24 = .ok (.ifCond .eq 28, 3) := by decide +kernel
theorem dX6_writerBehind_27 : decode cX6_writerBehind 27 = .ok (.aload_n 0, 1) := by decide +kernel
theorem dX6_writerBehind_28 : decode cX6_writerBehind 28 = .ok (.iload 4, 2) := by decide +kernel
theorem dX6_writerBehind_30 : decode cX6_writerBehind 30 = .ok (.iload_n 1, 1) := by decide +kernel
theorem dX6_writerBehind_31 : decode cX6_writerBehind 31 = .ok (.invokevirtual 55, 3) := by decide +kernel
theorem dX6_writerBehind_34 : decode cX6_writerBehind 34 = .ok (.ifCond .eq 18, 3) := by decide +kernel
theorem dX6_writerBehind_37 : decode cX6_writerBehind 37 = .ok (.aload_n 0, 1) := by decide +kernel
theorem dX6_writerBehind_38 : decode cX6_writerBehind 38 = .ok (.iload 4, 2) := by decide +kernel
theorem dX6_writerBehind_40 : decode cX6_writerBehind 40 = .ok (.iconst 2, 1) := by decide +kernel
theorem dX6_writerBehind_41 : decode cX6_writerBehind 41 = .ok (.invokevirtual 40, 3) := by decide +kernel
theorem dX6_writerBehind_44 : decode cX6_writerBehind 44 = .ok (.iload_n 2, 1) := by decide +kernel
theorem dX6_writerBehind_45 : decode cX6_writerBehind 45 = .ok (.if_icmp .le 7, 3) := by decide +kernel
theorem dX6_writerBehind_48 : decode cX6_writerBehind 48 = .ok (.iconst 1, 1) := by decide +kernel
theorem dX6_writerBehind_49 : decode cX6_writerBehind 49 = .ok (.goto 4, 3) := by decide +kernel
theorem dX6_writerBehind_52 : decode cX6_writerBehind 52 = .ok (.iconst 0, 1) := by decide +kernel
theorem dX6_writerBehind_53 : decode cX6_writerBehind 53 = .ok (.istore 5, 2) := by decide +kernel
theorem dX6_writerBehind_55 : decode cX6_writerBehind 55 = .ok (.iload 5, 2) := by decide +kernel
theorem dX6_writerBehind_57 : decode cX6_writerBehind 57 = .ok (.ifCond .eq 30, 3) := by decide +kernel
theorem dX6_writerBehind_60 : decode cX6_writerBehind 60 = .ok (.iload_n 3, 1) := by decide +kernel
theorem dX6_writerBehind_61 : decode cX6_writerBehind 61 = .ok (.bipush (-6), 2) := by decide +kernel
theorem dX6_writerBehind_63 : decode cX6_writerBehind 63 = .ok (.if_icmp .eq 19, 3) := by decide +kernel
theorem dX6_writerBehind_66 : decode cX6_writerBehind 66 = .ok (.aload_n 0, 1) := by decide +kernel
theorem dX6_writerBehind_67 : decode cX6_writerBehind 67 = .ok (.iload 4, 2) := by decide +kernel
theorem dX6_writerBehind_69 : decode cX6_writerBehind 69 = .ok (.iconst 2, 1) := by decide +kernel
theorem dX6_writerBehind_70 : decode cX6_writerBehind 70 = .ok (.invokevirtual 40, 3) := by decide +kernel
theorem dX6_writerBehind_73 : decode cX6_writerBehind 73 = .ok (.aload_n 0, 1) := by decide +kernel
theorem dX6_writerBehind_74 : decode cX6_writerBehind 74 = .ok (.iload_n 3, 1) := by decide +kernel
theorem dX6_writerBehind_75 : decode cX6_writerBehind 75 = .ok (.iconst 2, 1) := by decide +kernel
theorem dX6_writerBehind_76 : decode cX6_writerBehind 76 = .ok (.invokevirtual 40, 3) := by decide +kernel
theorem dX6_writerBehind_79 : decode cX6_writerBehind 79 = .ok (.if_icmp .ge 8, 3) := by decide +kernel
theorem dX6_writerBehind_82 : decode cX6_writerBehind 82 = .ok (.iload 4, 2) := by decide +kernel
theorem dX6_writerBehind_84 : decode cX6_writerBehind 84 = .ok (.goto 4, 3) := by decide +kernel
theorem dX6_writerBehind_87 : decode cX6_writerBehind 87 = .ok (.iload_n 3, 1) := by decide +kernel
theorem dX6_writerBehind_88 : decode cX6_writerBehind 88 = .ok (.istore_n 3, 1) := by decide +kernel
theorem dX6_writerBehind_89 : decode cX6_writerBehind 89 = .ok (.iinc 4 1, 3) := by decide +kernel
theorem dX6_writerBehind_92 : decode cX6_writerBehind 92 = .ok (.goto (-86), 3) := by decide +kernel
theorem dX6_writerBehind_95 : decode cX6_writerBehind 95 = .ok (.iload_n 3, 1) := by decide +kernel
theorem dX6_writerBehind_96 : decode cX6_writerBehind 96 = .ok (.ireturn, 1) := by decide +kernel
set_option maxRecDepth 20000 in
theorem ggX6_isCommittedAhead_X6_isIn : GoodIn wsX6_isCommittedAhead wsX6_isIn := goodIn_r _ [5, 6, 7, 8, 4, 9, 10, 11, 12, 13, 14, 15, 16, 17, 18, 19, 20, 21, 22, 23, 24, 25, 26] (by decide +kernel) (by decide +kernel)
set_option maxRecDepth 20000 in
theorem gX6_isCommittedAhead_X6_isIn : GoodIn wsX6_isCommittedAhead (wsV RX6 51 RX6 yX6_isIn wsX6_isIn) := goodIn_app (goodIn_of _ (by decide +kernel)) ggX6_isCommittedAhead_X6_isIn
set_option maxRecDepth 20000 in
theorem ggX6_isCommittedAhead_X6_its : GoodIn wsX6_isCommittedAhead wsX6_its := goodIn_r _ [9, 10, 11, 12, 13, 14, 15, 16, 17, 18, 19, 20, 21, 22, 23, 24, 25, 26] (by decide +kernel) (by decide +kernel)
set_option maxRecDepth 20000 in
theorem gX6_isCommittedAhead_X6_its : GoodIn wsX6_isCommittedAhead (wsV RX6 40 RX6 yX6_its wsX6_its) := goodIn_app (goodIn_of _ (by decide +kernel)) ggX6_isCommittedAhead_X6_its
theorem dX6_isCommittedAhead_0 : decode cX6_isCommittedAhead 0 = .ok (.aload_n 0, 1) := by decide +kernel
theorem dX6_isCommittedAhead_1 : decode cX6_isCommittedAhead 1 = .ok (.iload_n 1, 1) := by decide +kernel
theorem dX6_isCommittedAhead_2 : decode cX6_isCommittedAhead 2 = .ok (.iconst 1, 1) := by decide +kernel
theorem dX6_isCommittedAhead_3 : decode cX6_isCommittedAhead 3 = .ok (.invokevirtual 51, 3) := by decide +kernel
theorem dX6_isCommittedAhead_6 : decode cX6_isCommittedAhead 6 = .ok (.ifCond .eq 17, 3) := by decide +kernel
theorem dX6_isCommittedAhead_9 : decode cX6_isCommittedAhead 9 = .ok (.aload_n 0, 1) := by decide +kernel
theorem dX6_isCommittedAhead_10 : decode cX6_isCommittedAhead 10 = .ok (.iload_n 1, 1) := by decide +kernel
theorem dX6_isCommittedAhead_11 : decode cX6_isCommittedAhead 11 = .ok (.iconst 2, 1) := by decide +kernel
theorem dX6_isCommittedAhead_12 : decode cX6_isCommittedAhead 12 = .ok (.invokevirtual 40, 3) := by decide +kernel
theorem dX6_isCommittedAhead_15 : decode cX6_isCommittedAhead 15 = .ok (.iload_n 2, 1) := by decide +kernel
theorem dX6_isCommittedAhead_16 : decode cX6_isCommittedAhead 16 = .ok (.if_icmp .ge 7, 3) := by decide +kernel
theorem dX6_isCommittedAhead_19 : decode cX6_isCommittedAhead 19 = .ok (.iconst 1, 1) := by decide +kernel
theorem dX6_isCommittedAhead_20 : decode cX6_isCommittedAhead 20 = .ok (.goto 4, 3) := by decide +kernel
theorem dX6_isCommittedAhead_23 : decode cX6_isCommittedAhead 23 = .ok (.iconst 0, 1) := by decide +kernel
theorem dX6_isCommittedAhead_24 : decode cX6_isCommittedAhead 24 = .ok (.ireturn, 1) := by decide +kernel
set_option maxRecDepth 20000 in
theorem ggX6_overlap_X6_isIn : GoodIn wsX6_overlap wsX6_isIn := goodIn_r _ [5, 6, 7, 8, 4, 9, 10, 15, 16, 17, 18, 19, 20, 21, 22, 23, 24, 25, 26, 27, 28, 29, 30] (by decide +kernel) (by decide +kernel)
set_option maxRecDepth 20000 in
theorem gX6_overlap_X6_isIn : GoodIn wsX6_overlap (wsV RX6 51 RX6 yX6_isIn wsX6_isIn) := goodIn_app (goodIn_of _ (by decide +kernel)) ggX6_overlap_X6_isIn
set_option maxRecDepth 20000 in
theorem ggX6_overlap_X6_its : GoodIn wsX6_overlap wsX6_its := goodIn_r _ [9, 10, 15, 16, 17, 18, 19, 20, 21, 22, 23, 24, 25, 26, 27, 28, 29, 30] (by decide +kernel) (by decide +kernel)
set_option maxRecDepth 20000 in
theorem gX6_overlap_X6_its : GoodIn wsX6_overlap (wsV RX6 40 RX6 yX6_its wsX6_its) := goodIn_app (goodIn_of _ (by decide +kernel)) ggX6_overlap_X6_its
set_option maxRecDepth 20000 in
theorem ggX6_overlap_X6_isCommittedAhead : GoodIn wsX6_overlap wsX6_isCommittedAhead := goodIn_r _ [14, 1, 2, 3, 4, 5, 6, 7, 8, 9, 10, 15, 16, 17, 18, 19, 20, 21, 22, 23, 24, 25, 26, 27, 28, 29, 30] (by decide +kernel) (by decide +kernel)
set_option maxRecDepth 20000 in
theorem gX6_overlap_X6_isCommittedAhead : GoodIn wsX6_overlap (wsV RX6 58 RX6 yX6_isCommittedAhead wsX6_isCommittedAhead) := goodIn_app (goodIn_of _ (by decide +kernel)) ggX6_overlap_X6_isCommittedAhead
theorem dX6_overlap_0 : decode cX6_overlap 0 = .ok (.aload_n 0, 1) := by decide +kernel
theorem dX6_overlap_1 : decode cX6_overlap 1 = .ok (.iload_n 1, 1) := by decide +kernel
theorem dX6_overlap_2 : decode cX6_overlap 2 = .ok (.iconst 2, 1) := by decide +kernel
theorem dX6_overlap_3 : decode cX6_overlap 3 = .ok (.invokevirtual 51, 3) := by decide +kernel
theorem dX6_overlap_6 : decode cX6_overlap 6 = .ok (.ifCond .ne 12, 3) := by decide +kernel
theorem dX6_overlap_9 : decode cX6_overlap 9 = .ok (.aload_n 0, 1) := by decide +kernel
theorem dX6_overlap_10 : decode cX6_overlap 10 = .ok (.iload_n 2, 1) := by decide +kernel
theorem dX6_overlap_11 : decode cX6_overlap 11 = .ok (.iconst 2, 1) := by decide +kernel
theorem dX6_overlap_12 : decode cX6_overlap 12 = .ok (.invokevirtual 51, 3) := by decide +kernel
theorem dX6_overlap_15 : decode cX6_overlap 15 = .ok (.ifCond .eq 7, 3) := by decide +kernel
theorem dX6_overlap_18 : decode cX6_overlap 18 = .ok (.iconst 1, 1) := by decide +kernel
theorem dX6_overlap_19 : decode cX6_overlap 19 = .ok (.goto 4, 3) := by decide +kernel
theorem dX6_overlap_22 : decode cX6_overlap 22 = .ok (.iconst 0, 1) := by decide +kernel
theorem dX6_overlap_23 : decode cX6_overlap 23 = .ok (.istore_n 3, 1) := by decide +kernel
theorem dX6_overlap_24 : decode cX6_overlap 24 = .ok (.iload_n 3, 1) := by decide +kernel
theorem dX6_overlap_25 : decode cX6_overlap 25 = .ok (.ifCond .ne 35, 3) := by decide +kernel
theorem dX6_overlap_28 : decode cX6_overlap 28 = .ok (.aload_n 0, 1) := by decide +kernel
theorem dX6_overlap_29 : decode cX6_overlap 29 = .ok (.iload_n 1, 1) := by decide +kernel
theorem dX6_overlap_30 : decode cX6_overlap 30 = .ok (.aload_n 0, 1) := by decide +kernel
theorem dX6_overlap_31 : decode cX6_overlap 31 = .ok (.iload_n 2, 1) := by decide +kernel
theorem dX6_overlap_32 : decode cX6_overlap 32 = .ok (.iconst 1, 1) := by decide +kernel
theorem dX6_overlap_33 : decode cX6_overlap 33 = .ok (.invokevirtual 40, 3) := by decide +kernel
theorem dX6_overlap_36 : decode cX6_overlap 36 = .ok (.invokevirtual 58, 3) := by decide +kernel
theorem dX6_overlap_39 : decode cX6_overlap 39 = .ok (.ifCond .ne 21, 3) := by decide +kernel
theorem dX6_overlap_42 : decode cX6_overlap 42 = .ok (.aload_n 0, 1) := by decide +kernel
theorem dX6_overlap_43 : decode cX6_overlap 43 = .ok (.iload_n 2, 1) := by decide +kernel
theorem dX6_overlap_44 : decode cX6_overlap 44 = .ok (.aload_n 0, 1) := by decide +kernel
theorem dX6_overlap_45 : decode cX6_overlap 45 = .ok (.iload_n 1, 1) := by decide +kernel
theorem dX6_overlap_46 : decode cX6_overlap 46 = .ok (.iconst 1, 1) := by decide +kernel
theorem dX6_overlap_47 : decode cX6_overlap 47 = .ok (.invokevirtual 40, 3) := by decide +kernel
theorem dX6_overlap_50 : decode cX6_overlap 50 = .ok (.invokevirtual 58, 3) := by decide +kernel
theorem dX6_overlap_53 : decode cX6_overlap 53 = .ok (.ifCond .ne 7, 3) := by decide +kernel
theorem dX6_overlap_56 : decode cX6_overlap 56 = .ok (.iconst 1, 1) := by decide +kernel
theorem dX6_overlap_57 : decode cX6_overlap 57 = .ok (.goto 4, 3) := by decide +kernel
theorem dX6_overlap_60 : decode cX6_overlap 60 = .ok (.iconst 0, 1) := by decide +kernel
theorem dX6_overlap_61 : decode cX6_overlap 61 = .ok (.ireturn, 1) := by decide +kernel
set_option maxRecDepth 20000 in
theorem ggX6_isEdge_X6_its : GoodIn wsX6_isEdge wsX6_its := goodIn_r _ [5, 6, 19, 20, 21, 22, 23, 24, 25, 26, 27, 28, 29, 30, 31, 32, 33, 34] (by decide +kernel) (by decide +kernel)
set_option maxRecDepth 20000 in
theorem gX6_isEdge_X6_its : GoodIn wsX6_isEdge (wsV RX6 40 RX6 yX6_its wsX6_its) := goodIn_app (goodIn_of _ (by decide +kernel)) ggX6_isEdge_X6_its
set_option maxRecDepth 20000 in
theorem ggX6_isEdge_X6_overlap : GoodIn wsX6_isEdge wsX6_overlap := goodIn_r _ [10, 11, 12, 13, 4, 14, 1, 2, 3, 5, 6, 15, 16, 17, 18, 19, 20, 21, 22, 23, 24, 25, 26, 27, 28, 29, 30, 31, 32, 33, 34] (by decide +kernel) (by decide +kernel)
set_option maxRecDepth 20000 in
theorem gX6_isEdge_X6_overlap : GoodIn wsX6_isEdge (wsV RX6 61 RX6 yX6_overlap wsX6_overlap) := goodIn_app (goodIn_of _ (by decide +kernel)) ggX6_isEdge_X6_overlap
theorem dX6_isEdge_0 : decode cX6_isEdge 0 = .ok (.iload_n 1, 1) := by decide +kernel
theorem dX6_isEdge_1 : decode cX6_isEdge 1 = .ok (.iload_n 2, 1) := by decide +kernel
theorem dX6_isEdge_2 : decode cX6_isEdge 2 = .ok (.if_icmp .eq 32, 3) := by decide +kernel
theorem dX6_isEdge_5 : decode cX6_isEdge 5 = .ok (.aload_n 0, 1) := by decide +kernel
theorem dX6_isEdge_6 : decode cX6_isEdge 6 = .ok (.iload_n 1, 1) := by decide +kernel
theorem dX6_isEdge_7 : decode cX6_isEdge 7 = .ok (.iconst 3, 1) := by decide +kernel
theorem dX6_isEdge_8 : decode cX6_isEdge 8 = .ok (.invokevirtual 40, 3) := by decide +kernel
theorem dX6_isEdge_11 : decode cX6_isEdge 11 = .ok (.aload_n 0, 1) := by decide +kernel
theorem dX6_isEdge_12 : decode cX6_isEdge 12 = .ok (.iload_n 2, 1) := by decide +kernel
theorem dX6_isEdge_13 : decode cX6_isEdge 13 = .ok (.iconst 4, 1) := by decide +kernel
theorem dX6_isEdge_14 : decode cX6_isEdge 14 = .ok (.invokevirtual 40, 3) := by decide +kernel
theorem dX6_isEdge_17 : decode cX6_isEdge 17 = .ok (.iand, 1) := by decide +kernel
theorem dX6_isEdge_18 : decode cX6_isEdge 18 = .ok (.ifCond .eq 16, 3) := by decide +kernel
theorem dX6_isEdge_21 : decode cX6_isEdge 21 = .ok (.aload_n 0, 1) := by decide +kernel
theorem dX6_isEdge_22 : decode cX6_isEdge 22 = .ok (.iload_n 1, 1) := by decide +kernel
theorem dX6_isEdge_23 : decode cX6_isEdge 23 = .ok (.iload_n 2, 1) := by decide +kernel
theorem dX6_isEdge_24 : decode cX6_isEdge 24 = .ok (.invokevirtual 61, 3) := by decide +kernel
theorem dX6_isEdge_27 : decode cX6_isEdge 27 = .ok (.ifCond .eq 7, 3) := by decide +kernel
theorem dX6_isEdge_30 : decode cX6_isEdge 30 = .ok (.iconst 1, 1) := by decide +kernel
theorem dX6_isEdge_31 : decode cX6_isEdge 31 = .ok (.goto 4, 3) := by decide +kernel
theorem dX6_isEdge_34 : decode cX6_isEdge 34 = .ok (.iconst 0, 1) := by decide +kernel
theorem dX6_isEdge_35 : decode cX6_isEdge 35 = .ok (.ireturn, 1) := by decide +kernel
set_option maxRecDepth 20000 in
theorem ggX6_isTriple_X6_isEdge : GoodIn wsX6_isTriple wsX6_isEdge := goodIn_r _ [5, 6, 7, 8, 4, 9, 10, 11, 12, 13, 14, 15, 16, 17, 18, 19, 20, 21, 22, 23, 24, 25, 26, 27, 28, 29, 30, 31, 32, 33, 34, 35, 36, 37, 38] (by decide +kernel) (by decide +kernel)
set_option maxRecDepth 20000 in
theorem gX6_isTriple_X6_isEdge : GoodIn wsX6_isTriple (wsV RX6 64 RX6 yX6_isEdge wsX6_isEdge) := goodIn_app (goodIn_of _ (by decide +kernel)) ggX6_isTriple_X6_isEdge
theorem dX6_isTriple_0 : decode cX6_isTriple 0 = .ok (.aload_n 0, 1) := by decide +kernel
theorem dX6_isTriple_1 : decode cX6_isTriple 1 = .ok (.iload_n 1, 1) := by decide +kernel
theorem dX6_isTriple_2 : decode cX6_isTriple 2 = .ok (.iload_n 2, 1) := by decide +kernel
theorem dX6_isTriple_3 : decode cX6_isTriple 3 = .ok (.invokevirtual 64, 3) := by decide +kernel
theorem dX6_isTriple_6 : decode cX6_isTriple 6 = .ok (.ifCond .eq 16, 3) := by decide +kernel
theorem dX6_isTriple_9 : decode cX6_isTriple 9 = .ok (.aload_n 0, 1) := by decide +kernel
theorem dX6_isTriple_10 : decode cX6_isTriple 10 = .ok (.iload_n 2, 1) := by decide +kernel
theorem dX6_isTriple_11 : decode cX6_isTriple 11 = .ok (.iload_n 3, 1) := by decide +kernel
theorem dX6_isTriple_12 : decode cX6_isTriple 12 = .ok (.invokevirtual 64, 3) := by decide +kernel
theorem dX6_isTriple_15 : decode cX6_isTriple 15 = .ok (.ifCond .eq 7, 3) := by decide +kernel
theorem dX6_isTriple_18 : decode cX6_isTriple 18 = .ok (.iconst 1, 1) := by decide +kernel
theorem dX6_isTriple_19 : decode cX6_isTriple 19 = .ok (.goto 4, 3) := by decide +kernel
theorem dX6_isTriple_22 : decode cX6_isTriple 22 = .ok (.iconst 0, 1) := by decide +kernel
theorem dX6_isTriple_23 : decode cX6_isTriple 23 = .ok (.ireturn, 1) := by decide +kernel
set_option maxRecDepth 20000 in
theorem ggX6_counts_X6_its : GoodIn wsX6_counts wsX6_its := goodIn_r _ [5, 6, 7, 8, 9, 10, 11, 12, 13, 14, 15, 16, 17, 18, 19, 20, 21, 22] (by decide +kernel) (by decide +kernel)
set_option maxRecDepth 20000 in
theorem gX6_counts_X6_its : GoodIn wsX6_counts (wsV RX6 40 RX6 yX6_its wsX6_its) := goodIn_app (goodIn_of _ (by decide +kernel)) ggX6_counts_X6_its
theorem dX6_counts_0 : decode cX6_counts 0 = .ok (.iload_n 1, 1) := by decide +kernel
theorem dX6_counts_1 : decode cX6_counts 1 = .ok (.ifCond .eq 8, 3) := by decide +kernel
theorem dX6_counts_4 : decode cX6_counts 4 = .ok (.iload_n 1, 1) := by decide +kernel
theorem dX6_counts_5 : decode cX6_counts 5 = .ok (.iconst 3, 1) := by decide +kernel
theorem dX6_counts_6 : decode cX6_counts 6 = .ok (.if_icmp .ne 13, 3) := by decide +kernel
theorem dX6_counts_9 : decode cX6_counts 9 = .ok (.iload_n 1, 1) := by decide +kernel
theorem dX6_counts_10 : decode cX6_counts 10 = .ok (.ifCond .ne 7, 3) := by decide +kernel
theorem dX6_counts_13 : decode cX6_counts 13 = .ok (.iconst 1, 1) := by decide +kernel
theorem dX6_counts_14 : decode cX6_counts 14 = .ok (.goto 4, 3) := by decide +kernel
theorem dX6_counts_17 : decode cX6_counts 17 = .ok (.iconst 0, 1) := by decide +kernel
theorem dX6_counts_18 : decode cX6_counts 18 = .ok (.ireturn, 1) := by decide +kernel
theorem dX6_counts_19 : decode cX6_counts 19 = .ok (.aload_n 0, 1) := by decide +kernel
theorem dX6_counts_20 : decode cX6_counts 20 = .ok (.iload 4, 2) := by decide +kernel
theorem dX6_counts_22 : decode cX6_counts 22 = .ok (.iconst 2, 1) := by decide +kernel
theorem dX6_counts_23 : decode cX6_counts 23 = .ok (.invokevirtual 40, 3) := by decide +kernel
theorem dX6_counts_26 : decode cX6_counts 26 = .ok (.istore 5, 2) := by decide +kernel
theorem dX6_counts_28 : decode cX6_counts 28 = .ok (.iload 5, 2) := by decide +kernel
theorem dX6_counts_30 : decode cX6_counts 30 = .ok (.aload_n 0, 1) := by decide +kernel
theorem dX6_counts_31 : decode cX6_counts 31 = .ok (.iload_n 3, 1) := by decide +kernel
theorem dX6_counts_32 : decode cX6_counts 32 = .ok (.iconst 2, 1) := by decide +kernel
theorem dX6_counts_33 : decode cX6_counts 33 = .ok (.invokevirtual 40, 3) := by decide +kernel
theorem dX6_counts_36 : decode cX6_counts 36 = .ok (.if_icmp .ge 24, 3) := by decide +kernel
theorem dX6_counts_39 : decode cX6_counts 39 = .ok (.iload 4, 2) := by decide +kernel
theorem dX6_counts_41 : decode cX6_counts 41 = .ok (.iload_n 2, 1) := by decide +kernel
theorem dX6_counts_42 : decode cX6_counts 42 = .ok (.if_icmp .eq 14, 3) := by decide +kernel
theorem dX6_counts_45 : decode cX6_counts 45 = .ok (.iload 5, 2) := by decide +kernel
theorem dX6_counts_47 : decode cX6_counts 47 = .ok (.aload_n 0, 1) := by decide +kernel
theorem dX6_counts_48 : decode cX6_counts 48 = .ok (.iload_n 2, 1) := by decide +kernel
theorem dX6_counts_49 : decode cX6_counts 49 = .ok (.iconst 2, 1) := by decide +kernel
theorem dX6_counts_50 : decode cX6_counts 50 = .ok (.invokevirtual 40, 3) := by decide +kernel
theorem dX6_counts_53 : decode cX6_counts 53 = .ok (.if_icmp .ge 7, 3) := by decide +kernel
theorem dX6_counts_56 : decode cX6_counts 56 = .ok (.iconst 1, 1) := by decide +kernel
theorem dX6_counts_57 : decode cX6_counts 57 = .ok (.goto 4, 3) := by decide +kernel
theorem dX6_counts_60 : decode cX6_counts 60 = .ok (.iconst 0, 1) := by decide +kernel
theorem dX6_counts_61 : decode cX6_counts 61 = .ok (.istore 6, 2) := by decide +kernel
theorem dX6_counts_63 : decode cX6_counts 63 = .ok (.iload 6, 2) := by decide +kernel
theorem dX6_counts_65 : decode cX6_counts 65 = .ok (.ifCond .eq 32, 3) := by decide +kernel
theorem dX6_counts_68 : decode cX6_counts 68 = .ok (.iload_n 1, 1) := by decide +kernel
theorem dX6_counts_69 : decode cX6_counts 69 = .ok (.iconst 1, 1) := by decide +kernel
theorem dX6_counts_70 : decode cX6_counts 70 = .ok (.if_icmp .eq 23, 3) := by decide +kernel
theorem dX6_counts_73 : decode cX6_counts 73 = .ok (.aload_n 0, 1) := by decide +kernel
theorem dX6_counts_74 : decode cX6_counts 74 = .ok (.iload_n 2, 1) := by decide +kernel
theorem dX6_counts_75 : decode cX6_counts 75 = .ok (.iconst 4, 1) := by decide +kernel
theorem dX6_counts_76 : decode cX6_counts 76 = .ok (.invokevirtual 40, 3) := by decide +kernel
theorem dX6_counts_79 : decode cX6_counts 79 = .ok (.ifCond .ne 14, 3) := by decide +kernel
theorem dX6_counts_82 : decode cX6_counts 82 = .ok (.iload 5, 2) := by decide +kernel
theorem dX6_counts_84 : decode cX6_counts 84 = .ok (.aload_n 0, 1) := by decide +kernel
theorem dX6_counts_85 : decode cX6_counts 85 = .ok (.iload_n 2, 1) := by decide +kernel
theorem dX6_counts_86 : decode cX6_counts 86 = .ok (.iconst 1, 1) := by decide +kernel
theorem dX6_counts_87 : decode cX6_counts 87 = .ok (.invokevirtual 40, 3) := by decide +kernel
theorem dX6_counts_90 : decode cX6_counts 90 = .ok (.if_icmp .ge 7, 3) := by decide +kernel
theorem dX6_counts_93 : decode cX6_counts 93 = .ok (.iconst 1, 1) := by decide +kernel
theorem dX6_counts_94 : decode cX6_counts 94 = .ok (.goto 4, 3) := by decide +kernel
theorem dX6_counts_97 : decode cX6_counts 97 = .ok (.iconst 0, 1) := by decide +kernel
theorem dX6_counts_98 : decode cX6_counts 98 = .ok (.ireturn, 1) := by decide +kernel
set_option maxRecDepth 20000 in
theorem ggX6_findTriple_X6_isIn : GoodIn wsX6_findTriple wsX6_isIn := goodIn_r _ [9, 10, 11, 12, 8, 13, 1, 34, 35, 36, 37, 38, 39, 40, 41, 42, 43, 44, 45, 46, 47, 48, 49] (by decide +kernel) (by decide +kernel)
set_option maxRecDepth 20000 in
theorem gX6_findTriple_X6_isIn : GoodIn wsX6_findTriple (wsV RX6 51 RX6 yX6_isIn wsX6_isIn) := goodIn_app (goodIn_of _ (by decide +kernel)) ggX6_findTriple_X6_isIn
set_option maxRecDepth 20000 in
theorem ggX6_findTriple_X6_isTriple : GoodIn wsX6_findTriple wsX6_isTriple := goodIn_r _ [17, 18, 19, 20, 8, 21, 10, 11, 12, 13, 1, 22, 23, 24, 25, 5, 6, 7, 9, 26, 27, 28, 29, 34, 35, 36, 37, 38, 39, 40, 41, 42, 43, 44, 45, 46, 47, 48, 49] (by decide +kernel) (by decide +kernel)
set_option maxRecDepth 20000 in
theorem gX6_findTriple_X6_isTriple : GoodIn wsX6_findTriple (wsV RX6 67 RX6 yX6_isTriple wsX6_isTriple) := goodIn_app (goodIn_of _ (by decide +kernel)) ggX6_findTriple_X6_isTriple
set_option maxRecDepth 20000 in
theorem ggX6_findTriple_X6_counts : GoodIn wsX6_findTriple wsX6_counts := goodIn_r _ [33, 10, 11, 12, 8, 13, 1, 34, 35, 36, 37, 38, 39, 40, 41, 42, 43, 44, 45, 46, 47, 48, 49] (by decide +kernel) (by decide +kernel)
set_option maxRecDepth 20000 in
theorem gX6_findTriple_X6_counts : GoodIn wsX6_findTriple (wsV RX6 70 RX6 yX6_counts wsX6_counts) := goodIn_app (goodIn_of _ (by decide +kernel)) ggX6_findTriple_X6_counts
theorem dX6_findTriple_0 : decode cX6_findTriple 0 = .ok (.iconst 0, 1) := by decide +kernel
theorem dX6_findTriple_1 : decode cX6_findTriple 1 = .ok (.istore_n 3, 1) := by decide +kernel
theorem dX6_findTriple_2 : decode cX6_findTriple 2 = .ok (.iload_n 3, 1) := by decide +kernel
theorem dX6_findTriple_3 : decode cX6_findTriple 3 = .ok (.aload_n 0, 1) := by decide +kernel
theorem dX6_findTriple_4 : decode cX6_findTriple 4 = .ok (.getfield 7, 3) := by decide +kernel
theorem dX6_findTriple_7 : decode cX6_findTriple 7 = .ok (.iconst 2, 1) := by decide +kernel
theorem dX6_findTriple_8 : decode cX6_findTriple 8 = .ok (.iaload, 1) := by decide +kernel
theorem dX6_findTriple_9 : decode cX6_findTriple 9 = .ok (.if_icmp .ge 151, 3) := by decide +kernel
theorem dX6_findTriple_12 : decode cX6_findTriple 12 = .ok (.iconst 0, 1) := by decide +kernel
theorem dX6_findTriple_13 : decode cX6_findTriple 13 = .ok (.istore 4, 2) := by decide +kernel
theorem dX6_findTriple_15 : decode cX6_findTriple 15 = .ok (.iload 4, 2) := by decide +kernel
theorem dX6_findTriple_17 : decode cX6_findTriple 17 = .ok (.aload_n 0, 1) := by decide +kernel
theorem dX6_findTriple_18 : decode cX6_findTriple 18 = .ok (.getfield 7, 3) := by decide +kernel
theorem dX6_findTriple_21 : decode cX6_findTriple 21 = .ok (.iconst 2, 1) := by decide +kernel
theorem dX6_findTriple_22 : decode cX6_findTriple 22 = .ok (.iaload, 1) := by decide +kernel
theorem dX6_findTriple_23 : decode cX6_findTriple 23 = .ok (.if_icmp .ge 131, 3) := by decide +kernel
theorem dX6_findTriple_26 : decode cX6_findTriple 26 = .ok (.iconst 0, 1) := by decide +kernel
theorem dX6_findTriple_27 : decode cX6_findTriple 27 = .ok (.istore 5, 2) := by decide +kernel
theorem dX6_findTriple_29 : decode cX6_findTriple 29 = .ok (.iload 5, 2) := by decide +kernel
theorem dX6_findTriple_31 : decode cX6_findTriple 31 = .ok (.aload_n 0, 1) := by decide +kernel
theorem dX6_findTriple_32 : decode cX6_findTriple 32 = .ok (.getfield 7, 3) := by decide +kernel
theorem dX6_findTriple_35 : decode cX6_findTriple 35 = .ok (.iconst 2, 1) := by decide +kernel
theorem dX6_findTriple_36 : decode cX6_findTriple 36 = .ok (.iaload, 1) := by decide +kernel
theorem dX6_findTriple_37 : decode cX6_findTriple 37 = .ok (.if_icmp .ge 111, 3) := by decide +kernel
theorem dX6_findTriple_40 : decode cX6_findTriple 40 = .ok (.aload_n 0, 1) := by decide +kernel
theorem dX6_findTriple_41 : decode cX6_findTriple 41 = .ok (.iload 4, 2) := by decide +kernel
theorem dX6_findTriple_43 : decode cX6_findTriple 43 = .ok (.iconst 1, 1) := by decide +kernel
theorem dX6_findTriple_44 : decode cX6_findTriple 44 = .ok (.invokevirtual 51, 3) := by decide +kernel
theorem dX6_findTriple_47 : decode cX6_findTriple 47 = .ok (.ifCond .eq 43, 3) := by decide +kernel
theorem dX6_findTriple_50 : decode cX6_findTriple 50 = .ok (.aload_n 0, 1) := by decide +kernel
theorem dX6_findTriple_51 : decode cX6_findTriple 51 = .ok (.iload_n 3, 1) := by decide +kernel
theorem dX6_findTriple_52 : decode cX6_findTriple 52 = .ok (.iconst 1, 1) := by decide +kernel
theorem dX6_findTriple_53 : decode cX6_findTriple 53 = .ok (.invokevirtual 51, 3) := by decide +kernel
theorem dX6_findTriple_56 : decode cX6_findTriple 56 = .ok (.ifCond .eq 34, 3) := by decide +kernel
theorem dX6_findTriple_59 : decode cX6_findTriple 59 = .ok (.aload_n 0, 1) := by decide +kernel
theorem dX6_findTriple_60 : decode cX6_findTriple 60 = .ok (.iload 5, 2) := by decide +kernel
theorem dX6_findTriple_62 : decode cX6_findTriple 62 = .ok (.iconst 1, 1) := by decide +kernel
theorem dX6_findTriple_63 : decode cX6_findTriple 63 = .ok (.invokevirtual 51, 3) := by decide +kernel
theorem dX6_findTriple_66 : decode cX6_findTriple 66 = .ok (.ifCond .eq 24, 3) := by decide +kernel
theorem dX6_findTriple_69 : decode cX6_findTriple 69 = .ok (.iload 4, 2) := by decide +kernel
theorem dX6_findTriple_71 : decode cX6_findTriple 71 = .ok (.iload_n 1, 1) := by decide +kernel
theorem dX6_findTriple_72 : decode cX6_findTriple 72 = .ok (.if_icmp .eq 14, 3) := by decide +kernel
theorem dX6_findTriple_75 : decode cX6_findTriple 75 = .ok (.iload_n 3, 1) := by decide +kernel
theorem dX6_findTriple_76 : decode cX6_findTriple 76 = .ok (.iload_n 1, 1) := by decide +kernel
theorem dX6_findTriple_77 : decode cX6_findTriple 77 = .ok (.if_icmp .eq 9, 3) := by decide +kernel
theorem dX6_findTriple_80 : decode cX6_findTriple 80 = .ok (.iload 5, 2) := by decide +kernel
theorem dX6_findTriple_82 : decode cX6_findTriple 82 = .ok (.iload_n 1, 1) := by decide +kernel
theorem dX6_findTriple_83 : decode cX6_findTriple 83 = .ok (.if_icmp .ne 7, 3) := by decide +kernel
theorem dX6_findTriple_86 : decode cX6_findTriple 86 = .ok (.iconst 1, 1) := by decide +kernel
theorem dX6_findTriple_87 : decode cX6_findTriple 87 = .ok (.goto 4, 3) := by decide +kernel
theorem dX6_findTriple_90 : decode cX6_findTriple 90 = .ok (.iconst 0, 1) := by decide +kernel
theorem dX6_findTriple_91 : decode cX6_findTriple 91 = .ok (.istore 6, 2) := by decide +kernel
theorem dX6_findTriple_93 : decode cX6_findTriple 93 = .ok (.iload 6, 2) := by decide +kernel
theorem dX6_findTriple_95 : decode cX6_findTriple 95 = .ok (.ifCond .eq 47, 3) := by decide +kernel
theorem dX6_findTriple_98 : decode cX6_findTriple 98 = .ok (.aload_n 0, 1) := by decide +kernel
theorem dX6_findTriple_99 : decode cX6_findTriple 99 = .ok (.iload 4, 2) := by decide +kernel
theorem dX6_findTriple_101 : decode cX6_findTriple 101 = .ok (.iload_n 3, 1) := by decide +kernel
theorem dX6_findTriple_102 : decode cX6_findTriple 102 = .ok (.iload 5, 2) := by decide +kernel
theorem dX6_findTriple_104 : decode cX6_findTriple 104 = .ok (.invokevirtual 67, 3) := by decide +kernel
theorem dX6_findTriple_107 : decode cX6_findTriple 107 = .ok (.ifCond .eq 35, 3) := by decide +kernel
theorem dX6_findTriple_110 : decode cX6_findTriple 110 = .ok (.aload_n 0, 1) := by decide +kernel
theorem dX6_findTriple_111 : decode cX6_findTriple 111 = .ok (.iload_n 2, 1) := by decide +kernel
theorem dX6_findTriple_112 : decode cX6_findTriple 112 = .ok (.iload 4, 2) := by decide +kernel
theorem dX6_findTriple_114 : decode cX6_findTriple 114 = .ok (.iload_n 3, 1) := by decide +kernel
theorem dX6_findTriple_115 : decode cX6_findTriple 115 = .ok (.iload 5, 2) := by decide +kernel
theorem dX6_findTriple_117 : decode cX6_findTriple 117 = .ok (.invokevirtual 70, 3) := by decide +kernel
theorem dX6_findTriple_120 : decode cX6_findTriple 120 = .ok (.ifCond .eq 22, 3) := by decide +kernel
theorem dX6_findTriple_123 : decode cX6_findTriple 123 = .ok (.aload_n 0, 1) := by decide +kernel
theorem dX6_findTriple_124 : decode cX6_findTriple 124 = .ok (.iload 4, 2) := by decide +kernel
theorem dX6_findTriple_126 : decode cX6_findTriple 126 = .ok (.putfield 74, 3) := by decide +kernel
theorem dX6_findTriple_129 : decode cX6_findTriple 129 = .ok (.aload_n 0, 1) := by decide +kernel
theorem dX6_findTriple_130 : decode cX6_findTriple 130 = .ok (.iload_n 3, 1) := by decide +kernel
theorem dX6_findTriple_131 : decode cX6_findTriple 131 = .ok (.putfield 77, 3) := by decide +kernel
theorem dX6_findTriple_134 : decode cX6_findTriple 134 = .ok (.aload_n 0, 1) := by decide +kernel
theorem dX6_findTriple_135 : decode cX6_findTriple 135 = .ok (.iload 5, 2) := by decide +kernel
theorem dX6_findTriple_137 : decode cX6_findTriple 137 = .ok (.putfield 80, 3) := by decide +kernel
theorem dX6_findTriple_140 : decode cX6_findTriple 140 = .ok (.iconst 1, 1) := by decide +kernel
theorem dX6_findTriple_141 : decode cX6_findTriple 141 = .ok (.ireturn, 1) := by decide +kernel
theorem dX6_findTriple_142 : decode cX6_findTriple 142 = .ok (.iinc 5 1, 3) := by decide +kernel
theorem dX6_findTriple_145 : decode cX6_findTriple 145 = .ok (.goto (-116), 3) := by decide +kernel
theorem dX6_findTriple_148 : decode cX6_findTriple 148 = .ok (.iinc 4 1, 3) := by decide +kernel
theorem dX6_findTriple_151 : decode cX6_findTriple 151 = .ok (.goto (-136), 3) := by decide +kernel
theorem dX6_findTriple_154 : decode cX6_findTriple 154 = .ok (.iinc 3 1, 3) := by decide +kernel
theorem dX6_findTriple_157 : decode cX6_findTriple 157 = .ok (.goto (-155), 3) := by decide +kernel
theorem dX6_findTriple_160 : decode cX6_findTriple 160 = .ok (.iconst 0, 1) := by decide +kernel
theorem dX6_findTriple_161 : decode cX6_findTriple 161 = .ok (.ireturn, 1) := by decide +kernel
set_option maxRecDepth 20000 in
theorem ggX6_reasonFor_X6_wrote : GoodIn wsX6_reasonFor wsX6_wrote := goodIn_r _ [6, 7, 8, 9, 5, 10, 1, 50, 51, 52, 53, 54, 55, 56, 57, 58, 59, 60, 61, 62, 63, 64, 65] (by decide +kernel) (by decide +kernel)
set_option maxRecDepth 20000 in
theorem gX6_reasonFor_X6_wrote : GoodIn wsX6_reasonFor (wsV RX6 55 RX6 yX6_wrote wsX6_wrote) := goodIn_app (goodIn_of _ (by decide +kernel)) ggX6_reasonFor_X6_wrote
set_option maxRecDepth 20000 in
theorem ggX6_reasonFor_X6_its : GoodIn wsX6_reasonFor wsX6_its := goodIn_r _ [10, 1, 50, 51, 52, 53, 54, 55, 56, 57, 58, 59, 60, 61, 62, 63, 64, 65] (by decide +kernel) (by decide +kernel)
set_option maxRecDepth 20000 in
theorem gX6_reasonFor_X6_its : GoodIn wsX6_reasonFor (wsV RX6 40 RX6 yX6_its wsX6_its) := goodIn_app (goodIn_of _ (by decide +kernel)) ggX6_reasonFor_X6_its
set_option maxRecDepth 20000 in
theorem ggX6_reasonFor_X6_writerBehind : GoodIn wsX6_reasonFor wsX6_writerBehind := goodIn_r _ [14, 1, 15, 16, 17, 5, 18, 7, 8, 9, 10, 2, 3, 4, 6, 50, 51, 52, 53, 54, 55, 56, 57, 58, 59, 60, 61, 62, 63, 64, 65] (by decide +kernel) (by decide +kernel)
set_option maxRecDepth 20000 in
theorem gX6_reasonFor_X6_writerBehind : GoodIn wsX6_reasonFor (wsV RX6 83 RX6 yX6_writerBehind wsX6_writerBehind) := goodIn_app (goodIn_of _ (by decide +kernel)) ggX6_reasonFor_X6_writerBehind
set_option maxRecDepth 20000 in
theorem ggX6_reasonFor_X6_lay : GoodIn wsX6_reasonFor wsX6_lay := goodIn_r _ [22, 1, 50, 51, 52, 53, 54, 55, 56, 57, 58, 59, 60, 61, 62, 63, 64, 65] (by decide +kernel) (by decide +kernel)
set_option maxRecDepth 20000 in
theorem gX6_reasonFor_X6_lay : GoodIn wsX6_reasonFor (wsV RX6 86 RX6 yX6_lay wsX6_lay) := goodIn_app (goodIn_of _ (by decide +kernel)) ggX6_reasonFor_X6_lay
set_option maxRecDepth 20000 in
theorem ggX6_reasonFor_X6_findTriple : GoodIn wsX6_reasonFor wsX6_findTriple := goodIn_r _ [26, 1, 27, 28, 29, 15, 16, 17, 5, 18, 7, 8, 9, 10, 30, 31, 32, 33, 34, 35, 36, 37, 38, 39, 40, 41, 42, 43, 44, 45, 46, 47, 48, 49, 50, 51, 52, 53, 54, 55, 56, 57, 58, 59, 60, 61, 62, 63, 64, 65] (by decide +kernel) (by decide +kernel)
set_option maxRecDepth 20000 in
theorem gX6_reasonFor_X6_findTriple : GoodIn wsX6_reasonFor (wsV RX6 90 RX6 yX6_findTriple wsX6_findTriple) := goodIn_app (goodIn_of _ (by decide +kernel)) ggX6_reasonFor_X6_findTriple
theorem dX6_reasonFor_0 : decode cX6_reasonFor 0 = .ok (.iconst 0, 1) := by decide +kernel
theorem dX6_reasonFor_1 : decode cX6_reasonFor 1 = .ok (.istore_n 3, 1) := by decide +kernel
theorem dX6_reasonFor_2 : decode cX6_reasonFor 2 = .ok (.iload_n 3, 1) := by decide +kernel
theorem dX6_reasonFor_3 : decode cX6_reasonFor 3 = .ok (.bipush 16, 2) := by decide +kernel
theorem dX6_reasonFor_5 : decode cX6_reasonFor 5 = .ok (.if_icmp .ge 36, 3) := by decide +kernel
theorem dX6_reasonFor_8 : decode cX6_reasonFor 8 = .ok (.aload_n 0, 1) := by decide +kernel
theorem dX6_reasonFor_9 : decode cX6_reasonFor 9 = .ok (.iload_n 1, 1) := by decide +kernel
theorem dX6_reasonFor_10 : decode cX6_reasonFor 10 = .ok (.iload_n 3, 1) := by decide +kernel
theorem dX6_reasonFor_11 : decode cX6_reasonFor 11 = .ok (.invokevirtual 55, 3) := by decide +kernel
theorem dX6_reasonFor_14 : decode cX6_reasonFor 14 = .ok (.ifCond .eq 21, 3) := by decide +kernel
theorem dX6_reasonFor_17 : decode cX6_reasonFor 17 = .ok (.aload_n 0, 1) := by decide +kernel
theorem dX6_reasonFor_18 : decode cX6_reasonFor 18 = .ok (.iload_n 3, 1) := by decide +kernel
theorem dX6_reasonFor_19 : decode cX6_reasonFor 19 = .ok (.aload_n 0, 1) := by decide +kernel
theorem dX6_reasonFor_20 : decode cX6_reasonFor 20 = .ok (.iload_n 1, 1) := by decide +kernel
theorem dX6_reasonFor_21 : decode cX6_reasonFor 21 = .ok (.iconst 1, 1) := by decide +kernel
theorem dX6_reasonFor_22 : decode cX6_reasonFor 22 = .ok (.invokevirtual 40, 3) := by decide +kernel
theorem dX6_reasonFor_25 : decode cX6_reasonFor 25 = .ok (.invokevirtual 83, 3) := by decide +kernel
theorem dX6_reasonFor_28 : decode cX6_reasonFor 28 = .ok (.bipush (-6), 2) := by decide +kernel
theorem dX6_reasonFor_30 : decode cX6_reasonFor 30 = .ok (.if_icmp .eq 5, 3) := by decide +kernel
theorem dX6_reasonFor_33 : decode cX6_reasonFor 33 = .ok (.iconst 1, 1) := by decide +kernel
theorem dX6_reasonFor_34 : decode cX6_reasonFor 34 = .ok (.ireturn, 1) := by decide +kernel
theorem dX6_reasonFor_35 : decode cX6_reasonFor 35 = .ok (.iinc 3 1, 3) := by decide +kernel
theorem dX6_reasonFor_38 : decode cX6_reasonFor 38 = .ok (.goto (-36), 3) := by decide +kernel
theorem dX6_reasonFor_41 : decode cX6_reasonFor 41 = .ok (.aload_n 0, 1) := by decide +kernel
theorem dX6_reasonFor_42 : decode cX6_reasonFor 42 = .ok (.iload_n 1, 1) := by decide +kernel
theorem dX6_reasonFor_43 : decode cX6_reasonFor 43 = .ok (.iconst 0, 1) := by decide +kernel
theorem dX6_reasonFor_44 : decode cX6_reasonFor 44 = .ok (.iconst 1, 1) := by decide +kernel
theorem dX6_reasonFor_45 : decode cX6_reasonFor 45 = .ok (.invokevirtual 86, 3) := by decide +kernel
theorem dX6_reasonFor_48 : decode cX6_reasonFor 48 = .ok (.aload_n 0, 1) := by decide +kernel
theorem dX6_reasonFor_49 : decode cX6_reasonFor 49 = .ok (.iload_n 1, 1) := by decide +kernel
theorem dX6_reasonFor_50 : decode cX6_reasonFor 50 = .ok (.iconst 2, 1) := by decide +kernel
theorem dX6_reasonFor_51 : decode cX6_reasonFor 51 = .ok (.aload_n 0, 1) := by decide +kernel
theorem dX6_reasonFor_52 : decode cX6_reasonFor 52 = .ok (.getfield 7, 3) := by decide +kernel
theorem dX6_reasonFor_55 : decode cX6_reasonFor 55 = .ok (.iconst 1, 1) := by decide +kernel
theorem dX6_reasonFor_56 : decode cX6_reasonFor 56 = .ok (.iaload, 1) := by decide +kernel
theorem dX6_reasonFor_57 : decode cX6_reasonFor 57 = .ok (.iconst 1, 1) := by decide +kernel
theorem dX6_reasonFor_58 : decode cX6_reasonFor 58 = .ok (.iadd, 1) := by decide +kernel
theorem dX6_reasonFor_59 : decode cX6_reasonFor 59 = .ok (.invokevirtual 86, 3) := by decide +kernel
theorem dX6_reasonFor_62 : decode cX6_reasonFor 62 = .ok (.aload_n 0, 1) := by decide +kernel
theorem dX6_reasonFor_63 : decode cX6_reasonFor 63 = .ok (.iload_n 1, 1) := by decide +kernel
theorem dX6_reasonFor_64 : decode cX6_reasonFor 64 = .ok (.iload_n 2, 1) := by decide +kernel
theorem dX6_reasonFor_65 : decode cX6_reasonFor 65 = .ok (.invokevirtual 90, 3) := by decide +kernel
theorem dX6_reasonFor_68 : decode cX6_reasonFor 68 = .ok (.istore_n 3, 1) := by decide +kernel
theorem dX6_reasonFor_69 : decode cX6_reasonFor 69 = .ok (.aload_n 0, 1) := by decide +kernel
theorem dX6_reasonFor_70 : decode cX6_reasonFor 70 = .ok (.iload_n 1, 1) := by decide +kernel
theorem dX6_reasonFor_71 : decode cX6_reasonFor 71 = .ok (.iconst 0, 1) := by decide +kernel
theorem dX6_reasonFor_72 : decode cX6_reasonFor 72 = .ok (.iconst 0, 1) := by decide +kernel
theorem dX6_reasonFor_73 : decode cX6_reasonFor 73 = .ok (.invokevirtual 86, 3) := by decide +kernel
theorem dX6_reasonFor_76 : decode cX6_reasonFor 76 = .ok (.aload_n 0, 1) := by decide +kernel
theorem dX6_reasonFor_77 : decode cX6_reasonFor 77 = .ok (.iload_n 1, 1) := by decide +kernel
theorem dX6_reasonFor_78 : decode cX6_reasonFor 78 = .ok (.iconst 2, 1) := by decide +kernel
theorem dX6_reasonFor_79 : decode cX6_reasonFor 79 = .ok (.bipush (-6), 2) := by decide +kernel
theorem dX6_reasonFor_81 : decode cX6_reasonFor 81 = .ok (.invokevirtual 86, 3) := by decide +kernel
theorem dX6_reasonFor_84 : decode cX6_reasonFor 84 = .ok (.iload_n 3, 1) := by decide +kernel
theorem dX6_reasonFor_85 : decode cX6_reasonFor 85 = .ok (.ifCond .eq 7, 3) := by decide +kernel
theorem dX6_reasonFor_88 : decode cX6_reasonFor 88 = .ok (.iconst 2, 1) := by decide +kernel
theorem dX6_reasonFor_89 : decode cX6_reasonFor 89 = .ok (.goto 4, 3) := by decide +kernel
theorem dX6_reasonFor_92 : decode cX6_reasonFor 92 = .ok (.iconst 0, 1) := by decide +kernel
theorem dX6_reasonFor_93 : decode cX6_reasonFor 93 = .ok (.ireturn, 1) := by decide +kernel
set_option maxRecDepth 20000 in
theorem ggX6_rule_X6_in : GoodIn wsX6_rule wsX6_in := goodIn_r _ [5] (by decide +kernel) (by decide +kernel)
set_option maxRecDepth 20000 in
theorem gX6_rule_X6_in : GoodIn wsX6_rule (va_wsS RX6 36 yX6_in wsX6_in) := goodIn_app (goodIn_of _ (by decide +kernel)) ggX6_rule_X6_in
set_option maxRecDepth 20000 in
theorem ggX6_rule_X6_record : GoodIn wsX6_rule wsX6_record := goodIn_r _ [9, 10, 11, 1, 12, 13, 14, 15, 16, 17, 18, 19, 20, 21, 22, 23, 24, 25, 26, 27] (by decide +kernel) (by decide +kernel)
set_option maxRecDepth 20000 in
theorem gX6_rule_X6_record : GoodIn wsX6_rule (wsV RX6 48 RX6 yX6_record wsX6_record) := goodIn_app (goodIn_of _ (by decide +kernel)) ggX6_rule_X6_record
theorem dX6_rule_0 : decode cX6_rule 0 = .ok (.iload_n 1, 1) := by decide +kernel
theorem dX6_rule_1 : decode cX6_rule 1 = .ok (.iconst 0, 1) := by decide +kernel
theorem dX6_rule_2 : decode cX6_rule 2 = .ok (.iconst 3, 1) := by decide +kernel
theorem dX6_rule_3 : decode cX6_rule 3 = .ok (.invokestatic 36, 3) := by decide +kernel
theorem dX6_rule_6 : decode cX6_rule 6 = .ok (.ifCond .ne 6, 3) := by decide +kernel
theorem dX6_rule_9 : decode cX6_rule 9 = .ok (.bipush (-2), 2) := by decide +kernel
theorem dX6_rule_11 : decode cX6_rule 11 = .ok (.ireturn, 1) := by decide +kernel
theorem dX6_rule_12 : decode cX6_rule 12 = .ok (.aload_n 0, 1) := by decide +kernel
theorem dX6_rule_13 : decode cX6_rule 13 = .ok (.invokevirtual 48, 3) := by decide +kernel
theorem dX6_rule_16 : decode cX6_rule 16 = .ok (.aload_n 0, 1) := by decide +kernel
theorem dX6_rule_17 : decode cX6_rule 17 = .ok (.getfield 7, 3) := by decide +kernel
theorem dX6_rule_20 : decode cX6_rule 20 = .ok (.iconst 0, 1) := by decide +kernel
theorem dX6_rule_21 : decode cX6_rule 21 = .ok (.iaload, 1) := by decide +kernel
theorem dX6_rule_22 : decode cX6_rule 22 = .ok (.istore_n 2, 1) := by decide +kernel
theorem dX6_rule_23 : decode cX6_rule 23 = .ok (.aload_n 0, 1) := by decide +kernel
theorem dX6_rule_24 : decode cX6_rule 24 = .ok (.getfield 7, 3) := by decide +kernel
theorem dX6_rule_27 : decode cX6_rule 27 = .ok (.iconst 0, 1) := by decide +kernel
theorem dX6_rule_28 : decode cX6_rule 28 = .ok (.iload_n 1, 1) := by decide +kernel
theorem dX6_rule_29 : decode cX6_rule 29 = .ok (.iastore, 1) := by decide +kernel
theorem dX6_rule_30 : decode cX6_rule 30 = .ok (.iload_n 2, 1) := by decide +kernel
theorem dX6_rule_31 : decode cX6_rule 31 = .ok (.ireturn, 1) := by decide +kernel
set_option maxRecDepth 20000 in
theorem ggX6_setOf_X6_isIn : GoodIn wsX6_setOf wsX6_isIn := goodIn_r _ [6, 7, 8, 9, 5, 10, 1, 11, 12, 13, 14, 15, 16, 17, 18, 19, 20, 21, 22, 23, 24, 25, 26] (by decide +kernel) (by decide +kernel)
set_option maxRecDepth 20000 in
theorem gX6_setOf_X6_isIn : GoodIn wsX6_setOf (wsV RX6 51 RX6 yX6_isIn wsX6_isIn) := goodIn_app (goodIn_of _ (by decide +kernel)) ggX6_setOf_X6_isIn
theorem dX6_setOf_0 : decode cX6_setOf 0 = .ok (.iconst 0, 1) := by decide +kernel
theorem dX6_setOf_1 : decode cX6_setOf 1 = .ok (.istore_n 2, 1) := by decide +kernel
theorem dX6_setOf_2 : decode cX6_setOf 2 = .ok (.iconst 0, 1) := by decide +kernel
theorem dX6_setOf_3 : decode cX6_setOf 3 = .ok (.istore_n 3, 1) := by decide +kernel
theorem dX6_setOf_4 : decode cX6_setOf 4 = .ok (.iload_n 3, 1) := by decide +kernel
theorem dX6_setOf_5 : decode cX6_setOf 5 = .ok (.aload_n 0, 1) := by decide +kernel
theorem dX6_setOf_6 : decode cX6_setOf 6 = .ok (.getfield 7, 3) := by decide +kernel
theorem dX6_setOf_9 : decode cX6_setOf 9 = .ok (.iconst 2, 1) := by decide +kernel
theorem dX6_setOf_10 : decode cX6_setOf 10 = .ok (.iaload, 1) := by decide +kernel
theorem dX6_setOf_11 : decode cX6_setOf 11 = .ok (.if_icmp .ge 28, 3) := by decide +kernel
theorem dX6_setOf_14 : decode cX6_setOf 14 = .ok (.iload_n 2, 1) := by decide +kernel
theorem dX6_setOf_15 : decode cX6_setOf 15 = .ok (.aload_n 0, 1) := by decide +kernel
theorem dX6_setOf_16 : decode cX6_setOf 16 = .ok (.iload_n 3, 1) := by decide +kernel
theorem dX6_setOf_17 : decode cX6_setOf 17 = .ok (.iload_n 1, 1) := by decide +kernel
theorem dX6_setOf_18 : decode cX6_setOf 18 = .ok (.invokevirtual 51, 3) := by decide +kernel
theorem dX6_setOf_21 : decode cX6_setOf 21 = .ok (.ifCond .eq 9, 3) := by decide +kernel
theorem dX6_setOf_24 : decode cX6_setOf 24 = .ok (.iconst 1, 1) := by decide +kernel
theorem dX6_setOf_25 : decode cX6_setOf 25 = .ok (.iload_n 3, 1) := by decide +kernel
theorem dX6_setOf_26 : decode cX6_setOf 26 = .ok (.ishl, 1) := by decide +kernel
theorem dX6_setOf_27 : decode cX6_setOf 27 = .ok (.goto 4, 3) := by decide +kernel
theorem dX6_setOf_30 : decode cX6_setOf 30 = .ok (.iconst 0, 1) := by decide +kernel
theorem dX6_setOf_31 : decode cX6_setOf 31 = .ok (.ior, 1) := by decide +kernel
theorem dX6_setOf_32 : decode cX6_setOf 32 = .ok (.istore_n 2, 1) := by decide +kernel
theorem dX6_setOf_33 : decode cX6_setOf 33 = .ok (.iinc 3 1, 3) := by decide +kernel
theorem dX6_setOf_36 : decode cX6_setOf 36 = .ok (.goto (-32), 3) := by decide +kernel
theorem dX6_setOf_39 : decode cX6_setOf 39 = .ok (.iload_n 2, 1) := by decide +kernel
theorem dX6_setOf_40 : decode cX6_setOf 40 = .ok (.ireturn, 1) := by decide +kernel
theorem dX6_bits_0 : decode cX6_bits 0 = .ok (.iconst 0, 1) := by decide +kernel
theorem dX6_bits_1 : decode cX6_bits 1 = .ok (.istore_n 1, 1) := by decide +kernel
theorem dX6_bits_2 : decode cX6_bits 2 = .ok (.iload_n 0, 1) := by decide +kernel
theorem dX6_bits_3 : decode cX6_bits 3 = .ok (.istore_n 2, 1) := by decide +kernel
theorem dX6_bits_4 : decode cX6_bits 4 = .ok (.iload_n 2, 1) := by decide +kernel
theorem dX6_bits_5 : decode cX6_bits 5 = .ok (.ifCond .eq 15, 3) := by decide +kernel
theorem dX6_bits_8 : decode cX6_bits 8 = .ok (.iinc 1 1, 3) := by decide +kernel
theorem dX6_bits_11 : decode cX6_bits 11 = .ok (.iload_n 2, 1) := by decide +kernel
theorem dX6_bits_12 : decode cX6_bits 12 = .ok (.iload_n 2, 1) := by decide +kernel
theorem dX6_bits_13 : decode cX6_bits 13 = .ok (.iconst 1, 1) := by decide +kernel
theorem dX6_bits_14 : decode cX6_bits 14 = .ok (.isub, 1) := by decide +kernel
theorem dX6_bits_15 : decode cX6_bits 15 = .ok (.iand, 1) := by decide +kernel
theorem dX6_bits_16 : decode cX6_bits 16 = .ok (.istore_n 2, 1) := by decide +kernel
theorem dX6_bits_17 : decode cX6_bits 17 = .ok (.goto (-13), 3) := by decide +kernel
theorem dX6_bits_20 : decode cX6_bits 20 = .ok (.iload_n 1, 1) := by decide +kernel
theorem dX6_bits_21 : decode cX6_bits 21 = .ok (.ireturn, 1) := by decide +kernel
set_option maxRecDepth 20000 in
theorem ggX6_beginOne_X6_setOf : GoodIn wsX6_beginOne wsX6_setOf := goodIn_r _ [6, 1, 7, 8, 9, 5, 10, 11, 12, 13, 14, 19, 20, 21, 22, 23, 24, 25, 26, 27, 28, 29, 30, 31, 32, 33, 34] (by decide +kernel) (by decide +kernel)
set_option maxRecDepth 20000 in
theorem gX6_beginOne_X6_setOf : GoodIn wsX6_beginOne (wsV RX6 93 RX6 yX6_setOf wsX6_setOf) := goodIn_app (goodIn_of _ (by decide +kernel)) ggX6_beginOne_X6_setOf
set_option maxRecDepth 20000 in
theorem ggX6_beginOne_X6_lay : GoodIn wsX6_beginOne wsX6_lay := goodIn_r _ [18, 1, 19, 20, 21, 22, 23, 24, 25, 26, 27, 28, 29, 30, 31, 32, 33, 34] (by decide +kernel) (by decide +kernel)
set_option maxRecDepth 20000 in
theorem gX6_beginOne_X6_lay : GoodIn wsX6_beginOne (wsV RX6 86 RX6 yX6_lay wsX6_lay) := goodIn_app (goodIn_of _ (by decide +kernel)) ggX6_beginOne_X6_lay
theorem dX6_beginOne_0 : decode cX6_beginOne 0 = .ok (.aload_n 0, 1) := by decide +kernel
theorem dX6_beginOne_1 : decode cX6_beginOne 1 = .ok (.getfield 7, 3) := by decide +kernel
theorem dX6_beginOne_4 : decode cX6_beginOne 4 = .ok (.iconst 2, 1) := by decide +kernel
theorem dX6_beginOne_5 : decode cX6_beginOne 5 = .ok (.iaload, 1) := by decide +kernel
theorem dX6_beginOne_6 : decode cX6_beginOne 6 = .ok (.istore_n 1, 1) := by decide +kernel
theorem dX6_beginOne_7 : decode cX6_beginOne 7 = .ok (.aload_n 0, 1) := by decide +kernel
theorem dX6_beginOne_8 : decode cX6_beginOne 8 = .ok (.iconst 0, 1) := by decide +kernel
theorem dX6_beginOne_9 : decode cX6_beginOne 9 = .ok (.invokevirtual 93, 3) := by decide +kernel
theorem dX6_beginOne_12 : decode cX6_beginOne 12 = .ok (.istore_n 2, 1) := by decide +kernel
theorem dX6_beginOne_13 : decode cX6_beginOne 13 = .ok (.aload_n 0, 1) := by decide +kernel
theorem dX6_beginOne_14 : decode cX6_beginOne 14 = .ok (.getfield 7, 3) := by decide +kernel
theorem dX6_beginOne_17 : decode cX6_beginOne 17 = .ok (.iconst 1, 1) := by decide +kernel
theorem dX6_beginOne_18 : decode cX6_beginOne 18 = .ok (.dup2, 1) := by decide +kernel
theorem dX6_beginOne_19 : decode cX6_beginOne 19 = .ok (.iaload, 1) := by decide +kernel
theorem dX6_beginOne_20 : decode cX6_beginOne 20 = .ok (.iconst 1, 1) := by decide +kernel
theorem dX6_beginOne_21 : decode cX6_beginOne 21 = .ok (.iadd, 1) := by decide +kernel
theorem dX6_beginOne_22 : decode cX6_beginOne 22 = .ok (.iastore, 1) := by decide +kernel
theorem dX6_beginOne_23 : decode cX6_beginOne 23 = .ok (.aload_n 0, 1) := by decide +kernel
theorem dX6_beginOne_24 : decode cX6_beginOne 24 = .ok (.getfield 7, 3) := by decide +kernel
theorem dX6_beginOne_27 : decode cX6_beginOne 27 = .ok (.iconst 2, 1) := by decide +kernel
theorem dX6_beginOne_28 : decode cX6_beginOne 28 = .ok (.dup2, 1) := by decide +kernel
theorem dX6_beginOne_29 : decode cX6_beginOne 29 = .ok (.iaload, 1) := by decide +kernel
theorem dX6_beginOne_30 : decode cX6_beginOne 30 = .ok (.iconst 1, 1) := by decide +kernel
theorem dX6_beginOne_31 : decode cX6_beginOne 31 = .ok (.iadd, 1) := by decide +kernel
theorem dX6_beginOne_32 : decode cX6_beginOne 32 = .ok (.iastore, 1) := by decide +kernel
theorem dX6_beginOne_33 : decode cX6_beginOne 33 = .ok (.iconst 0, 1) := by decide +kernel
theorem dX6_beginOne_34 : decode cX6_beginOne 34 = .ok (.istore_n 3, 1) := by decide +kernel
theorem dX6_beginOne_35 : decode cX6_beginOne 35 = .ok (.iload_n 3, 1) := by decide +kernel
theorem dX6_beginOne_36 : decode cX6_beginOne 36 = .ok (.bipush 23, 2) := by decide +kernel
theorem dX6_beginOne_38 : decode cX6_beginOne 38 = .ok (.if_icmp .ge 16, 3) := by decide +kernel
theorem dX6_beginOne_41 : decode cX6_beginOne 41 = .ok (.aload_n 0, 1) := by decide +kernel
theorem dX6_beginOne_42 : decode cX6_beginOne 42 = .ok (.iload_n 1, 1) := by decide +kernel
theorem dX6_beginOne_43 : decode cX6_beginOne 43 = .ok (.iload_n 3, 1) := by decide +kernel
theorem dX6_beginOne_44 : decode cX6_beginOne 44 = .ok (.iconst 0, 1) := by decide +kernel
theorem dX6_beginOne_45 : decode cX6_beginOne 45 = .ok (.invokevirtual 86, 3) := by decide +kernel
theorem dX6_beginOne_48 : decode cX6_beginOne 48 = .ok (.iinc 3 1, 3) := by decide +kernel
theorem dX6_beginOne_51 : decode cX6_beginOne 51 = .ok (.goto (-16), 3) := by decide +kernel
theorem dX6_beginOne_54 : decode cX6_beginOne 54 = .ok (.aload_n 0, 1) := by decide +kernel
theorem dX6_beginOne_55 : decode cX6_beginOne 55 = .ok (.iload_n 1, 1) := by decide +kernel
theorem dX6_beginOne_56 : decode cX6_beginOne 56 = .ok (.iconst 1, 1) := by decide +kernel
theorem dX6_beginOne_57 : decode cX6_beginOne 57 = .ok (.aload_n 0, 1) := by decide +kernel
theorem dX6_beginOne_58 : decode cX6_beginOne 58 = .ok (.getfield 7, 3) := by decide +kernel
theorem dX6_beginOne_61 : decode cX6_beginOne 61 = .ok (.iconst 1, 1) := by decide +kernel
theorem dX6_beginOne_62 : decode cX6_beginOne 62 = .ok (.iaload, 1) := by decide +kernel
theorem dX6_beginOne_63 : decode cX6_beginOne 63 = .ok (.invokevirtual 86, 3) := by decide +kernel
theorem dX6_beginOne_66 : decode cX6_beginOne 66 = .ok (.aload_n 0, 1) := by decide +kernel
theorem dX6_beginOne_67 : decode cX6_beginOne 67 = .ok (.iload_n 1, 1) := by decide +kernel
theorem dX6_beginOne_68 : decode cX6_beginOne 68 = .ok (.iconst 2, 1) := by decide +kernel
theorem dX6_beginOne_69 : decode cX6_beginOne 69 = .ok (.bipush (-6), 2) := by decide +kernel
theorem dX6_beginOne_71 : decode cX6_beginOne 71 = .ok (.invokevirtual 86, 3) := by decide +kernel
theorem dX6_beginOne_74 : decode cX6_beginOne 74 = .ok (.aload_n 0, 1) := by decide +kernel
theorem dX6_beginOne_75 : decode cX6_beginOne 75 = .ok (.iload_n 1, 1) := by decide +kernel
theorem dX6_beginOne_76 : decode cX6_beginOne 76 = .ok (.iconst 5, 1) := by decide +kernel
theorem dX6_beginOne_77 : decode cX6_beginOne 77 = .ok (.bipush (-6), 2) := by decide +kernel
theorem dX6_beginOne_79 : decode cX6_beginOne 79 = .ok (.invokevirtual 86, 3) := by decide +kernel
theorem dX6_beginOne_82 : decode cX6_beginOne 82 = .ok (.aload_n 0, 1) := by decide +kernel
theorem dX6_beginOne_83 : decode cX6_beginOne 83 = .ok (.iload_n 1, 1) := by decide +kernel
theorem dX6_beginOne_84 : decode cX6_beginOne 84 = .ok (.bipush 6, 2) := by decide +kernel
theorem dX6_beginOne_86 : decode cX6_beginOne 86 = .ok (.iload_n 2, 1) := by decide +kernel
theorem dX6_beginOne_87 : decode cX6_beginOne 87 = .ok (.invokevirtual 86, 3) := by decide +kernel
theorem dX6_beginOne_90 : decode cX6_beginOne 90 = .ok (.iload_n 1, 1) := by decide +kernel
theorem dX6_beginOne_91 : decode cX6_beginOne 91 = .ok (.ireturn, 1) := by decide +kernel
set_option maxRecDepth 20000 in
theorem ggX6_begin_X6_record : GoodIn wsX6_begin wsX6_record := goodIn_r _ [6, 7, 8, 1, 29, 30, 31, 32, 33, 34, 35, 36, 37, 38, 39, 40, 41, 42, 43, 44] (by decide +kernel) (by decide +kernel)
set_option maxRecDepth 20000 in
theorem gX6_begin_X6_record : GoodIn wsX6_begin (wsV RX6 48 RX6 yX6_record wsX6_record) := goodIn_app (goodIn_of _ (by decide +kernel)) ggX6_begin_X6_record
set_option maxRecDepth 20000 in
theorem ggX6_begin_X6_beginOne : GoodIn wsX6_begin wsX6_beginOne := goodIn_r _ [12, 1, 13, 14, 15, 5, 16, 17, 18, 19, 20, 21, 22, 23, 24, 25, 26, 27, 28, 29, 30, 31, 32, 33, 34, 35, 36, 37, 38, 39, 40, 41, 42, 43, 44] (by decide +kernel) (by decide +kernel)
set_option maxRecDepth 20000 in
theorem gX6_begin_X6_beginOne : GoodIn wsX6_begin (wsV RX6 97 RX6 yX6_beginOne wsX6_beginOne) := goodIn_app (goodIn_of _ (by decide +kernel)) ggX6_begin_X6_beginOne
theorem dX6_begin_0 : decode cX6_begin 0 = .ok (.aload_n 0, 1) := by decide +kernel
theorem dX6_begin_1 : decode cX6_begin 1 = .ok (.getfield 7, 3) := by decide +kernel
theorem dX6_begin_4 : decode cX6_begin 4 = .ok (.iconst 2, 1) := by decide +kernel
theorem dX6_begin_5 : decode cX6_begin 5 = .ok (.iaload, 1) := by decide +kernel
theorem dX6_begin_6 : decode cX6_begin 6 = .ok (.bipush 12, 2) := by decide +kernel
theorem dX6_begin_8 : decode cX6_begin 8 = .ok (.if_icmp .ne 6, 3) := by decide +kernel
theorem dX6_begin_11 : decode cX6_begin 11 = .ok (.bipush (-4), 2) := by decide +kernel
theorem dX6_begin_13 : decode cX6_begin 13 = .ok (.ireturn, 1) := by decide +kernel
theorem dX6_begin_14 : decode cX6_begin 14 = .ok (.aload_n 0, 1) := by decide +kernel
theorem dX6_begin_15 : decode cX6_begin 15 = .ok (.invokevirtual 48, 3) := by decide +kernel
theorem dX6_begin_18 : decode cX6_begin 18 = .ok (.aload_n 0, 1) := by decide +kernel
theorem dX6_begin_19 : decode cX6_begin 19 = .ok (.invokevirtual 97, 3) := by decide +kernel
theorem dX6_begin_22 : decode cX6_begin 22 = .ok (.ireturn, 1) := by decide +kernel
set_option maxRecDepth 20000 in
theorem ggX6_whyNotRead_X6_isTransaction : GoodIn wsX6_whyNotRead wsX6_isTransaction := goodIn_r _ [5, 6, 21, 22, 23, 24, 25, 26, 27, 28, 29, 30, 31, 32, 33, 34, 35, 36] (by decide +kernel) (by decide +kernel)
set_option maxRecDepth 20000 in
theorem gX6_whyNotRead_X6_isTransaction : GoodIn wsX6_whyNotRead (wsV RX6 101 RX6 yX6_isTransaction wsX6_isTransaction) := goodIn_app (goodIn_of _ (by decide +kernel)) ggX6_whyNotRead_X6_isTransaction
set_option maxRecDepth 20000 in
theorem ggX6_whyNotRead_X6_isKey : GoodIn wsX6_whyNotRead wsX6_isKey := goodIn_r _ [9, 10, 11, 4, 12] (by decide +kernel) (by decide +kernel)
set_option maxRecDepth 20000 in
theorem gX6_whyNotRead_X6_isKey : GoodIn wsX6_whyNotRead (va_wsS RX6 105 yX6_isKey wsX6_isKey) := goodIn_app (goodIn_of _ (by decide +kernel)) ggX6_whyNotRead_X6_isKey
set_option maxRecDepth 20000 in
theorem ggX6_whyNotRead_X6_isIn : GoodIn wsX6_whyNotRead wsX6_isIn := goodIn_r _ [16, 17, 18, 19, 4, 20, 6, 21, 22, 23, 24, 25, 26, 27, 28, 29, 30, 31, 32, 33, 34, 35, 36] (by decide +kernel) (by decide +kernel)
set_option maxRecDepth 20000 in
theorem gX6_whyNotRead_X6_isIn : GoodIn wsX6_whyNotRead (wsV RX6 51 RX6 yX6_isIn wsX6_isIn) := goodIn_app (goodIn_of _ (by decide +kernel)) ggX6_whyNotRead_X6_isIn
theorem dX6_whyNotRead_0 : decode cX6_whyNotRead 0 = .ok (.aload_n 0, 1) := by decide +kernel
theorem dX6_whyNotRead_1 : decode cX6_whyNotRead 1 = .ok (.iload_n 1, 1) := by decide +kernel
theorem dX6_whyNotRead_2 : decode cX6_whyNotRead 2 = .ok (.invokevirtual 101, 3) := by decide +kernel
theorem dX6_whyNotRead_5 : decode cX6_whyNotRead 5 = .ok (.ifCond .eq 10, 3) := by decide +kernel
theorem dX6_whyNotRead_8 : decode cX6_whyNotRead 8 = .ok (.iload_n 2, 1) := by decide +kernel
theorem dX6_whyNotRead_9 : decode cX6_whyNotRead 9 = .ok (.invokestatic 105, 3) := by decide +kernel
theorem dX6_whyNotRead_12 : decode cX6_whyNotRead 12 = .ok (.ifCond .ne 7, 3) := by decide +kernel
theorem dX6_whyNotRead_15 : decode cX6_whyNotRead 15 = .ok (.iconst (-1), 1) := by decide +kernel
theorem dX6_whyNotRead_16 : decode cX6_whyNotRead 16 = .ok (.goto 18, 3) := by decide +kernel
theorem dX6_whyNotRead_19 : decode cX6_whyNotRead 19 = .ok (.aload_n 0, 1) := by decide +kernel
theorem dX6_whyNotRead_20 : decode cX6_whyNotRead 20 = .ok (.iload_n 1, 1) := by decide +kernel
theorem dX6_whyNotRead_21 : decode cX6_whyNotRead 21 = .ok (.iconst 0, 1) := by decide +kernel
theorem dX6_whyNotRead_22 : decode cX6_whyNotRead 22 = .ok (.invokevirtual 51, 3) := by decide +kernel
theorem dX6_whyNotRead_25 : decode cX6_whyNotRead 25 = .ok (.ifCond .eq 7, 3) := by decide +kernel
theorem dX6_whyNotRead_28 : decode cX6_whyNotRead 28 = .ok (.iconst 0, 1) := by decide +kernel
theorem dX6_whyNotRead_29 : decode cX6_whyNotRead 29 = .ok (.goto 5, 3) := by decide +kernel
theorem dX6_whyNotRead_32 : decode cX6_whyNotRead 32 = .ok (.bipush (-5), 2) := by decide +kernel
theorem dX6_whyNotRead_34 : decode cX6_whyNotRead 34 = .ok (.ireturn, 1) := by decide +kernel
set_option maxRecDepth 20000 in
theorem ggX6_writerSeen_X6_wrote : GoodIn wsX6_writerSeen wsX6_wrote := goodIn_r _ [5, 6, 7, 8, 4, 9, 10, 19, 20, 21, 22, 23, 24, 25, 26, 27, 28, 29, 30, 31, 32, 33, 34] (by decide +kernel) (by decide +kernel)
set_option maxRecDepth 20000 in
theorem gX6_writerSeen_X6_wrote : GoodIn wsX6_writerSeen (wsV RX6 55 RX6 yX6_wrote wsX6_wrote) := goodIn_app (goodIn_of _ (by decide +kernel)) ggX6_writerSeen_X6_wrote
set_option maxRecDepth 20000 in
theorem ggX6_writerSeen_X6_its : GoodIn wsX6_writerSeen wsX6_its := goodIn_r _ [9, 10, 19, 20, 21, 22, 23, 24, 25, 26, 27, 28, 29, 30, 31, 32, 33, 34] (by decide +kernel) (by decide +kernel)
set_option maxRecDepth 20000 in
theorem gX6_writerSeen_X6_its : GoodIn wsX6_writerSeen (wsV RX6 40 RX6 yX6_its wsX6_its) := goodIn_app (goodIn_of _ (by decide +kernel)) ggX6_writerSeen_X6_its
set_option maxRecDepth 20000 in
theorem ggX6_writerSeen_X6_writerAhead : GoodIn wsX6_writerSeen wsX6_writerAhead := goodIn_r _ [14, 10, 15, 16, 17, 4, 18, 6, 7, 8, 9, 1, 2, 3, 5, 19, 20, 21, 22, 23, 24, 25, 26, 27, 28, 29, 30, 31, 32, 33, 34] (by decide +kernel) (by decide +kernel)
set_option maxRecDepth 20000 in
theorem gX6_writerSeen_X6_writerAhead : GoodIn wsX6_writerSeen (wsV RX6 108 RX6 yX6_writerAhead wsX6_writerAhead) := goodIn_app (goodIn_of _ (by decide +kernel)) ggX6_writerSeen_X6_writerAhead
theorem dX6_writerSeen_0 : decode cX6_writerSeen 0 = .ok (.aload_n 0, 1) := by decide +kernel
theorem dX6_writerSeen_1 : decode cX6_writerSeen 1 = .ok (.iload_n 1, 1) := by decide +kernel
theorem dX6_writerSeen_2 : decode cX6_writerSeen 2 = .ok (.iload_n 2, 1) := by decide +kernel
theorem dX6_writerSeen_3 : decode cX6_writerSeen 3 = .ok (.invokevirtual 55, 3) := by decide +kernel
theorem dX6_writerSeen_6 : decode cX6_writerSeen 6 = .ok (.ifCond .eq 7, 3) := by decide +kernel
theorem dX6_writerSeen_9 : decode cX6_writerSeen 9 = .ok (.iload_n 1, 1) := by decide +kernel
theorem dX6_writerSeen_10 : decode cX6_writerSeen 10 = .ok (.goto 14, 3) := by decide +kernel
theorem dX6_writerSeen_13 : decode cX6_writerSeen 13 = .ok (.aload_n 0, 1) := by decide +kernel
theorem dX6_writerSeen_14 : decode cX6_writerSeen 14 = .ok (.iload_n 2, 1) := by decide +kernel
theorem dX6_writerSeen_15 : decode cX6_writerSeen 15 = .ok (.aload_n 0, 1) := by decide +kernel
theorem dX6_writerSeen_16 : decode cX6_writerSeen 16 = .ok (.iload_n 1, 1) := by decide +kernel
theorem dX6_writerSeen_17 : decode cX6_writerSeen 17 = .ok (.iconst 1, 1) := by decide +kernel
theorem dX6_writerSeen_18 : decode cX6_writerSeen 18 = .ok (.invokevirtual 40, 3) := by decide +kernel
theorem dX6_writerSeen_21 : decode cX6_writerSeen 21 = .ok (.invokevirtual 108, 3) := by decide +kernel
theorem dX6_writerSeen_24 : decode cX6_writerSeen 24 = .ok (.ireturn, 1) := by decide +kernel
set_option maxRecDepth 20000 in
theorem ggX6_readOne_X6_writerSeen : GoodIn wsX6_readOne wsX6_writerSeen := goodIn_r _ [5, 6, 7, 8, 4, 9, 10, 11, 12, 13, 14, 15, 16, 17, 18, 19, 20, 21, 22, 27, 28, 29, 30, 31, 32, 33, 34, 35, 36, 37, 38, 39, 40, 41, 42] (by decide +kernel) (by decide +kernel)
set_option maxRecDepth 20000 in
theorem gX6_readOne_X6_writerSeen : GoodIn wsX6_readOne (wsV RX6 111 RX6 yX6_writerSeen wsX6_writerSeen) := goodIn_app (goodIn_of _ (by decide +kernel)) ggX6_readOne_X6_writerSeen
set_option maxRecDepth 20000 in
theorem ggX6_readOne_X6_wrote : GoodIn wsX6_readOne wsX6_wrote := goodIn_r _ [9, 10, 11, 12, 4, 13, 14, 27, 28, 29, 30, 31, 32, 33, 34, 35, 36, 37, 38, 39, 40, 41, 42] (by decide +kernel) (by decide +kernel)
set_option maxRecDepth 20000 in
theorem gX6_readOne_X6_wrote : GoodIn wsX6_readOne (wsV RX6 55 RX6 yX6_wrote wsX6_wrote) := goodIn_app (goodIn_of _ (by decide +kernel)) ggX6_readOne_X6_wrote
set_option maxRecDepth 20000 in
theorem ggX6_readOne_X6_its : GoodIn wsX6_readOne wsX6_its := goodIn_r _ [13, 14, 27, 28, 29, 30, 31, 32, 33, 34, 35, 36, 37, 38, 39, 40, 41, 42] (by decide +kernel) (by decide +kernel)
set_option maxRecDepth 20000 in
theorem gX6_readOne_X6_its : GoodIn wsX6_readOne (wsV RX6 40 RX6 yX6_its wsX6_its) := goodIn_app (goodIn_of _ (by decide +kernel)) ggX6_readOne_X6_its
set_option maxRecDepth 20000 in
theorem ggX6_readOne_X6_lay : GoodIn wsX6_readOne wsX6_lay := goodIn_r _ [26, 14, 27, 28, 29, 30, 31, 32, 33, 34, 35, 36, 37, 38, 39, 40, 41, 42] (by decide +kernel) (by decide +kernel)
set_option maxRecDepth 20000 in
theorem gX6_readOne_X6_lay : GoodIn wsX6_readOne (wsV RX6 86 RX6 yX6_lay wsX6_lay) := goodIn_app (goodIn_of _ (by decide +kernel)) ggX6_readOne_X6_lay
theorem dX6_readOne_0 : decode cX6_readOne 0 = .ok (.aload_n 0, 1) := by decide +kernel
theorem dX6_readOne_1 : decode cX6_readOne 1 = .ok (.iload_n 1, 1) := by decide +kernel
theorem dX6_readOne_2 : decode cX6_readOne 2 = .ok (.iload_n 2, 1) := by decide +kernel
theorem dX6_readOne_3 : decode cX6_readOne 3 = .ok (.invokevirtual 111, 3) := by decide +kernel
theorem dX6_readOne_6 : decode cX6_readOne 6 = .ok (.istore_n 3, 1) := by decide +kernel
theorem dX6_readOne_7 : decode cX6_readOne 7 = .ok (.aload_n 0, 1) := by decide +kernel
theorem dX6_readOne_8 : decode cX6_readOne 8 = .ok (.iload_n 1, 1) := by decide +kernel
theorem dX6_readOne_9 : decode cX6_readOne 9 = .ok (.iload_n 2, 1) := by decide +kernel
theorem dX6_readOne_10 : decode cX6_readOne 10 = .ok (.invokevirtual 55, 3) := by decide +kernel
theorem dX6_readOne_13 : decode cX6_readOne 13 = .ok (.ifCond .ne 19, 3) := by decide +kernel
theorem dX6_readOne_16 : decode cX6_readOne 16 = .ok (.aload_n 0, 1) := by decide +kernel
theorem dX6_readOne_17 : decode cX6_readOne 17 = .ok (.iload_n 1, 1) := by decide +kernel
theorem dX6_readOne_18 : decode cX6_readOne 18 = .ok (.iconst 3, 1) := by decide +kernel
theorem dX6_readOne_19 : decode cX6_readOne 19 = .ok (.aload_n 0, 1) := by decide +kernel
theorem dX6_readOne_20 : decode cX6_readOne 20 = .ok (.iload_n 1, 1) := by decide +kernel
theorem dX6_readOne_21 : decode cX6_readOne 21 = .ok (.iconst 3, 1) := by decide +kernel
theorem dX6_readOne_22 : decode cX6_readOne 22 = .ok (.invokevirtual 40, 3) := by decide +kernel
theorem dX6_readOne_25 : decode cX6_readOne 25 = .ok (.iconst 1, 1) := by decide +kernel
theorem dX6_readOne_26 : decode cX6_readOne 26 = .ok (.iload_n 2, 1) := by decide +kernel
theorem dX6_readOne_27 : decode cX6_readOne 27 = .ok (.ishl, 1) := by decide +kernel
theorem dX6_readOne_28 : decode cX6_readOne 28 = .ok (.ior, 1) := by decide +kernel
theorem dX6_readOne_29 : decode cX6_readOne 29 = .ok (.invokevirtual 86, 3) := by decide +kernel
theorem dX6_readOne_32 : decode cX6_readOne 32 = .ok (.iload_n 3, 1) := by decide +kernel
theorem dX6_readOne_33 : decode cX6_readOne 33 = .ok (.bipush (-6), 2) := by decide +kernel
theorem dX6_readOne_35 : decode cX6_readOne 35 = .ok (.if_icmp .ne 7, 3) := by decide +kernel
theorem dX6_readOne_38 : decode cX6_readOne 38 = .ok (.iconst 0, 1) := by decide +kernel
theorem dX6_readOne_39 : decode cX6_readOne 39 = .ok (.goto 12, 3) := by decide +kernel
theorem dX6_readOne_42 : decode cX6_readOne 42 = .ok (.aload_n 0, 1) := by decide +kernel
theorem dX6_readOne_43 : decode cX6_readOne 43 = .ok (.iload_n 3, 1) := by decide +kernel
theorem dX6_readOne_44 : decode cX6_readOne 44 = .ok (.bipush 7, 2) := by decide +kernel
theorem dX6_readOne_46 : decode cX6_readOne 46 = .ok (.iload_n 2, 1) := by decide +kernel
theorem dX6_readOne_47 : decode cX6_readOne 47 = .ok (.iadd, 1) := by decide +kernel
theorem dX6_readOne_48 : decode cX6_readOne 48 = .ok (.invokevirtual 40, 3) := by decide +kernel
theorem dX6_readOne_51 : decode cX6_readOne 51 = .ok (.ireturn, 1) := by decide +kernel
set_option maxRecDepth 20000 in
theorem ggX6_read_X6_whyNotRead : GoodIn wsX6_read wsX6_whyNotRead := goodIn_r _ [5, 6, 7, 8, 4, 9, 10, 11, 12, 13, 14, 15, 16, 17, 18, 19, 20, 21, 22, 23, 24, 51, 52, 53, 54, 55, 56, 57, 58, 59, 60, 61, 62, 63, 64, 65, 66] (by decide +kernel) (by decide +kernel)
set_option maxRecDepth 20000 in
theorem gX6_read_X6_whyNotRead : GoodIn wsX6_read (wsV RX6 114 RX6 yX6_whyNotRead wsX6_whyNotRead) := goodIn_app (goodIn_of _ (by decide +kernel)) ggX6_read_X6_whyNotRead
set_option maxRecDepth 20000 in
theorem ggX6_read_X6_record : GoodIn wsX6_read wsX6_record := goodIn_r _ [28, 29, 30, 10, 51, 52, 53, 54, 55, 56, 57, 58, 59, 60, 61, 62, 63, 64, 65, 66] (by decide +kernel) (by decide +kernel)
set_option maxRecDepth 20000 in
theorem gX6_read_X6_record : GoodIn wsX6_read (wsV RX6 48 RX6 yX6_record wsX6_record) := goodIn_app (goodIn_of _ (by decide +kernel)) ggX6_read_X6_record
set_option maxRecDepth 20000 in
theorem ggX6_read_X6_readOne : GoodIn wsX6_read wsX6_readOne := goodIn_r _ [34, 35, 36, 37, 4, 38, 39, 40, 41, 42, 21, 22, 23, 24, 10, 43, 44, 45, 46, 17, 18, 19, 20, 47, 48, 49, 50, 51, 52, 53, 54, 55, 56, 57, 58, 59, 60, 61, 62, 63, 64, 65, 66] (by decide +kernel) (by decide +kernel)
set_option maxRecDepth 20000 in
theorem gX6_read_X6_readOne : GoodIn wsX6_read (wsV RX6 117 RX6 yX6_readOne wsX6_readOne) := goodIn_app (goodIn_of _ (by decide +kernel)) ggX6_read_X6_readOne
theorem dX6_read_0 : decode cX6_read 0 = .ok (.aload_n 0, 1) := by decide +kernel
theorem dX6_read_1 : decode cX6_read 1 = .ok (.iload_n 1, 1) := by decide +kernel
theorem dX6_read_2 : decode cX6_read 2 = .ok (.iload_n 2, 1) := by decide +kernel
theorem dX6_read_3 : decode cX6_read 3 = .ok (.invokevirtual 114, 3) := by decide +kernel
theorem dX6_read_6 : decode cX6_read 6 = .ok (.istore_n 3, 1) := by decide +kernel
theorem dX6_read_7 : decode cX6_read 7 = .ok (.iload_n 3, 1) := by decide +kernel
theorem dX6_read_8 : decode cX6_read 8 = .ok (.ifCond .ge 5, 3) := by decide +kernel
theorem dX6_read_11 : decode cX6_read 11 = .ok (.iload_n 3, 1) := by decide +kernel
theorem dX6_read_12 : decode cX6_read 12 = .ok (.ireturn, 1) := by decide +kernel
theorem dX6_read_13 : decode cX6_read 13 = .ok (.aload_n 0, 1) := by decide +kernel
theorem dX6_read_14 : decode cX6_read 14 = .ok (.invokevirtual 48, 3) := by decide +kernel
theorem dX6_read_17 : decode cX6_read 17 = .ok (.aload_n 0, 1) := by decide +kernel
theorem dX6_read_18 : decode cX6_read 18 = .ok (.iload_n 1, 1) := by decide +kernel
theorem dX6_read_19 : decode cX6_read 19 = .ok (.iload_n 2, 1) := by decide +kernel
theorem dX6_read_20 : decode cX6_read 20 = .ok (.invokevirtual 117, 3) := by decide +kernel
theorem dX6_read_23 : decode cX6_read 23 = .ok (.ireturn, 1) := by decide +kernel
set_option maxRecDepth 20000 in
theorem ggX6_whyNotWrite_X6_isTransaction : GoodIn wsX6_whyNotWrite wsX6_isTransaction := goodIn_r _ [5, 6, 21, 22, 23, 24, 25, 26, 27, 28, 29, 30, 31, 32, 33, 34, 35, 36] (by decide +kernel) (by decide +kernel)
set_option maxRecDepth 20000 in
theorem gX6_whyNotWrite_X6_isTransaction : GoodIn wsX6_whyNotWrite (wsV RX6 101 RX6 yX6_isTransaction wsX6_isTransaction) := goodIn_app (goodIn_of _ (by decide +kernel)) ggX6_whyNotWrite_X6_isTransaction
set_option maxRecDepth 20000 in
theorem ggX6_whyNotWrite_X6_isKey : GoodIn wsX6_whyNotWrite wsX6_isKey := goodIn_r _ [9, 10, 11, 4, 12] (by decide +kernel) (by decide +kernel)
set_option maxRecDepth 20000 in
theorem gX6_whyNotWrite_X6_isKey : GoodIn wsX6_whyNotWrite (va_wsS RX6 105 yX6_isKey wsX6_isKey) := goodIn_app (goodIn_of _ (by decide +kernel)) ggX6_whyNotWrite_X6_isKey
set_option maxRecDepth 20000 in
theorem ggX6_whyNotWrite_X6_in : GoodIn wsX6_whyNotWrite wsX6_in := goodIn_r _ [12] (by decide +kernel) (by decide +kernel)
set_option maxRecDepth 20000 in
theorem gX6_whyNotWrite_X6_in : GoodIn wsX6_whyNotWrite (va_wsS RX6 36 yX6_in wsX6_in) := goodIn_app (goodIn_of _ (by decide +kernel)) ggX6_whyNotWrite_X6_in
set_option maxRecDepth 20000 in
theorem ggX6_whyNotWrite_X6_isIn : GoodIn wsX6_whyNotWrite wsX6_isIn := goodIn_r _ [16, 17, 18, 19, 4, 20, 6, 21, 22, 23, 24, 25, 26, 27, 28, 29, 30, 31, 32, 33, 34, 35, 36] (by decide +kernel) (by decide +kernel)
set_option maxRecDepth 20000 in
theorem gX6_whyNotWrite_X6_isIn : GoodIn wsX6_whyNotWrite (wsV RX6 51 RX6 yX6_isIn wsX6_isIn) := goodIn_app (goodIn_of _ (by decide +kernel)) ggX6_whyNotWrite_X6_isIn
theorem dX6_whyNotWrite_0 : decode cX6_whyNotWrite 0 = .ok (.aload_n 0, 1) := by decide +kernel
theorem dX6_whyNotWrite_1 : decode cX6_whyNotWrite 1 = .ok (.iload_n 1, 1) := by decide +kernel
theorem dX6_whyNotWrite_2 : decode cX6_whyNotWrite 2 = .ok (.invokevirtual 101, 3) := by decide +kernel
theorem dX6_whyNotWrite_5 : decode cX6_whyNotWrite 5 = .ok (.ifCond .eq 10, 3) := by decide +kernel
theorem dX6_whyNotWrite_8 : decode cX6_whyNotWrite 8 = .ok (.iload_n 2, 1) := by decide +kernel
theorem dX6_whyNotWrite_9 : decode cX6_whyNotWrite 9 = .ok (.invokestatic 105, 3) := by decide +kernel
theorem dX6_whyNotWrite_12 : decode cX6_whyNotWrite 12 = .ok (.ifCond .ne 5, 3) := by decide +kernel
theorem dX6_whyNotWrite_15 : decode cX6_whyNotWrite 15 = .ok (.iconst (-1), 1) := by decide +kernel
theorem dX6_whyNotWrite_16 : decode cX6_whyNotWrite 16 = .ok (.ireturn, 1) := by decide +kernel
theorem dX6_whyNotWrite_17 : decode cX6_whyNotWrite 17 = .ok (.iload_n 3, 1) := by decide +kernel
theorem dX6_whyNotWrite_18 : decode cX6_whyNotWrite 18 = .ok (.iconst 0, 1) := by decide +kernel
theorem dX6_whyNotWrite_19 : decode cX6_whyNotWrite 19 = .ok (.sipush 999, 3) := by decide +kernel
theorem dX6_whyNotWrite_22 : decode cX6_whyNotWrite 22 = .ok (.invokestatic 36, 3) := by decide +kernel
theorem dX6_whyNotWrite_25 : decode cX6_whyNotWrite 25 = .ok (.ifCond .ne 8, 3) := by decide +kernel
theorem dX6_whyNotWrite_28 : decode cX6_whyNotWrite 28 = .ok (.bipush (-2), 2) := by decide +kernel
theorem dX6_whyNotWrite_30 : decode cX6_whyNotWrite 30 = .ok (.goto 18, 3) := by decide +kernel
theorem dX6_whyNotWrite_33 : decode cX6_whyNotWrite 33 = .ok (.aload_n 0, 1) := by decide +kernel
theorem dX6_whyNotWrite_34 : decode cX6_whyNotWrite 34 = .ok (.iload_n 1, 1) := by decide +kernel
theorem dX6_whyNotWrite_35 : decode cX6_whyNotWrite 35 = .ok (.iconst 0, 1) := by decide +kernel
theorem dX6_whyNotWrite_36 : decode cX6_whyNotWrite 36 = .ok (.invokevirtual 51, 3) := by decide +kernel
theorem dX6_whyNotWrite_39 : decode cX6_whyNotWrite 39 = .ok (.ifCond .eq 7, 3) := by decide +kernel
theorem dX6_whyNotWrite_42 : decode cX6_whyNotWrite 42 = .ok (.iconst 0, 1) := by decide +kernel
theorem dX6_whyNotWrite_43 : decode cX6_whyNotWrite 43 = .ok (.goto 5, 3) := by decide +kernel
theorem dX6_whyNotWrite_46 : decode cX6_whyNotWrite 46 = .ok (.bipush (-5), 2) := by decide +kernel
theorem dX6_whyNotWrite_48 : decode cX6_whyNotWrite 48 = .ok (.ireturn, 1) := by decide +kernel
set_option maxRecDepth 20000 in
theorem ggX6_writeOne_X6_its : GoodIn wsX6_writeOne wsX6_its := goodIn_r _ [5, 6, 11, 12, 13, 14, 15, 16, 17, 18, 19, 20, 21, 22, 23, 24, 25, 26] (by decide +kernel) (by decide +kernel)
set_option maxRecDepth 20000 in
theorem gX6_writeOne_X6_its : GoodIn wsX6_writeOne (wsV RX6 40 RX6 yX6_its wsX6_its) := goodIn_app (goodIn_of _ (by decide +kernel)) ggX6_writeOne_X6_its
set_option maxRecDepth 20000 in
theorem ggX6_writeOne_X6_lay : GoodIn wsX6_writeOne wsX6_lay := goodIn_r _ [10, 6, 11, 12, 13, 14, 15, 16, 17, 18, 19, 20, 21, 22, 23, 24, 25, 26] (by decide +kernel) (by decide +kernel)
set_option maxRecDepth 20000 in
theorem gX6_writeOne_X6_lay : GoodIn wsX6_writeOne (wsV RX6 86 RX6 yX6_lay wsX6_lay) := goodIn_app (goodIn_of _ (by decide +kernel)) ggX6_writeOne_X6_lay
theorem dX6_writeOne_0 : decode cX6_writeOne 0 = .ok (.aload_n 0, 1) := by decide +kernel
theorem dX6_writeOne_1 : decode cX6_writeOne 1 = .ok (.iload_n 1, 1) := by decide +kernel
theorem dX6_writeOne_2 : decode cX6_writeOne 2 = .ok (.iconst 4, 1) := by decide +kernel
theorem dX6_writeOne_3 : decode cX6_writeOne 3 = .ok (.aload_n 0, 1) := by decide +kernel
theorem dX6_writeOne_4 : decode cX6_writeOne 4 = .ok (.iload_n 1, 1) := by decide +kernel
theorem dX6_writeOne_5 : decode cX6_writeOne 5 = .ok (.iconst 4, 1) := by decide +kernel
theorem dX6_writeOne_6 : decode cX6_writeOne 6 = .ok (.invokevirtual 40, 3) := by decide +kernel
theorem dX6_writeOne_9 : decode cX6_writeOne 9 = .ok (.iconst 1, 1) := by decide +kernel
theorem dX6_writeOne_10 : decode cX6_writeOne 10 = .ok (.iload_n 2, 1) := by decide +kernel
theorem dX6_writeOne_11 : decode cX6_writeOne 11 = .ok (.ishl, 1) := by decide +kernel
theorem dX6_writeOne_12 : decode cX6_writeOne 12 = .ok (.ior, 1) := by decide +kernel
theorem dX6_writeOne_13 : decode cX6_writeOne 13 = .ok (.invokevirtual 86, 3) := by decide +kernel
theorem dX6_writeOne_16 : decode cX6_writeOne 16 = .ok (.aload_n 0, 1) := by decide +kernel
theorem dX6_writeOne_17 : decode cX6_writeOne 17 = .ok (.iload_n 1, 1) := by decide +kernel
theorem dX6_writeOne_18 : decode cX6_writeOne 18 = .ok (.bipush 7, 2) := by decide +kernel
theorem dX6_writeOne_20 : decode cX6_writeOne 20 = .ok (.iload_n 2, 1) := by decide +kernel
theorem dX6_writeOne_21 : decode cX6_writeOne 21 = .ok (.iadd, 1) := by decide +kernel
theorem dX6_writeOne_22 : decode cX6_writeOne 22 = .ok (.iload_n 3, 1) := by decide +kernel
theorem dX6_writeOne_23 : decode cX6_writeOne 23 = .ok (.invokevirtual 86, 3) := by decide +kernel
theorem dX6_writeOne_26 : decode cX6_writeOne 26 = .ok (.aload_n 0, 1) := by decide +kernel
theorem dX6_writeOne_27 : decode cX6_writeOne 27 = .ok (.iload_n 1, 1) := by decide +kernel
theorem dX6_writeOne_28 : decode cX6_writeOne 28 = .ok (.iconst 4, 1) := by decide +kernel
theorem dX6_writeOne_29 : decode cX6_writeOne 29 = .ok (.invokevirtual 40, 3) := by decide +kernel
theorem dX6_writeOne_32 : decode cX6_writeOne 32 = .ok (.ireturn, 1) := by decide +kernel
set_option maxRecDepth 20000 in
theorem ggX6_write_X6_whyNotWrite : GoodIn wsX6_write wsX6_whyNotWrite := goodIn_r _ [5, 6, 7, 8, 4, 9, 10, 11, 12, 13, 14, 15, 16, 17, 18, 19, 20, 21, 22, 23, 24, 39, 40, 41, 42, 43, 44, 45, 46, 47, 48, 49, 50, 51, 52, 53, 54] (by decide +kernel) (by decide +kernel)
set_option maxRecDepth 20000 in
theorem gX6_write_X6_whyNotWrite : GoodIn wsX6_write (wsV RX6 120 RX6 yX6_whyNotWrite wsX6_whyNotWrite) := goodIn_app (goodIn_of _ (by decide +kernel)) ggX6_write_X6_whyNotWrite
set_option maxRecDepth 20000 in
theorem ggX6_write_X6_record : GoodIn wsX6_write wsX6_record := goodIn_r _ [28, 29, 30, 10, 39, 40, 41, 42, 43, 44, 45, 46, 47, 48, 49, 50, 51, 52, 53, 54] (by decide +kernel) (by decide +kernel)
set_option maxRecDepth 20000 in
theorem gX6_write_X6_record : GoodIn wsX6_write (wsV RX6 48 RX6 yX6_record wsX6_record) := goodIn_app (goodIn_of _ (by decide +kernel)) ggX6_write_X6_record
set_option maxRecDepth 20000 in
theorem ggX6_write_X6_writeOne : GoodIn wsX6_write wsX6_writeOne := goodIn_r _ [34, 21, 22, 23, 4, 24, 10, 35, 36, 37, 38, 39, 40, 41, 42, 43, 44, 45, 46, 47, 48, 49, 50, 51, 52, 53, 54] (by decide +kernel) (by decide +kernel)
set_option maxRecDepth 20000 in
theorem gX6_write_X6_writeOne : GoodIn wsX6_write (wsV RX6 124 RX6 yX6_writeOne wsX6_writeOne) := goodIn_app (goodIn_of _ (by decide +kernel)) ggX6_write_X6_writeOne
theorem dX6_write_0 : decode cX6_write 0 = .ok (.aload_n 0, 1) := by decide +kernel
theorem dX6_write_1 : decode cX6_write 1 = .ok (.iload_n 1, 1) := by decide +kernel
theorem dX6_write_2 : decode cX6_write 2 = .ok (.iload_n 2, 1) := by decide +kernel
theorem dX6_write_3 : decode cX6_write 3 = .ok (.iload_n 3, 1) := by decide +kernel
theorem dX6_write_4 : decode cX6_write 4 = .ok (.invokevirtual 120, 3) := by decide +kernel
theorem dX6_write_7 : decode cX6_write 7 = .ok (.istore 4, 2) := by decide +kernel
theorem dX6_write_9 : decode cX6_write 9 = .ok (.iload 4, 2) := by decide +kernel
theorem dX6_write_11 : decode cX6_write 11 = .ok (.ifCond .ge 6, 3) := by decide +kernel
theorem dX6_write_14 : decode cX6_write 14 = .ok (.iload 4, 2) := by decide +kernel
theorem dX6_write_16 : decode cX6_write 16 = .ok (.ireturn, 1) := by decide +kernel
theorem dX6_write_17 : decode cX6_write 17 = .ok (.aload_n 0, 1) := by decide +kernel
theorem dX6_write_18 : decode cX6_write 18 = .ok (.invokevirtual 48, 3) := by decide +kernel
theorem dX6_write_21 : decode cX6_write 21 = .ok (.aload_n 0, 1) := by decide +kernel
theorem dX6_write_22 : decode cX6_write 22 = .ok (.iload_n 1, 1) := by decide +kernel
theorem dX6_write_23 : decode cX6_write 23 = .ok (.iload_n 2, 1) := by decide +kernel
theorem dX6_write_24 : decode cX6_write 24 = .ok (.iload_n 3, 1) := by decide +kernel
theorem dX6_write_25 : decode cX6_write 25 = .ok (.invokevirtual 124, 3) := by decide +kernel
theorem dX6_write_28 : decode cX6_write 28 = .ok (.ireturn, 1) := by decide +kernel
set_option maxRecDepth 20000 in
theorem ggX6_whyNotEnd_X6_isTransaction : GoodIn wsX6_whyNotEnd wsX6_isTransaction := goodIn_r _ [5, 6, 15, 16, 17, 18, 19, 20, 21, 22, 23, 24, 25, 26, 27, 28, 29, 30] (by decide +kernel) (by decide +kernel)
set_option maxRecDepth 20000 in
theorem gX6_whyNotEnd_X6_isTransaction : GoodIn wsX6_whyNotEnd (wsV RX6 101 RX6 yX6_isTransaction wsX6_isTransaction) := goodIn_app (goodIn_of _ (by decide +kernel)) ggX6_whyNotEnd_X6_isTransaction
set_option maxRecDepth 20000 in
theorem ggX6_whyNotEnd_X6_isIn : GoodIn wsX6_whyNotEnd wsX6_isIn := goodIn_r _ [10, 11, 12, 13, 4, 14, 6, 15, 16, 17, 18, 19, 20, 21, 22, 23, 24, 25, 26, 27, 28, 29, 30] (by decide +kernel) (by decide +kernel)
set_option maxRecDepth 20000 in
theorem gX6_whyNotEnd_X6_isIn : GoodIn wsX6_whyNotEnd (wsV RX6 51 RX6 yX6_isIn wsX6_isIn) := goodIn_app (goodIn_of _ (by decide +kernel)) ggX6_whyNotEnd_X6_isIn
theorem dX6_whyNotEnd_0 : decode cX6_whyNotEnd 0 = .ok (.aload_n 0, 1) := by decide +kernel
theorem dX6_whyNotEnd_1 : decode cX6_whyNotEnd 1 = .ok (.iload_n 1, 1) := by decide +kernel
theorem dX6_whyNotEnd_2 : decode cX6_whyNotEnd 2 = .ok (.invokevirtual 101, 3) := by decide +kernel
theorem dX6_whyNotEnd_5 : decode cX6_whyNotEnd 5 = .ok (.ifCond .ne 7, 3) := by decide +kernel
theorem dX6_whyNotEnd_8 : decode cX6_whyNotEnd 8 = .ok (.iconst (-1), 1) := by decide +kernel
theorem dX6_whyNotEnd_9 : decode cX6_whyNotEnd 9 = .ok (.goto 18, 3) := by decide +kernel
theorem dX6_whyNotEnd_12 : decode cX6_whyNotEnd 12 = .ok (.aload_n 0, 1) := by decide +kernel
theorem dX6_whyNotEnd_13 : decode cX6_whyNotEnd 13 = .ok (.iload_n 1, 1) := by decide +kernel
theorem dX6_whyNotEnd_14 : decode cX6_whyNotEnd 14 = .ok (.iconst 0, 1) := by decide +kernel
theorem dX6_whyNotEnd_15 : decode cX6_whyNotEnd 15 = .ok (.invokevirtual 51, 3) := by decide +kernel
theorem dX6_whyNotEnd_18 : decode cX6_whyNotEnd 18 = .ok (.ifCond .eq 7, 3) := by decide +kernel
theorem dX6_whyNotEnd_21 : decode cX6_whyNotEnd 21 = .ok (.iconst 0, 1) := by decide +kernel
theorem dX6_whyNotEnd_22 : decode cX6_whyNotEnd 22 = .ok (.goto 5, 3) := by decide +kernel
theorem dX6_whyNotEnd_25 : decode cX6_whyNotEnd 25 = .ok (.bipush (-5), 2) := by decide +kernel
theorem dX6_whyNotEnd_27 : decode cX6_whyNotEnd 27 = .ok (.ireturn, 1) := by decide +kernel
set_option maxRecDepth 20000 in
theorem ggX6_abortOne_X6_lay : GoodIn wsX6_abortOne wsX6_lay := goodIn_r _ [5, 6, 7, 8, 9, 10, 11, 12, 13, 14, 15, 16, 17, 18, 19, 20, 21, 22] (by decide +kernel) (by decide +kernel)
set_option maxRecDepth 20000 in
theorem gX6_abortOne_X6_lay : GoodIn wsX6_abortOne (wsV RX6 86 RX6 yX6_lay wsX6_lay) := goodIn_app (goodIn_of _ (by decide +kernel)) ggX6_abortOne_X6_lay
theorem dX6_abortOne_0 : decode cX6_abortOne 0 = .ok (.aload_n 0, 1) := by decide +kernel
theorem dX6_abortOne_1 : decode cX6_abortOne 1 = .ok (.iload_n 1, 1) := by decide +kernel
theorem dX6_abortOne_2 : decode cX6_abortOne 2 = .ok (.iconst 0, 1) := by decide +kernel
theorem dX6_abortOne_3 : decode cX6_abortOne 3 = .ok (.iconst 2, 1) := by decide +kernel
theorem dX6_abortOne_4 : decode cX6_abortOne 4 = .ok (.invokevirtual 86, 3) := by decide +kernel
theorem dX6_abortOne_7 : decode cX6_abortOne 7 = .ok (.aload_n 0, 1) := by decide +kernel
theorem dX6_abortOne_8 : decode cX6_abortOne 8 = .ok (.iload_n 1, 1) := by decide +kernel
theorem dX6_abortOne_9 : decode cX6_abortOne 9 = .ok (.iconst 5, 1) := by decide +kernel
theorem dX6_abortOne_10 : decode cX6_abortOne 10 = .ok (.iload_n 2, 1) := by decide +kernel
theorem dX6_abortOne_11 : decode cX6_abortOne 11 = .ok (.invokevirtual 86, 3) := by decide +kernel
theorem dX6_abortOne_14 : decode cX6_abortOne 14 = .ok (.return_, 1) := by decide +kernel
set_option maxRecDepth 20000 in
theorem ggX6_commitOne_X6_reasonFor : GoodIn wsX6_commitOne wsX6_reasonFor := goodIn_r _ [6, 1, 7, 8, 9, 5, 10, 11, 12, 13, 14, 15, 16, 17, 18, 19, 20, 21, 22, 23, 24, 25, 26, 27, 28, 29, 30, 31, 32, 33, 34, 35, 36, 37, 38, 39, 40, 41, 42, 43, 44, 45, 46, 47, 48, 49, 50, 51, 52, 53, 58, 59, 60, 61, 62, 63, 64, 65, 66, 67, 68, 69, 70, 71, 72, 73] (by decide +kernel) (by decide +kernel)
set_option maxRecDepth 20000 in
theorem gX6_commitOne_X6_reasonFor : GoodIn wsX6_commitOne (wsV RX6 127 RX6 yX6_reasonFor wsX6_reasonFor) := goodIn_app (goodIn_of _ (by decide +kernel)) ggX6_commitOne_X6_reasonFor
set_option maxRecDepth 20000 in
theorem ggX6_commitOne_X6_abortOne : GoodIn wsX6_commitOne wsX6_abortOne := goodIn_r _ [57, 23, 24, 25, 5, 26, 1, 58, 59, 60, 61, 62, 63, 64, 65, 66, 67, 68, 69, 70, 71, 72, 73] (by decide +kernel) (by decide +kernel)
set_option maxRecDepth 20000 in
theorem gX6_commitOne_X6_abortOne : GoodIn wsX6_commitOne (wsV RX6 130 RX6 yX6_abortOne wsX6_abortOne) := goodIn_app (goodIn_of _ (by decide +kernel)) ggX6_commitOne_X6_abortOne
set_option maxRecDepth 20000 in
theorem ggX6_commitOne_X6_lay : GoodIn wsX6_commitOne wsX6_lay := goodIn_r _ [26, 1, 58, 59, 60, 61, 62, 63, 64, 65, 66, 67, 68, 69, 70, 71, 72, 73] (by decide +kernel) (by decide +kernel)
set_option maxRecDepth 20000 in
theorem gX6_commitOne_X6_lay : GoodIn wsX6_commitOne (wsV RX6 86 RX6 yX6_lay wsX6_lay) := goodIn_app (goodIn_of _ (by decide +kernel)) ggX6_commitOne_X6_lay
theorem dX6_commitOne_0 : decode cX6_commitOne 0 = .ok (.aload_n 0, 1) := by decide +kernel
theorem dX6_commitOne_1 : decode cX6_commitOne 1 = .ok (.iload_n 1, 1) := by decide +kernel
theorem dX6_commitOne_2 : decode cX6_commitOne 2 = .ok (.aload_n 0, 1) := by decide +kernel
theorem dX6_commitOne_3 : decode cX6_commitOne 3 = .ok (.getfield 7, 3) := by decide +kernel
theorem dX6_commitOne_6 : decode cX6_commitOne 6 = .ok (.iconst 0, 1) := by decide +kernel
theorem dX6_commitOne_7 : decode cX6_commitOne 7 = .ok (.iaload, 1) := by decide +kernel
theorem dX6_commitOne_8 : decode cX6_commitOne 8 = .ok (.invokevirtual 127, 3) := by decide +kernel
theorem dX6_commitOne_11 : decode cX6_commitOne 11 = .ok (.istore_n 2, 1) := by decide +kernel
theorem dX6_commitOne_12 : decode cX6_commitOne 12 = .ok (.iload_n 2, 1) := by decide +kernel
theorem dX6_commitOne_13 : decode cX6_commitOne 13 = .ok (.ifCond .le 12, 3) := by decide +kernel
theorem dX6_commitOne_16 : decode cX6_commitOne 16 = .ok (.aload_n 0, 1) := by decide +kernel
theorem dX6_commitOne_17 : decode cX6_commitOne 17 = .ok (.iload_n 1, 1) := by decide +kernel
theorem dX6_commitOne_18 : decode cX6_commitOne 18 = .ok (.iload_n 2, 1) := by decide +kernel
theorem dX6_commitOne_19 : decode cX6_commitOne 19 = .ok (.invokevirtual 130, 3) := by decide +kernel
theorem dX6_commitOne_22 : decode cX6_commitOne 22 = .ok (.goto 32, 3) := by decide +kernel
theorem dX6_commitOne_25 : decode cX6_commitOne 25 = .ok (.aload_n 0, 1) := by decide +kernel
theorem dX6_commitOne_26 : decode cX6_commitOne 26 = .ok (.getfield 7, 3) := by decide +kernel
theorem dX6_commitOne_29 : decode cX6_commitOne 29 = .ok (.iconst 1, 1) := by decide +kernel
theorem dX6_commitOne_30 : decode cX6_commitOne 30 = .ok (.dup2, 1) := by decide +kernel
theorem dX6_commitOne_31 : decode cX6_commitOne 31 = .ok (.iaload, 1) := by decide +kernel
theorem dX6_commitOne_32 : decode cX6_commitOne 32 = .ok (.iconst 1, 1) := by decide +kernel
theorem dX6_commitOne_33 : decode cX6_commitOne 33 = .ok (.iadd, 1) := by decide +kernel
theorem dX6_commitOne_34 : decode cX6_commitOne 34 = .ok (.iastore, 1) := by decide +kernel
theorem dX6_commitOne_35 : decode cX6_commitOne 35 = .ok (.aload_n 0, 1) := by decide +kernel
theorem dX6_commitOne_36 : decode cX6_commitOne 36 = .ok (.iload_n 1, 1) := by decide +kernel
theorem dX6_commitOne_37 : decode cX6_commitOne 37 = .ok (.iconst 0, 1) := by decide +kernel
theorem dX6_commitOne_38 : decode cX6_commitOne 38 = .ok (.iconst 1, 1) := by decide +kernel
theorem dX6_commitOne_39 : decode cX6_commitOne 39 = .ok (.invokevirtual 86, 3) := by decide +kernel
theorem dX6_commitOne_42 : decode cX6_commitOne 42 = .ok (.aload_n 0, 1) := by decide +kernel
theorem dX6_commitOne_43 : decode cX6_commitOne 43 = .ok (.iload_n 1, 1) := by decide +kernel
theorem dX6_commitOne_44 : decode cX6_commitOne 44 = .ok (.iconst 2, 1) := by decide +kernel
theorem dX6_commitOne_45 : decode cX6_commitOne 45 = .ok (.aload_n 0, 1) := by decide +kernel
theorem dX6_commitOne_46 : decode cX6_commitOne 46 = .ok (.getfield 7, 3) := by decide +kernel
theorem dX6_commitOne_49 : decode cX6_commitOne 49 = .ok (.iconst 1, 1) := by decide +kernel
theorem dX6_commitOne_50 : decode cX6_commitOne 50 = .ok (.iaload, 1) := by decide +kernel
theorem dX6_commitOne_51 : decode cX6_commitOne 51 = .ok (.invokevirtual 86, 3) := by decide +kernel
theorem dX6_commitOne_54 : decode cX6_commitOne 54 = .ok (.iload_n 2, 1) := by decide +kernel
theorem dX6_commitOne_55 : decode cX6_commitOne 55 = .ok (.ireturn, 1) := by decide +kernel
set_option maxRecDepth 20000 in
theorem ggX6_commit_X6_whyNotEnd : GoodIn wsX6_commit wsX6_whyNotEnd := goodIn_r _ [5, 6, 7, 8, 4, 9, 10, 11, 12, 13, 14, 15, 16, 17, 18, 76, 77, 78, 79, 80, 81, 82, 83, 84, 85, 86, 87, 88, 89, 90, 91] (by decide +kernel) (by decide +kernel)
set_option maxRecDepth 20000 in
theorem gX6_commit_X6_whyNotEnd : GoodIn wsX6_commit (wsV RX6 134 RX6 yX6_whyNotEnd wsX6_whyNotEnd) := goodIn_app (goodIn_of _ (by decide +kernel)) ggX6_commit_X6_whyNotEnd
set_option maxRecDepth 20000 in
theorem ggX6_commit_X6_record : GoodIn wsX6_commit wsX6_record := goodIn_r _ [22, 23, 24, 10, 76, 77, 78, 79, 80, 81, 82, 83, 84, 85, 86, 87, 88, 89, 90, 91] (by decide +kernel) (by decide +kernel)
set_option maxRecDepth 20000 in
theorem gX6_commit_X6_record : GoodIn wsX6_commit (wsV RX6 48 RX6 yX6_record wsX6_record) := goodIn_app (goodIn_of _ (by decide +kernel)) ggX6_commit_X6_record
set_option maxRecDepth 20000 in
theorem ggX6_commit_X6_commitOne : GoodIn wsX6_commit wsX6_commitOne := goodIn_r _ [28, 10, 29, 30, 31, 4, 32, 33, 34, 35, 36, 15, 16, 17, 18, 37, 38, 39, 40, 11, 12, 13, 14, 41, 42, 43, 44, 45, 46, 47, 48, 49, 50, 51, 52, 53, 54, 55, 56, 57, 58, 59, 60, 61, 62, 63, 64, 65, 66, 67, 68, 69, 70, 71, 72, 73, 74, 75, 76, 77, 78, 79, 80, 81, 82, 83, 84, 85, 86, 87, 88, 89, 90, 91] (by decide +kernel) (by decide +kernel)
set_option maxRecDepth 20000 in
theorem gX6_commit_X6_commitOne : GoodIn wsX6_commit (wsV RX6 137 RX6 yX6_commitOne wsX6_commitOne) := goodIn_app (goodIn_of _ (by decide +kernel)) ggX6_commit_X6_commitOne
theorem dX6_commit_0 : decode cX6_commit 0 = .ok (.aload_n 0, 1) := by decide +kernel
theorem dX6_commit_1 : decode cX6_commit 1 = .ok (.iload_n 1, 1) := by decide +kernel
theorem dX6_commit_2 : decode cX6_commit 2 = .ok (.invokevirtual 134, 3) := by decide +kernel
theorem dX6_commit_5 : decode cX6_commit 5 = .ok (.istore_n 2, 1) := by decide +kernel
theorem dX6_commit_6 : decode cX6_commit 6 = .ok (.iload_n 2, 1) := by decide +kernel
