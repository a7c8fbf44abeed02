theorem dL_cell_0 : decode cL_cell 0 = .ok (.iload_n 1, 1) := by decide +kernel
theorem dL_cell_1 : decode cL_cell 1 = .ok (.aload_n 0, 1) := by decide +kernel
theorem dL_cell_2 : decode cL_cell 2 = .ok (.arraylength, 1) := by decide +kernel
theorem dL_cell_3 : decode cL_cell 3 = .ok (.if_icmp .ge 9, 3) := by decide +kernel
theorem dL_cell_6 : decode cL_cell 6 = .ok (.aload_n 0, 1) := by decide +kernel
theorem dL_cell_7 : decode cL_cell 7 = .ok (.iload_n 1, 1) := by decide +kernel
theorem dL_cell_8 : decode cL_cell 8 = .ok (.iaload, 1) := by decide +kernel
theorem dL_cell_9 : decode cL_cell 9 = .ok (.goto 10, 3) := by decide +kernel
theorem dL_cell_12 : decode cL_cell 12 = .ok (.ldc 7, 2) := by decide +kernel
theorem dL_cell_14 : decode cL_cell 14 = .ok (.iload_n 1, 1) := by decide +kernel
theorem dL_cell_15 : decode cL_cell 15 = .ok (.imul, 1) := by decide +kernel
theorem dL_cell_16 : decode cL_cell 16 = .ok (.ldc 8, 2) := by decide +kernel
theorem dL_cell_18 : decode cL_cell 18 = .ok (.iadd, 1) := by decide +kernel
theorem dL_cell_19 : decode cL_cell 19 = .ok (.ireturn, 1) := by decide +kernel
theorem dL_low_0 : decode cL_low 0 = .ok (.iload_n 0, 1) := by decide +kernel
theorem dL_low_1 : decode cL_low 1 = .ok (.ldc 9, 2) := by decide +kernel
theorem dL_low_3 : decode cL_low 3 = .ok (.iand, 1) := by decide +kernel
theorem dL_low_4 : decode cL_low 4 = .ok (.iload_n 1, 1) := by decide +kernel
theorem dL_low_5 : decode cL_low 5 = .ok (.irem, 1) := by decide +kernel
theorem dL_low_6 : decode cL_low 6 = .ok (.ireturn, 1) := by decide +kernel
theorem dL_isCommitted_0 : decode cL_isCommitted 0 = .ok (.aload_n 0, 1) := by decide +kernel
theorem dL_isCommitted_1 : decode cL_isCommitted 1 = .ok (.bipush 12, 2) := by decide +kernel
theorem dL_isCommitted_3 : decode cL_isCommitted 3 = .ok (.iload_n 1, 1) := by decide +kernel
theorem dL_isCommitted_4 : decode cL_isCommitted 4 = .ok (.iadd, 1) := by decide +kernel
theorem dL_isCommitted_5 : decode cL_isCommitted 5 = .ok (.iaload, 1) := by decide +kernel
theorem dL_isCommitted_6 : decode cL_isCommitted 6 = .ok (.ifCond .le 7, 3) := by decide +kernel
theorem dL_isCommitted_9 : decode cL_isCommitted 9 = .ok (.iconst 1, 1) := by decide +kernel
theorem dL_isCommitted_10 : decode cL_isCommitted 10 = .ok (.goto 4, 3) := by decide +kernel
theorem dL_isCommitted_13 : decode cL_isCommitted 13 = .ok (.iconst 0, 1) := by decide +kernel
theorem dL_isCommitted_14 : decode cL_isCommitted 14 = .ok (.ireturn, 1) := by decide +kernel
set_option maxRecDepth 20000 in
theorem ggL_writer_L_isCommitted : GoodIn wsL_writer wsL_isCommitted := goodIn_r _ [4] (by decide +kernel) (by decide +kernel)
set_option maxRecDepth 20000 in
theorem gL_writer_L_isCommitted : GoodIn wsL_writer (va_wsS RL 10 yL_isCommitted wsL_isCommitted) := goodIn_app (goodIn_of _ (by decide +kernel)) ggL_writer_L_isCommitted
theorem dL_writer_0 : decode cL_writer 0 = .ok (.iconst (-1), 1) := by decide +kernel
theorem dL_writer_1 : decode cL_writer 1 = .ok (.istore_n 3, 1) := by decide +kernel
theorem dL_writer_2 : decode cL_writer 2 = .ok (.iconst 0, 1) := by decide +kernel
theorem dL_writer_3 : decode cL_writer 3 = .ok (.istore 4, 2) := by decide +kernel
theorem dL_writer_5 : decode cL_writer 5 = .ok (.iload 4, 2) := by decide +kernel
theorem dL_writer_7 : decode cL_writer 7 = .ok (.aload_n 0, 1) := by decide +kernel
theorem dL_writer_8 : decode cL_writer 8 = .ok (.bipush 49, 2) := by decide +kernel
theorem dL_writer_10 : decode cL_writer 10 = .ok (.iaload, 1) := by decide +kernel
theorem dL_writer_11 : decode cL_writer 11 = .ok (.if_icmp .ge 83, 3) := by decide +kernel
theorem dL_writer_14 : decode cL_writer 14 = .ok (.aload_n 0, 1) := by decide +kernel
theorem dL_writer_15 : decode cL_writer 15 = .ok (.iload 4, 2) := by decide +kernel
theorem dL_writer_17 : decode cL_writer 17 = .ok (.invokestatic 10, 3) := by decide +kernel
theorem dL_writer_20 : decode cL_writer 20 = .ok (.ifCond .eq 33, 3) := by decide +kernel
theorem dL_writer_23 : decode cL_writer 23 = .ok (.aload_n 0, 1) := by decide +kernel
theorem dL_writer_24 : decode cL_writer 24 = .ok (.bipush 36, 2) := by decide +kernel
theorem dL_writer_26 : decode cL_writer 26 = .ok (.iload 4, 2) := by decide +kernel
theorem dL_writer_28 : decode cL_writer 28 = .ok (.iadd, 1) := by decide +kernel
theorem dL_writer_29 : decode cL_writer 29 = .ok (.iaload, 1) := by decide +kernel
theorem dL_writer_30 : decode cL_writer 30 = .ok (.iload_n 1, 1) := by decide +kernel
theorem dL_writer_31 : decode cL_writer 31 = .ok (.ishr, 1) := by decide +kernel
theorem dL_writer_32 : decode cL_writer 32 = .ok (.iconst 1, 1) := by decide +kernel
theorem dL_writer_33 : decode cL_writer 33 = .ok (.iand, 1) := by decide +kernel
theorem dL_writer_34 : decode cL_writer 34 = .ok (.iconst 1, 1) := by decide +kernel
theorem dL_writer_35 : decode cL_writer 35 = .ok (.if_icmp .ne 18, 3) := by decide +kernel
theorem dL_writer_38 : decode cL_writer 38 = .ok (.aload_n 0, 1) := by decide +kernel
theorem dL_writer_39 : decode cL_writer 39 = .ok (.bipush 12, 2) := by decide +kernel
theorem dL_writer_41 : decode cL_writer 41 = .ok (.iload 4, 2) := by decide +kernel
theorem dL_writer_43 : decode cL_writer 43 = .ok (.iadd, 1) := by decide +kernel
theorem dL_writer_44 : decode cL_writer 44 = .ok (.iaload, 1) := by decide +kernel
theorem dL_writer_45 : decode cL_writer 45 = .ok (.iload_n 2, 1) := by decide +kernel
theorem dL_writer_46 : decode cL_writer 46 = .ok (.if_icmp .ge 7, 3) := by decide +kernel
theorem dL_writer_49 : decode cL_writer 49 = .ok (.iconst 1, 1) := by decide +kernel
theorem dL_writer_50 : decode cL_writer 50 = .ok (.goto 4, 3) := by decide +kernel
theorem dL_writer_53 : decode cL_writer 53 = .ok (.iconst 0, 1) := by decide +kernel
theorem dL_writer_54 : decode cL_writer 54 = .ok (.istore 5, 2) := by decide +kernel
theorem dL_writer_56 : decode cL_writer 56 = .ok (.iload 5, 2) := by decide +kernel
theorem dL_writer_58 : decode cL_writer 58 = .ok (.ifCond .eq 28, 3) := by decide +kernel
theorem dL_writer_61 : decode cL_writer 61 = .ok (.iload_n 3, 1) := by decide +kernel
theorem dL_writer_62 : decode cL_writer 62 = .ok (.ifCond .lt 19, 3) := by decide +kernel
theorem dL_writer_65 : decode cL_writer 65 = .ok (.aload_n 0, 1) := by decide +kernel
theorem dL_writer_66 : decode cL_writer 66 = .ok (.bipush 12, 2) := by decide +kernel
theorem dL_writer_68 : decode cL_writer 68 = .ok (.iload 4, 2) := by decide +kernel
theorem dL_writer_70 : decode cL_writer 70 = .ok (.iadd, 1) := by decide +kernel
theorem dL_writer_71 : decode cL_writer 71 = .ok (.iaload, 1) := by decide +kernel
theorem dL_writer_72 : decode cL_writer 72 = .ok (.aload_n 0, 1) := by decide +kernel
theorem dL_writer_73 : decode cL_writer 73 = .ok (.bipush 12, 2) := by decide +kernel
theorem dL_writer_75 : decode cL_writer 75 = .ok (.iload_n 3, 1) := by decide +kernel
theorem dL_writer_76 : decode cL_writer 76 = .ok (.iadd, 1) := by decide +kernel
theorem dL_writer_77 : decode cL_writer 77 = .ok (.iaload, 1) := by decide +kernel
theorem dL_writer_78 : decode cL_writer 78 = .ok (.if_icmp .le 8, 3) := by decide +kernel
theorem dL_writer_81 : decode cL_writer 81 = .ok (.iload 4, 2) := by decide +kernel
theorem dL_writer_83 : decode cL_writer 83 = .ok (.goto 4, 3) := by decide +kernel
theorem dL_writer_86 : decode cL_writer 86 = .ok (.iload_n 3, 1) := by decide +kernel
theorem dL_writer_87 : decode cL_writer 87 = .ok (.istore_n 3, 1) := by decide +kernel
theorem dL_writer_88 : decode cL_writer 88 = .ok (.iinc 4 1, 3) := by decide +kernel
theorem dL_writer_91 : decode cL_writer 91 = .ok (.goto (-86), 3) := by decide +kernel
theorem dL_writer_94 : decode cL_writer 94 = .ok (.iload_n 3, 1) := by decide +kernel
theorem dL_writer_95 : decode cL_writer 95 = .ok (.ireturn, 1) := by decide +kernel
set_option maxRecDepth 20000 in
theorem ggL_isEdge_L_isCommitted : GoodIn wsL_isEdge wsL_isCommitted := goodIn_r _ [4] (by decide +kernel) (by decide +kernel)
set_option maxRecDepth 20000 in
theorem gL_isEdge_L_isCommitted : GoodIn wsL_isEdge (va_wsS RL 10 yL_isCommitted wsL_isCommitted) := goodIn_app (goodIn_of _ (by decide +kernel)) ggL_isEdge_L_isCommitted
theorem dL_isEdge_0 : decode cL_isEdge 0 = .ok (.iload_n 1, 1) := by decide +kernel
theorem dL_isEdge_1 : decode cL_isEdge 1 = .ok (.iload_n 2, 1) := by decide +kernel
theorem dL_isEdge_2 : decode cL_isEdge 2 = .ok (.if_icmp .eq 25, 3) := by decide +kernel
theorem dL_isEdge_5 : decode cL_isEdge 5 = .ok (.aload_n 0, 1) := by decide +kernel
theorem dL_isEdge_6 : decode cL_isEdge 6 = .ok (.bipush 12, 2) := by decide +kernel
theorem dL_isEdge_8 : decode cL_isEdge 8 = .ok (.iload_n 1, 1) := by decide +kernel
theorem dL_isEdge_9 : decode cL_isEdge 9 = .ok (.iadd, 1) := by decide +kernel
theorem dL_isEdge_10 : decode cL_isEdge 10 = .ok (.iaload, 1) := by decide +kernel
theorem dL_isEdge_11 : decode cL_isEdge 11 = .ok (.ifCond .lt 16, 3) := by decide +kernel
theorem dL_isEdge_14 : decode cL_isEdge 14 = .ok (.aload_n 0, 1) := by decide +kernel
theorem dL_isEdge_15 : decode cL_isEdge 15 = .ok (.bipush 12, 2) := by decide +kernel
theorem dL_isEdge_17 : decode cL_isEdge 17 = .ok (.iload_n 2, 1) := by decide +kernel
theorem dL_isEdge_18 : decode cL_isEdge 18 = .ok (.iadd, 1) := by decide +kernel
theorem dL_isEdge_19 : decode cL_isEdge 19 = .ok (.iaload, 1) := by decide +kernel
theorem dL_isEdge_20 : decode cL_isEdge 20 = .ok (.ifCond .lt 7, 3) := by decide +kernel
theorem dL_isEdge_23 : decode cL_isEdge 23 = .ok (.iconst 1, 1) := by decide +kernel
theorem dL_isEdge_24 : decode cL_isEdge 24 = .ok (.goto 4, 3) := by decide +kernel
theorem dL_isEdge_27 : decode cL_isEdge 27 = .ok (.iconst 0, 1) := by decide +kernel
theorem dL_isEdge_28 : decode cL_isEdge 28 = .ok (.istore_n 3, 1) := by decide +kernel
theorem dL_isEdge_29 : decode cL_isEdge 29 = .ok (.aload_n 0, 1) := by decide +kernel
theorem dL_isEdge_30 : decode cL_isEdge 30 = .ok (.iload_n 1, 1) := by decide +kernel
theorem dL_isEdge_31 : decode cL_isEdge 31 = .ok (.invokestatic 10, 3) := by decide +kernel
theorem dL_isEdge_34 : decode cL_isEdge 34 = .ok (.ifCond .eq 15, 3) := by decide +kernel
theorem dL_isEdge_37 : decode cL_isEdge 37 = .ok (.aload_n 0, 1) := by decide +kernel
theorem dL_isEdge_38 : decode cL_isEdge 38 = .ok (.bipush 12, 2) := by decide +kernel
theorem dL_isEdge_40 : decode cL_isEdge 40 = .ok (.iload_n 1, 1) := by decide +kernel
theorem dL_isEdge_41 : decode cL_isEdge 41 = .ok (.iadd, 1) := by decide +kernel
theorem dL_isEdge_42 : decode cL_isEdge 42 = .ok (.iaload, 1) := by decide +kernel
theorem dL_isEdge_43 : decode cL_isEdge 43 = .ok (.aload_n 0, 1) := by decide +kernel
theorem dL_isEdge_44 : decode cL_isEdge 44 = .ok (.iload_n 2, 1) := by decide +kernel
theorem dL_isEdge_45 : decode cL_isEdge 45 = .ok (.iaload, 1) := by decide +kernel
theorem dL_isEdge_46 : decode cL_isEdge 46 = .ok (.if_icmp .lt 23, 3) := by decide +kernel
theorem dL_isEdge_49 : decode cL_isEdge 49 = .ok (.aload_n 0, 1) := by decide +kernel
theorem dL_isEdge_50 : decode cL_isEdge 50 = .ok (.iload_n 2, 1) := by decide +kernel
theorem dL_isEdge_51 : decode cL_isEdge 51 = .ok (.invokestatic 10, 3) := by decide +kernel
theorem dL_isEdge_54 : decode cL_isEdge 54 = .ok (.ifCond .eq 19, 3) := by decide +kernel
theorem dL_isEdge_57 : decode cL_isEdge 57 = .ok (.aload_n 0, 1) := by decide +kernel
theorem dL_isEdge_58 : decode cL_isEdge 58 = .ok (.bipush 12, 2) := by decide +kernel
theorem dL_isEdge_60 : decode cL_isEdge 60 = .ok (.iload_n 2, 1) := by decide +kernel
theorem dL_isEdge_61 : decode cL_isEdge 61 = .ok (.iadd, 1) := by decide +kernel
theorem dL_isEdge_62 : decode cL_isEdge 62 = .ok (.iaload, 1) := by decide +kernel
theorem dL_isEdge_63 : decode cL_isEdge 63 = .ok (.aload_n 0, 1) := by decide +kernel
theorem dL_isEdge_64 : decode cL_isEdge 64 = .ok (.iload_n 1, 1) := by decide +kernel
theorem dL_isEdge_65 : decode cL_isEdge 65 = .ok (.iaload, 1) := by decide +kernel
theorem dL_isEdge_66 : decode cL_isEdge 66 = .ok (.if_icmp .ge 7, 3) := by decide +kernel
theorem dL_isEdge_69 : decode cL_isEdge 69 = .ok (.iconst 1, 1) := by decide +kernel
theorem dL_isEdge_70 : decode cL_isEdge 70 = .ok (.goto 4, 3) := by decide +kernel
theorem dL_isEdge_73 : decode cL_isEdge 73 = .ok (.iconst 0, 1) := by decide +kernel
theorem dL_isEdge_74 : decode cL_isEdge 74 = .ok (.istore 4, 2) := by decide +kernel
theorem dL_isEdge_76 : decode cL_isEdge 76 = .ok (.iload_n 3, 1) := by decide +kernel
theorem dL_isEdge_77 : decode cL_isEdge 77 = .ok (.ifCond .eq 28, 3) := by decide +kernel
theorem dL_isEdge_80 : decode cL_isEdge 80 = .ok (.iload 4, 2) := by decide +kernel
theorem dL_isEdge_82 : decode cL_isEdge 82 = .ok (.ifCond .ne 23, 3) := by decide +kernel
theorem dL_isEdge_85 : decode cL_isEdge 85 = .ok (.aload_n 0, 1) := by decide +kernel
theorem dL_isEdge_86 : decode cL_isEdge 86 = .ok (.bipush 24, 2) := by decide +kernel
theorem dL_isEdge_88 : decode cL_isEdge 88 = .ok (.iload_n 1, 1) := by decide +kernel
theorem dL_isEdge_89 : decode cL_isEdge 89 = .ok (.iadd, 1) := by decide +kernel
theorem dL_isEdge_90 : decode cL_isEdge 90 = .ok (.iaload, 1) := by decide +kernel
theorem dL_isEdge_91 : decode cL_isEdge 91 = .ok (.aload_n 0, 1) := by decide +kernel
theorem dL_isEdge_92 : decode cL_isEdge 92 = .ok (.bipush 36, 2) := by decide +kernel
theorem dL_isEdge_94 : decode cL_isEdge 94 = .ok (.iload_n 2, 1) := by decide +kernel
theorem dL_isEdge_95 : decode cL_isEdge 95 = .ok (.iadd, 1) := by decide +kernel
theorem dL_isEdge_96 : decode cL_isEdge 96 = .ok (.iaload, 1) := by decide +kernel
theorem dL_isEdge_97 : decode cL_isEdge 97 = .ok (.iand, 1) := by decide +kernel
theorem dL_isEdge_98 : decode cL_isEdge 98 = .ok (.ifCond .eq 7, 3) := by decide +kernel
theorem dL_isEdge_101 : decode cL_isEdge 101 = .ok (.iconst 1, 1) := by decide +kernel
theorem dL_isEdge_102 : decode cL_isEdge 102 = .ok (.goto 4, 3) := by decide +kernel
theorem dL_isEdge_105 : decode cL_isEdge 105 = .ok (.iconst 0, 1) := by decide +kernel
theorem dL_isEdge_106 : decode cL_isEdge 106 = .ok (.ireturn, 1) := by decide +kernel
theorem dL_counts_0 : decode cL_counts 0 = .ok (.aload_n 0, 1) := by decide +kernel
theorem dL_counts_1 : decode cL_counts 1 = .ok (.bipush 12, 2) := by decide +kernel
theorem dL_counts_3 : decode cL_counts 3 = .ok (.iload 4, 2) := by decide +kernel
theorem dL_counts_5 : decode cL_counts 5 = .ok (.iadd, 1) := by decide +kernel
theorem dL_counts_6 : decode cL_counts 6 = .ok (.iaload, 1) := by decide +kernel
theorem dL_counts_7 : decode cL_counts 7 = .ok (.aload_n 0, 1) := by decide +kernel
theorem dL_counts_8 : decode cL_counts 8 = .ok (.bipush 12, 2) := by decide +kernel
theorem dL_counts_10 : decode cL_counts 10 = .ok (.iload_n 3, 1) := by decide +kernel
theorem dL_counts_11 : decode cL_counts 11 = .ok (.iadd, 1) := by decide +kernel
theorem dL_counts_12 : decode cL_counts 12 = .ok (.iaload, 1) := by decide +kernel
theorem dL_counts_13 : decode cL_counts 13 = .ok (.if_icmp .ge 29, 3) := by decide +kernel
theorem dL_counts_16 : decode cL_counts 16 = .ok (.iload 4, 2) := by decide +kernel
theorem dL_counts_18 : decode cL_counts 18 = .ok (.iload_n 2, 1) := by decide +kernel
theorem dL_counts_19 : decode cL_counts 19 = .ok (.if_icmp .eq 19, 3) := by decide +kernel
theorem dL_counts_22 : decode cL_counts 22 = .ok (.aload_n 0, 1) := by decide +kernel
theorem dL_counts_23 : decode cL_counts 23 = .ok (.bipush 12, 2) := by decide +kernel
theorem dL_counts_25 : decode cL_counts 25 = .ok (.iload 4, 2) := by decide +kernel
theorem dL_counts_27 : decode cL_counts 27 = .ok (.iadd, 1) := by decide +kernel
theorem dL_counts_28 : decode cL_counts 28 = .ok (.iaload, 1) := by decide +kernel
theorem dL_counts_29 : decode cL_counts 29 = .ok (.aload_n 0, 1) := by decide +kernel
theorem dL_counts_30 : decode cL_counts 30 = .ok (.bipush 12, 2) := by decide +kernel
theorem dL_counts_32 : decode cL_counts 32 = .ok (.iload_n 2, 1) := by decide +kernel
theorem dL_counts_33 : decode cL_counts 33 = .ok (.iadd, 1) := by decide +kernel
theorem dL_counts_34 : decode cL_counts 34 = .ok (.iaload, 1) := by decide +kernel
theorem dL_counts_35 : decode cL_counts 35 = .ok (.if_icmp .ge 7, 3) := by decide +kernel
theorem dL_counts_38 : decode cL_counts 38 = .ok (.iconst 1, 1) := by decide +kernel
theorem dL_counts_39 : decode cL_counts 39 = .ok (.goto 4, 3) := by decide +kernel
theorem dL_counts_42 : decode cL_counts 42 = .ok (.iconst 0, 1) := by decide +kernel
theorem dL_counts_43 : decode cL_counts 43 = .ok (.istore 5, 2) := by decide +kernel
theorem dL_counts_45 : decode cL_counts 45 = .ok (.iload_n 1, 1) := by decide +kernel
theorem dL_counts_46 : decode cL_counts 46 = .ok (.iconst 2, 1) := by decide +kernel
theorem dL_counts_47 : decode cL_counts 47 = .ok (.if_icmp .ne 16, 3) := by decide +kernel
theorem dL_counts_50 : decode cL_counts 50 = .ok (.aload_n 0, 1) := by decide +kernel
theorem dL_counts_51 : decode cL_counts 51 = .ok (.bipush 36, 2) := by decide +kernel
theorem dL_counts_53 : decode cL_counts 53 = .ok (.iload_n 2, 1) := by decide +kernel
theorem dL_counts_54 : decode cL_counts 54 = .ok (.iadd, 1) := by decide +kernel
theorem dL_counts_55 : decode cL_counts 55 = .ok (.iaload, 1) := by decide +kernel
theorem dL_counts_56 : decode cL_counts 56 = .ok (.ifCond .ne 7, 3) := by decide +kernel
theorem dL_counts_59 : decode cL_counts 59 = .ok (.iconst 1, 1) := by decide +kernel
theorem dL_counts_60 : decode cL_counts 60 = .ok (.goto 4, 3) := by decide +kernel
theorem dL_counts_63 : decode cL_counts 63 = .ok (.iconst 0, 1) := by decide +kernel
theorem dL_counts_64 : decode cL_counts 64 = .ok (.istore 6, 2) := by decide +kernel
theorem dL_counts_66 : decode cL_counts 66 = .ok (.iload_n 1, 1) := by decide +kernel
theorem dL_counts_67 : decode cL_counts 67 = .ok (.ifCond .eq 31, 3) := by decide +kernel
theorem dL_counts_70 : decode cL_counts 70 = .ok (.iload_n 1, 1) := by decide +kernel
theorem dL_counts_71 : decode cL_counts 71 = .ok (.iconst 3, 1) := by decide +kernel
theorem dL_counts_72 : decode cL_counts 72 = .ok (.if_icmp .ge 30, 3) := by decide +kernel
theorem dL_counts_75 : decode cL_counts 75 = .ok (.iload 5, 2) := by decide +kernel
theorem dL_counts_77 : decode cL_counts 77 = .ok (.ifCond .eq 25, 3) := by decide +kernel
theorem dL_counts_80 : decode cL_counts 80 = .ok (.iload 6, 2) := by decide +kernel
theorem dL_counts_82 : decode cL_counts 82 = .ok (.ifCond .eq 16, 3) := by decide +kernel
theorem dL_counts_85 : decode cL_counts 85 = .ok (.aload_n 0, 1) := by decide +kernel
theorem dL_counts_86 : decode cL_counts 86 = .ok (.bipush 12, 2) := by decide +kernel
theorem dL_counts_88 : decode cL_counts 88 = .ok (.iload 4, 2) := by decide +kernel
theorem dL_counts_90 : decode cL_counts 90 = .ok (.iadd, 1) := by decide +kernel
theorem dL_counts_91 : decode cL_counts 91 = .ok (.iaload, 1) := by decide +kernel
theorem dL_counts_92 : decode cL_counts 92 = .ok (.aload_n 0, 1) := by decide +kernel
theorem dL_counts_93 : decode cL_counts 93 = .ok (.iload_n 2, 1) := by decide +kernel
theorem dL_counts_94 : decode cL_counts 94 = .ok (.iaload, 1) := by decide +kernel
theorem dL_counts_95 : decode cL_counts 95 = .ok (.if_icmp .ge 7, 3) := by decide +kernel
theorem dL_counts_98 : decode cL_counts 98 = .ok (.iconst 1, 1) := by decide +kernel
theorem dL_counts_99 : decode cL_counts 99 = .ok (.goto 4, 3) := by decide +kernel
theorem dL_counts_102 : decode cL_counts 102 = .ok (.iconst 0, 1) := by decide +kernel
theorem dL_counts_103 : decode cL_counts 103 = .ok (.ireturn, 1) := by decide +kernel
set_option maxRecDepth 20000 in
theorem ggL_reason_L_isCommitted : GoodIn wsL_reason wsL_isCommitted := goodIn_r _ [4] (by decide +kernel) (by decide +kernel)
set_option maxRecDepth 20000 in
theorem gL_reason_L_isCommitted : GoodIn wsL_reason (va_wsS RL 10 yL_isCommitted wsL_isCommitted) := goodIn_app (goodIn_of _ (by decide +kernel)) ggL_reason_L_isCommitted
set_option maxRecDepth 20000 in
theorem ggL_reason_L_isEdge : GoodIn wsL_reason wsL_isEdge := goodIn_r _ [7, 1, 2, 3, 4] (by decide +kernel) (by decide +kernel)
set_option maxRecDepth 20000 in
theorem gL_reason_L_isEdge : GoodIn wsL_reason (va_wsS RL 16 yL_isEdge wsL_isEdge) := goodIn_app (goodIn_of _ (by decide +kernel)) ggL_reason_L_isEdge
set_option maxRecDepth 20000 in
theorem ggL_reason_L_counts : GoodIn wsL_reason wsL_counts := goodIn_r _ [10] (by decide +kernel) (by decide +kernel)
set_option maxRecDepth 20000 in
theorem gL_reason_L_counts : GoodIn wsL_reason (va_wsS RL 20 yL_counts wsL_counts) := goodIn_app (goodIn_of _ (by decide +kernel)) ggL_reason_L_counts
theorem dL_reason_0 : decode cL_reason 0 = .ok (.iconst 0, 1) := by decide +kernel
theorem dL_reason_1 : decode cL_reason 1 = .ok (.istore_n 3, 1) := by decide +kernel
theorem dL_reason_2 : decode cL_reason 2 = .ok (.iload_n 3, 1) := by decide +kernel
theorem dL_reason_3 : decode cL_reason 3 = .ok (.aload_n 0, 1) := by decide +kernel
theorem dL_reason_4 : decode cL_reason 4 = .ok (.bipush 49, 2) := by decide +kernel
theorem dL_reason_6 : decode cL_reason 6 = .ok (.iaload, 1) := by decide +kernel
theorem dL_reason_7 : decode cL_reason 7 = .ok (.if_icmp .ge 52, 3) := by decide +kernel
theorem dL_reason_10 : decode cL_reason 10 = .ok (.iload_n 3, 1) := by decide +kernel
theorem dL_reason_11 : decode cL_reason 11 = .ok (.iload_n 2, 1) := by decide +kernel
theorem dL_reason_12 : decode cL_reason 12 = .ok (.if_icmp .eq 41, 3) := by decide +kernel
theorem dL_reason_15 : decode cL_reason 15 = .ok (.aload_n 0, 1) := by decide +kernel
theorem dL_reason_16 : decode cL_reason 16 = .ok (.iload_n 3, 1) := by decide +kernel
theorem dL_reason_17 : decode cL_reason 17 = .ok (.invokestatic 10, 3) := by decide +kernel
theorem dL_reason_20 : decode cL_reason 20 = .ok (.ifCond .eq 33, 3) := by decide +kernel
theorem dL_reason_23 : decode cL_reason 23 = .ok (.aload_n 0, 1) := by decide +kernel
theorem dL_reason_24 : decode cL_reason 24 = .ok (.bipush 12, 2) := by decide +kernel
theorem dL_reason_26 : decode cL_reason 26 = .ok (.iload_n 3, 1) := by decide +kernel
theorem dL_reason_27 : decode cL_reason 27 = .ok (.iadd, 1) := by decide +kernel
theorem dL_reason_28 : decode cL_reason 28 = .ok (.iaload, 1) := by decide +kernel
theorem dL_reason_29 : decode cL_reason 29 = .ok (.aload_n 0, 1) := by decide +kernel
theorem dL_reason_30 : decode cL_reason 30 = .ok (.iload_n 2, 1) := by decide +kernel
theorem dL_reason_31 : decode cL_reason 31 = .ok (.iaload, 1) := by decide +kernel
theorem dL_reason_32 : decode cL_reason 32 = .ok (.if_icmp .le 21, 3) := by decide +kernel
theorem dL_reason_35 : decode cL_reason 35 = .ok (.aload_n 0, 1) := by decide +kernel
theorem dL_reason_36 : decode cL_reason 36 = .ok (.bipush 36, 2) := by decide +kernel
theorem dL_reason_38 : decode cL_reason 38 = .ok (.iload_n 3, 1) := by decide +kernel
theorem dL_reason_39 : decode cL_reason 39 = .ok (.iadd, 1) := by decide +kernel
theorem dL_reason_40 : decode cL_reason 40 = .ok (.iaload, 1) := by decide +kernel
theorem dL_reason_41 : decode cL_reason 41 = .ok (.aload_n 0, 1) := by decide +kernel
theorem dL_reason_42 : decode cL_reason 42 = .ok (.bipush 36, 2) := by decide +kernel
theorem dL_reason_44 : decode cL_reason 44 = .ok (.iload_n 2, 1) := by decide +kernel
theorem dL_reason_45 : decode cL_reason 45 = .ok (.iadd, 1) := by decide +kernel
theorem dL_reason_46 : decode cL_reason 46 = .ok (.iaload, 1) := by decide +kernel
theorem dL_reason_47 : decode cL_reason 47 = .ok (.iand, 1) := by decide +kernel
theorem dL_reason_48 : decode cL_reason 48 = .ok (.ifCond .eq 5, 3) := by decide +kernel
theorem dL_reason_51 : decode cL_reason 51 = .ok (.iconst 1, 1) := by decide +kernel
theorem dL_reason_52 : decode cL_reason 52 = .ok (.ireturn, 1) := by decide +kernel
theorem dL_reason_53 : decode cL_reason 53 = .ok (.iinc 3 1, 3) := by decide +kernel
theorem dL_reason_56 : decode cL_reason 56 = .ok (.goto (-54), 3) := by decide +kernel
theorem dL_reason_59 : decode cL_reason 59 = .ok (.aload_n 0, 1) := by decide +kernel
theorem dL_reason_60 : decode cL_reason 60 = .ok (.bipush 12, 2) := by decide +kernel
theorem dL_reason_62 : decode cL_reason 62 = .ok (.iload_n 2, 1) := by decide +kernel
theorem dL_reason_63 : decode cL_reason 63 = .ok (.iadd, 1) := by decide +kernel
theorem dL_reason_64 : decode cL_reason 64 = .ok (.aload_n 0, 1) := by decide +kernel
theorem dL_reason_65 : decode cL_reason 65 = .ok (.bipush 48, 2) := by decide +kernel
theorem dL_reason_67 : decode cL_reason 67 = .ok (.iaload, 1) := by decide +kernel
theorem dL_reason_68 : decode cL_reason 68 = .ok (.iconst 1, 1) := by decide +kernel
theorem dL_reason_69 : decode cL_reason 69 = .ok (.iadd, 1) := by decide +kernel
theorem dL_reason_70 : decode cL_reason 70 = .ok (.iastore, 1) := by decide +kernel
theorem dL_reason_71 : decode cL_reason 71 = .ok (.iconst 0, 1) := by decide +kernel
theorem dL_reason_72 : decode cL_reason 72 = .ok (.istore_n 3, 1) := by decide +kernel
theorem dL_reason_73 : decode cL_reason 73 = .ok (.iconst 0, 1) := by decide +kernel
theorem dL_reason_74 : decode cL_reason 74 = .ok (.istore 4, 2) := by decide +kernel
theorem dL_reason_76 : decode cL_reason 76 = .ok (.iload 4, 2) := by decide +kernel
theorem dL_reason_78 : decode cL_reason 78 = .ok (.sipush 1728, 3) := by decide +kernel
theorem dL_reason_81 : decode cL_reason 81 = .ok (.if_icmp .ge 164, 3) := by decide +kernel
theorem dL_reason_84 : decode cL_reason 84 = .ok (.iload 4, 2) := by decide +kernel
theorem dL_reason_86 : decode cL_reason 86 = .ok (.sipush 144, 3) := by decide +kernel
theorem dL_reason_89 : decode cL_reason 89 = .ok (.idiv, 1) := by decide +kernel
theorem dL_reason_90 : decode cL_reason 90 = .ok (.istore 5, 2) := by decide +kernel
theorem dL_reason_92 : decode cL_reason 92 = .ok (.iload 4, 2) := by decide +kernel
theorem dL_reason_94 : decode cL_reason 94 = .ok (.bipush 12, 2) := by decide +kernel
theorem dL_reason_96 : decode cL_reason 96 = .ok (.idiv, 1) := by decide +kernel
theorem dL_reason_97 : decode cL_reason 97 = .ok (.bipush 12, 2) := by decide +kernel
theorem dL_reason_99 : decode cL_reason 99 = .ok (.irem, 1) := by decide +kernel
theorem dL_reason_100 : decode cL_reason 100 = .ok (.istore 6, 2) := by decide +kernel
theorem dL_reason_102 : decode cL_reason 102 = .ok (.iload 4, 2) := by decide +kernel
theorem dL_reason_104 : decode cL_reason 104 = .ok (.bipush 12, 2) := by decide +kernel
theorem dL_reason_106 : decode cL_reason 106 = .ok (.irem, 1) := by decide +kernel
theorem dL_reason_107 : decode cL_reason 107 = .ok (.istore 7, 2) := by decide +kernel
theorem dL_reason_109 : decode cL_reason 109 = .ok (.iload 5, 2) := by decide +kernel
theorem dL_reason_111 : decode cL_reason 111 = .ok (.aload_n 0, 1) := by decide +kernel
theorem dL_reason_112 : decode cL_reason 112 = .ok (.bipush 49, 2) := by decide +kernel
theorem dL_reason_114 : decode cL_reason 114 = .ok (.iaload, 1) := by decide +kernel
theorem dL_reason_115 : decode cL_reason 115 = .ok (.if_icmp .ge 70, 3) := by decide +kernel
theorem dL_reason_118 : decode cL_reason 118 = .ok (.iload 6, 2) := by decide +kernel
theorem dL_reason_120 : decode cL_reason 120 = .ok (.aload_n 0, 1) := by decide +kernel
theorem dL_reason_121 : decode cL_reason 121 = .ok (.bipush 49, 2) := by decide +kernel
theorem dL_reason_123 : decode cL_reason 123 = .ok (.iaload, 1) := by decide +kernel
theorem dL_reason_124 : decode cL_reason 124 = .ok (.if_icmp .ge 61, 3) := by decide +kernel
theorem dL_reason_127 : decode cL_reason 127 = .ok (.iload 7, 2) := by decide +kernel
theorem dL_reason_129 : decode cL_reason 129 = .ok (.aload_n 0, 1) := by decide +kernel
theorem dL_reason_130 : decode cL_reason 130 = .ok (.bipush 49, 2) := by decide +kernel
theorem dL_reason_132 : decode cL_reason 132 = .ok (.iaload, 1) := by decide +kernel
theorem dL_reason_133 : decode cL_reason 133 = .ok (.if_icmp .ge 52, 3) := by decide +kernel
theorem dL_reason_136 : decode cL_reason 136 = .ok (.iload 5, 2) := by decide +kernel
theorem dL_reason_138 : decode cL_reason 138 = .ok (.iload_n 2, 1) := by decide +kernel
theorem dL_reason_139 : decode cL_reason 139 = .ok (.if_icmp .eq 15, 3) := by decide +kernel
theorem dL_reason_142 : decode cL_reason 142 = .ok (.iload 6, 2) := by decide +kernel
theorem dL_reason_144 : decode cL_reason 144 = .ok (.iload_n 2, 1) := by decide +kernel
theorem dL_reason_145 : decode cL_reason 145 = .ok (.if_icmp .eq 9, 3) := by decide +kernel
theorem dL_reason_148 : decode cL_reason 148 = .ok (.iload 7, 2) := by decide +kernel
theorem dL_reason_150 : decode cL_reason 150 = .ok (.iload_n 2, 1) := by decide +kernel
theorem dL_reason_151 : decode cL_reason 151 = .ok (.if_icmp .ne 34, 3) := by decide +kernel
theorem dL_reason_154 : decode cL_reason 154 = .ok (.aload_n 0, 1) := by decide +kernel
theorem dL_reason_155 : decode cL_reason 155 = .ok (.iload 5, 2) := by decide +kernel
theorem dL_reason_157 : decode cL_reason 157 = .ok (.invokestatic 10, 3) := by decide +kernel
theorem dL_reason_160 : decode cL_reason 160 = .ok (.ifCond .eq 25, 3) := by decide +kernel
theorem dL_reason_163 : decode cL_reason 163 = .ok (.aload_n 0, 1) := by decide +kernel
theorem dL_reason_164 : decode cL_reason 164 = .ok (.iload 6, 2) := by decide +kernel
theorem dL_reason_166 : decode cL_reason 166 = .ok (.invokestatic 10, 3) := by decide +kernel
theorem dL_reason_169 : decode cL_reason 169 = .ok (.ifCond .eq 16, 3) := by decide +kernel
theorem dL_reason_172 : decode cL_reason 172 = .ok (.aload_n 0, 1) := by decide +kernel
theorem dL_reason_173 : decode cL_reason 173 = .ok (.iload 7, 2) := by decide +kernel
theorem dL_reason_175 : decode cL_reason 175 = .ok (.invokestatic 10, 3) := by decide +kernel
theorem dL_reason_178 : decode cL_reason 178 = .ok (.ifCond .eq 7, 3) := by decide +kernel
theorem dL_reason_181 : decode cL_reason 181 = .ok (.iconst 1, 1) := by decide +kernel
theorem dL_reason_182 : decode cL_reason 182 = .ok (.goto 4, 3) := by decide +kernel
theorem dL_reason_185 : decode cL_reason 185 = .ok (.iconst 0, 1) := by decide +kernel
theorem dL_reason_186 : decode cL_reason 186 = .ok (.istore 8, 2) := by decide +kernel
theorem dL_reason_188 : decode cL_reason 188 = .ok (.iload_n 3, 1) := by decide +kernel
theorem dL_reason_189 : decode cL_reason 189 = .ok (.ifCond .ne 44, 3) := by decide +kernel
theorem dL_reason_192 : decode cL_reason 192 = .ok (.iload 8, 2) := by decide +kernel
theorem dL_reason_194 : decode cL_reason 194 = .ok (.ifCond .eq 43, 3) := by decide +kernel
theorem dL_reason_197 : decode cL_reason 197 = .ok (.aload_n 0, 1) := by decide +kernel
theorem dL_reason_198 : decode cL_reason 198 = .ok (.iload 5, 2) := by decide +kernel
theorem dL_reason_200 : decode cL_reason 200 = .ok (.iload 6, 2) := by decide +kernel
theorem dL_reason_202 : decode cL_reason 202 = .ok (.invokestatic 16, 3) := by decide +kernel
theorem dL_reason_205 : decode cL_reason 205 = .ok (.ifCond .eq 32, 3) := by decide +kernel
theorem dL_reason_208 : decode cL_reason 208 = .ok (.aload_n 0, 1) := by decide +kernel
theorem dL_reason_209 : decode cL_reason 209 = .ok (.iload 6, 2) := by decide +kernel
theorem dL_reason_211 : decode cL_reason 211 = .ok (.iload 7, 2) := by decide +kernel
theorem dL_reason_213 : decode cL_reason 213 = .ok (.invokestatic 16, 3) := by decide +kernel
theorem dL_reason_216 : decode cL_reason 216 = .ok (.ifCond .eq 21, 3) := by decide +kernel
theorem dL_reason_219 : decode cL_reason 219 = .ok (.aload_n 0, 1) := by decide +kernel
theorem dL_reason_220 : decode cL_reason 220 = .ok (.iload_n 1, 1) := by decide +kernel
theorem dL_reason_221 : decode cL_reason 221 = .ok (.iload 5, 2) := by decide +kernel
theorem dL_reason_223 : decode cL_reason 223 = .ok (.iload 6, 2) := by decide +kernel
theorem dL_reason_225 : decode cL_reason 225 = .ok (.iload 7, 2) := by decide +kernel
theorem dL_reason_227 : decode cL_reason 227 = .ok (.invokestatic 20, 3) := by decide +kernel
theorem dL_reason_230 : decode cL_reason 230 = .ok (.ifCond .eq 7, 3) := by decide +kernel
theorem dL_reason_233 : decode cL_reason 233 = .ok (.iconst 1, 1) := by decide +kernel
theorem dL_reason_234 : decode cL_reason 234 = .ok (.goto 4, 3) := by decide +kernel
theorem dL_reason_237 : decode cL_reason 237 = .ok (.iconst 0, 1) := by decide +kernel
theorem dL_reason_238 : decode cL_reason 238 = .ok (.istore_n 3, 1) := by decide +kernel
theorem dL_reason_239 : decode cL_reason 239 = .ok (.iinc 4 1, 3) := by decide +kernel
theorem dL_reason_242 : decode cL_reason 242 = .ok (.goto (-166), 3) := by decide +kernel
theorem dL_reason_245 : decode cL_reason 245 = .ok (.aload_n 0, 1) := by decide +kernel
theorem dL_reason_246 : decode cL_reason 246 = .ok (.bipush 12, 2) := by decide +kernel
theorem dL_reason_248 : decode cL_reason 248 = .ok (.iload_n 2, 1) := by decide +kernel
theorem dL_reason_249 : decode cL_reason 249 = .ok (.iadd, 1) := by decide +kernel
theorem dL_reason_250 : decode cL_reason 250 = .ok (.iconst 0, 1) := by decide +kernel
theorem dL_reason_251 : decode cL_reason 251 = .ok (.iastore, 1) := by decide +kernel
theorem dL_reason_252 : decode cL_reason 252 = .ok (.iload_n 3, 1) := by decide +kernel
theorem dL_reason_253 : decode cL_reason 253 = .ok (.ifCond .eq 7, 3) := by decide +kernel
theorem dL_reason_256 : decode cL_reason 256 = .ok (.iconst 2, 1) := by decide +kernel
theorem dL_reason_257 : decode cL_reason 257 = .ok (.goto 4, 3) := by decide +kernel
theorem dL_reason_260 : decode cL_reason 260 = .ok (.iconst 0, 1) := by decide +kernel
theorem dL_reason_261 : decode cL_reason 261 = .ok (.ireturn, 1) := by decide +kernel
set_option maxRecDepth 20000 in
theorem ggL_safety_L_isCommitted : GoodIn wsL_safety wsL_isCommitted := goodIn_r _ [4] (by decide +kernel) (by decide +kernel)
set_option maxRecDepth 20000 in
theorem gL_safety_L_isCommitted : GoodIn wsL_safety (va_wsS RL 10 yL_isCommitted wsL_isCommitted) := goodIn_app (goodIn_of _ (by decide +kernel)) ggL_safety_L_isCommitted
set_option maxRecDepth 20000 in
theorem ggL_safety_L_isEdge : GoodIn wsL_safety wsL_isEdge := goodIn_r _ [7, 1, 2, 3, 4] (by decide +kernel) (by decide +kernel)
set_option maxRecDepth 20000 in
theorem gL_safety_L_isEdge : GoodIn wsL_safety (va_wsS RL 16 yL_isEdge wsL_isEdge) := goodIn_app (goodIn_of _ (by decide +kernel)) ggL_safety_L_isEdge
theorem dL_safety_0 : decode cL_safety 0 = .ok (.iconst 1, 1) := by decide +kernel
theorem dL_safety_1 : decode cL_safety 1 = .ok (.istore_n 2, 1) := by decide +kernel
theorem dL_safety_2 : decode cL_safety 2 = .ok (.iconst 0, 1) := by decide +kernel
theorem dL_safety_3 : decode cL_safety 3 = .ok (.istore_n 3, 1) := by decide +kernel
theorem dL_safety_4 : decode cL_safety 4 = .ok (.iconst 0, 1) := by decide +kernel
theorem dL_safety_5 : decode cL_safety 5 = .ok (.istore 4, 2) := by decide +kernel
theorem dL_safety_7 : decode cL_safety 7 = .ok (.iload 4, 2) := by decide +kernel
theorem dL_safety_9 : decode cL_safety 9 = .ok (.aload_n 0, 1) := by decide +kernel
theorem dL_safety_10 : decode cL_safety 10 = .ok (.bipush 49, 2) := by decide +kernel
theorem dL_safety_12 : decode cL_safety 12 = .ok (.iaload, 1) := by decide +kernel
theorem dL_safety_13 : decode cL_safety 13 = .ok (.if_icmp .ge 114, 3) := by decide +kernel
theorem dL_safety_16 : decode cL_safety 16 = .ok (.aload_n 0, 1) := by decide +kernel
theorem dL_safety_17 : decode cL_safety 17 = .ok (.bipush 50, 2) := by decide +kernel
theorem dL_safety_19 : decode cL_safety 19 = .ok (.iload_n 1, 1) := by decide +kernel
theorem dL_safety_20 : decode cL_safety 20 = .ok (.iadd, 1) := by decide +kernel
theorem dL_safety_21 : decode cL_safety 21 = .ok (.iaload, 1) := by decide +kernel
theorem dL_safety_22 : decode cL_safety 22 = .ok (.iload 4, 2) := by decide +kernel
theorem dL_safety_24 : decode cL_safety 24 = .ok (.ishr, 1) := by decide +kernel
theorem dL_safety_25 : decode cL_safety 25 = .ok (.iconst 1, 1) := by decide +kernel
theorem dL_safety_26 : decode cL_safety 26 = .ok (.iand, 1) := by decide +kernel
theorem dL_safety_27 : decode cL_safety 27 = .ok (.iconst 1, 1) := by decide +kernel
theorem dL_safety_28 : decode cL_safety 28 = .ok (.if_icmp .ne 93, 3) := by decide +kernel
theorem dL_safety_31 : decode cL_safety 31 = .ok (.iload_n 2, 1) := by decide +kernel
theorem dL_safety_32 : decode cL_safety 32 = .ok (.ifCond .eq 17, 3) := by decide +kernel
theorem dL_safety_35 : decode cL_safety 35 = .ok (.aload_n 0, 1) := by decide +kernel
theorem dL_safety_36 : decode cL_safety 36 = .ok (.bipush 12, 2) := by decide +kernel
theorem dL_safety_38 : decode cL_safety 38 = .ok (.iload 4, 2) := by decide +kernel
theorem dL_safety_40 : decode cL_safety 40 = .ok (.iadd, 1) := by decide +kernel
theorem dL_safety_41 : decode cL_safety 41 = .ok (.iaload, 1) := by decide +kernel
theorem dL_safety_42 : decode cL_safety 42 = .ok (.ifCond .eq 7, 3) := by decide +kernel
theorem dL_safety_45 : decode cL_safety 45 = .ok (.iconst 1, 1) := by decide +kernel
theorem dL_safety_46 : decode cL_safety 46 = .ok (.goto 4, 3) := by decide +kernel
theorem dL_safety_49 : decode cL_safety 49 = .ok (.iconst 0, 1) := by decide +kernel
theorem dL_safety_50 : decode cL_safety 50 = .ok (.istore_n 2, 1) := by decide +kernel
theorem dL_safety_51 : decode cL_safety 51 = .ok (.iconst 0, 1) := by decide +kernel
theorem dL_safety_52 : decode cL_safety 52 = .ok (.istore 5, 2) := by decide +kernel
theorem dL_safety_54 : decode cL_safety 54 = .ok (.iload 5, 2) := by decide +kernel
theorem dL_safety_56 : decode cL_safety 56 = .ok (.aload_n 0, 1) := by decide +kernel
theorem dL_safety_57 : decode cL_safety 57 = .ok (.bipush 49, 2) := by decide +kernel
theorem dL_safety_59 : decode cL_safety 59 = .ok (.iaload, 1) := by decide +kernel
theorem dL_safety_60 : decode cL_safety 60 = .ok (.if_icmp .ge 61, 3) := by decide +kernel
theorem dL_safety_63 : decode cL_safety 63 = .ok (.iload_n 3, 1) := by decide +kernel
theorem dL_safety_64 : decode cL_safety 64 = .ok (.ifCond .ne 45, 3) := by decide +kernel
theorem dL_safety_67 : decode cL_safety 67 = .ok (.aload_n 0, 1) := by decide +kernel
theorem dL_safety_68 : decode cL_safety 68 = .ok (.iload 4, 2) := by decide +kernel
theorem dL_safety_70 : decode cL_safety 70 = .ok (.invokestatic 10, 3) := by decide +kernel
theorem dL_safety_73 : decode cL_safety 73 = .ok (.ifCond .eq 40, 3) := by decide +kernel
theorem dL_safety_76 : decode cL_safety 76 = .ok (.aload_n 0, 1) := by decide +kernel
theorem dL_safety_77 : decode cL_safety 77 = .ok (.iload 4, 2) := by decide +kernel
theorem dL_safety_79 : decode cL_safety 79 = .ok (.iload 5, 2) := by decide +kernel
theorem dL_safety_81 : decode cL_safety 81 = .ok (.invokestatic 16, 3) := by decide +kernel
theorem dL_safety_84 : decode cL_safety 84 = .ok (.ifCond .eq 29, 3) := by decide +kernel
theorem dL_safety_87 : decode cL_safety 87 = .ok (.aload_n 0, 1) := by decide +kernel
theorem dL_safety_88 : decode cL_safety 88 = .ok (.iload 5, 2) := by decide +kernel
theorem dL_safety_90 : decode cL_safety 90 = .ok (.invokestatic 10, 3) := by decide +kernel
theorem dL_safety_93 : decode cL_safety 93 = .ok (.ifCond .eq 20, 3) := by decide +kernel
theorem dL_safety_96 : decode cL_safety 96 = .ok (.aload_n 0, 1) := by decide +kernel
theorem dL_safety_97 : decode cL_safety 97 = .ok (.bipush 12, 2) := by decide +kernel
theorem dL_safety_99 : decode cL_safety 99 = .ok (.iload 5, 2) := by decide +kernel
theorem dL_safety_101 : decode cL_safety 101 = .ok (.iadd, 1) := by decide +kernel
theorem dL_safety_102 : decode cL_safety 102 = .ok (.iaload, 1) := by decide +kernel
theorem dL_safety_103 : decode cL_safety 103 = .ok (.aload_n 0, 1) := by decide +kernel
theorem dL_safety_104 : decode cL_safety 104 = .ok (.iload_n 1, 1) := by decide +kernel
theorem dL_safety_105 : decode cL_safety 105 = .ok (.iaload, 1) := by decide +kernel
theorem dL_safety_106 : decode cL_safety 106 = .ok (.if_icmp .ge 7, 3) := by decide +kernel
theorem dL_safety_109 : decode cL_safety 109 = .ok (.iconst 1, 1) := by decide +kernel
theorem dL_safety_110 : decode cL_safety 110 = .ok (.goto 4, 3) := by decide +kernel
theorem dL_safety_113 : decode cL_safety 113 = .ok (.iconst 0, 1) := by decide +kernel
theorem dL_safety_114 : decode cL_safety 114 = .ok (.istore_n 3, 1) := by decide +kernel
theorem dL_safety_115 : decode cL_safety 115 = .ok (.iinc 5 1, 3) := by decide +kernel
theorem dL_safety_118 : decode cL_safety 118 = .ok (.goto (-64), 3) := by decide +kernel
theorem dL_safety_121 : decode cL_safety 121 = .ok (.iinc 4 1, 3) := by decide +kernel
theorem dL_safety_124 : decode cL_safety 124 = .ok (.goto (-117), 3) := by decide +kernel
theorem dL_safety_127 : decode cL_safety 127 = .ok (.aload_n 0, 1) := by decide +kernel
theorem dL_safety_128 : decode cL_safety 128 = .ok (.bipush 12, 2) := by decide +kernel
theorem dL_safety_130 : decode cL_safety 130 = .ok (.iload_n 1, 1) := by decide +kernel
theorem dL_safety_131 : decode cL_safety 131 = .ok (.iadd, 1) := by decide +kernel
theorem dL_safety_132 : decode cL_safety 132 = .ok (.iaload, 1) := by decide +kernel
theorem dL_safety_133 : decode cL_safety 133 = .ok (.ifCond .lt 12, 3) := by decide +kernel
theorem dL_safety_136 : decode cL_safety 136 = .ok (.aload_n 0, 1) := by decide +kernel
theorem dL_safety_137 : decode cL_safety 137 = .ok (.bipush 36, 2) := by decide +kernel
theorem dL_safety_139 : decode cL_safety 139 = .ok (.iload_n 1, 1) := by decide +kernel
theorem dL_safety_140 : decode cL_safety 140 = .ok (.iadd, 1) := by decide +kernel
theorem dL_safety_141 : decode cL_safety 141 = .ok (.iaload, 1) := by decide +kernel
theorem dL_safety_142 : decode cL_safety 142 = .ok (.ifCond .eq 8, 3) := by decide +kernel
theorem dL_safety_145 : decode cL_safety 145 = .ok (.bipush (-6), 2) := by decide +kernel
theorem dL_safety_147 : decode cL_safety 147 = .ok (.goto 20, 3) := by decide +kernel
theorem dL_safety_150 : decode cL_safety 150 = .ok (.iload_n 3, 1) := by decide +kernel
theorem dL_safety_151 : decode cL_safety 151 = .ok (.ifCond .eq 7, 3) := by decide +kernel
theorem dL_safety_154 : decode cL_safety 154 = .ok (.iconst 0, 1) := by decide +kernel
theorem dL_safety_155 : decode cL_safety 155 = .ok (.goto 12, 3) := by decide +kernel
theorem dL_safety_158 : decode cL_safety 158 = .ok (.iload_n 2, 1) := by decide +kernel
theorem dL_safety_159 : decode cL_safety 159 = .ok (.ifCond .eq 7, 3) := by decide +kernel
theorem dL_safety_162 : decode cL_safety 162 = .ok (.iconst 1, 1) := by decide +kernel
theorem dL_safety_163 : decode cL_safety 163 = .ok (.goto 4, 3) := by decide +kernel
theorem dL_safety_166 : decode cL_safety 166 = .ok (.iconst 2, 1) := by decide +kernel
theorem dL_safety_167 : decode cL_safety 167 = .ok (.ireturn, 1) := by decide +kernel
set_option maxRecDepth 20000 in
theorem ggL_tells_L_isEdge : GoodIn wsL_tells wsL_isEdge := goodIn_r _ [4, 5, 6, 3, 7] (by decide +kernel) (by decide +kernel)
set_option maxRecDepth 20000 in
theorem gL_tells_L_isEdge : GoodIn wsL_tells (va_wsS RL 16 yL_isEdge wsL_isEdge) := goodIn_app (goodIn_of _ (by decide +kernel)) ggL_tells_L_isEdge
set_option maxRecDepth 20000 in
theorem ggL_tells_X5_edge : GoodIn wsL_tells wsX5_edge := goodIn_r _ [12, 13, 14, 15, 16, 17, 18, 19, 20, 21, 22, 23, 24, 25, 26, 27, 28, 143, 144, 145, 146, 147, 148, 149, 150, 151, 152, 153, 154, 155, 156, 157, 158] (by decide +kernel) (by decide +kernel)
set_option maxRecDepth 20000 in
theorem gL_tells_X5_edge : GoodIn wsL_tells (wsV RL 26 RX5 yX5_edge wsX5_edge) := goodIn_app (goodIn_of _ (by decide +kernel)) ggL_tells_X5_edge
set_option maxRecDepth 20000 in
theorem ggL_tells_X5_over : GoodIn wsL_tells wsX5_over := goodIn_r _ [32, 13, 14, 15, 16, 17, 18, 19, 20, 21, 22, 23, 24, 25, 26, 27, 28, 33, 34, 11, 35, 143, 144, 145, 146, 147, 148, 149, 150, 151, 152, 153, 154, 155, 156, 157, 158] (by decide +kernel) (by decide +kernel)
set_option maxRecDepth 20000 in
theorem gL_tells_X5_over : GoodIn wsL_tells (wsV RL 30 RX5 yX5_over wsX5_over) := goodIn_app (goodIn_of _ (by decide +kernel)) ggL_tells_X5_over
set_option maxRecDepth 20000 in
theorem ggL_tells_X5_of : GoodIn wsL_tells wsX5_of := goodIn_r _ [39, 13, 40, 41, 42, 43, 44, 45, 14, 15, 16, 17, 18, 19, 46, 47, 48, 49, 50, 21, 22, 23, 24, 25, 26, 27, 28, 51, 52, 53, 54, 55, 56, 57, 58, 59, 60, 61, 62, 63, 34, 11, 35, 143, 144, 145, 146, 147, 148, 149, 150, 151, 152, 153, 154, 155, 156, 157, 158] (by decide +kernel) (by decide +kernel)
set_option maxRecDepth 20000 in
theorem gL_tells_X5_of : GoodIn wsL_tells (wsV RL 33 RX5 yX5_of wsX5_of) := goodIn_app (goodIn_of _ (by decide +kernel)) ggL_tells_X5_of
set_option maxRecDepth 20000 in
theorem ggL_tells_L_safety : GoodIn wsL_tells wsL_safety := goodIn_r _ [66, 5, 6, 3, 7, 1, 2, 4] (by decide +kernel) (by decide +kernel)
set_option maxRecDepth 20000 in
theorem gL_tells_L_safety : GoodIn wsL_tells (va_wsS RL 36 yL_safety wsL_safety) := goodIn_app (goodIn_of _ (by decide +kernel)) ggL_tells_L_safety
set_option maxRecDepth 20000 in
theorem ggL_tells_X5_count : GoodIn wsL_tells wsX5_count := goodIn_r _ [70, 13, 71, 72, 73, 74, 75, 76, 77, 78, 79, 80, 81, 17, 82, 19, 24, 83, 84, 85, 86, 63, 47, 48, 49, 50, 21, 22, 23, 25, 26, 27, 28, 87, 88, 89, 90, 91, 92, 93, 94, 95, 96, 97, 98, 52, 53, 54, 99, 100, 101, 102, 103, 104, 105, 106, 107, 108, 109, 110, 111, 112, 113, 114, 115, 116, 117, 118, 119, 120, 121, 122, 123, 34, 11, 35, 124, 125, 126, 127, 128, 129, 130, 131, 132, 133, 134, 135, 136, 137, 138, 139, 140, 141, 142, 143, 144, 145, 146, 147, 148, 149, 150, 151, 152, 153, 154, 155, 156, 157, 158, 159, 160, 161, 162, 163, 164, 165, 166, 167, 168, 169, 170, 171] (by decide +kernel) (by decide +kernel)
set_option maxRecDepth 20000 in
theorem gL_tells_X5_count : GoodIn wsL_tells (wsV RL 40 RX5 yX5_count wsX5_count) := goodIn_app (goodIn_of _ (by decide +kernel)) ggL_tells_X5_count
theorem dL_tells_0 : decode cL_tells 0 = .ok (.iconst 0, 1) := by decide +kernel
theorem dL_tells_1 : decode cL_tells 1 = .ok (.istore_n 2, 1) := by decide +kernel
theorem dL_tells_2 : decode cL_tells 2 = .ok (.iconst 0, 1) := by decide +kernel
theorem dL_tells_3 : decode cL_tells 3 = .ok (.istore_n 3, 1) := by decide +kernel
theorem dL_tells_4 : decode cL_tells 4 = .ok (.iconst 0, 1) := by decide +kernel
theorem dL_tells_5 : decode cL_tells 5 = .ok (.istore 4, 2) := by decide +kernel
theorem dL_tells_7 : decode cL_tells 7 = .ok (.iconst 0, 1) := by decide +kernel
theorem dL_tells_8 : decode cL_tells 8 = .ok (.istore 5, 2) := by decide +kernel
theorem dL_tells_10 : decode cL_tells 10 = .ok (.iload 5, 2) := by decide +kernel
theorem dL_tells_12 : decode cL_tells 12 = .ok (.aload_n 1, 1) := by decide +kernel
theorem dL_tells_13 : decode cL_tells 13 = .ok (.bipush 49, 2) := by decide +kernel
theorem dL_tells_15 : decode cL_tells 15 = .ok (.iaload, 1) := by decide +kernel
theorem dL_tells_16 : decode cL_tells 16 = .ok (.if_icmp .ge 448, 3) := by decide +kernel
theorem dL_tells_19 : decode cL_tells 19 = .ok (.iconst 0, 1) := by decide +kernel
theorem dL_tells_20 : decode cL_tells 20 = .ok (.istore 6, 2) := by decide +kernel
theorem dL_tells_22 : decode cL_tells 22 = .ok (.iconst 0, 1) := by decide +kernel
theorem dL_tells_23 : decode cL_tells 23 = .ok (.istore 7, 2) := by decide +kernel
theorem dL_tells_25 : decode cL_tells 25 = .ok (.iconst 0, 1) := by decide +kernel
theorem dL_tells_26 : decode cL_tells 26 = .ok (.istore 8, 2) := by decide +kernel
theorem dL_tells_28 : decode cL_tells 28 = .ok (.iconst 0, 1) := by decide +kernel
theorem dL_tells_29 : decode cL_tells 29 = .ok (.istore 9, 2) := by decide +kernel
theorem dL_tells_31 : decode cL_tells 31 = .ok (.iconst 0, 1) := by decide +kernel
theorem dL_tells_32 : decode cL_tells 32 = .ok (.istore 10, 2) := by decide +kernel
theorem dL_tells_34 : decode cL_tells 34 = .ok (.iload 10, 2) := by decide +kernel
theorem dL_tells_36 : decode cL_tells 36 = .ok (.aload_n 1, 1) := by decide +kernel
theorem dL_tells_37 : decode cL_tells 37 = .ok (.bipush 49, 2) := by decide +kernel
theorem dL_tells_39 : decode cL_tells 39 = .ok (.iaload, 1) := by decide +kernel
theorem dL_tells_40 : decode cL_tells 40 = .ok (.if_icmp .ge 177, 3) := by decide +kernel
theorem dL_tells_43 : decode cL_tells 43 = .ok (.aload_n 1, 1) := by decide +kernel
theorem dL_tells_44 : decode cL_tells 44 = .ok (.iload 5, 2) := by decide +kernel
theorem dL_tells_46 : decode cL_tells 46 = .ok (.iload 10, 2) := by decide +kernel
theorem dL_tells_48 : decode cL_tells 48 = .ok (.invokestatic 16, 3) := by decide +kernel
theorem dL_tells_51 : decode cL_tells 51 = .ok (.istore 11, 2) := by decide +kernel
theorem dL_tells_53 : decode cL_tells 53 = .ok (.aload_n 1, 1) := by decide +kernel
theorem dL_tells_54 : decode cL_tells 54 = .ok (.iload 10, 2) := by decide +kernel
theorem dL_tells_56 : decode cL_tells 56 = .ok (.iload 5, 2) := by decide +kernel
theorem dL_tells_58 : decode cL_tells 58 = .ok (.invokestatic 16, 3) := by decide +kernel
theorem dL_tells_61 : decode cL_tells 61 = .ok (.istore 12, 2) := by decide +kernel
theorem dL_tells_63 : decode cL_tells 63 = .ok (.aload_n 1, 1) := by decide +kernel
theorem dL_tells_64 : decode cL_tells 64 = .ok (.bipush 24, 2) := by decide +kernel
theorem dL_tells_66 : decode cL_tells 66 = .ok (.iload 5, 2) := by decide +kernel
theorem dL_tells_68 : decode cL_tells 68 = .ok (.iadd, 1) := by decide +kernel
theorem dL_tells_69 : decode cL_tells 69 = .ok (.iaload, 1) := by decide +kernel
theorem dL_tells_70 : decode cL_tells 70 = .ok (.aload_n 1, 1) := by decide +kernel
theorem dL_tells_71 : decode cL_tells 71 = .ok (.bipush 36, 2) := by decide +kernel
theorem dL_tells_73 : decode cL_tells 73 = .ok (.iload 10, 2) := by decide +kernel
theorem dL_tells_75 : decode cL_tells 75 = .ok (.iadd, 1) := by decide +kernel
theorem dL_tells_76 : decode cL_tells 76 = .ok (.iaload, 1) := by decide +kernel
theorem dL_tells_77 : decode cL_tells 77 = .ok (.iand, 1) := by decide +kernel
theorem dL_tells_78 : decode cL_tells 78 = .ok (.istore 13, 2) := by decide +kernel
theorem dL_tells_80 : decode cL_tells 80 = .ok (.aload_n 0, 1) := by decide +kernel
theorem dL_tells_81 : decode cL_tells 81 = .ok (.iload 5, 2) := by decide +kernel
theorem dL_tells_83 : decode cL_tells 83 = .ok (.iload 10, 2) := by decide +kernel
theorem dL_tells_85 : decode cL_tells 85 = .ok (.invokevirtual 26, 3) := by decide +kernel
theorem dL_tells_88 : decode cL_tells 88 = .ok (.iload 11, 2) := by decide +kernel
theorem dL_tells_90 : decode cL_tells 90 = .ok (.ifCond .eq 7, 3) := by decide +kernel
theorem dL_tells_93 : decode cL_tells 93 = .ok (.iconst 1, 1) := by decide +kernel
theorem dL_tells_94 : decode cL_tells 94 = .ok (.goto 4, 3) := by decide +kernel
theorem dL_tells_97 : decode cL_tells 97 = .ok (.iconst 0, 1) := by decide +kernel
theorem dL_tells_98 : decode cL_tells 98 = .ok (.if_icmp .ne 45, 3) := by decide +kernel
theorem dL_tells_101 : decode cL_tells 101 = .ok (.iload 11, 2) := by decide +kernel
theorem dL_tells_103 : decode cL_tells 103 = .ok (.ifCond .eq 22, 3) := by decide +kernel
theorem dL_tells_106 : decode cL_tells 106 = .ok (.iconst 1, 1) := by decide +kernel
theorem dL_tells_107 : decode cL_tells 107 = .ok (.aload_n 0, 1) := by decide +kernel
theorem dL_tells_108 : decode cL_tells 108 = .ok (.iload 5, 2) := by decide +kernel
theorem dL_tells_110 : decode cL_tells 110 = .ok (.iload 10, 2) := by decide +kernel
theorem dL_tells_112 : decode cL_tells 112 = .ok (.invokevirtual 30, 3) := by decide +kernel
theorem dL_tells_115 : decode cL_tells 115 = .ok (.ishl, 1) := by decide +kernel
theorem dL_tells_116 : decode cL_tells 116 = .ok (.iload 13, 2) := by decide +kernel
theorem dL_tells_118 : decode cL_tells 118 = .ok (.iload 13, 2) := by decide +kernel
theorem dL_tells_120 : decode cL_tells 120 = .ok (.ineg, 1) := by decide +kernel
theorem dL_tells_121 : decode cL_tells 121 = .ok (.iand, 1) := by decide +kernel
theorem dL_tells_122 : decode cL_tells 122 = .ok (.if_icmp .ne 21, 3) := by decide +kernel
theorem dL_tells_125 : decode cL_tells 125 = .ok (.iload 11, 2) := by decide +kernel
theorem dL_tells_127 : decode cL_tells 127 = .ok (.ifCond .ne 18, 3) := by decide +kernel
theorem dL_tells_130 : decode cL_tells 130 = .ok (.aload_n 0, 1) := by decide +kernel
theorem dL_tells_131 : decode cL_tells 131 = .ok (.iload 5, 2) := by decide +kernel
theorem dL_tells_133 : decode cL_tells 133 = .ok (.iload 10, 2) := by decide +kernel
theorem dL_tells_135 : decode cL_tells 135 = .ok (.invokevirtual 30, 3) := by decide +kernel
theorem dL_tells_138 : decode cL_tells 138 = .ok (.bipush (-6), 2) := by decide +kernel
theorem dL_tells_140 : decode cL_tells 140 = .ok (.if_icmp .eq 5, 3) := by decide +kernel
theorem dL_tells_143 : decode cL_tells 143 = .ok (.iconst 0, 1) := by decide +kernel
theorem dL_tells_144 : decode cL_tells 144 = .ok (.ireturn, 1) := by decide +kernel
theorem dL_tells_145 : decode cL_tells 145 = .ok (.iload 6, 2) := by decide +kernel
theorem dL_tells_147 : decode cL_tells 147 = .ok (.iload 11, 2) := by decide +kernel
theorem dL_tells_149 : decode cL_tells 149 = .ok (.ifCond .eq 10, 3) := by decide +kernel
theorem dL_tells_152 : decode cL_tells 152 = .ok (.iconst 1, 1) := by decide +kernel
theorem dL_tells_153 : decode cL_tells 153 = .ok (.iload 10, 2) := by decide +kernel
theorem dL_tells_155 : decode cL_tells 155 = .ok (.ishl, 1) := by decide +kernel
theorem dL_tells_156 : decode cL_tells 156 = .ok (.goto 4, 3) := by decide +kernel
theorem dL_tells_159 : decode cL_tells 159 = .ok (.iconst 0, 1) := by decide +kernel
theorem dL_tells_160 : decode cL_tells 160 = .ok (.ior, 1) := by decide +kernel
theorem dL_tells_161 : decode cL_tells 161 = .ok (.istore 6, 2) := by decide +kernel
theorem dL_tells_163 : decode cL_tells 163 = .ok (.iload 7, 2) := by decide +kernel
theorem dL_tells_165 : decode cL_tells 165 = .ok (.iload 12, 2) := by decide +kernel
theorem dL_tells_167 : decode cL_tells 167 = .ok (.ifCond .eq 10, 3) := by decide +kernel
theorem dL_tells_170 : decode cL_tells 170 = .ok (.iconst 1, 1) := by decide +kernel
theorem dL_tells_171 : decode cL_tells 171 = .ok (.iload 10, 2) := by decide +kernel
theorem dL_tells_173 : decode cL_tells 173 = .ok (.ishl, 1) := by decide +kernel
theorem dL_tells_174 : decode cL_tells 174 = .ok (.goto 4, 3) := by decide +kernel
theorem dL_tells_177 : decode cL_tells 177 = .ok (.iconst 0, 1) := by decide +kernel
theorem dL_tells_178 : decode cL_tells 178 = .ok (.ior, 1) := by decide +kernel
theorem dL_tells_179 : decode cL_tells 179 = .ok (.istore 7, 2) := by decide +kernel
theorem dL_tells_181 : decode cL_tells 181 = .ok (.iload 8, 2) := by decide +kernel
theorem dL_tells_183 : decode cL_tells 183 = .ok (.iload 11, 2) := by decide +kernel
theorem dL_tells_185 : decode cL_tells 185 = .ok (.ifCond .eq 7, 3) := by decide +kernel
theorem dL_tells_188 : decode cL_tells 188 = .ok (.iconst 1, 1) := by decide +kernel
theorem dL_tells_189 : decode cL_tells 189 = .ok (.goto 4, 3) := by decide +kernel
theorem dL_tells_192 : decode cL_tells 192 = .ok (.iconst 0, 1) := by decide +kernel
theorem dL_tells_193 : decode cL_tells 193 = .ok (.iadd, 1) := by decide +kernel
theorem dL_tells_194 : decode cL_tells 194 = .ok (.istore 8, 2) := by decide +kernel
theorem dL_tells_196 : decode cL_tells 196 = .ok (.iload 9, 2) := by decide +kernel
theorem dL_tells_198 : decode cL_tells 198 = .ok (.iload 12, 2) := by decide +kernel
theorem dL_tells_200 : decode cL_tells 200 = .ok (.ifCond .eq 7, 3) := by decide +kernel
theorem dL_tells_203 : decode cL_tells 203 = .ok (.iconst 1, 1) := by decide +kernel
theorem dL_tells_204 : decode cL_tells 204 = .ok (.goto 4, 3) := by decide +kernel
theorem dL_tells_207 : decode cL_tells 207 = .ok (.iconst 0, 1) := by decide +kernel
theorem dL_tells_208 : decode cL_tells 208 = .ok (.iadd, 1) := by decide +kernel
theorem dL_tells_209 : decode cL_tells 209 = .ok (.istore 9, 2) := by decide +kernel
theorem dL_tells_211 : decode cL_tells 211 = .ok (.iinc 10 1, 3) := by decide +kernel
theorem dL_tells_214 : decode cL_tells 214 = .ok (.goto (-180), 3) := by decide +kernel
theorem dL_tells_217 : decode cL_tells 217 = .ok (.iload_n 2, 1) := by decide +kernel
theorem dL_tells_218 : decode cL_tells 218 = .ok (.iload 8, 2) := by decide +kernel
theorem dL_tells_220 : decode cL_tells 220 = .ok (.iadd, 1) := by decide +kernel
theorem dL_tells_221 : decode cL_tells 221 = .ok (.istore_n 2, 1) := by decide +kernel
theorem dL_tells_222 : decode cL_tells 222 = .ok (.iload_n 3, 1) := by decide +kernel
theorem dL_tells_223 : decode cL_tells 223 = .ok (.iload 8, 2) := by decide +kernel
theorem dL_tells_225 : decode cL_tells 225 = .ok (.iload 9, 2) := by decide +kernel
theorem dL_tells_227 : decode cL_tells 227 = .ok (.imul, 1) := by decide +kernel
theorem dL_tells_228 : decode cL_tells 228 = .ok (.iadd, 1) := by decide +kernel
theorem dL_tells_229 : decode cL_tells 229 = .ok (.istore_n 3, 1) := by decide +kernel
theorem dL_tells_230 : decode cL_tells 230 = .ok (.iload 4, 2) := by decide +kernel
theorem dL_tells_232 : decode cL_tells 232 = .ok (.iload 8, 2) := by decide +kernel
theorem dL_tells_234 : decode cL_tells 234 = .ok (.iload 9, 2) := by decide +kernel
theorem dL_tells_236 : decode cL_tells 236 = .ok (.imul, 1) := by decide +kernel
theorem dL_tells_237 : decode cL_tells 237 = .ok (.ifCond .le 10, 3) := by decide +kernel
theorem dL_tells_240 : decode cL_tells 240 = .ok (.iconst 1, 1) := by decide +kernel
theorem dL_tells_241 : decode cL_tells 241 = .ok (.iload 5, 2) := by decide +kernel
theorem dL_tells_243 : decode cL_tells 243 = .ok (.ishl, 1) := by decide +kernel
theorem dL_tells_244 : decode cL_tells 244 = .ok (.goto 4, 3) := by decide +kernel
theorem dL_tells_247 : decode cL_tells 247 = .ok (.iconst 0, 1) := by decide +kernel
theorem dL_tells_248 : decode cL_tells 248 = .ok (.ior, 1) := by decide +kernel
theorem dL_tells_249 : decode cL_tells 249 = .ok (.istore 4, 2) := by decide +kernel
theorem dL_tells_251 : decode cL_tells 251 = .ok (.aload_n 1, 1) := by decide +kernel
theorem dL_tells_252 : decode cL_tells 252 = .ok (.bipush 12, 2) := by decide +kernel
theorem dL_tells_254 : decode cL_tells 254 = .ok (.iload 5, 2) := by decide +kernel
theorem dL_tells_256 : decode cL_tells 256 = .ok (.iadd, 1) := by decide +kernel
theorem dL_tells_257 : decode cL_tells 257 = .ok (.iaload, 1) := by decide +kernel
theorem dL_tells_258 : decode cL_tells 258 = .ok (.ifCond .ge 7, 3) := by decide +kernel
theorem dL_tells_261 : decode cL_tells 261 = .ok (.iconst 2, 1) := by decide +kernel
theorem dL_tells_262 : decode cL_tells 262 = .ok (.goto 18, 3) := by decide +kernel
theorem dL_tells_265 : decode cL_tells 265 = .ok (.aload_n 1, 1) := by decide +kernel
theorem dL_tells_266 : decode cL_tells 266 = .ok (.bipush 12, 2) := by decide +kernel
theorem dL_tells_268 : decode cL_tells 268 = .ok (.iload 5, 2) := by decide +kernel
theorem dL_tells_270 : decode cL_tells 270 = .ok (.iadd, 1) := by decide +kernel
theorem dL_tells_271 : decode cL_tells 271 = .ok (.iaload, 1) := by decide +kernel
theorem dL_tells_272 : decode cL_tells 272 = .ok (.ifCond .le 7, 3) := by decide +kernel
theorem dL_tells_275 : decode cL_tells 275 = .ok (.iconst 1, 1) := by decide +kernel
theorem dL_tells_276 : decode cL_tells 276 = .ok (.goto 4, 3) := by decide +kernel
theorem dL_tells_279 : decode cL_tells 279 = .ok (.iconst 0, 1) := by decide +kernel
theorem dL_tells_280 : decode cL_tells 280 = .ok (.istore 10, 2) := by decide +kernel
theorem dL_tells_282 : decode cL_tells 282 = .ok (.aload_n 0, 1) := by decide +kernel
theorem dL_tells_283 : decode cL_tells 283 = .ok (.iload 5, 2) := by decide +kernel
theorem dL_tells_285 : decode cL_tells 285 = .ok (.iconst 0, 1) := by decide +kernel
theorem dL_tells_286 : decode cL_tells 286 = .ok (.invokevirtual 33, 3) := by decide +kernel
theorem dL_tells_289 : decode cL_tells 289 = .ok (.iload 10, 2) := by decide +kernel
theorem dL_tells_291 : decode cL_tells 291 = .ok (.if_icmp .ne 125, 3) := by decide +kernel
theorem dL_tells_294 : decode cL_tells 294 = .ok (.aload_n 0, 1) := by decide +kernel
theorem dL_tells_295 : decode cL_tells 295 = .ok (.iload 5, 2) := by decide +kernel
theorem dL_tells_297 : decode cL_tells 297 = .ok (.iconst 1, 1) := by decide +kernel
theorem dL_tells_298 : decode cL_tells 298 = .ok (.invokevirtual 33, 3) := by decide +kernel
theorem dL_tells_301 : decode cL_tells 301 = .ok (.aload_n 1, 1) := by decide +kernel
theorem dL_tells_302 : decode cL_tells 302 = .ok (.iload 5, 2) := by decide +kernel
theorem dL_tells_304 : decode cL_tells 304 = .ok (.iaload, 1) := by decide +kernel
theorem dL_tells_305 : decode cL_tells 305 = .ok (.if_icmp .ne 111, 3) := by decide +kernel
theorem dL_tells_308 : decode cL_tells 308 = .ok (.aload_n 0, 1) := by decide +kernel
theorem dL_tells_309 : decode cL_tells 309 = .ok (.iload 5, 2) := by decide +kernel
theorem dL_tells_311 : decode cL_tells 311 = .ok (.iconst 2, 1) := by decide +kernel
theorem dL_tells_312 : decode cL_tells 312 = .ok (.invokevirtual 33, 3) := by decide +kernel
theorem dL_tells_315 : decode cL_tells 315 = .ok (.iload 10, 2) := by decide +kernel
theorem dL_tells_317 : decode cL_tells 317 = .ok (.iconst 1, 1) := by decide +kernel
theorem dL_tells_318 : decode cL_tells 318 = .ok (.if_icmp .ne 13, 3) := by decide +kernel
theorem dL_tells_321 : decode cL_tells 321 = .ok (.aload_n 1, 1) := by decide +kernel
theorem dL_tells_322 : decode cL_tells 322 = .ok (.bipush 12, 2) := by decide +kernel
theorem dL_tells_324 : decode cL_tells 324 = .ok (.iload 5, 2) := by decide +kernel
theorem dL_tells_326 : decode cL_tells 326 = .ok (.iadd, 1) := by decide +kernel
theorem dL_tells_327 : decode cL_tells 327 = .ok (.iaload, 1) := by decide +kernel
theorem dL_tells_328 : decode cL_tells 328 = .ok (.goto 5, 3) := by decide +kernel
theorem dL_tells_331 : decode cL_tells 331 = .ok (.bipush (-6), 2) := by decide +kernel
theorem dL_tells_333 : decode cL_tells 333 = .ok (.if_icmp .ne 83, 3) := by decide +kernel
theorem dL_tells_336 : decode cL_tells 336 = .ok (.aload_n 0, 1) := by decide +kernel
theorem dL_tells_337 : decode cL_tells 337 = .ok (.iload 5, 2) := by decide +kernel
theorem dL_tells_339 : decode cL_tells 339 = .ok (.iconst 3, 1) := by decide +kernel
theorem dL_tells_340 : decode cL_tells 340 = .ok (.invokevirtual 33, 3) := by decide +kernel
theorem dL_tells_343 : decode cL_tells 343 = .ok (.aload_n 1, 1) := by decide +kernel
theorem dL_tells_344 : decode cL_tells 344 = .ok (.bipush 24, 2) := by decide +kernel
theorem dL_tells_346 : decode cL_tells 346 = .ok (.iload 5, 2) := by decide +kernel
theorem dL_tells_348 : decode cL_tells 348 = .ok (.iadd, 1) := by decide +kernel
theorem dL_tells_349 : decode cL_tells 349 = .ok (.iaload, 1) := by decide +kernel
theorem dL_tells_350 : decode cL_tells 350 = .ok (.if_icmp .ne 66, 3) := by decide +kernel
theorem dL_tells_353 : decode cL_tells 353 = .ok (.aload_n 0, 1) := by decide +kernel
theorem dL_tells_354 : decode cL_tells 354 = .ok (.iload 5, 2) := by decide +kernel
theorem dL_tells_356 : decode cL_tells 356 = .ok (.iconst 4, 1) := by decide +kernel
theorem dL_tells_357 : decode cL_tells 357 = .ok (.invokevirtual 33, 3) := by decide +kernel
theorem dL_tells_360 : decode cL_tells 360 = .ok (.aload_n 1, 1) := by decide +kernel
theorem dL_tells_361 : decode cL_tells 361 = .ok (.bipush 36, 2) := by decide +kernel
theorem dL_tells_363 : decode cL_tells 363 = .ok (.iload 5, 2) := by decide +kernel
theorem dL_tells_365 : decode cL_tells 365 = .ok (.iadd, 1) := by decide +kernel
theorem dL_tells_366 : decode cL_tells 366 = .ok (.iaload, 1) := by decide +kernel
theorem dL_tells_367 : decode cL_tells 367 = .ok (.if_icmp .ne 49, 3) := by decide +kernel
theorem dL_tells_370 : decode cL_tells 370 = .ok (.aload_n 0, 1) := by decide +kernel
theorem dL_tells_371 : decode cL_tells 371 = .ok (.iload 5, 2) := by decide +kernel
theorem dL_tells_373 : decode cL_tells 373 = .ok (.iconst 5, 1) := by decide +kernel
theorem dL_tells_374 : decode cL_tells 374 = .ok (.invokevirtual 33, 3) := by decide +kernel
theorem dL_tells_377 : decode cL_tells 377 = .ok (.iload 6, 2) := by decide +kernel
theorem dL_tells_379 : decode cL_tells 379 = .ok (.if_icmp .ne 37, 3) := by decide +kernel
theorem dL_tells_382 : decode cL_tells 382 = .ok (.aload_n 0, 1) := by decide +kernel
theorem dL_tells_383 : decode cL_tells 383 = .ok (.iload 5, 2) := by decide +kernel
theorem dL_tells_385 : decode cL_tells 385 = .ok (.bipush 6, 2) := by decide +kernel
theorem dL_tells_387 : decode cL_tells 387 = .ok (.invokevirtual 33, 3) := by decide +kernel
theorem dL_tells_390 : decode cL_tells 390 = .ok (.iload 7, 2) := by decide +kernel
theorem dL_tells_392 : decode cL_tells 392 = .ok (.if_icmp .ne 24, 3) := by decide +kernel
theorem dL_tells_395 : decode cL_tells 395 = .ok (.aload_n 0, 1) := by decide +kernel
theorem dL_tells_396 : decode cL_tells 396 = .ok (.iload 5, 2) := by decide +kernel
theorem dL_tells_398 : decode cL_tells 398 = .ok (.bipush 8, 2) := by decide +kernel
theorem dL_tells_400 : decode cL_tells 400 = .ok (.invokevirtual 33, 3) := by decide +kernel
theorem dL_tells_403 : decode cL_tells 403 = .ok (.aload_n 1, 1) := by decide +kernel
theorem dL_tells_404 : decode cL_tells 404 = .ok (.iload 5, 2) := by decide +kernel
theorem dL_tells_406 : decode cL_tells 406 = .ok (.invokestatic 36, 3) := by decide +kernel
theorem dL_tells_409 : decode cL_tells 409 = .ok (.if_icmp .ne 7, 3) := by decide +kernel
theorem dL_tells_412 : decode cL_tells 412 = .ok (.iconst 1, 1) := by decide +kernel
theorem dL_tells_413 : decode cL_tells 413 = .ok (.goto 4, 3) := by decide +kernel
theorem dL_tells_416 : decode cL_tells 416 = .ok (.iconst 0, 1) := by decide +kernel
theorem dL_tells_417 : decode cL_tells 417 = .ok (.istore 11, 2) := by decide +kernel
theorem dL_tells_419 : decode cL_tells 419 = .ok (.iload 11, 2) := by decide +kernel
theorem dL_tells_421 : decode cL_tells 421 = .ok (.ifCond .eq 35, 3) := by decide +kernel
theorem dL_tells_424 : decode cL_tells 424 = .ok (.aload_n 0, 1) := by decide +kernel
theorem dL_tells_425 : decode cL_tells 425 = .ok (.iload 5, 2) := by decide +kernel
theorem dL_tells_427 : decode cL_tells 427 = .ok (.bipush 7, 2) := by decide +kernel
theorem dL_tells_429 : decode cL_tells 429 = .ok (.invokevirtual 33, 3) := by decide +kernel
theorem dL_tells_432 : decode cL_tells 432 = .ok (.bipush (-6), 2) := by decide +kernel
theorem dL_tells_434 : decode cL_tells 434 = .ok (.if_icmp .ne 7, 3) := by decide +kernel
theorem dL_tells_437 : decode cL_tells 437 = .ok (.iconst 1, 1) := by decide +kernel
theorem dL_tells_438 : decode cL_tells 438 = .ok (.goto 4, 3) := by decide +kernel
theorem dL_tells_441 : decode cL_tells 441 = .ok (.iconst 0, 1) := by decide +kernel
theorem dL_tells_442 : decode cL_tells 442 = .ok (.iload 10, 2) := by decide +kernel
theorem dL_tells_444 : decode cL_tells 444 = .ok (.iconst 2, 1) := by decide +kernel
theorem dL_tells_445 : decode cL_tells 445 = .ok (.if_icmp .ge 7, 3) := by decide +kernel
theorem dL_tells_448 : decode cL_tells 448 = .ok (.iconst 1, 1) := by decide +kernel
theorem dL_tells_449 : decode cL_tells 449 = .ok (.goto 4, 3) := by decide +kernel
theorem dL_tells_452 : decode cL_tells 452 = .ok (.iconst 0, 1) := by decide +kernel
theorem dL_tells_453 : decode cL_tells 453 = .ok (.if_icmp .eq 5, 3) := by decide +kernel
theorem dL_tells_456 : decode cL_tells 456 = .ok (.iconst 0, 1) := by decide +kernel
theorem dL_tells_457 : decode cL_tells 457 = .ok (.ireturn, 1) := by decide +kernel
theorem dL_tells_458 : decode cL_tells 458 = .ok (.iinc 5 1, 3) := by decide +kernel
theorem dL_tells_461 : decode cL_tells 461 = .ok (.goto (-451), 3) := by decide +kernel
theorem dL_tells_464 : decode cL_tells 464 = .ok (.aload_n 0, 1) := by decide +kernel
theorem dL_tells_465 : decode cL_tells 465 = .ok (.iconst 0, 1) := by decide +kernel
theorem dL_tells_466 : decode cL_tells 466 = .ok (.invokevirtual 40, 3) := by decide +kernel
theorem dL_tells_469 : decode cL_tells 469 = .ok (.aload_n 1, 1) := by decide +kernel
theorem dL_tells_470 : decode cL_tells 470 = .ok (.bipush 49, 2) := by decide +kernel
theorem dL_tells_472 : decode cL_tells 472 = .ok (.iaload, 1) := by decide +kernel
theorem dL_tells_473 : decode cL_tells 473 = .ok (.if_icmp .ne 63, 3) := by decide +kernel
theorem dL_tells_476 : decode cL_tells 476 = .ok (.aload_n 0, 1) := by decide +kernel
theorem dL_tells_477 : decode cL_tells 477 = .ok (.iconst 4, 1) := by decide +kernel
theorem dL_tells_478 : decode cL_tells 478 = .ok (.invokevirtual 40, 3) := by decide +kernel
theorem dL_tells_481 : decode cL_tells 481 = .ok (.aload_n 1, 1) := by decide +kernel
theorem dL_tells_482 : decode cL_tells 482 = .ok (.bipush 48, 2) := by decide +kernel
theorem dL_tells_484 : decode cL_tells 484 = .ok (.iaload, 1) := by decide +kernel
theorem dL_tells_485 : decode cL_tells 485 = .ok (.if_icmp .ne 51, 3) := by decide +kernel
theorem dL_tells_488 : decode cL_tells 488 = .ok (.aload_n 0, 1) := by decide +kernel
theorem dL_tells_489 : decode cL_tells 489 = .ok (.bipush 6, 2) := by decide +kernel
theorem dL_tells_491 : decode cL_tells 491 = .ok (.invokevirtual 40, 3) := by decide +kernel
theorem dL_tells_494 : decode cL_tells 494 = .ok (.iload_n 2, 1) := by decide +kernel
theorem dL_tells_495 : decode cL_tells 495 = .ok (.if_icmp .ne 41, 3) := by decide +kernel
theorem dL_tells_498 : decode cL_tells 498 = .ok (.aload_n 0, 1) := by decide +kernel
theorem dL_tells_499 : decode cL_tells 499 = .ok (.bipush 7, 2) := by decide +kernel
theorem dL_tells_501 : decode cL_tells 501 = .ok (.invokevirtual 40, 3) := by decide +kernel
theorem dL_tells_504 : decode cL_tells 504 = .ok (.iload 4, 2) := by decide +kernel
theorem dL_tells_506 : decode cL_tells 506 = .ok (.if_icmp .ne 30, 3) := by decide +kernel
theorem dL_tells_509 : decode cL_tells 509 = .ok (.aload_n 0, 1) := by decide +kernel
theorem dL_tells_510 : decode cL_tells 510 = .ok (.bipush 8, 2) := by decide +kernel
theorem dL_tells_512 : decode cL_tells 512 = .ok (.invokevirtual 40, 3) := by decide +kernel
theorem dL_tells_515 : decode cL_tells 515 = .ok (.iload_n 3, 1) := by decide +kernel
theorem dL_tells_516 : decode cL_tells 516 = .ok (.if_icmp .ne 20, 3) := by decide +kernel
theorem dL_tells_519 : decode cL_tells 519 = .ok (.aload_n 0, 1) := by decide +kernel
theorem dL_tells_520 : decode cL_tells 520 = .ok (.aload_n 1, 1) := by decide +kernel
theorem dL_tells_521 : decode cL_tells 521 = .ok (.bipush 49, 2) := by decide +kernel
theorem dL_tells_523 : decode cL_tells 523 = .ok (.iaload, 1) := by decide +kernel
theorem dL_tells_524 : decode cL_tells 524 = .ok (.iconst 0, 1) := by decide +kernel
theorem dL_tells_525 : decode cL_tells 525 = .ok (.invokevirtual 33, 3) := by decide +kernel
theorem dL_tells_528 : decode cL_tells 528 = .ok (.iconst (-1), 1) := by decide +kernel
theorem dL_tells_529 : decode cL_tells 529 = .ok (.if_icmp .ne 7, 3) := by decide +kernel
theorem dL_tells_532 : decode cL_tells 532 = .ok (.iconst 1, 1) := by decide +kernel
theorem dL_tells_533 : decode cL_tells 533 = .ok (.goto 4, 3) := by decide +kernel
theorem dL_tells_536 : decode cL_tells 536 = .ok (.iconst 0, 1) := by decide +kernel
theorem dL_tells_537 : decode cL_tells 537 = .ok (.ireturn, 1) := by decide +kernel
set_option maxRecDepth 20000 in
theorem ggL_isOrder_L_isCommitted : GoodIn wsL_isOrder wsL_isCommitted := goodIn_r _ [5] (by decide +kernel) (by decide +kernel)
set_option maxRecDepth 20000 in
theorem gL_isOrder_L_isCommitted : GoodIn wsL_isOrder (va_wsS RL 10 yL_isCommitted wsL_isCommitted) := goodIn_app (goodIn_of _ (by decide +kernel)) ggL_isOrder_L_isCommitted
set_option maxRecDepth 20000 in
theorem ggL_isOrder_X5_order : GoodIn wsL_isOrder wsX5_order := goodIn_r _ [10, 11, 12, 13, 14, 15, 16, 17, 18, 19, 20, 21, 22, 23, 24, 25, 26, 27, 28, 29, 30, 31, 32, 33, 34, 35, 36, 37, 38, 39, 40, 41, 42, 43, 44, 45, 46, 47, 48, 9, 49, 50, 51, 52, 53, 54, 55, 56, 57, 58, 59, 60, 61, 62, 63, 64, 65, 66, 67, 68, 69, 70, 71, 72, 73, 74, 116, 117, 118, 119, 120, 121, 122, 123, 124, 125, 126, 127, 128, 129, 130, 131, 132, 133] (by decide +kernel) (by decide +kernel)
set_option maxRecDepth 20000 in
theorem gL_isOrder_X5_order : GoodIn wsL_isOrder (wsV RL 44 RX5 yX5_order wsX5_order) := goodIn_app (goodIn_of _ (by decide +kernel)) ggL_isOrder_X5_order
set_option maxRecDepth 20000 in
theorem ggL_isOrder_X5_count : GoodIn wsL_isOrder wsX5_count := goodIn_r _ [78, 11, 79, 80, 81, 12, 82, 83, 84, 85, 13, 14, 15, 16, 17, 18, 19, 86, 87, 88, 89, 90, 91, 92, 93, 94, 95, 96, 97, 56, 98, 99, 55, 100, 21, 22, 23, 24, 25, 26, 101, 102, 103, 104, 105, 106, 107, 108, 109, 110, 111, 112, 27, 28, 29, 30, 31, 32, 33, 34, 35, 36, 37, 38, 39, 40, 41, 42, 43, 44, 45, 46, 47, 48, 9, 49, 50, 51, 52, 53, 54, 57, 58, 59, 60, 61, 62, 63, 64, 65, 66, 67, 68, 69, 70, 116, 117, 118, 119, 120, 121, 122, 123, 124, 125, 126, 127, 128, 129, 130, 131, 134, 135, 136, 137, 138, 139, 140, 141, 142, 143, 144, 132, 133] (by decide +kernel) (by decide +kernel)
set_option maxRecDepth 20000 in
theorem gL_isOrder_X5_count : GoodIn wsL_isOrder (wsV RL 40 RX5 yX5_count wsX5_count) := goodIn_app (goodIn_of _ (by decide +kernel)) ggL_isOrder_X5_count
set_option maxRecDepth 20000 in
theorem ggL_isOrder_L_writer : GoodIn wsL_isOrder wsL_writer := goodIn_r _ [115, 2, 3, 4, 5] (by decide +kernel) (by decide +kernel)
set_option maxRecDepth 20000 in
theorem gL_isOrder_L_writer : GoodIn wsL_isOrder (va_wsS RL 47 yL_writer wsL_writer) := goodIn_app (goodIn_of _ (by decide +kernel)) ggL_isOrder_L_writer
theorem dL_isOrder_0 : decode cL_isOrder 0 = .ok (.iconst 0, 1) := by decide +kernel
theorem dL_isOrder_1 : decode cL_isOrder 1 = .ok (.istore_n 2, 1) := by decide +kernel
theorem dL_isOrder_2 : decode cL_isOrder 2 = .ok (.iconst 0, 1) := by decide +kernel
theorem dL_isOrder_3 : decode cL_isOrder 3 = .ok (.istore_n 3, 1) := by decide +kernel
theorem dL_isOrder_4 : decode cL_isOrder 4 = .ok (.iload_n 3, 1) := by decide +kernel
theorem dL_isOrder_5 : decode cL_isOrder 5 = .ok (.aload_n 1, 1) := by decide +kernel
theorem dL_isOrder_6 : decode cL_isOrder 6 = .ok (.bipush 49, 2) := by decide +kernel
theorem dL_isOrder_8 : decode cL_isOrder 8 = .ok (.iaload, 1) := by decide +kernel
theorem dL_isOrder_9 : decode cL_isOrder 9 = .ok (.if_icmp .ge 25, 3) := by decide +kernel
theorem dL_isOrder_12 : decode cL_isOrder 12 = .ok (.iload_n 2, 1) := by decide +kernel
theorem dL_isOrder_13 : decode cL_isOrder 13 = .ok (.aload_n 1, 1) := by decide +kernel
theorem dL_isOrder_14 : decode cL_isOrder 14 = .ok (.iload_n 3, 1) := by decide +kernel
theorem dL_isOrder_15 : decode cL_isOrder 15 = .ok (.invokestatic 10, 3) := by decide +kernel
theorem dL_isOrder_18 : decode cL_isOrder 18 = .ok (.ifCond .eq 7, 3) := by decide +kernel
theorem dL_isOrder_21 : decode cL_isOrder 21 = .ok (.iconst 1, 1) := by decide +kernel
theorem dL_isOrder_22 : decode cL_isOrder 22 = .ok (.goto 4, 3) := by decide +kernel
theorem dL_isOrder_25 : decode cL_isOrder 25 = .ok (.iconst 0, 1) := by decide +kernel
theorem dL_isOrder_26 : decode cL_isOrder 26 = .ok (.iadd, 1) := by decide +kernel
theorem dL_isOrder_27 : decode cL_isOrder 27 = .ok (.istore_n 2, 1) := by decide +kernel
theorem dL_isOrder_28 : decode cL_isOrder 28 = .ok (.iinc 3 1, 3) := by decide +kernel
theorem dL_isOrder_31 : decode cL_isOrder 31 = .ok (.goto (-27), 3) := by decide +kernel
theorem dL_isOrder_34 : decode cL_isOrder 34 = .ok (.aload_n 0, 1) := by decide +kernel
theorem dL_isOrder_35 : decode cL_isOrder 35 = .ok (.iload_n 2, 1) := by decide +kernel
theorem dL_isOrder_36 : decode cL_isOrder 36 = .ok (.invokevirtual 44, 3) := by decide +kernel
theorem dL_isOrder_39 : decode cL_isOrder 39 = .ok (.iconst (-1), 1) := by decide +kernel
theorem dL_isOrder_40 : decode cL_isOrder 40 = .ok (.if_icmp .ne 21, 3) := by decide +kernel
theorem dL_isOrder_43 : decode cL_isOrder 43 = .ok (.aload_n 0, 1) := by decide +kernel
theorem dL_isOrder_44 : decode cL_isOrder 44 = .ok (.iconst (-1), 1) := by decide +kernel
theorem dL_isOrder_45 : decode cL_isOrder 45 = .ok (.invokevirtual 44, 3) := by decide +kernel
theorem dL_isOrder_48 : decode cL_isOrder 48 = .ok (.iconst (-1), 1) := by decide +kernel
theorem dL_isOrder_49 : decode cL_isOrder 49 = .ok (.if_icmp .ne 12, 3) := by decide +kernel
theorem dL_isOrder_52 : decode cL_isOrder 52 = .ok (.aload_n 0, 1) := by decide +kernel
theorem dL_isOrder_53 : decode cL_isOrder 53 = .ok (.bipush 9, 2) := by decide +kernel
theorem dL_isOrder_55 : decode cL_isOrder 55 = .ok (.invokevirtual 40, 3) := by decide +kernel
theorem dL_isOrder_58 : decode cL_isOrder 58 = .ok (.ifCond .ne 28, 3) := by decide +kernel
theorem dL_isOrder_61 : decode cL_isOrder 61 = .ok (.aload_n 0, 1) := by decide +kernel
theorem dL_isOrder_62 : decode cL_isOrder 62 = .ok (.bipush 9, 2) := by decide +kernel
theorem dL_isOrder_64 : decode cL_isOrder 64 = .ok (.invokevirtual 40, 3) := by decide +kernel
theorem dL_isOrder_67 : decode cL_isOrder 67 = .ok (.ifCond .ne 17, 3) := by decide +kernel
theorem dL_isOrder_70 : decode cL_isOrder 70 = .ok (.aload_n 0, 1) := by decide +kernel
theorem dL_isOrder_71 : decode cL_isOrder 71 = .ok (.iconst 0, 1) := by decide +kernel
theorem dL_isOrder_72 : decode cL_isOrder 72 = .ok (.invokevirtual 44, 3) := by decide +kernel
theorem dL_isOrder_75 : decode cL_isOrder 75 = .ok (.bipush (-5), 2) := by decide +kernel
theorem dL_isOrder_77 : decode cL_isOrder 77 = .ok (.if_icmp .ne 7, 3) := by decide +kernel
theorem dL_isOrder_80 : decode cL_isOrder 80 = .ok (.iconst 1, 1) := by decide +kernel
theorem dL_isOrder_81 : decode cL_isOrder 81 = .ok (.goto 4, 3) := by decide +kernel
theorem dL_isOrder_84 : decode cL_isOrder 84 = .ok (.iconst 0, 1) := by decide +kernel
theorem dL_isOrder_85 : decode cL_isOrder 85 = .ok (.ireturn, 1) := by decide +kernel
theorem dL_isOrder_86 : decode cL_isOrder 86 = .ok (.iconst 5, 1) := by decide +kernel
theorem dL_isOrder_87 : decode cL_isOrder 87 = .ok (.newarray .int, 2) := by decide +kernel
theorem dL_isOrder_89 : decode cL_isOrder 89 = .ok (.astore_n 3, 1) := by decide +kernel
theorem dL_isOrder_90 : decode cL_isOrder 90 = .ok (.iconst 0, 1) := by decide +kernel
theorem dL_isOrder_91 : decode cL_isOrder 91 = .ok (.istore 4, 2) := by decide +kernel
theorem dL_isOrder_93 : decode cL_isOrder 93 = .ok (.iload 4, 2) := by decide +kernel
theorem dL_isOrder_95 : decode cL_isOrder 95 = .ok (.iconst 5, 1) := by decide +kernel
theorem dL_isOrder_96 : decode cL_isOrder 96 = .ok (.if_icmp .ge 14, 3) := by decide +kernel
theorem dL_isOrder_99 : decode cL_isOrder 99 = .ok (.aload_n 3, 1) := by decide +kernel
theorem dL_isOrder_100 : decode cL_isOrder 100 = .ok (.iload 4, 2) := by decide +kernel
theorem dL_isOrder_102 : decode cL_isOrder 102 = .ok (.iconst (-1), 1) := by decide +kernel
theorem dL_isOrder_103 : decode cL_isOrder 103 = .ok (.iastore, 1) := by decide +kernel
theorem dL_isOrder_104 : decode cL_isOrder 104 = .ok (.iinc 4 1, 3) := by decide +kernel
theorem dL_isOrder_107 : decode cL_isOrder 107 = .ok (.goto (-14), 3) := by decide +kernel
theorem dL_isOrder_110 : decode cL_isOrder 110 = .ok (.iconst 0, 1) := by decide +kernel
theorem dL_isOrder_111 : decode cL_isOrder 111 = .ok (.istore 4, 2) := by decide +kernel
theorem dL_isOrder_113 : decode cL_isOrder 113 = .ok (.iconst 0, 1) := by decide +kernel
theorem dL_isOrder_114 : decode cL_isOrder 114 = .ok (.istore 5, 2) := by decide +kernel
theorem dL_isOrder_116 : decode cL_isOrder 116 = .ok (.iload 5, 2) := by decide +kernel
theorem dL_isOrder_118 : decode cL_isOrder 118 = .ok (.iload_n 2, 1) := by decide +kernel
theorem dL_isOrder_119 : decode cL_isOrder 119 = .ok (.if_icmp .ge 132, 3) := by decide +kernel
theorem dL_isOrder_122 : decode cL_isOrder 122 = .ok (.aload_n 0, 1) := by decide +kernel
theorem dL_isOrder_123 : decode cL_isOrder 123 = .ok (.iload 5, 2) := by decide +kernel
theorem dL_isOrder_125 : decode cL_isOrder 125 = .ok (.invokevirtual 44, 3) := by decide +kernel
theorem dL_isOrder_128 : decode cL_isOrder 128 = .ok (.istore 6, 2) := by decide +kernel
theorem dL_isOrder_130 : decode cL_isOrder 130 = .ok (.iload 6, 2) := by decide +kernel
theorem dL_isOrder_132 : decode cL_isOrder 132 = .ok (.ifCond .lt 23, 3) := by decide +kernel
theorem dL_isOrder_135 : decode cL_isOrder 135 = .ok (.aload_n 1, 1) := by decide +kernel
theorem dL_isOrder_136 : decode cL_isOrder 136 = .ok (.iload 6, 2) := by decide +kernel
theorem dL_isOrder_138 : decode cL_isOrder 138 = .ok (.invokestatic 10, 3) := by decide +kernel
theorem dL_isOrder_141 : decode cL_isOrder 141 = .ok (.ifCond .eq 14, 3) := by decide +kernel
theorem dL_isOrder_144 : decode cL_isOrder 144 = .ok (.iload 4, 2) := by decide +kernel
theorem dL_isOrder_146 : decode cL_isOrder 146 = .ok (.iload 6, 2) := by decide +kernel
theorem dL_isOrder_148 : decode cL_isOrder 148 = .ok (.ishr, 1) := by decide +kernel
theorem dL_isOrder_149 : decode cL_isOrder 149 = .ok (.iconst 1, 1) := by decide +kernel
theorem dL_isOrder_150 : decode cL_isOrder 150 = .ok (.iand, 1) := by decide +kernel
theorem dL_isOrder_151 : decode cL_isOrder 151 = .ok (.iconst 1, 1) := by decide +kernel
theorem dL_isOrder_152 : decode cL_isOrder 152 = .ok (.if_icmp .ne 5, 3) := by decide +kernel
theorem dL_isOrder_155 : decode cL_isOrder 155 = .ok (.iconst 0, 1) := by decide +kernel
theorem dL_isOrder_156 : decode cL_isOrder 156 = .ok (.ireturn, 1) := by decide +kernel
theorem dL_isOrder_157 : decode cL_isOrder 157 = .ok (.iload 4, 2) := by decide +kernel
theorem dL_isOrder_159 : decode cL_isOrder 159 = .ok (.iconst 1, 1) := by decide +kernel
theorem dL_isOrder_160 : decode cL_isOrder 160 = .ok (.iload 6, 2) := by decide +kernel
theorem dL_isOrder_162 : decode cL_isOrder 162 = .ok (.ishl, 1) := by decide +kernel
theorem dL_isOrder_163 : decode cL_isOrder 163 = .ok (.ior, 1) := by decide +kernel
theorem dL_isOrder_164 : decode cL_isOrder 164 = .ok (.istore 4, 2) := by decide +kernel
theorem dL_isOrder_166 : decode cL_isOrder 166 = .ok (.iconst 0, 1) := by decide +kernel
theorem dL_isOrder_167 : decode cL_isOrder 167 = .ok (.istore 7, 2) := by decide +kernel
theorem dL_isOrder_169 : decode cL_isOrder 169 = .ok (.iload 7, 2) := by decide +kernel
theorem dL_isOrder_171 : decode cL_isOrder 171 = .ok (.iconst 5, 1) := by decide +kernel
theorem dL_isOrder_172 : decode cL_isOrder 172 = .ok (.if_icmp .ge 73, 3) := by decide +kernel
theorem dL_isOrder_175 : decode cL_isOrder 175 = .ok (.aload_n 1, 1) := by decide +kernel
theorem dL_isOrder_176 : decode cL_isOrder 176 = .ok (.bipush 24, 2) := by decide +kernel
theorem dL_isOrder_178 : decode cL_isOrder 178 = .ok (.iload 6, 2) := by decide +kernel
theorem dL_isOrder_180 : decode cL_isOrder 180 = .ok (.iadd, 1) := by decide +kernel
theorem dL_isOrder_181 : decode cL_isOrder 181 = .ok (.iaload, 1) := by decide +kernel
theorem dL_isOrder_182 : decode cL_isOrder 182 = .ok (.iload 7, 2) := by decide +kernel
theorem dL_isOrder_184 : decode cL_isOrder 184 = .ok (.ishr, 1) := by decide +kernel
theorem dL_isOrder_185 : decode cL_isOrder 185 = .ok (.iconst 1, 1) := by decide +kernel
theorem dL_isOrder_186 : decode cL_isOrder 186 = .ok (.iand, 1) := by decide +kernel
theorem dL_isOrder_187 : decode cL_isOrder 187 = .ok (.iconst 1, 1) := by decide +kernel
theorem dL_isOrder_188 : decode cL_isOrder 188 = .ok (.if_icmp .ne 22, 3) := by decide +kernel
theorem dL_isOrder_191 : decode cL_isOrder 191 = .ok (.aload_n 1, 1) := by decide +kernel
theorem dL_isOrder_192 : decode cL_isOrder 192 = .ok (.iload 7, 2) := by decide +kernel
theorem dL_isOrder_194 : decode cL_isOrder 194 = .ok (.aload_n 1, 1) := by decide +kernel
theorem dL_isOrder_195 : decode cL_isOrder 195 = .ok (.iload 6, 2) := by decide +kernel
theorem dL_isOrder_197 : decode cL_isOrder 197 = .ok (.iaload, 1) := by decide +kernel
theorem dL_isOrder_198 : decode cL_isOrder 198 = .ok (.invokestatic 47, 3) := by decide +kernel
theorem dL_isOrder_201 : decode cL_isOrder 201 = .ok (.aload_n 3, 1) := by decide +kernel
theorem dL_isOrder_202 : decode cL_isOrder 202 = .ok (.iload 7, 2) := by decide +kernel
theorem dL_isOrder_204 : decode cL_isOrder 204 = .ok (.iaload, 1) := by decide +kernel
theorem dL_isOrder_205 : decode cL_isOrder 205 = .ok (.if_icmp .eq 5, 3) := by decide +kernel
theorem dL_isOrder_208 : decode cL_isOrder 208 = .ok (.iconst 0, 1) := by decide +kernel
theorem dL_isOrder_209 : decode cL_isOrder 209 = .ok (.ireturn, 1) := by decide +kernel
theorem dL_isOrder_210 : decode cL_isOrder 210 = .ok (.aload_n 3, 1) := by decide +kernel
theorem dL_isOrder_211 : decode cL_isOrder 211 = .ok (.iload 7, 2) := by decide +kernel
theorem dL_isOrder_213 : decode cL_isOrder 213 = .ok (.aload_n 1, 1) := by decide +kernel
theorem dL_isOrder_214 : decode cL_isOrder 214 = .ok (.bipush 36, 2) := by decide +kernel
theorem dL_isOrder_216 : decode cL_isOrder 216 = .ok (.iload 6, 2) := by decide +kernel
theorem dL_isOrder_218 : decode cL_isOrder 218 = .ok (.iadd, 1) := by decide +kernel
theorem dL_isOrder_219 : decode cL_isOrder 219 = .ok (.iaload, 1) := by decide +kernel
theorem dL_isOrder_220 : decode cL_isOrder 220 = .ok (.iload 7, 2) := by decide +kernel
theorem dL_isOrder_222 : decode cL_isOrder 222 = .ok (.ishr, 1) := by decide +kernel
theorem dL_isOrder_223 : decode cL_isOrder 223 = .ok (.iconst 1, 1) := by decide +kernel
theorem dL_isOrder_224 : decode cL_isOrder 224 = .ok (.iand, 1) := by decide +kernel
theorem dL_isOrder_225 : decode cL_isOrder 225 = .ok (.iconst 1, 1) := by decide +kernel
theorem dL_isOrder_226 : decode cL_isOrder 226 = .ok (.if_icmp .ne 8, 3) := by decide +kernel
theorem dL_isOrder_229 : decode cL_isOrder 229 = .ok (.iload 6, 2) := by decide +kernel
theorem dL_isOrder_231 : decode cL_isOrder 231 = .ok (.goto 7, 3) := by decide +kernel
theorem dL_isOrder_234 : decode cL_isOrder 234 = .ok (.aload_n 3, 1) := by decide +kernel
theorem dL_isOrder_235 : decode cL_isOrder 235 = .ok (.iload 7, 2) := by decide +kernel
theorem dL_isOrder_237 : decode cL_isOrder 237 = .ok (.iaload, 1) := by decide +kernel
theorem dL_isOrder_238 : decode cL_isOrder 238 = .ok (.iastore, 1) := by decide +kernel
theorem dL_isOrder_239 : decode cL_isOrder 239 = .ok (.iinc 7 1, 3) := by decide +kernel
theorem dL_isOrder_242 : decode cL_isOrder 242 = .ok (.goto (-73), 3) := by decide +kernel
theorem dL_isOrder_245 : decode cL_isOrder 245 = .ok (.iinc 5 1, 3) := by decide +kernel
theorem dL_isOrder_248 : decode cL_isOrder 248 = .ok (.goto (-132), 3) := by decide +kernel
theorem dL_isOrder_251 : decode cL_isOrder 251 = .ok (.iconst 1, 1) := by decide +kernel
theorem dL_isOrder_252 : decode cL_isOrder 252 = .ok (.ireturn, 1) := by decide +kernel
