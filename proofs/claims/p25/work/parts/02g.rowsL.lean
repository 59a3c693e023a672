theorem dL_from_0 : decode cL_from 0 = .ok (.aload_n 0, 1) := by decide +kernel
theorem dL_from_1 : decode cL_from 1 = .ok (.arraylength, 1) := by decide +kernel
theorem dL_from_2 : decode cL_from 2 = .ok (.ifCond .ne 14, 3) := by decide +kernel
theorem dL_from_5 : decode cL_from 5 = .ok (.sipush 137, 3) := by decide +kernel
theorem dL_from_8 : decode cL_from 8 = .ok (.iload_n 1, 1) := by decide +kernel
theorem dL_from_9 : decode cL_from 9 = .ok (.imul, 1) := by decide +kernel
theorem dL_from_10 : decode cL_from 10 = .ok (.bipush 107, 2) := by decide +kernel
theorem dL_from_12 : decode cL_from 12 = .ok (.iadd, 1) := by decide +kernel
theorem dL_from_13 : decode cL_from 13 = .ok (.goto 14, 3) := by decide +kernel
theorem dL_from_16 : decode cL_from 16 = .ok (.aload_n 0, 1) := by decide +kernel
theorem dL_from_17 : decode cL_from 17 = .ok (.iload_n 1, 1) := by decide +kernel
theorem dL_from_18 : decode cL_from 18 = .ok (.aload_n 0, 1) := by decide +kernel
theorem dL_from_19 : decode cL_from 19 = .ok (.arraylength, 1) := by decide +kernel
theorem dL_from_20 : decode cL_from 20 = .ok (.irem, 1) := by decide +kernel
theorem dL_from_21 : decode cL_from 21 = .ok (.iaload, 1) := by decide +kernel
theorem dL_from_22 : decode cL_from 22 = .ok (.ldc 7, 2) := by decide +kernel
theorem dL_from_24 : decode cL_from 24 = .ok (.iload_n 1, 1) := by decide +kernel
theorem dL_from_25 : decode cL_from 25 = .ok (.imul, 1) := by decide +kernel
theorem dL_from_26 : decode cL_from 26 = .ok (.ixor, 1) := by decide +kernel
theorem dL_from_27 : decode cL_from 27 = .ok (.istore_n 3, 1) := by decide +kernel
theorem dL_from_28 : decode cL_from 28 = .ok (.iload_n 3, 1) := by decide +kernel
theorem dL_from_29 : decode cL_from 29 = .ok (.ldc 8, 2) := by decide +kernel
theorem dL_from_31 : decode cL_from 31 = .ok (.iand, 1) := by decide +kernel
theorem dL_from_32 : decode cL_from 32 = .ok (.iload_n 2, 1) := by decide +kernel
theorem dL_from_33 : decode cL_from 33 = .ok (.irem, 1) := by decide +kernel
theorem dL_from_34 : decode cL_from 34 = .ok (.ireturn, 1) := by decide +kernel
theorem dL_leaves_0 : decode cL_leaves 0 = .ok (.iconst 0, 1) := by decide +kernel
theorem dL_leaves_1 : decode cL_leaves 1 = .ok (.istore 5, 2) := by decide +kernel
theorem dL_leaves_3 : decode cL_leaves 3 = .ok (.aload_n 2, 1) := by decide +kernel
theorem dL_leaves_4 : decode cL_leaves 4 = .ok (.iconst 0, 1) := by decide +kernel
theorem dL_leaves_5 : decode cL_leaves 5 = .ok (.iaload, 1) := by decide +kernel
theorem dL_leaves_6 : decode cL_leaves 6 = .ok (.iconst 1, 1) := by decide +kernel
theorem dL_leaves_7 : decode cL_leaves 7 = .ok (.isub, 1) := by decide +kernel
theorem dL_leaves_8 : decode cL_leaves 8 = .ok (.istore 6, 2) := by decide +kernel
theorem dL_leaves_10 : decode cL_leaves 10 = .ok (.iload 6, 2) := by decide +kernel
theorem dL_leaves_12 : decode cL_leaves 12 = .ok (.ifCond .lt 88, 3) := by decide +kernel
theorem dL_leaves_15 : decode cL_leaves 15 = .ok (.iconst 0, 1) := by decide +kernel
theorem dL_leaves_16 : decode cL_leaves 16 = .ok (.istore 7, 2) := by decide +kernel
theorem dL_leaves_18 : decode cL_leaves 18 = .ok (.iload 6, 2) := by decide +kernel
theorem dL_leaves_20 : decode cL_leaves 20 = .ok (.iconst 1, 1) := by decide +kernel
theorem dL_leaves_21 : decode cL_leaves 21 = .ok (.iadd, 1) := by decide +kernel
theorem dL_leaves_22 : decode cL_leaves 22 = .ok (.istore 8, 2) := by decide +kernel
theorem dL_leaves_24 : decode cL_leaves 24 = .ok (.iload 8, 2) := by decide +kernel
theorem dL_leaves_26 : decode cL_leaves 26 = .ok (.aload_n 2, 1) := by decide +kernel
theorem dL_leaves_27 : decode cL_leaves 27 = .ok (.iconst 0, 1) := by decide +kernel
theorem dL_leaves_28 : decode cL_leaves 28 = .ok (.iaload, 1) := by decide +kernel
theorem dL_leaves_29 : decode cL_leaves 29 = .ok (.if_icmp .ge 26, 3) := by decide +kernel
theorem dL_leaves_32 : decode cL_leaves 32 = .ok (.iload 7, 2) := by decide +kernel
theorem dL_leaves_34 : decode cL_leaves 34 = .ok (.aload_n 1, 1) := by decide +kernel
theorem dL_leaves_35 : decode cL_leaves 35 = .ok (.iload 8, 2) := by decide +kernel
theorem dL_leaves_37 : decode cL_leaves 37 = .ok (.iaload, 1) := by decide +kernel
theorem dL_leaves_38 : decode cL_leaves 38 = .ok (.iload 6, 2) := by decide +kernel
theorem dL_leaves_40 : decode cL_leaves 40 = .ok (.ishr, 1) := by decide +kernel
theorem dL_leaves_41 : decode cL_leaves 41 = .ok (.iconst 1, 1) := by decide +kernel
theorem dL_leaves_42 : decode cL_leaves 42 = .ok (.iand, 1) := by decide +kernel
theorem dL_leaves_43 : decode cL_leaves 43 = .ok (.iload 8, 2) := by decide +kernel
theorem dL_leaves_45 : decode cL_leaves 45 = .ok (.ishl, 1) := by decide +kernel
theorem dL_leaves_46 : decode cL_leaves 46 = .ok (.ior, 1) := by decide +kernel
theorem dL_leaves_47 : decode cL_leaves 47 = .ok (.istore 7, 2) := by decide +kernel
theorem dL_leaves_49 : decode cL_leaves 49 = .ok (.iinc 8 1, 3) := by decide +kernel
theorem dL_leaves_52 : decode cL_leaves 52 = .ok (.goto (-28), 3) := by decide +kernel
theorem dL_leaves_55 : decode cL_leaves 55 = .ok (.iload 5, 2) := by decide +kernel
theorem dL_leaves_57 : decode cL_leaves 57 = .ok (.iload_n 3, 1) := by decide +kernel
theorem dL_leaves_58 : decode cL_leaves 58 = .ok (.iload 6, 2) := by decide +kernel
theorem dL_leaves_60 : decode cL_leaves 60 = .ok (.ishr, 1) := by decide +kernel
theorem dL_leaves_61 : decode cL_leaves 61 = .ok (.iconst 1, 1) := by decide +kernel
theorem dL_leaves_62 : decode cL_leaves 62 = .ok (.iand, 1) := by decide +kernel
theorem dL_leaves_63 : decode cL_leaves 63 = .ok (.iconst 1, 1) := by decide +kernel
theorem dL_leaves_64 : decode cL_leaves 64 = .ok (.if_icmp .ne 26, 3) := by decide +kernel
theorem dL_leaves_67 : decode cL_leaves 67 = .ok (.aload_n 0, 1) := by decide +kernel
theorem dL_leaves_68 : decode cL_leaves 68 = .ok (.iload 6, 2) := by decide +kernel
theorem dL_leaves_70 : decode cL_leaves 70 = .ok (.iaload, 1) := by decide +kernel
theorem dL_leaves_71 : decode cL_leaves 71 = .ok (.iload 4, 2) := by decide +kernel
theorem dL_leaves_73 : decode cL_leaves 73 = .ok (.if_icmp .ne 17, 3) := by decide +kernel
theorem dL_leaves_76 : decode cL_leaves 76 = .ok (.iload 7, 2) := by decide +kernel
theorem dL_leaves_78 : decode cL_leaves 78 = .ok (.iload_n 3, 1) := by decide +kernel
theorem dL_leaves_79 : decode cL_leaves 79 = .ok (.iand, 1) := by decide +kernel
theorem dL_leaves_80 : decode cL_leaves 80 = .ok (.ifCond .ne 10, 3) := by decide +kernel
theorem dL_leaves_83 : decode cL_leaves 83 = .ok (.iconst 1, 1) := by decide +kernel
theorem dL_leaves_84 : decode cL_leaves 84 = .ok (.iload 6, 2) := by decide +kernel
theorem dL_leaves_86 : decode cL_leaves 86 = .ok (.ishl, 1) := by decide +kernel
theorem dL_leaves_87 : decode cL_leaves 87 = .ok (.goto 4, 3) := by decide +kernel
theorem dL_leaves_90 : decode cL_leaves 90 = .ok (.iconst 0, 1) := by decide +kernel
theorem dL_leaves_91 : decode cL_leaves 91 = .ok (.ior, 1) := by decide +kernel
theorem dL_leaves_92 : decode cL_leaves 92 = .ok (.istore 5, 2) := by decide +kernel
theorem dL_leaves_94 : decode cL_leaves 94 = .ok (.iinc 6 (-1), 3) := by decide +kernel
theorem dL_leaves_97 : decode cL_leaves 97 = .ok (.goto (-87), 3) := by decide +kernel
theorem dL_leaves_100 : decode cL_leaves 100 = .ok (.iload 5, 2) := by decide +kernel
theorem dL_leaves_102 : decode cL_leaves 102 = .ok (.ireturn, 1) := by decide +kernel
theorem dL_rank_0 : decode cL_rank 0 = .ok (.aload_n 0, 1) := by decide +kernel
theorem dL_rank_1 : decode cL_rank 1 = .ok (.iload_n 3, 1) := by decide +kernel
theorem dL_rank_2 : decode cL_rank 2 = .ok (.iaload, 1) := by decide +kernel
theorem dL_rank_3 : decode cL_rank 3 = .ok (.ifCond .lt 8, 3) := by decide +kernel
theorem dL_rank_6 : decode cL_rank 6 = .ok (.bipush 64, 2) := by decide +kernel
theorem dL_rank_8 : decode cL_rank 8 = .ok (.goto 4, 3) := by decide +kernel
theorem dL_rank_11 : decode cL_rank 11 = .ok (.iconst 0, 1) := by decide +kernel
theorem dL_rank_12 : decode cL_rank 12 = .ok (.aload_n 1, 1) := by decide +kernel
theorem dL_rank_13 : decode cL_rank 13 = .ok (.iload_n 3, 1) := by decide +kernel
theorem dL_rank_14 : decode cL_rank 14 = .ok (.iaload, 1) := by decide +kernel
theorem dL_rank_15 : decode cL_rank 15 = .ok (.iadd, 1) := by decide +kernel
theorem dL_rank_16 : decode cL_rank 16 = .ok (.sipush 1000, 3) := by decide +kernel
theorem dL_rank_19 : decode cL_rank 19 = .ok (.imul, 1) := by decide +kernel
theorem dL_rank_20 : decode cL_rank 20 = .ok (.aload_n 2, 1) := by decide +kernel
theorem dL_rank_21 : decode cL_rank 21 = .ok (.iload_n 3, 1) := by decide +kernel
theorem dL_rank_22 : decode cL_rank 22 = .ok (.iaload, 1) := by decide +kernel
theorem dL_rank_23 : decode cL_rank 23 = .ok (.iadd, 1) := by decide +kernel
theorem dL_rank_24 : decode cL_rank 24 = .ok (.ireturn, 1) := by decide +kernel
set_option maxRecDepth 20000 in
theorem ggL_winner_L_leaves : GoodIn wsL_winner wsL_leaves := goodIn_r _ [4] (by decide +kernel) (by decide +kernel)
set_option maxRecDepth 20000 in
theorem gL_winner_L_leaves : GoodIn wsL_winner (va_wsS RL 9 yL_leaves wsL_leaves) := goodIn_app (goodIn_of _ (by decide +kernel)) ggL_winner_L_leaves
set_option maxRecDepth 20000 in
theorem ggL_winner_L_rank : GoodIn wsL_winner wsL_rank := goodIn_r _ [7] (by decide +kernel) (by decide +kernel)
set_option maxRecDepth 20000 in
theorem gL_winner_L_rank : GoodIn wsL_winner (va_wsS RL 15 yL_rank wsL_rank) := goodIn_app (goodIn_of _ (by decide +kernel)) ggL_winner_L_rank
theorem dL_winner_0 : decode cL_winner 0 = .ok (.aload_n 0, 1) := by decide +kernel
theorem dL_winner_1 : decode cL_winner 1 = .ok (.aload 4, 2) := by decide +kernel
theorem dL_winner_3 : decode cL_winner 3 = .ok (.aload 5, 2) := by decide +kernel
theorem dL_winner_5 : decode cL_winner 5 = .ok (.iload 6, 2) := by decide +kernel
theorem dL_winner_7 : decode cL_winner 7 = .ok (.iload 7, 2) := by decide +kernel
theorem dL_winner_9 : decode cL_winner 9 = .ok (.invokestatic 9, 3) := by decide +kernel
theorem dL_winner_12 : decode cL_winner 12 = .ok (.istore 8, 2) := by decide +kernel
theorem dL_winner_14 : decode cL_winner 14 = .ok (.iconst (-1), 1) := by decide +kernel
theorem dL_winner_15 : decode cL_winner 15 = .ok (.istore 9, 2) := by decide +kernel
theorem dL_winner_17 : decode cL_winner 17 = .ok (.iconst 0, 1) := by decide +kernel
theorem dL_winner_18 : decode cL_winner 18 = .ok (.istore 10, 2) := by decide +kernel
theorem dL_winner_20 : decode cL_winner 20 = .ok (.iload 10, 2) := by decide +kernel
theorem dL_winner_22 : decode cL_winner 22 = .ok (.aload 5, 2) := by decide +kernel
theorem dL_winner_24 : decode cL_winner 24 = .ok (.iconst 0, 1) := by decide +kernel
theorem dL_winner_25 : decode cL_winner 25 = .ok (.iaload, 1) := by decide +kernel
theorem dL_winner_26 : decode cL_winner 26 = .ok (.if_icmp .ge 53, 3) := by decide +kernel
theorem dL_winner_29 : decode cL_winner 29 = .ok (.iload 8, 2) := by decide +kernel
theorem dL_winner_31 : decode cL_winner 31 = .ok (.iload 10, 2) := by decide +kernel
theorem dL_winner_33 : decode cL_winner 33 = .ok (.ishr, 1) := by decide +kernel
theorem dL_winner_34 : decode cL_winner 34 = .ok (.iconst 1, 1) := by decide +kernel
theorem dL_winner_35 : decode cL_winner 35 = .ok (.iand, 1) := by decide +kernel
theorem dL_winner_36 : decode cL_winner 36 = .ok (.iconst 1, 1) := by decide +kernel
theorem dL_winner_37 : decode cL_winner 37 = .ok (.if_icmp .ne 32, 3) := by decide +kernel
theorem dL_winner_40 : decode cL_winner 40 = .ok (.iload 9, 2) := by decide +kernel
theorem dL_winner_42 : decode cL_winner 42 = .ok (.ifCond .lt 22, 3) := by decide +kernel
theorem dL_winner_45 : decode cL_winner 45 = .ok (.aload_n 1, 1) := by decide +kernel
theorem dL_winner_46 : decode cL_winner 46 = .ok (.aload_n 2, 1) := by decide +kernel
theorem dL_winner_47 : decode cL_winner 47 = .ok (.aload_n 3, 1) := by decide +kernel
theorem dL_winner_48 : decode cL_winner 48 = .ok (.iload 10, 2) := by decide +kernel
theorem dL_winner_50 : decode cL_winner 50 = .ok (.invokestatic 15, 3) := by decide +kernel
theorem dL_winner_53 : decode cL_winner 53 = .ok (.aload_n 1, 1) := by decide +kernel
theorem dL_winner_54 : decode cL_winner 54 = .ok (.aload_n 2, 1) := by decide +kernel
theorem dL_winner_55 : decode cL_winner 55 = .ok (.aload_n 3, 1) := by decide +kernel
theorem dL_winner_56 : decode cL_winner 56 = .ok (.iload 9, 2) := by decide +kernel
theorem dL_winner_58 : decode cL_winner 58 = .ok (.invokestatic 15, 3) := by decide +kernel
theorem dL_winner_61 : decode cL_winner 61 = .ok (.if_icmp .le 8, 3) := by decide +kernel
theorem dL_winner_64 : decode cL_winner 64 = .ok (.iload 10, 2) := by decide +kernel
theorem dL_winner_66 : decode cL_winner 66 = .ok (.goto 5, 3) := by decide +kernel
theorem dL_winner_69 : decode cL_winner 69 = .ok (.iload 9, 2) := by decide +kernel
theorem dL_winner_71 : decode cL_winner 71 = .ok (.istore 9, 2) := by decide +kernel
theorem dL_winner_73 : decode cL_winner 73 = .ok (.iinc 10 1, 3) := by decide +kernel
theorem dL_winner_76 : decode cL_winner 76 = .ok (.goto (-56), 3) := by decide +kernel
theorem dL_winner_79 : decode cL_winner 79 = .ok (.iload 9, 2) := by decide +kernel
theorem dL_winner_81 : decode cL_winner 81 = .ok (.ireturn, 1) := by decide +kernel
theorem dL_ones_0 : decode cL_ones 0 = .ok (.iconst 0, 1) := by decide +kernel
theorem dL_ones_1 : decode cL_ones 1 = .ok (.istore_n 1, 1) := by decide +kernel
theorem dL_ones_2 : decode cL_ones 2 = .ok (.iload_n 0, 1) := by decide +kernel
theorem dL_ones_3 : decode cL_ones 3 = .ok (.istore_n 2, 1) := by decide +kernel
theorem dL_ones_4 : decode cL_ones 4 = .ok (.iload_n 2, 1) := by decide +kernel
theorem dL_ones_5 : decode cL_ones 5 = .ok (.ifCond .eq 15, 3) := by decide +kernel
theorem dL_ones_8 : decode cL_ones 8 = .ok (.iinc 1 1, 3) := by decide +kernel
theorem dL_ones_11 : decode cL_ones 11 = .ok (.iload_n 2, 1) := by decide +kernel
theorem dL_ones_12 : decode cL_ones 12 = .ok (.iload_n 2, 1) := by decide +kernel
theorem dL_ones_13 : decode cL_ones 13 = .ok (.iconst 1, 1) := by decide +kernel
theorem dL_ones_14 : decode cL_ones 14 = .ok (.isub, 1) := by decide +kernel
theorem dL_ones_15 : decode cL_ones 15 = .ok (.iand, 1) := by decide +kernel
theorem dL_ones_16 : decode cL_ones 16 = .ok (.istore_n 2, 1) := by decide +kernel
theorem dL_ones_17 : decode cL_ones 17 = .ok (.goto (-13), 3) := by decide +kernel
theorem dL_ones_20 : decode cL_ones 20 = .ok (.iload_n 1, 1) := by decide +kernel
theorem dL_ones_21 : decode cL_ones 21 = .ok (.ireturn, 1) := by decide +kernel
set_option maxRecDepth 20000 in
theorem ggL_deep_L_leaves : GoodIn wsL_deep wsL_leaves := goodIn_r _ [4] (by decide +kernel) (by decide +kernel)
set_option maxRecDepth 20000 in
theorem gL_deep_L_leaves : GoodIn wsL_deep (va_wsS RL 9 yL_leaves wsL_leaves) := goodIn_app (goodIn_of _ (by decide +kernel)) ggL_deep_L_leaves
theorem dL_deep_0 : decode cL_deep 0 = .ok (.iconst 0, 1) := by decide +kernel
theorem dL_deep_1 : decode cL_deep 1 = .ok (.istore 6, 2) := by decide +kernel
theorem dL_deep_3 : decode cL_deep 3 = .ok (.iconst 0, 1) := by decide +kernel
theorem dL_deep_4 : decode cL_deep 4 = .ok (.istore 7, 2) := by decide +kernel
theorem dL_deep_6 : decode cL_deep 6 = .ok (.iload 7, 2) := by decide +kernel
theorem dL_deep_8 : decode cL_deep 8 = .ok (.aload_n 3, 1) := by decide +kernel
theorem dL_deep_9 : decode cL_deep 9 = .ok (.iconst 0, 1) := by decide +kernel
theorem dL_deep_10 : decode cL_deep 10 = .ok (.iaload, 1) := by decide +kernel
theorem dL_deep_11 : decode cL_deep 11 = .ok (.if_icmp .ge 155, 3) := by decide +kernel
theorem dL_deep_14 : decode cL_deep 14 = .ok (.aload_n 0, 1) := by decide +kernel
theorem dL_deep_15 : decode cL_deep 15 = .ok (.aload_n 2, 1) := by decide +kernel
theorem dL_deep_16 : decode cL_deep 16 = .ok (.aload_n 3, 1) := by decide +kernel
theorem dL_deep_17 : decode cL_deep 17 = .ok (.iload 4, 2) := by decide +kernel
theorem dL_deep_19 : decode cL_deep 19 = .ok (.aload_n 0, 1) := by decide +kernel
theorem dL_deep_20 : decode cL_deep 20 = .ok (.iload 7, 2) := by decide +kernel
theorem dL_deep_22 : decode cL_deep 22 = .ok (.iaload, 1) := by decide +kernel
theorem dL_deep_23 : decode cL_deep 23 = .ok (.invokestatic 9, 3) := by decide +kernel
theorem dL_deep_26 : decode cL_deep 26 = .ok (.istore 8, 2) := by decide +kernel
theorem dL_deep_28 : decode cL_deep 28 = .ok (.iconst 0, 1) := by decide +kernel
theorem dL_deep_29 : decode cL_deep 29 = .ok (.istore 9, 2) := by decide +kernel
theorem dL_deep_31 : decode cL_deep 31 = .ok (.iconst 0, 1) := by decide +kernel
theorem dL_deep_32 : decode cL_deep 32 = .ok (.istore 10, 2) := by decide +kernel
theorem dL_deep_34 : decode cL_deep 34 = .ok (.iconst 0, 1) := by decide +kernel
theorem dL_deep_35 : decode cL_deep 35 = .ok (.istore 11, 2) := by decide +kernel
theorem dL_deep_37 : decode cL_deep 37 = .ok (.iload 11, 2) := by decide +kernel
theorem dL_deep_39 : decode cL_deep 39 = .ok (.aload_n 3, 1) := by decide +kernel
theorem dL_deep_40 : decode cL_deep 40 = .ok (.iconst 0, 1) := by decide +kernel
theorem dL_deep_41 : decode cL_deep 41 = .ok (.iaload, 1) := by decide +kernel
theorem dL_deep_42 : decode cL_deep 42 = .ok (.if_icmp .ge 84, 3) := by decide +kernel
theorem dL_deep_45 : decode cL_deep 45 = .ok (.iload 8, 2) := by decide +kernel
theorem dL_deep_47 : decode cL_deep 47 = .ok (.iload 11, 2) := by decide +kernel
theorem dL_deep_49 : decode cL_deep 49 = .ok (.ishr, 1) := by decide +kernel
theorem dL_deep_50 : decode cL_deep 50 = .ok (.iconst 1, 1) := by decide +kernel
theorem dL_deep_51 : decode cL_deep 51 = .ok (.iand, 1) := by decide +kernel
theorem dL_deep_52 : decode cL_deep 52 = .ok (.iconst 1, 1) := by decide +kernel
theorem dL_deep_53 : decode cL_deep 53 = .ok (.if_icmp .ne 20, 3) := by decide +kernel
theorem dL_deep_56 : decode cL_deep 56 = .ok (.aload_n 2, 1) := by decide +kernel
theorem dL_deep_57 : decode cL_deep 57 = .ok (.iload 11, 2) := by decide +kernel
theorem dL_deep_59 : decode cL_deep 59 = .ok (.iaload, 1) := by decide +kernel
theorem dL_deep_60 : decode cL_deep 60 = .ok (.iload 7, 2) := by decide +kernel
theorem dL_deep_62 : decode cL_deep 62 = .ok (.ishr, 1) := by decide +kernel
theorem dL_deep_63 : decode cL_deep 63 = .ok (.iconst 1, 1) := by decide +kernel
theorem dL_deep_64 : decode cL_deep 64 = .ok (.iand, 1) := by decide +kernel
theorem dL_deep_65 : decode cL_deep 65 = .ok (.iconst 1, 1) := by decide +kernel
theorem dL_deep_66 : decode cL_deep 66 = .ok (.if_icmp .ne 7, 3) := by decide +kernel
theorem dL_deep_69 : decode cL_deep 69 = .ok (.iconst 1, 1) := by decide +kernel
theorem dL_deep_70 : decode cL_deep 70 = .ok (.goto 4, 3) := by decide +kernel
theorem dL_deep_73 : decode cL_deep 73 = .ok (.iconst 0, 1) := by decide +kernel
theorem dL_deep_74 : decode cL_deep 74 = .ok (.istore 12, 2) := by decide +kernel
theorem dL_deep_76 : decode cL_deep 76 = .ok (.iload 9, 2) := by decide +kernel
theorem dL_deep_78 : decode cL_deep 78 = .ok (.iload 12, 2) := by decide +kernel
theorem dL_deep_80 : decode cL_deep 80 = .ok (.ifCond .eq 7, 3) := by decide +kernel
theorem dL_deep_83 : decode cL_deep 83 = .ok (.iconst 1, 1) := by decide +kernel
theorem dL_deep_84 : decode cL_deep 84 = .ok (.goto 4, 3) := by decide +kernel
theorem dL_deep_87 : decode cL_deep 87 = .ok (.iconst 0, 1) := by decide +kernel
theorem dL_deep_88 : decode cL_deep 88 = .ok (.iadd, 1) := by decide +kernel
theorem dL_deep_89 : decode cL_deep 89 = .ok (.istore 9, 2) := by decide +kernel
theorem dL_deep_91 : decode cL_deep 91 = .ok (.iload 10, 2) := by decide +kernel
theorem dL_deep_93 : decode cL_deep 93 = .ok (.iload 12, 2) := by decide +kernel
theorem dL_deep_95 : decode cL_deep 95 = .ok (.ifCond .eq 21, 3) := by decide +kernel
theorem dL_deep_98 : decode cL_deep 98 = .ok (.aload_n 1, 1) := by decide +kernel
theorem dL_deep_99 : decode cL_deep 99 = .ok (.iload 11, 2) := by decide +kernel
theorem dL_deep_101 : decode cL_deep 101 = .ok (.iaload, 1) := by decide +kernel
theorem dL_deep_102 : decode cL_deep 102 = .ok (.aload_n 1, 1) := by decide +kernel
theorem dL_deep_103 : decode cL_deep 103 = .ok (.iload 7, 2) := by decide +kernel
theorem dL_deep_105 : decode cL_deep 105 = .ok (.iaload, 1) := by decide +kernel
theorem dL_deep_106 : decode cL_deep 106 = .ok (.isub, 1) := by decide +kernel
theorem dL_deep_107 : decode cL_deep 107 = .ok (.iload 5, 2) := by decide +kernel
theorem dL_deep_109 : decode cL_deep 109 = .ok (.if_icmp .ge 7, 3) := by decide +kernel
theorem dL_deep_112 : decode cL_deep 112 = .ok (.iconst 1, 1) := by decide +kernel
theorem dL_deep_113 : decode cL_deep 113 = .ok (.goto 4, 3) := by decide +kernel
theorem dL_deep_116 : decode cL_deep 116 = .ok (.iconst 0, 1) := by decide +kernel
theorem dL_deep_117 : decode cL_deep 117 = .ok (.iadd, 1) := by decide +kernel
theorem dL_deep_118 : decode cL_deep 118 = .ok (.istore 10, 2) := by decide +kernel
theorem dL_deep_120 : decode cL_deep 120 = .ok (.iinc 11 1, 3) := by decide +kernel
theorem dL_deep_123 : decode cL_deep 123 = .ok (.goto (-86), 3) := by decide +kernel
theorem dL_deep_126 : decode cL_deep 126 = .ok (.iload 6, 2) := by decide +kernel
theorem dL_deep_128 : decode cL_deep 128 = .ok (.iload 4, 2) := by decide +kernel
theorem dL_deep_130 : decode cL_deep 130 = .ok (.iload 7, 2) := by decide +kernel
theorem dL_deep_132 : decode cL_deep 132 = .ok (.ishr, 1) := by decide +kernel
theorem dL_deep_133 : decode cL_deep 133 = .ok (.iconst 1, 1) := by decide +kernel
theorem dL_deep_134 : decode cL_deep 134 = .ok (.iand, 1) := by decide +kernel
theorem dL_deep_135 : decode cL_deep 135 = .ok (.iconst 1, 1) := by decide +kernel
theorem dL_deep_136 : decode cL_deep 136 = .ok (.if_icmp .ne 20, 3) := by decide +kernel
theorem dL_deep_139 : decode cL_deep 139 = .ok (.iload 9, 2) := by decide +kernel
theorem dL_deep_141 : decode cL_deep 141 = .ok (.ifCond .le 15, 3) := by decide +kernel
theorem dL_deep_144 : decode cL_deep 144 = .ok (.iload 10, 2) := by decide +kernel
theorem dL_deep_146 : decode cL_deep 146 = .ok (.ifCond .ne 10, 3) := by decide +kernel
theorem dL_deep_149 : decode cL_deep 149 = .ok (.iconst 1, 1) := by decide +kernel
theorem dL_deep_150 : decode cL_deep 150 = .ok (.iload 7, 2) := by decide +kernel
theorem dL_deep_152 : decode cL_deep 152 = .ok (.ishl, 1) := by decide +kernel
theorem dL_deep_153 : decode cL_deep 153 = .ok (.goto 4, 3) := by decide +kernel
theorem dL_deep_156 : decode cL_deep 156 = .ok (.iconst 0, 1) := by decide +kernel
theorem dL_deep_157 : decode cL_deep 157 = .ok (.ior, 1) := by decide +kernel
theorem dL_deep_158 : decode cL_deep 158 = .ok (.istore 6, 2) := by decide +kernel
theorem dL_deep_160 : decode cL_deep 160 = .ok (.iinc 7 1, 3) := by decide +kernel
theorem dL_deep_163 : decode cL_deep 163 = .ok (.goto (-157), 3) := by decide +kernel
theorem dL_deep_166 : decode cL_deep 166 = .ok (.iload 6, 2) := by decide +kernel
theorem dL_deep_168 : decode cL_deep 168 = .ok (.ireturn, 1) := by decide +kernel
set_option maxRecDepth 20000 in
theorem ggL_stem_L_deep : GoodIn wsL_stem wsL_deep := goodIn_r _ [4, 5, 6, 3, 7] (by decide +kernel) (by decide +kernel)
set_option maxRecDepth 20000 in
theorem gL_stem_L_deep : GoodIn wsL_stem (va_wsS RL 19 yL_deep wsL_deep) := goodIn_app (goodIn_of _ (by decide +kernel)) ggL_stem_L_deep
set_option maxRecDepth 20000 in
theorem ggL_stem_L_ones : GoodIn wsL_stem wsL_ones := goodIn_r _ [10] (by decide +kernel) (by decide +kernel)
set_option maxRecDepth 20000 in
theorem gL_stem_L_ones : GoodIn wsL_stem (va_wsS RL 23 yL_ones wsL_ones) := goodIn_app (goodIn_of _ (by decide +kernel)) ggL_stem_L_ones
theorem dL_stem_0 : decode cL_stem 0 = .ok (.aload_n 0, 1) := by decide +kernel
theorem dL_stem_1 : decode cL_stem 1 = .ok (.aload_n 1, 1) := by decide +kernel
theorem dL_stem_2 : decode cL_stem 2 = .ok (.aload_n 2, 1) := by decide +kernel
theorem dL_stem_3 : decode cL_stem 3 = .ok (.aload 4, 2) := by decide +kernel
theorem dL_stem_5 : decode cL_stem 5 = .ok (.aload_n 3, 1) := by decide +kernel
theorem dL_stem_6 : decode cL_stem 6 = .ok (.iload 5, 2) := by decide +kernel
theorem dL_stem_8 : decode cL_stem 8 = .ok (.iaload, 1) := by decide +kernel
theorem dL_stem_9 : decode cL_stem 9 = .ok (.aload_n 3, 1) := by decide +kernel
theorem dL_stem_10 : decode cL_stem 10 = .ok (.iconst 4, 1) := by decide +kernel
theorem dL_stem_11 : decode cL_stem 11 = .ok (.iload 5, 2) := by decide +kernel
theorem dL_stem_13 : decode cL_stem 13 = .ok (.iadd, 1) := by decide +kernel
theorem dL_stem_14 : decode cL_stem 14 = .ok (.iaload, 1) := by decide +kernel
theorem dL_stem_15 : decode cL_stem 15 = .ok (.invokestatic 19, 3) := by decide +kernel
theorem dL_stem_18 : decode cL_stem 18 = .ok (.istore 6, 2) := by decide +kernel
theorem dL_stem_20 : decode cL_stem 20 = .ok (.aload_n 3, 1) := by decide +kernel
theorem dL_stem_21 : decode cL_stem 21 = .ok (.iload 5, 2) := by decide +kernel
theorem dL_stem_23 : decode cL_stem 23 = .ok (.dup2, 1) := by decide +kernel
theorem dL_stem_24 : decode cL_stem 24 = .ok (.iaload, 1) := by decide +kernel
theorem dL_stem_25 : decode cL_stem 25 = .ok (.iload 6, 2) := by decide +kernel
theorem dL_stem_27 : decode cL_stem 27 = .ok (.iconst (-1), 1) := by decide +kernel
theorem dL_stem_28 : decode cL_stem 28 = .ok (.ixor, 1) := by decide +kernel
theorem dL_stem_29 : decode cL_stem 29 = .ok (.iand, 1) := by decide +kernel
theorem dL_stem_30 : decode cL_stem 30 = .ok (.iastore, 1) := by decide +kernel
theorem dL_stem_31 : decode cL_stem 31 = .ok (.iload 6, 2) := by decide +kernel
theorem dL_stem_33 : decode cL_stem 33 = .ok (.invokestatic 23, 3) := by decide +kernel
theorem dL_stem_36 : decode cL_stem 36 = .ok (.ireturn, 1) := by decide +kernel
theorem dL_make_0 : decode cL_make 0 = .ok (.iconst 0, 1) := by decide +kernel
theorem dL_make_1 : decode cL_make 1 = .ok (.istore 10, 2) := by decide +kernel
theorem dL_make_3 : decode cL_make 3 = .ok (.iload 10, 2) := by decide +kernel
theorem dL_make_5 : decode cL_make 5 = .ok (.aload 6, 2) := by decide +kernel
theorem dL_make_7 : decode cL_make 7 = .ok (.iconst 0, 1) := by decide +kernel
theorem dL_make_8 : decode cL_make 8 = .ok (.iaload, 1) := by decide +kernel
theorem dL_make_9 : decode cL_make 9 = .ok (.if_icmp .ge 39, 3) := by decide +kernel
theorem dL_make_12 : decode cL_make 12 = .ok (.aload_n 0, 1) := by decide +kernel
theorem dL_make_13 : decode cL_make 13 = .ok (.iload 10, 2) := by decide +kernel
theorem dL_make_15 : decode cL_make 15 = .ok (.iaload, 1) := by decide +kernel
theorem dL_make_16 : decode cL_make 16 = .ok (.iload 7, 2) := by decide +kernel
theorem dL_make_18 : decode cL_make 18 = .ok (.if_icmp .ne 24, 3) := by decide +kernel
theorem dL_make_21 : decode cL_make 21 = .ok (.aload_n 2, 1) := by decide +kernel
theorem dL_make_22 : decode cL_make 22 = .ok (.iload 10, 2) := by decide +kernel
theorem dL_make_24 : decode cL_make 24 = .ok (.iaload, 1) := by decide +kernel
theorem dL_make_25 : decode cL_make 25 = .ok (.iload 8, 2) := by decide +kernel
theorem dL_make_27 : decode cL_make 27 = .ok (.if_icmp .ne 15, 3) := by decide +kernel
theorem dL_make_30 : decode cL_make 30 = .ok (.aload_n 1, 1) := by decide +kernel
theorem dL_make_31 : decode cL_make 31 = .ok (.iload 10, 2) := by decide +kernel
theorem dL_make_33 : decode cL_make 33 = .ok (.iaload, 1) := by decide +kernel
theorem dL_make_34 : decode cL_make 34 = .ok (.iload 9, 2) := by decide +kernel
theorem dL_make_36 : decode cL_make 36 = .ok (.if_icmp .ne 6, 3) := by decide +kernel
theorem dL_make_39 : decode cL_make 39 = .ok (.iload 10, 2) := by decide +kernel
theorem dL_make_41 : decode cL_make 41 = .ok (.ireturn, 1) := by decide +kernel
theorem dL_make_42 : decode cL_make 42 = .ok (.iinc 10 1, 3) := by decide +kernel
theorem dL_make_45 : decode cL_make 45 = .ok (.goto (-42), 3) := by decide +kernel
theorem dL_make_48 : decode cL_make 48 = .ok (.aload 6, 2) := by decide +kernel
theorem dL_make_50 : decode cL_make 50 = .ok (.iconst 0, 1) := by decide +kernel
theorem dL_make_51 : decode cL_make 51 = .ok (.iaload, 1) := by decide +kernel
theorem dL_make_52 : decode cL_make 52 = .ok (.istore 10, 2) := by decide +kernel
theorem dL_make_54 : decode cL_make 54 = .ok (.aload_n 0, 1) := by decide +kernel
theorem dL_make_55 : decode cL_make 55 = .ok (.iload 10, 2) := by decide +kernel
theorem dL_make_57 : decode cL_make 57 = .ok (.iload 7, 2) := by decide +kernel
theorem dL_make_59 : decode cL_make 59 = .ok (.iastore, 1) := by decide +kernel
theorem dL_make_60 : decode cL_make 60 = .ok (.aload_n 2, 1) := by decide +kernel
theorem dL_make_61 : decode cL_make 61 = .ok (.iload 10, 2) := by decide +kernel
theorem dL_make_63 : decode cL_make 63 = .ok (.iload 8, 2) := by decide +kernel
theorem dL_make_65 : decode cL_make 65 = .ok (.iastore, 1) := by decide +kernel
theorem dL_make_66 : decode cL_make 66 = .ok (.aload_n 1, 1) := by decide +kernel
theorem dL_make_67 : decode cL_make 67 = .ok (.iload 10, 2) := by decide +kernel
theorem dL_make_69 : decode cL_make 69 = .ok (.iload 9, 2) := by decide +kernel
theorem dL_make_71 : decode cL_make 71 = .ok (.iastore, 1) := by decide +kernel
theorem dL_make_72 : decode cL_make 72 = .ok (.aload_n 3, 1) := by decide +kernel
theorem dL_make_73 : decode cL_make 73 = .ok (.iload 10, 2) := by decide +kernel
theorem dL_make_75 : decode cL_make 75 = .ok (.iload 8, 2) := by decide +kernel
theorem dL_make_77 : decode cL_make 77 = .ok (.ifCond .ge 7, 3) := by decide +kernel
theorem dL_make_80 : decode cL_make 80 = .ok (.iconst 1, 1) := by decide +kernel
theorem dL_make_81 : decode cL_make 81 = .ok (.goto 9, 3) := by decide +kernel
theorem dL_make_84 : decode cL_make 84 = .ok (.iconst 1, 1) := by decide +kernel
theorem dL_make_85 : decode cL_make 85 = .ok (.aload_n 3, 1) := by decide +kernel
theorem dL_make_86 : decode cL_make 86 = .ok (.iload 8, 2) := by decide +kernel
theorem dL_make_88 : decode cL_make 88 = .ok (.iaload, 1) := by decide +kernel
theorem dL_make_89 : decode cL_make 89 = .ok (.iadd, 1) := by decide +kernel
theorem dL_make_90 : decode cL_make 90 = .ok (.iastore, 1) := by decide +kernel
theorem dL_make_91 : decode cL_make 91 = .ok (.aload 5, 2) := by decide +kernel
theorem dL_make_93 : decode cL_make 93 = .ok (.iload 10, 2) := by decide +kernel
theorem dL_make_95 : decode cL_make 95 = .ok (.iload 8, 2) := by decide +kernel
theorem dL_make_97 : decode cL_make 97 = .ok (.ifCond .ge 7, 3) := by decide +kernel
theorem dL_make_100 : decode cL_make 100 = .ok (.iconst 0, 1) := by decide +kernel
theorem dL_make_101 : decode cL_make 101 = .ok (.goto 13, 3) := by decide +kernel
theorem dL_make_104 : decode cL_make 104 = .ok (.aload 5, 2) := by decide +kernel
theorem dL_make_106 : decode cL_make 106 = .ok (.iload 8, 2) := by decide +kernel
theorem dL_make_108 : decode cL_make 108 = .ok (.iaload, 1) := by decide +kernel
theorem dL_make_109 : decode cL_make 109 = .ok (.iconst 1, 1) := by decide +kernel
theorem dL_make_110 : decode cL_make 110 = .ok (.iload 8, 2) := by decide +kernel
theorem dL_make_112 : decode cL_make 112 = .ok (.ishl, 1) := by decide +kernel
theorem dL_make_113 : decode cL_make 113 = .ok (.ior, 1) := by decide +kernel
theorem dL_make_114 : decode cL_make 114 = .ok (.iastore, 1) := by decide +kernel
theorem dL_make_115 : decode cL_make 115 = .ok (.aload 4, 2) := by decide +kernel
theorem dL_make_117 : decode cL_make 117 = .ok (.iload 10, 2) := by decide +kernel
theorem dL_make_119 : decode cL_make 119 = .ok (.iload 8, 2) := by decide +kernel
theorem dL_make_121 : decode cL_make 121 = .ok (.ifCond .ge 8, 3) := by decide +kernel
theorem dL_make_124 : decode cL_make 124 = .ok (.bipush 31, 2) := by decide +kernel
theorem dL_make_126 : decode cL_make 126 = .ok (.goto 11, 3) := by decide +kernel
theorem dL_make_129 : decode cL_make 129 = .ok (.bipush 31, 2) := by decide +kernel
theorem dL_make_131 : decode cL_make 131 = .ok (.aload 4, 2) := by decide +kernel
theorem dL_make_133 : decode cL_make 133 = .ok (.iload 8, 2) := by decide +kernel
theorem dL_make_135 : decode cL_make 135 = .ok (.iaload, 1) := by decide +kernel
theorem dL_make_136 : decode cL_make 136 = .ok (.imul, 1) := by decide +kernel
theorem dL_make_137 : decode cL_make 137 = .ok (.iload 9, 2) := by decide +kernel
theorem dL_make_139 : decode cL_make 139 = .ok (.ifCond .ge 7, 3) := by decide +kernel
theorem dL_make_142 : decode cL_make 142 = .ok (.iconst 3, 1) := by decide +kernel
theorem dL_make_143 : decode cL_make 143 = .ok (.goto 8, 3) := by decide +kernel
theorem dL_make_146 : decode cL_make 146 = .ok (.bipush 7, 2) := by decide +kernel
theorem dL_make_148 : decode cL_make 148 = .ok (.iload 9, 2) := by decide +kernel
theorem dL_make_150 : decode cL_make 150 = .ok (.imul, 1) := by decide +kernel
theorem dL_make_151 : decode cL_make 151 = .ok (.iadd, 1) := by decide +kernel
theorem dL_make_152 : decode cL_make 152 = .ok (.aload_n 3, 1) := by decide +kernel
theorem dL_make_153 : decode cL_make 153 = .ok (.iload 10, 2) := by decide +kernel
theorem dL_make_155 : decode cL_make 155 = .ok (.iaload, 1) := by decide +kernel
theorem dL_make_156 : decode cL_make 156 = .ok (.iadd, 1) := by decide +kernel
theorem dL_make_157 : decode cL_make 157 = .ok (.sipush 997, 3) := by decide +kernel
theorem dL_make_160 : decode cL_make 160 = .ok (.irem, 1) := by decide +kernel
theorem dL_make_161 : decode cL_make 161 = .ok (.iastore, 1) := by decide +kernel
theorem dL_make_162 : decode cL_make 162 = .ok (.aload 6, 2) := by decide +kernel
theorem dL_make_164 : decode cL_make 164 = .ok (.iconst 0, 1) := by decide +kernel
theorem dL_make_165 : decode cL_make 165 = .ok (.dup2, 1) := by decide +kernel
theorem dL_make_166 : decode cL_make 166 = .ok (.iaload, 1) := by decide +kernel
theorem dL_make_167 : decode cL_make 167 = .ok (.iconst 1, 1) := by decide +kernel
theorem dL_make_168 : decode cL_make 168 = .ok (.iadd, 1) := by decide +kernel
theorem dL_make_169 : decode cL_make 169 = .ok (.iastore, 1) := by decide +kernel
theorem dL_make_170 : decode cL_make 170 = .ok (.iload 10, 2) := by decide +kernel
theorem dL_make_172 : decode cL_make 172 = .ok (.ireturn, 1) := by decide +kernel
set_option maxRecDepth 20000 in
theorem ggL_add_L_make : GoodIn wsL_add wsL_make := goodIn_r _ [4] (by decide +kernel) (by decide +kernel)
set_option maxRecDepth 20000 in
theorem gL_add_L_make : GoodIn wsL_add (va_wsS RL 27 yL_make wsL_make) := goodIn_app (goodIn_of _ (by decide +kernel)) ggL_add_L_make
set_option maxRecDepth 20000 in
theorem ggL_add_L_stem : GoodIn wsL_add wsL_stem := goodIn_r _ [7, 8, 9, 3, 10, 11, 12, 13, 14, 15, 16] (by decide +kernel) (by decide +kernel)
set_option maxRecDepth 20000 in
theorem gL_add_L_stem : GoodIn wsL_add (va_wsS RL 31 yL_stem wsL_stem) := goodIn_app (goodIn_of _ (by decide +kernel)) ggL_add_L_stem
theorem dL_add_0 : decode cL_add 0 = .ok (.aload_n 0, 1) := by decide +kernel
theorem dL_add_1 : decode cL_add 1 = .ok (.aload_n 1, 1) := by decide +kernel
theorem dL_add_2 : decode cL_add 2 = .ok (.aload_n 2, 1) := by decide +kernel
theorem dL_add_3 : decode cL_add 3 = .ok (.aload_n 3, 1) := by decide +kernel
theorem dL_add_4 : decode cL_add 4 = .ok (.aload 4, 2) := by decide +kernel
theorem dL_add_6 : decode cL_add 6 = .ok (.aload 5, 2) := by decide +kernel
theorem dL_add_8 : decode cL_add 8 = .ok (.aload 8, 2) := by decide +kernel
theorem dL_add_10 : decode cL_add 10 = .ok (.iload 10, 2) := by decide +kernel
theorem dL_add_12 : decode cL_add 12 = .ok (.iload 11, 2) := by decide +kernel
theorem dL_add_14 : decode cL_add 14 = .ok (.iload 12, 2) := by decide +kernel
theorem dL_add_16 : decode cL_add 16 = .ok (.invokestatic 27, 3) := by decide +kernel
theorem dL_add_19 : decode cL_add 19 = .ok (.istore 13, 2) := by decide +kernel
theorem dL_add_21 : decode cL_add 21 = .ok (.aload 6, 2) := by decide +kernel
theorem dL_add_23 : decode cL_add 23 = .ok (.iload 9, 2) := by decide +kernel
theorem dL_add_25 : decode cL_add 25 = .ok (.dup2, 1) := by decide +kernel
theorem dL_add_26 : decode cL_add 26 = .ok (.iaload, 1) := by decide +kernel
theorem dL_add_27 : decode cL_add 27 = .ok (.iconst 1, 1) := by decide +kernel
theorem dL_add_28 : decode cL_add 28 = .ok (.iload 13, 2) := by decide +kernel
theorem dL_add_30 : decode cL_add 30 = .ok (.ishl, 1) := by decide +kernel
theorem dL_add_31 : decode cL_add 31 = .ok (.ior, 1) := by decide +kernel
theorem dL_add_32 : decode cL_add 32 = .ok (.iastore, 1) := by decide +kernel
theorem dL_add_33 : decode cL_add 33 = .ok (.aload 6, 2) := by decide +kernel
theorem dL_add_35 : decode cL_add 35 = .ok (.bipush 8, 2) := by decide +kernel
theorem dL_add_37 : decode cL_add 37 = .ok (.iload 9, 2) := by decide +kernel
theorem dL_add_39 : decode cL_add 39 = .ok (.iadd, 1) := by decide +kernel
theorem dL_add_40 : decode cL_add 40 = .ok (.dup2, 1) := by decide +kernel
theorem dL_add_41 : decode cL_add 41 = .ok (.iaload, 1) := by decide +kernel
theorem dL_add_42 : decode cL_add 42 = .ok (.iconst 1, 1) := by decide +kernel
theorem dL_add_43 : decode cL_add 43 = .ok (.iadd, 1) := by decide +kernel
theorem dL_add_44 : decode cL_add 44 = .ok (.iastore, 1) := by decide +kernel
theorem dL_add_45 : decode cL_add 45 = .ok (.aload 7, 2) := by decide +kernel
theorem dL_add_47 : decode cL_add 47 = .ok (.iconst 4, 1) := by decide +kernel
theorem dL_add_48 : decode cL_add 48 = .ok (.iload 9, 2) := by decide +kernel
theorem dL_add_50 : decode cL_add 50 = .ok (.imul, 1) := by decide +kernel
theorem dL_add_51 : decode cL_add 51 = .ok (.iload 10, 2) := by decide +kernel
theorem dL_add_53 : decode cL_add 53 = .ok (.iadd, 1) := by decide +kernel
theorem dL_add_54 : decode cL_add 54 = .ok (.aload 6, 2) := by decide +kernel
theorem dL_add_56 : decode cL_add 56 = .ok (.bipush 8, 2) := by decide +kernel
theorem dL_add_58 : decode cL_add 58 = .ok (.iload 9, 2) := by decide +kernel
theorem dL_add_60 : decode cL_add 60 = .ok (.iadd, 1) := by decide +kernel
theorem dL_add_61 : decode cL_add 61 = .ok (.iaload, 1) := by decide +kernel
theorem dL_add_62 : decode cL_add 62 = .ok (.iastore, 1) := by decide +kernel
theorem dL_add_63 : decode cL_add 63 = .ok (.aload_n 0, 1) := by decide +kernel
theorem dL_add_64 : decode cL_add 64 = .ok (.aload_n 3, 1) := by decide +kernel
theorem dL_add_65 : decode cL_add 65 = .ok (.aload 5, 2) := by decide +kernel
theorem dL_add_67 : decode cL_add 67 = .ok (.aload 6, 2) := by decide +kernel
theorem dL_add_69 : decode cL_add 69 = .ok (.aload 8, 2) := by decide +kernel
theorem dL_add_71 : decode cL_add 71 = .ok (.iload 9, 2) := by decide +kernel
theorem dL_add_73 : decode cL_add 73 = .ok (.invokestatic 31, 3) := by decide +kernel
theorem dL_add_76 : decode cL_add 76 = .ok (.ifCond .ge 7, 3) := by decide +kernel
theorem dL_add_79 : decode cL_add 79 = .ok (.iconst (-1), 1) := by decide +kernel
theorem dL_add_80 : decode cL_add 80 = .ok (.goto 5, 3) := by decide +kernel
theorem dL_add_83 : decode cL_add 83 = .ok (.iload 13, 2) := by decide +kernel
theorem dL_add_85 : decode cL_add 85 = .ok (.ireturn, 1) := by decide +kernel
theorem dL_start_0 : decode cL_start 0 = .ok (.aload_n 0, 1) := by decide +kernel
theorem dL_start_1 : decode cL_start 1 = .ok (.bipush 9, 2) := by decide +kernel
theorem dL_start_3 : decode cL_start 3 = .ok (.iload_n 1, 1) := by decide +kernel
theorem dL_start_4 : decode cL_start 4 = .ok (.imul, 1) := by decide +kernel
theorem dL_start_5 : decode cL_start 5 = .ok (.iconst 3, 1) := by decide +kernel
theorem dL_start_6 : decode cL_start 6 = .ok (.iload_n 1, 1) := by decide +kernel
theorem dL_start_7 : decode cL_start 7 = .ok (.imul, 1) := by decide +kernel
theorem dL_start_8 : decode cL_start 8 = .ok (.iadd, 1) := by decide +kernel
theorem dL_start_9 : decode cL_start 9 = .ok (.iload_n 2, 1) := by decide +kernel
theorem dL_start_10 : decode cL_start 10 = .ok (.iadd, 1) := by decide +kernel
theorem dL_start_11 : decode cL_start 11 = .ok (.iaload, 1) := by decide +kernel
theorem dL_start_12 : decode cL_start 12 = .ok (.istore_n 3, 1) := by decide +kernel
theorem dL_start_13 : decode cL_start 13 = .ok (.aload_n 0, 1) := by decide +kernel
theorem dL_start_14 : decode cL_start 14 = .ok (.bipush 9, 2) := by decide +kernel
theorem dL_start_16 : decode cL_start 16 = .ok (.iload_n 2, 1) := by decide +kernel
theorem dL_start_17 : decode cL_start 17 = .ok (.imul, 1) := by decide +kernel
theorem dL_start_18 : decode cL_start 18 = .ok (.iconst 3, 1) := by decide +kernel
theorem dL_start_19 : decode cL_start 19 = .ok (.iload_n 1, 1) := by decide +kernel
theorem dL_start_20 : decode cL_start 20 = .ok (.imul, 1) := by decide +kernel
theorem dL_start_21 : decode cL_start 21 = .ok (.iadd, 1) := by decide +kernel
theorem dL_start_22 : decode cL_start 22 = .ok (.iload_n 2, 1) := by decide +kernel
theorem dL_start_23 : decode cL_start 23 = .ok (.iadd, 1) := by decide +kernel
theorem dL_start_24 : decode cL_start 24 = .ok (.iaload, 1) := by decide +kernel
theorem dL_start_25 : decode cL_start 25 = .ok (.istore 4, 2) := by decide +kernel
theorem dL_start_27 : decode cL_start 27 = .ok (.iload_n 3, 1) := by decide +kernel
theorem dL_start_28 : decode cL_start 28 = .ok (.iload 4, 2) := by decide +kernel
theorem dL_start_30 : decode cL_start 30 = .ok (.if_icmp .le 8, 3) := by decide +kernel
theorem dL_start_33 : decode cL_start 33 = .ok (.iload 4, 2) := by decide +kernel
theorem dL_start_35 : decode cL_start 35 = .ok (.goto 4, 3) := by decide +kernel
theorem dL_start_38 : decode cL_start 38 = .ok (.iload_n 3, 1) := by decide +kernel
theorem dL_start_39 : decode cL_start 39 = .ok (.ireturn, 1) := by decide +kernel
set_option maxRecDepth 20000 in
theorem ggL_got_L_leaves : GoodIn wsL_got wsL_leaves := goodIn_r _ [4] (by decide +kernel) (by decide +kernel)
set_option maxRecDepth 20000 in
theorem gL_got_L_leaves : GoodIn wsL_got (va_wsS RL 9 yL_leaves wsL_leaves) := goodIn_app (goodIn_of _ (by decide +kernel)) ggL_got_L_leaves
set_option maxRecDepth 20000 in
theorem ggL_got_L_stem : GoodIn wsL_got wsL_stem := goodIn_r _ [7, 8, 9, 3, 10, 1, 2, 4, 11, 12, 13] (by decide +kernel) (by decide +kernel)
set_option maxRecDepth 20000 in
theorem gL_got_L_stem : GoodIn wsL_got (va_wsS RL 31 yL_stem wsL_stem) := goodIn_app (goodIn_of _ (by decide +kernel)) ggL_got_L_stem
set_option maxRecDepth 20000 in
theorem ggL_got_L_ones : GoodIn wsL_got wsL_ones := goodIn_r _ [13] (by decide +kernel) (by decide +kernel)
set_option maxRecDepth 20000 in
theorem gL_got_L_ones : GoodIn wsL_got (va_wsS RL 23 yL_ones wsL_ones) := goodIn_app (goodIn_of _ (by decide +kernel)) ggL_got_L_ones
theorem dL_got_0 : decode cL_got 0 = .ok (.aload_n 0, 1) := by decide +kernel
theorem dL_got_1 : decode cL_got 1 = .ok (.aload_n 2, 1) := by decide +kernel
theorem dL_got_2 : decode cL_got 2 = .ok (.aload 5, 2) := by decide +kernel
theorem dL_got_4 : decode cL_got 4 = .ok (.aload_n 3, 1) := by decide +kernel
theorem dL_got_5 : decode cL_got 5 = .ok (.iload 6, 2) := by decide +kernel
theorem dL_got_7 : decode cL_got 7 = .ok (.iaload, 1) := by decide +kernel
theorem dL_got_8 : decode cL_got 8 = .ok (.iload 8, 2) := by decide +kernel
theorem dL_got_10 : decode cL_got 10 = .ok (.invokestatic 9, 3) := by decide +kernel
theorem dL_got_13 : decode cL_got 13 = .ok (.istore 9, 2) := by decide +kernel
theorem dL_got_15 : decode cL_got 15 = .ok (.iconst 0, 1) := by decide +kernel
theorem dL_got_16 : decode cL_got 16 = .ok (.istore 10, 2) := by decide +kernel
theorem dL_got_18 : decode cL_got 18 = .ok (.iconst 0, 1) := by decide +kernel
theorem dL_got_19 : decode cL_got 19 = .ok (.istore 11, 2) := by decide +kernel
theorem dL_got_21 : decode cL_got 21 = .ok (.iload 11, 2) := by decide +kernel
theorem dL_got_23 : decode cL_got 23 = .ok (.aload 5, 2) := by decide +kernel
theorem dL_got_25 : decode cL_got 25 = .ok (.iconst 0, 1) := by decide +kernel
theorem dL_got_26 : decode cL_got 26 = .ok (.iaload, 1) := by decide +kernel
theorem dL_got_27 : decode cL_got 27 = .ok (.if_icmp .ge 136, 3) := by decide +kernel
theorem dL_got_30 : decode cL_got 30 = .ok (.iconst 0, 1) := by decide +kernel
theorem dL_got_31 : decode cL_got 31 = .ok (.istore 12, 2) := by decide +kernel
theorem dL_got_33 : decode cL_got 33 = .ok (.iconst 0, 1) := by decide +kernel
theorem dL_got_34 : decode cL_got 34 = .ok (.istore 13, 2) := by decide +kernel
theorem dL_got_36 : decode cL_got 36 = .ok (.iload 13, 2) := by decide +kernel
theorem dL_got_38 : decode cL_got 38 = .ok (.aload 5, 2) := by decide +kernel
theorem dL_got_40 : decode cL_got 40 = .ok (.iconst 0, 1) := by decide +kernel
theorem dL_got_41 : decode cL_got 41 = .ok (.iaload, 1) := by decide +kernel
theorem dL_got_42 : decode cL_got 42 = .ok (.if_icmp .ge 45, 3) := by decide +kernel
theorem dL_got_45 : decode cL_got 45 = .ok (.iload 12, 2) := by decide +kernel
theorem dL_got_47 : decode cL_got 47 = .ok (.aload_n 3, 1) := by decide +kernel
theorem dL_got_48 : decode cL_got 48 = .ok (.iload 7, 2) := by decide +kernel
theorem dL_got_50 : decode cL_got 50 = .ok (.iaload, 1) := by decide +kernel
theorem dL_got_51 : decode cL_got 51 = .ok (.iload 13, 2) := by decide +kernel
theorem dL_got_53 : decode cL_got 53 = .ok (.ishr, 1) := by decide +kernel
theorem dL_got_54 : decode cL_got 54 = .ok (.iconst 1, 1) := by decide +kernel
theorem dL_got_55 : decode cL_got 55 = .ok (.iand, 1) := by decide +kernel
theorem dL_got_56 : decode cL_got 56 = .ok (.iconst 1, 1) := by decide +kernel
theorem dL_got_57 : decode cL_got 57 = .ok (.if_icmp .ne 20, 3) := by decide +kernel
theorem dL_got_60 : decode cL_got 60 = .ok (.aload_n 2, 1) := by decide +kernel
theorem dL_got_61 : decode cL_got 61 = .ok (.iload 13, 2) := by decide +kernel
theorem dL_got_63 : decode cL_got 63 = .ok (.iaload, 1) := by decide +kernel
theorem dL_got_64 : decode cL_got 64 = .ok (.iload 11, 2) := by decide +kernel
theorem dL_got_66 : decode cL_got 66 = .ok (.ishr, 1) := by decide +kernel
theorem dL_got_67 : decode cL_got 67 = .ok (.iconst 1, 1) := by decide +kernel
theorem dL_got_68 : decode cL_got 68 = .ok (.iand, 1) := by decide +kernel
theorem dL_got_69 : decode cL_got 69 = .ok (.iconst 1, 1) := by decide +kernel
theorem dL_got_70 : decode cL_got 70 = .ok (.if_icmp .ne 7, 3) := by decide +kernel
theorem dL_got_73 : decode cL_got 73 = .ok (.iconst 1, 1) := by decide +kernel
theorem dL_got_74 : decode cL_got 74 = .ok (.goto 4, 3) := by decide +kernel
theorem dL_got_77 : decode cL_got 77 = .ok (.iconst 0, 1) := by decide +kernel
theorem dL_got_78 : decode cL_got 78 = .ok (.ior, 1) := by decide +kernel
theorem dL_got_79 : decode cL_got 79 = .ok (.istore 12, 2) := by decide +kernel
theorem dL_got_81 : decode cL_got 81 = .ok (.iinc 13 1, 3) := by decide +kernel
theorem dL_got_84 : decode cL_got 84 = .ok (.goto (-48), 3) := by decide +kernel
theorem dL_got_87 : decode cL_got 87 = .ok (.iload 9, 2) := by decide +kernel
theorem dL_got_89 : decode cL_got 89 = .ok (.iload 11, 2) := by decide +kernel
theorem dL_got_91 : decode cL_got 91 = .ok (.ishr, 1) := by decide +kernel
theorem dL_got_92 : decode cL_got 92 = .ok (.iconst 1, 1) := by decide +kernel
theorem dL_got_93 : decode cL_got 93 = .ok (.iand, 1) := by decide +kernel
theorem dL_got_94 : decode cL_got 94 = .ok (.iconst 1, 1) := by decide +kernel
theorem dL_got_95 : decode cL_got 95 = .ok (.if_icmp .ne 24, 3) := by decide +kernel
theorem dL_got_98 : decode cL_got 98 = .ok (.aload_n 3, 1) := by decide +kernel
theorem dL_got_99 : decode cL_got 99 = .ok (.iload 7, 2) := by decide +kernel
theorem dL_got_101 : decode cL_got 101 = .ok (.iaload, 1) := by decide +kernel
theorem dL_got_102 : decode cL_got 102 = .ok (.iload 11, 2) := by decide +kernel
theorem dL_got_104 : decode cL_got 104 = .ok (.ishr, 1) := by decide +kernel
theorem dL_got_105 : decode cL_got 105 = .ok (.iconst 1, 1) := by decide +kernel
theorem dL_got_106 : decode cL_got 106 = .ok (.iand, 1) := by decide +kernel
theorem dL_got_107 : decode cL_got 107 = .ok (.ifCond .ne 12, 3) := by decide +kernel
theorem dL_got_110 : decode cL_got 110 = .ok (.iload 12, 2) := by decide +kernel
theorem dL_got_112 : decode cL_got 112 = .ok (.ifCond .ne 7, 3) := by decide +kernel
theorem dL_got_115 : decode cL_got 115 = .ok (.iconst 1, 1) := by decide +kernel
theorem dL_got_116 : decode cL_got 116 = .ok (.goto 4, 3) := by decide +kernel
theorem dL_got_119 : decode cL_got 119 = .ok (.iconst 0, 1) := by decide +kernel
theorem dL_got_120 : decode cL_got 120 = .ok (.istore 13, 2) := by decide +kernel
theorem dL_got_122 : decode cL_got 122 = .ok (.iload 10, 2) := by decide +kernel
theorem dL_got_124 : decode cL_got 124 = .ok (.iload 13, 2) := by decide +kernel
theorem dL_got_126 : decode cL_got 126 = .ok (.ifCond .eq 27, 3) := by decide +kernel
theorem dL_got_129 : decode cL_got 129 = .ok (.iconst 1, 1) := by decide +kernel
theorem dL_got_130 : decode cL_got 130 = .ok (.iload 11, 2) := by decide +kernel
theorem dL_got_132 : decode cL_got 132 = .ok (.ishl, 1) := by decide +kernel
theorem dL_got_133 : decode cL_got 133 = .ok (.aload_n 2, 1) := by decide +kernel
theorem dL_got_134 : decode cL_got 134 = .ok (.iload 11, 2) := by decide +kernel
theorem dL_got_136 : decode cL_got 136 = .ok (.iaload, 1) := by decide +kernel
theorem dL_got_137 : decode cL_got 137 = .ok (.ior, 1) := by decide +kernel
theorem dL_got_138 : decode cL_got 138 = .ok (.aload_n 3, 1) := by decide +kernel
theorem dL_got_139 : decode cL_got 139 = .ok (.iload 6, 2) := by decide +kernel
theorem dL_got_141 : decode cL_got 141 = .ok (.iaload, 1) := by decide +kernel
theorem dL_got_142 : decode cL_got 142 = .ok (.iand, 1) := by decide +kernel
theorem dL_got_143 : decode cL_got 143 = .ok (.aload_n 3, 1) := by decide +kernel
theorem dL_got_144 : decode cL_got 144 = .ok (.iload 7, 2) := by decide +kernel
theorem dL_got_146 : decode cL_got 146 = .ok (.iaload, 1) := by decide +kernel
theorem dL_got_147 : decode cL_got 147 = .ok (.iconst (-1), 1) := by decide +kernel
theorem dL_got_148 : decode cL_got 148 = .ok (.ixor, 1) := by decide +kernel
theorem dL_got_149 : decode cL_got 149 = .ok (.iand, 1) := by decide +kernel
theorem dL_got_150 : decode cL_got 150 = .ok (.goto 4, 3) := by decide +kernel
theorem dL_got_153 : decode cL_got 153 = .ok (.iconst 0, 1) := by decide +kernel
theorem dL_got_154 : decode cL_got 154 = .ok (.ior, 1) := by decide +kernel
theorem dL_got_155 : decode cL_got 155 = .ok (.istore 10, 2) := by decide +kernel
theorem dL_got_157 : decode cL_got 157 = .ok (.iinc 11 1, 3) := by decide +kernel
theorem dL_got_160 : decode cL_got 160 = .ok (.goto (-139), 3) := by decide +kernel
theorem dL_got_163 : decode cL_got 163 = .ok (.aload_n 3, 1) := by decide +kernel
theorem dL_got_164 : decode cL_got 164 = .ok (.iload 7, 2) := by decide +kernel
theorem dL_got_166 : decode cL_got 166 = .ok (.dup2, 1) := by decide +kernel
theorem dL_got_167 : decode cL_got 167 = .ok (.iaload, 1) := by decide +kernel
theorem dL_got_168 : decode cL_got 168 = .ok (.iload 10, 2) := by decide +kernel
theorem dL_got_170 : decode cL_got 170 = .ok (.ior, 1) := by decide +kernel
theorem dL_got_171 : decode cL_got 171 = .ok (.iastore, 1) := by decide +kernel
theorem dL_got_172 : decode cL_got 172 = .ok (.aload_n 3, 1) := by decide +kernel
theorem dL_got_173 : decode cL_got 173 = .ok (.bipush 8, 2) := by decide +kernel
theorem dL_got_175 : decode cL_got 175 = .ok (.iload 7, 2) := by decide +kernel
theorem dL_got_177 : decode cL_got 177 = .ok (.iadd, 1) := by decide +kernel
theorem dL_got_178 : decode cL_got 178 = .ok (.dup2, 1) := by decide +kernel
theorem dL_got_179 : decode cL_got 179 = .ok (.iaload, 1) := by decide +kernel
theorem dL_got_180 : decode cL_got 180 = .ok (.iload 10, 2) := by decide +kernel
theorem dL_got_182 : decode cL_got 182 = .ok (.ifCond .ne 7, 3) := by decide +kernel
theorem dL_got_185 : decode cL_got 185 = .ok (.iconst 0, 1) := by decide +kernel
theorem dL_got_186 : decode cL_got 186 = .ok (.goto 4, 3) := by decide +kernel
theorem dL_got_189 : decode cL_got 189 = .ok (.iconst 1, 1) := by decide +kernel
theorem dL_got_190 : decode cL_got 190 = .ok (.iadd, 1) := by decide +kernel
theorem dL_got_191 : decode cL_got 191 = .ok (.iastore, 1) := by decide +kernel
theorem dL_got_192 : decode cL_got 192 = .ok (.aload 4, 2) := by decide +kernel
theorem dL_got_194 : decode cL_got 194 = .ok (.iconst 4, 1) := by decide +kernel
theorem dL_got_195 : decode cL_got 195 = .ok (.iload 7, 2) := by decide +kernel
theorem dL_got_197 : decode cL_got 197 = .ok (.imul, 1) := by decide +kernel
theorem dL_got_198 : decode cL_got 198 = .ok (.iload 8, 2) := by decide +kernel
theorem dL_got_200 : decode cL_got 200 = .ok (.iadd, 1) := by decide +kernel
theorem dL_got_201 : decode cL_got 201 = .ok (.iload 10, 2) := by decide +kernel
theorem dL_got_203 : decode cL_got 203 = .ok (.ifCond .ne 16, 3) := by decide +kernel
theorem dL_got_206 : decode cL_got 206 = .ok (.aload 4, 2) := by decide +kernel
theorem dL_got_208 : decode cL_got 208 = .ok (.iconst 4, 1) := by decide +kernel
theorem dL_got_209 : decode cL_got 209 = .ok (.iload 7, 2) := by decide +kernel
theorem dL_got_211 : decode cL_got 211 = .ok (.imul, 1) := by decide +kernel
theorem dL_got_212 : decode cL_got 212 = .ok (.iload 8, 2) := by decide +kernel
theorem dL_got_214 : decode cL_got 214 = .ok (.iadd, 1) := by decide +kernel
theorem dL_got_215 : decode cL_got 215 = .ok (.iaload, 1) := by decide +kernel
theorem dL_got_216 : decode cL_got 216 = .ok (.goto 10, 3) := by decide +kernel
theorem dL_got_219 : decode cL_got 219 = .ok (.aload_n 3, 1) := by decide +kernel
theorem dL_got_220 : decode cL_got 220 = .ok (.bipush 8, 2) := by decide +kernel
theorem dL_got_222 : decode cL_got 222 = .ok (.iload 7, 2) := by decide +kernel
theorem dL_got_224 : decode cL_got 224 = .ok (.iadd, 1) := by decide +kernel
theorem dL_got_225 : decode cL_got 225 = .ok (.iaload, 1) := by decide +kernel
theorem dL_got_226 : decode cL_got 226 = .ok (.iastore, 1) := by decide +kernel
theorem dL_got_227 : decode cL_got 227 = .ok (.aload_n 0, 1) := by decide +kernel
theorem dL_got_228 : decode cL_got 228 = .ok (.aload_n 1, 1) := by decide +kernel
theorem dL_got_229 : decode cL_got 229 = .ok (.aload_n 2, 1) := by decide +kernel
theorem dL_got_230 : decode cL_got 230 = .ok (.aload_n 3, 1) := by decide +kernel
theorem dL_got_231 : decode cL_got 231 = .ok (.aload 5, 2) := by decide +kernel
theorem dL_got_233 : decode cL_got 233 = .ok (.iload 7, 2) := by decide +kernel
theorem dL_got_235 : decode cL_got 235 = .ok (.invokestatic 31, 3) := by decide +kernel
theorem dL_got_238 : decode cL_got 238 = .ok (.ifCond .ge 7, 3) := by decide +kernel
theorem dL_got_241 : decode cL_got 241 = .ok (.iconst (-1), 1) := by decide +kernel
theorem dL_got_242 : decode cL_got 242 = .ok (.goto 8, 3) := by decide +kernel
theorem dL_got_245 : decode cL_got 245 = .ok (.iload 10, 2) := by decide +kernel
theorem dL_got_247 : decode cL_got 247 = .ok (.invokestatic 23, 3) := by decide +kernel
theorem dL_got_250 : decode cL_got 250 = .ok (.ireturn, 1) := by decide +kernel
set_option maxRecDepth 20000 in
theorem ggL_replicated_L_start : GoodIn wsL_replicated wsL_start := goodIn_r _ [4] (by decide +kernel) (by decide +kernel)
set_option maxRecDepth 20000 in
theorem gL_replicated_L_start : GoodIn wsL_replicated (va_wsS RL 35 yL_start wsL_start) := goodIn_app (goodIn_of _ (by decide +kernel)) ggL_replicated_L_start
set_option maxRecDepth 20000 in
theorem ggL_replicated_L_got : GoodIn wsL_replicated wsL_got := goodIn_r _ [7, 8, 9, 3, 10, 11, 12, 13, 14, 15, 16, 17, 18, 19] (by decide +kernel) (by decide +kernel)
set_option maxRecDepth 20000 in
theorem gL_replicated_L_got : GoodIn wsL_replicated (va_wsS RL 39 yL_got wsL_got) := goodIn_app (goodIn_of _ (by decide +kernel)) ggL_replicated_L_got
theorem dL_replicated_0 : decode cL_replicated 0 = .ok (.aload 5, 2) := by decide +kernel
theorem dL_replicated_2 : decode cL_replicated 2 = .ok (.iload 7, 2) := by decide +kernel
theorem dL_replicated_4 : decode cL_replicated 4 = .ok (.iload 8, 2) := by decide +kernel
theorem dL_replicated_6 : decode cL_replicated 6 = .ok (.invokestatic 35, 3) := by decide +kernel
theorem dL_replicated_9 : decode cL_replicated 9 = .ok (.istore 10, 2) := by decide +kernel
theorem dL_replicated_11 : decode cL_replicated 11 = .ok (.iconst 0, 1) := by decide +kernel
theorem dL_replicated_12 : decode cL_replicated 12 = .ok (.istore 11, 2) := by decide +kernel
theorem dL_replicated_14 : decode cL_replicated 14 = .ok (.iconst 0, 1) := by decide +kernel
theorem dL_replicated_15 : decode cL_replicated 15 = .ok (.istore 12, 2) := by decide +kernel
theorem dL_replicated_17 : decode cL_replicated 17 = .ok (.iload 10, 2) := by decide +kernel
theorem dL_replicated_19 : decode cL_replicated 19 = .ok (.iconst 1, 1) := by decide +kernel
theorem dL_replicated_20 : decode cL_replicated 20 = .ok (.iadd, 1) := by decide +kernel
theorem dL_replicated_21 : decode cL_replicated 21 = .ok (.istore 13, 2) := by decide +kernel
theorem dL_replicated_23 : decode cL_replicated 23 = .ok (.iload 13, 2) := by decide +kernel
theorem dL_replicated_25 : decode cL_replicated 25 = .ok (.aload_n 3, 1) := by decide +kernel
theorem dL_replicated_26 : decode cL_replicated 26 = .ok (.bipush 8, 2) := by decide +kernel
theorem dL_replicated_28 : decode cL_replicated 28 = .ok (.iload 7, 2) := by decide +kernel
theorem dL_replicated_30 : decode cL_replicated 30 = .ok (.iadd, 1) := by decide +kernel
theorem dL_replicated_31 : decode cL_replicated 31 = .ok (.iaload, 1) := by decide +kernel
theorem dL_replicated_32 : decode cL_replicated 32 = .ok (.if_icmp .gt 75, 3) := by decide +kernel
theorem dL_replicated_35 : decode cL_replicated 35 = .ok (.iload 12, 2) := by decide +kernel
theorem dL_replicated_37 : decode cL_replicated 37 = .ok (.iload 9, 2) := by decide +kernel
theorem dL_replicated_39 : decode cL_replicated 39 = .ok (.if_icmp .ge 68, 3) := by decide +kernel
theorem dL_replicated_42 : decode cL_replicated 42 = .ok (.iconst 0, 1) := by decide +kernel
theorem dL_replicated_43 : decode cL_replicated 43 = .ok (.istore 14, 2) := by decide +kernel
theorem dL_replicated_45 : decode cL_replicated 45 = .ok (.iload 14, 2) := by decide +kernel
theorem dL_replicated_47 : decode cL_replicated 47 = .ok (.iconst 4, 1) := by decide +kernel
theorem dL_replicated_48 : decode cL_replicated 48 = .ok (.if_icmp .ge 53, 3) := by decide +kernel
theorem dL_replicated_51 : decode cL_replicated 51 = .ok (.aload 4, 2) := by decide +kernel
theorem dL_replicated_53 : decode cL_replicated 53 = .ok (.iconst 4, 1) := by decide +kernel
theorem dL_replicated_54 : decode cL_replicated 54 = .ok (.iload 7, 2) := by decide +kernel
theorem dL_replicated_56 : decode cL_replicated 56 = .ok (.imul, 1) := by decide +kernel
theorem dL_replicated_57 : decode cL_replicated 57 = .ok (.iload 14, 2) := by decide +kernel
theorem dL_replicated_59 : decode cL_replicated 59 = .ok (.iadd, 1) := by decide +kernel
theorem dL_replicated_60 : decode cL_replicated 60 = .ok (.iaload, 1) := by decide +kernel
theorem dL_replicated_61 : decode cL_replicated 61 = .ok (.iload 13, 2) := by decide +kernel
theorem dL_replicated_63 : decode cL_replicated 63 = .ok (.if_icmp .ne 32, 3) := by decide +kernel
theorem dL_replicated_66 : decode cL_replicated 66 = .ok (.iload 11, 2) := by decide +kernel
theorem dL_replicated_68 : decode cL_replicated 68 = .ok (.aload_n 0, 1) := by decide +kernel
theorem dL_replicated_69 : decode cL_replicated 69 = .ok (.aload_n 1, 1) := by decide +kernel
theorem dL_replicated_70 : decode cL_replicated 70 = .ok (.aload_n 2, 1) := by decide +kernel
theorem dL_replicated_71 : decode cL_replicated 71 = .ok (.aload_n 3, 1) := by decide +kernel
theorem dL_replicated_72 : decode cL_replicated 72 = .ok (.aload 4, 2) := by decide +kernel
theorem dL_replicated_74 : decode cL_replicated 74 = .ok (.aload 6, 2) := by decide +kernel
theorem dL_replicated_76 : decode cL_replicated 76 = .ok (.iload 7, 2) := by decide +kernel
theorem dL_replicated_78 : decode cL_replicated 78 = .ok (.iload 8, 2) := by decide +kernel
theorem dL_replicated_80 : decode cL_replicated 80 = .ok (.iload 14, 2) := by decide +kernel
theorem dL_replicated_82 : decode cL_replicated 82 = .ok (.invokestatic 39, 3) := by decide +kernel
theorem dL_replicated_85 : decode cL_replicated 85 = .ok (.iadd, 1) := by decide +kernel
theorem dL_replicated_86 : decode cL_replicated 86 = .ok (.istore 11, 2) := by decide +kernel
theorem dL_replicated_88 : decode cL_replicated 88 = .ok (.iinc 12 1, 3) := by decide +kernel
theorem dL_replicated_91 : decode cL_replicated 91 = .ok (.iload 13, 2) := by decide +kernel
theorem dL_replicated_93 : decode cL_replicated 93 = .ok (.istore 10, 2) := by decide +kernel
theorem dL_replicated_95 : decode cL_replicated 95 = .ok (.iinc 14 1, 3) := by decide +kernel
theorem dL_replicated_98 : decode cL_replicated 98 = .ok (.goto (-53), 3) := by decide +kernel
theorem dL_replicated_101 : decode cL_replicated 101 = .ok (.iinc 13 1, 3) := by decide +kernel
theorem dL_replicated_104 : decode cL_replicated 104 = .ok (.goto (-81), 3) := by decide +kernel
theorem dL_replicated_107 : decode cL_replicated 107 = .ok (.iconst 0, 1) := by decide +kernel
theorem dL_replicated_108 : decode cL_replicated 108 = .ok (.istore 13, 2) := by decide +kernel
theorem dL_replicated_110 : decode cL_replicated 110 = .ok (.iconst 0, 1) := by decide +kernel
theorem dL_replicated_111 : decode cL_replicated 111 = .ok (.istore 14, 2) := by decide +kernel
theorem dL_replicated_113 : decode cL_replicated 113 = .ok (.iload 14, 2) := by decide +kernel
theorem dL_replicated_115 : decode cL_replicated 115 = .ok (.iconst 4, 1) := by decide +kernel
theorem dL_replicated_116 : decode cL_replicated 116 = .ok (.if_icmp .ge 34, 3) := by decide +kernel
theorem dL_replicated_119 : decode cL_replicated 119 = .ok (.iload 13, 2) := by decide +kernel
theorem dL_replicated_121 : decode cL_replicated 121 = .ok (.aload 4, 2) := by decide +kernel
theorem dL_replicated_123 : decode cL_replicated 123 = .ok (.iconst 4, 1) := by decide +kernel
theorem dL_replicated_124 : decode cL_replicated 124 = .ok (.iload 7, 2) := by decide +kernel
theorem dL_replicated_126 : decode cL_replicated 126 = .ok (.imul, 1) := by decide +kernel
theorem dL_replicated_127 : decode cL_replicated 127 = .ok (.iload 14, 2) := by decide +kernel
theorem dL_replicated_129 : decode cL_replicated 129 = .ok (.iadd, 1) := by decide +kernel
theorem dL_replicated_130 : decode cL_replicated 130 = .ok (.iaload, 1) := by decide +kernel
theorem dL_replicated_131 : decode cL_replicated 131 = .ok (.iload 10, 2) := by decide +kernel
theorem dL_replicated_133 : decode cL_replicated 133 = .ok (.if_icmp .le 7, 3) := by decide +kernel
theorem dL_replicated_136 : decode cL_replicated 136 = .ok (.iconst 1, 1) := by decide +kernel
theorem dL_replicated_137 : decode cL_replicated 137 = .ok (.goto 4, 3) := by decide +kernel
theorem dL_replicated_140 : decode cL_replicated 140 = .ok (.iconst 0, 1) := by decide +kernel
theorem dL_replicated_141 : decode cL_replicated 141 = .ok (.iadd, 1) := by decide +kernel
theorem dL_replicated_142 : decode cL_replicated 142 = .ok (.istore 13, 2) := by decide +kernel
theorem dL_replicated_144 : decode cL_replicated 144 = .ok (.iinc 14 1, 3) := by decide +kernel
theorem dL_replicated_147 : decode cL_replicated 147 = .ok (.goto (-34), 3) := by decide +kernel
theorem dL_replicated_150 : decode cL_replicated 150 = .ok (.iload 13, 2) := by decide +kernel
theorem dL_replicated_152 : decode cL_replicated 152 = .ok (.ifCond .ne 13, 3) := by decide +kernel
theorem dL_replicated_155 : decode cL_replicated 155 = .ok (.aload_n 3, 1) := by decide +kernel
theorem dL_replicated_156 : decode cL_replicated 156 = .ok (.bipush 8, 2) := by decide +kernel
theorem dL_replicated_158 : decode cL_replicated 158 = .ok (.iload 7, 2) := by decide +kernel
theorem dL_replicated_160 : decode cL_replicated 160 = .ok (.iadd, 1) := by decide +kernel
theorem dL_replicated_161 : decode cL_replicated 161 = .ok (.iaload, 1) := by decide +kernel
theorem dL_replicated_162 : decode cL_replicated 162 = .ok (.goto 5, 3) := by decide +kernel
theorem dL_replicated_165 : decode cL_replicated 165 = .ok (.iload 10, 2) := by decide +kernel
theorem dL_replicated_167 : decode cL_replicated 167 = .ok (.istore 10, 2) := by decide +kernel
theorem dL_replicated_169 : decode cL_replicated 169 = .ok (.aload 5, 2) := by decide +kernel
theorem dL_replicated_171 : decode cL_replicated 171 = .ok (.bipush 9, 2) := by decide +kernel
theorem dL_replicated_173 : decode cL_replicated 173 = .ok (.iload 7, 2) := by decide +kernel
theorem dL_replicated_175 : decode cL_replicated 175 = .ok (.imul, 1) := by decide +kernel
theorem dL_replicated_176 : decode cL_replicated 176 = .ok (.iconst 3, 1) := by decide +kernel
theorem dL_replicated_177 : decode cL_replicated 177 = .ok (.iload 7, 2) := by decide +kernel
theorem dL_replicated_179 : decode cL_replicated 179 = .ok (.imul, 1) := by decide +kernel
theorem dL_replicated_180 : decode cL_replicated 180 = .ok (.iadd, 1) := by decide +kernel
theorem dL_replicated_181 : decode cL_replicated 181 = .ok (.iload 8, 2) := by decide +kernel
theorem dL_replicated_183 : decode cL_replicated 183 = .ok (.iadd, 1) := by decide +kernel
theorem dL_replicated_184 : decode cL_replicated 184 = .ok (.iload 10, 2) := by decide +kernel
theorem dL_replicated_186 : decode cL_replicated 186 = .ok (.iastore, 1) := by decide +kernel
theorem dL_replicated_187 : decode cL_replicated 187 = .ok (.aload 5, 2) := by decide +kernel
theorem dL_replicated_189 : decode cL_replicated 189 = .ok (.bipush 9, 2) := by decide +kernel
theorem dL_replicated_191 : decode cL_replicated 191 = .ok (.iload 8, 2) := by decide +kernel
theorem dL_replicated_193 : decode cL_replicated 193 = .ok (.imul, 1) := by decide +kernel
theorem dL_replicated_194 : decode cL_replicated 194 = .ok (.iconst 3, 1) := by decide +kernel
theorem dL_replicated_195 : decode cL_replicated 195 = .ok (.iload 7, 2) := by decide +kernel
theorem dL_replicated_197 : decode cL_replicated 197 = .ok (.imul, 1) := by decide +kernel
theorem dL_replicated_198 : decode cL_replicated 198 = .ok (.iadd, 1) := by decide +kernel
theorem dL_replicated_199 : decode cL_replicated 199 = .ok (.iload 8, 2) := by decide +kernel
theorem dL_replicated_201 : decode cL_replicated 201 = .ok (.iadd, 1) := by decide +kernel
theorem dL_replicated_202 : decode cL_replicated 202 = .ok (.iload 10, 2) := by decide +kernel
theorem dL_replicated_204 : decode cL_replicated 204 = .ok (.iastore, 1) := by decide +kernel
theorem dL_replicated_205 : decode cL_replicated 205 = .ok (.iload 11, 2) := by decide +kernel
theorem dL_replicated_207 : decode cL_replicated 207 = .ok (.ireturn, 1) := by decide +kernel
set_option maxRecDepth 20000 in
theorem ggL_areStores_X3_revisions : GoodIn wsL_areStores wsX3_revisions := goodIn_r _ [5, 6, 172, 173, 174, 175, 176, 177, 178, 179, 180, 181] (by decide +kernel) (by decide +kernel)
set_option maxRecDepth 20000 in
theorem gL_areStores_X3_revisions : GoodIn wsL_areStores (wsV RL 43 RX3 yX3_revisions wsX3_revisions) := goodIn_app (goodIn_of _ (by decide +kernel)) ggL_areStores_X3_revisions
set_option maxRecDepth 20000 in
theorem ggL_areStores_X3_sequence : GoodIn wsL_areStores wsX3_sequence := goodIn_ca (goodIn_r _ [10, 11, 12, 13, 4, 14, 15, 16, 17, 182, 183, 184, 185, 186, 172, 173, 174] (by decide +kernel) (by decide +kernel)) (goodIn_sub (fun _ h => List.mem_cons_of_mem _ (List.mem_append_left _ (List.mem_append_right _ h))) (by decide +kernel))
set_option maxRecDepth 20000 in
theorem gL_areStores_X3_sequence : GoodIn wsL_areStores (wsV RL 49 RX3 yX3_sequence wsX3_sequence) := goodIn_app (goodIn_of _ (by decide +kernel)) ggL_areStores_X3_sequence
set_option maxRecDepth 20000 in
theorem ggL_areStores_X3_size : GoodIn wsL_areStores wsX3_size := goodIn_ca (goodIn_r _ [21, 6, 11, 12, 13, 4, 14, 15, 16, 17, 22, 23, 24, 25, 26, 27, 182, 183, 184, 185, 186, 172, 173, 174, 175, 176, 177, 178, 179, 180, 181, 187, 188, 189] (by decide +kernel) (by decide +kernel)) (goodIn_sub (fun _ h => List.mem_cons_of_mem _ (List.mem_append_left _ (List.mem_append_right _ h))) (by decide +kernel))
set_option maxRecDepth 20000 in
theorem gL_areStores_X3_size : GoodIn wsL_areStores (wsV RL 52 RX3 yX3_size wsX3_size) := goodIn_app (goodIn_of _ (by decide +kernel)) ggL_areStores_X3_size
set_option maxRecDepth 20000 in
theorem ggL_areStores_L_ones : GoodIn wsL_areStores wsL_ones := goodIn_r _ [31] (by decide +kernel) (by decide +kernel)
set_option maxRecDepth 20000 in
theorem gL_areStores_L_ones : GoodIn wsL_areStores (va_wsS RL 23 yL_ones wsL_ones) := goodIn_app (goodIn_of _ (by decide +kernel)) ggL_areStores_L_ones
set_option maxRecDepth 20000 in
theorem ggL_areStores_L_leaves : GoodIn wsL_areStores wsL_leaves := goodIn_r _ [34] (by decide +kernel) (by decide +kernel)
set_option maxRecDepth 20000 in
theorem gL_areStores_L_leaves : GoodIn wsL_areStores (va_wsS RL 9 yL_leaves wsL_leaves) := goodIn_app (goodIn_of _ (by decide +kernel)) ggL_areStores_L_leaves
set_option maxRecDepth 20000 in
theorem ggL_areStores_L_winner : GoodIn wsL_areStores wsL_winner := goodIn_r _ [37, 32, 33, 30, 34, 38, 39, 40] (by decide +kernel) (by decide +kernel)
set_option maxRecDepth 20000 in
theorem gL_areStores_L_winner : GoodIn wsL_areStores (va_wsS RL 55 yL_winner wsL_winner) := goodIn_app (goodIn_of _ (by decide +kernel)) ggL_areStores_L_winner
set_option maxRecDepth 20000 in
theorem ggL_areStores_X3_isLeaf : GoodIn wsL_areStores wsX3_isLeaf := goodIn_ca (goodIn_r _ [44, 11, 12, 13, 4, 14, 15, 16, 17, 45, 46, 47, 48, 6, 49, 50, 51, 25, 52, 27, 53, 54, 55, 56, 57, 182, 183, 184, 185, 186, 172, 173, 174, 175, 176, 177, 178, 179, 180, 181, 187, 188, 189] (by decide +kernel) (by decide +kernel)) (goodIn_sub (fun _ h => List.mem_cons_of_mem _ (List.mem_append_left _ (List.mem_append_right _ h))) (by decide +kernel))
set_option maxRecDepth 20000 in
theorem gL_areStores_X3_isLeaf : GoodIn wsL_areStores (wsV RL 59 RX3 yX3_isLeaf wsX3_isLeaf) := goodIn_app (goodIn_of _ (by decide +kernel)) ggL_areStores_X3_isLeaf
set_option maxRecDepth 20000 in
theorem ggL_areStores_X3_has : GoodIn wsL_areStores wsX3_has := goodIn_ca (goodIn_r _ [61, 11, 12, 13, 4, 14, 15, 16, 17, 45, 46, 47, 48, 6, 182, 183, 184, 185, 186, 187, 188, 189, 172, 173, 174, 175, 176, 177, 178, 179, 180, 181] (by decide +kernel) (by decide +kernel)) (goodIn_sub (fun _ h => List.mem_cons_of_mem _ (List.mem_append_left _ (List.mem_append_right _ h))) (by decide +kernel))
set_option maxRecDepth 20000 in
theorem gL_areStores_X3_has : GoodIn wsL_areStores (wsV RL 63 RX3 yX3_has wsX3_has) := goodIn_app (goodIn_of _ (by decide +kernel)) ggL_areStores_X3_has
set_option maxRecDepth 20000 in
theorem ggL_areStores_X3_winner : GoodIn wsL_areStores wsX3_winner := goodIn_ca (goodIn_r _ [65, 11, 12, 13, 4, 14, 15, 16, 17, 66, 67, 68, 69, 182, 183, 184, 185, 186, 187, 188, 189, 172, 173, 174] (by decide +kernel) (by decide +kernel)) (goodIn_sub (fun _ h => List.mem_cons_of_mem _ (List.mem_append_left _ (List.mem_append_right _ h))) (by decide +kernel))
set_option maxRecDepth 20000 in
theorem gL_areStores_X3_winner : GoodIn wsL_areStores (wsV RL 66 RX3 yX3_winner wsX3_winner) := goodIn_app (goodIn_of _ (by decide +kernel)) ggL_areStores_X3_winner
set_option maxRecDepth 20000 in
theorem ggL_areStores_X3_conflicts : GoodIn wsL_areStores wsX3_conflicts := goodIn_ca (goodIn_r _ [73, 6, 74, 75, 76, 77, 11, 12, 13, 4, 14, 15, 16, 17, 66, 67, 68, 69, 78, 79, 80, 25, 81, 82, 50, 51, 52, 27, 53, 54, 55, 56, 57, 182, 183, 184, 185, 186, 172, 173, 174, 175, 176, 177, 178, 179, 180, 181, 187, 188, 189] (by decide +kernel) (by decide +kernel)) (goodIn_sub (fun _ h => List.mem_cons_of_mem _ (List.mem_append_left _ (List.mem_append_right _ h))) (by decide +kernel))
set_option maxRecDepth 20000 in
theorem gL_areStores_X3_conflicts : GoodIn wsL_areStores (wsV RL 69 RX3 yX3_conflicts wsX3_conflicts) := goodIn_app (goodIn_of _ (by decide +kernel)) ggL_areStores_X3_conflicts
set_option maxRecDepth 20000 in
theorem ggL_areStores_X3_count : GoodIn wsL_areStores wsX3_count := goodIn_ca (goodIn_r _ [86, 6, 11, 12, 13, 4, 14, 15, 16, 17, 87, 88, 89, 25, 90, 91, 182, 183, 184, 185, 186, 172, 173, 174, 187, 188, 189, 175, 176, 177, 178, 179, 180, 181] (by decide +kernel) (by decide +kernel)) (goodIn_sub (fun _ h => List.mem_cons_of_mem _ (List.mem_append_left _ (List.mem_append_right _ h))) (by decide +kernel))
set_option maxRecDepth 20000 in
theorem gL_areStores_X3_count : GoodIn wsL_areStores (wsV RL 72 RX3 yX3_count wsX3_count) := goodIn_app (goodIn_of _ (by decide +kernel)) ggL_areStores_X3_count
set_option maxRecDepth 20000 in
theorem ggL_areStores_X3_winnerOfAll : GoodIn wsL_areStores wsX3_winnerOfAll := goodIn_ca (goodIn_r _ [95, 96, 6, 17, 66, 67, 68, 4, 69, 15, 16, 97, 98, 99, 25, 100, 27, 101, 102, 103, 104, 105, 106, 107, 108, 109, 110, 111, 112, 57, 113, 114, 76, 115, 116, 117, 118, 119, 82, 50, 51, 52, 53, 54, 55, 56, 120, 121, 122, 123, 91, 124, 125, 126, 127, 128, 129, 130, 131, 172, 173, 174, 182, 183, 184, 185, 186, 187, 188, 189, 175, 176, 177, 178, 179, 180, 181] (by decide +kernel) (by decide +kernel)) (goodIn_sub (fun _ h => List.mem_cons_of_mem _ (List.mem_append_left _ (List.mem_append_right _ h))) (by decide +kernel))
set_option maxRecDepth 20000 in
theorem gL_areStores_X3_winnerOfAll : GoodIn wsL_areStores (wsV RL 76 RX3 yX3_winnerOfAll wsX3_winnerOfAll) := goodIn_app (goodIn_of _ (by decide +kernel)) ggL_areStores_X3_winnerOfAll
set_option maxRecDepth 20000 in
theorem ggL_areStores_X3_viewAt : GoodIn wsL_areStores wsX3_viewAt := goodIn_ca (goodIn_r _ [135, 15, 16, 6, 11, 12, 13, 4, 14, 17, 87, 88, 89, 25, 90, 91, 136, 137, 138, 139, 140, 182, 183, 184, 185, 186, 172, 173, 174, 187, 188, 189, 175, 176, 177, 178, 179, 180, 181] (by decide +kernel) (by decide +kernel)) (goodIn_sub (fun _ h => List.mem_cons_of_mem _ (List.mem_append_left _ (List.mem_append_right _ h))) (by decide +kernel))
set_option maxRecDepth 20000 in
theorem gL_areStores_X3_viewAt : GoodIn wsL_areStores (wsV RL 79 RX3 yX3_viewAt wsX3_viewAt) := goodIn_app (goodIn_of _ (by decide +kernel)) ggL_areStores_X3_viewAt
set_option maxRecDepth 20000 in
theorem ggL_areStores_L_start : GoodIn wsL_areStores wsL_start := goodIn_r _ [143] (by decide +kernel) (by decide +kernel)
set_option maxRecDepth 20000 in
theorem gL_areStores_L_start : GoodIn wsL_areStores (va_wsS RL 35 yL_start wsL_start) := goodIn_app (goodIn_of _ (by decide +kernel)) ggL_areStores_L_start
set_option maxRecDepth 20000 in
theorem ggL_areStores_X3_checkpoint : GoodIn wsL_areStores wsX3_checkpoint := goodIn_ca (goodIn_ca (goodIn_r _ [147, 11, 12, 13, 4, 14, 15, 16, 17, 148, 149, 150, 151, 152, 153, 154, 155, 156, 157, 158, 114, 76, 115, 159, 160, 161, 172, 173, 174, 182, 183, 184, 185, 186] (by decide +kernel) (by decide +kernel)) (goodIn_sub (fun _ h => List.mem_cons_of_mem _ (List.mem_append_left _ (List.mem_append_right _ h))) (by decide +kernel))) (goodIn_sub (fun _ h => List.mem_cons_of_mem _ (List.mem_append_right _ h)) (by decide +kernel))
set_option maxRecDepth 20000 in
theorem gL_areStores_X3_checkpoint : GoodIn wsL_areStores (wsV RL 82 RX3 yX3_checkpoint wsX3_checkpoint) := goodIn_app (goodIn_of _ (by decide +kernel)) ggL_areStores_X3_checkpoint
set_option maxRecDepth 20000 in
theorem ggL_areStores_X3_pending : GoodIn wsL_areStores wsX3_pending := goodIn_ca (goodIn_ca (goodIn_r _ [165, 11, 12, 13, 4, 14, 15, 16, 17, 148, 149, 150, 151, 152, 153, 154, 155, 156, 157, 158, 114, 76, 115, 159, 160, 161, 166, 167, 168, 169, 170, 171, 172, 173, 174, 182, 183, 184, 185, 186] (by decide +kernel) (by decide +kernel)) (goodIn_sub (fun _ h => List.mem_cons_of_mem _ (List.mem_append_left _ (List.mem_append_right _ h))) (by decide +kernel))) (goodIn_sub (fun _ h => List.mem_cons_of_mem _ (List.mem_append_right _ h)) (by decide +kernel))
set_option maxRecDepth 20000 in
theorem gL_areStores_X3_pending : GoodIn wsL_areStores (wsV RL 85 RX3 yX3_pending wsX3_pending) := goodIn_app (goodIn_of _ (by decide +kernel)) ggL_areStores_X3_pending
theorem dL_areStores_0 : decode cL_areStores 0 = .ok (.aload_n 0, 1) := by decide +kernel
theorem dL_areStores_1 : decode cL_areStores 1 = .ok (.invokevirtual 43, 3) := by decide +kernel
theorem dL_areStores_4 : decode cL_areStores 4 = .ok (.aload 9, 2) := by decide +kernel
theorem dL_areStores_6 : decode cL_areStores 6 = .ok (.iconst 0, 1) := by decide +kernel
theorem dL_areStores_7 : decode cL_areStores 7 = .ok (.iaload, 1) := by decide +kernel
theorem dL_areStores_8 : decode cL_areStores 8 = .ok (.if_icmp .ne 7, 3) := by decide +kernel
theorem dL_areStores_11 : decode cL_areStores 11 = .ok (.iconst 1, 1) := by decide +kernel
theorem dL_areStores_12 : decode cL_areStores 12 = .ok (.goto 4, 3) := by decide +kernel
theorem dL_areStores_15 : decode cL_areStores 15 = .ok (.iconst 0, 1) := by decide +kernel
theorem dL_areStores_16 : decode cL_areStores 16 = .ok (.istore 10, 2) := by decide +kernel
theorem dL_areStores_18 : decode cL_areStores 18 = .ok (.iconst 0, 1) := by decide +kernel
theorem dL_areStores_19 : decode cL_areStores 19 = .ok (.istore 11, 2) := by decide +kernel
theorem dL_areStores_21 : decode cL_areStores 21 = .ok (.iload 11, 2) := by decide +kernel
theorem dL_areStores_23 : decode cL_areStores 23 = .ok (.iconst 3, 1) := by decide +kernel
theorem dL_areStores_24 : decode cL_areStores 24 = .ok (.if_icmp .ge 616, 3) := by decide +kernel
theorem dL_areStores_27 : decode cL_areStores 27 = .ok (.iload 10, 2) := by decide +kernel
theorem dL_areStores_29 : decode cL_areStores 29 = .ok (.ifCond .eq 611, 3) := by decide +kernel
theorem dL_areStores_32 : decode cL_areStores 32 = .ok (.iconst 0, 1) := by decide +kernel
theorem dL_areStores_33 : decode cL_areStores 33 = .ok (.istore 12, 2) := by decide +kernel
theorem dL_areStores_35 : decode cL_areStores 35 = .ok (.aload_n 0, 1) := by decide +kernel
theorem dL_areStores_36 : decode cL_areStores 36 = .ok (.iload 11, 2) := by decide +kernel
theorem dL_areStores_38 : decode cL_areStores 38 = .ok (.invokevirtual 49, 3) := by decide +kernel
theorem dL_areStores_41 : decode cL_areStores 41 = .ok (.aload 6, 2) := by decide +kernel
theorem dL_areStores_43 : decode cL_areStores 43 = .ok (.bipush 8, 2) := by decide +kernel
theorem dL_areStores_45 : decode cL_areStores 45 = .ok (.iload 11, 2) := by decide +kernel
theorem dL_areStores_47 : decode cL_areStores 47 = .ok (.iadd, 1) := by decide +kernel
theorem dL_areStores_48 : decode cL_areStores 48 = .ok (.iaload, 1) := by decide +kernel
theorem dL_areStores_49 : decode cL_areStores 49 = .ok (.if_icmp .ne 24, 3) := by decide +kernel
theorem dL_areStores_52 : decode cL_areStores 52 = .ok (.aload_n 0, 1) := by decide +kernel
theorem dL_areStores_53 : decode cL_areStores 53 = .ok (.iload 11, 2) := by decide +kernel
theorem dL_areStores_55 : decode cL_areStores 55 = .ok (.invokevirtual 52, 3) := by decide +kernel
theorem dL_areStores_58 : decode cL_areStores 58 = .ok (.aload 6, 2) := by decide +kernel
theorem dL_areStores_60 : decode cL_areStores 60 = .ok (.iload 11, 2) := by decide +kernel
theorem dL_areStores_62 : decode cL_areStores 62 = .ok (.iaload, 1) := by decide +kernel
theorem dL_areStores_63 : decode cL_areStores 63 = .ok (.invokestatic 23, 3) := by decide +kernel
theorem dL_areStores_66 : decode cL_areStores 66 = .ok (.if_icmp .ne 7, 3) := by decide +kernel
theorem dL_areStores_69 : decode cL_areStores 69 = .ok (.iconst 1, 1) := by decide +kernel
theorem dL_areStores_70 : decode cL_areStores 70 = .ok (.goto 4, 3) := by decide +kernel
theorem dL_areStores_73 : decode cL_areStores 73 = .ok (.iconst 0, 1) := by decide +kernel
theorem dL_areStores_74 : decode cL_areStores 74 = .ok (.istore 10, 2) := by decide +kernel
theorem dL_areStores_76 : decode cL_areStores 76 = .ok (.iconst 0, 1) := by decide +kernel
theorem dL_areStores_77 : decode cL_areStores 77 = .ok (.istore 13, 2) := by decide +kernel
theorem dL_areStores_79 : decode cL_areStores 79 = .ok (.iload 13, 2) := by decide +kernel
theorem dL_areStores_81 : decode cL_areStores 81 = .ok (.iconst 4, 1) := by decide +kernel
theorem dL_areStores_82 : decode cL_areStores 82 = .ok (.if_icmp .ge 329, 3) := by decide +kernel
theorem dL_areStores_85 : decode cL_areStores 85 = .ok (.iload 10, 2) := by decide +kernel
theorem dL_areStores_87 : decode cL_areStores 87 = .ok (.ifCond .eq 324, 3) := by decide +kernel
theorem dL_areStores_90 : decode cL_areStores 90 = .ok (.aload_n 1, 1) := by decide +kernel
theorem dL_areStores_91 : decode cL_areStores 91 = .ok (.aload 5, 2) := by decide +kernel
theorem dL_areStores_93 : decode cL_areStores 93 = .ok (.aload 9, 2) := by decide +kernel
theorem dL_areStores_95 : decode cL_areStores 95 = .ok (.aload 6, 2) := by decide +kernel
theorem dL_areStores_97 : decode cL_areStores 97 = .ok (.iload 11, 2) := by decide +kernel
theorem dL_areStores_99 : decode cL_areStores 99 = .ok (.iaload, 1) := by decide +kernel
theorem dL_areStores_100 : decode cL_areStores 100 = .ok (.iload 13, 2) := by decide +kernel
theorem dL_areStores_102 : decode cL_areStores 102 = .ok (.invokestatic 9, 3) := by decide +kernel
theorem dL_areStores_105 : decode cL_areStores 105 = .ok (.istore 14, 2) := by decide +kernel
theorem dL_areStores_107 : decode cL_areStores 107 = .ok (.aload_n 1, 1) := by decide +kernel
theorem dL_areStores_108 : decode cL_areStores 108 = .ok (.aload_n 2, 1) := by decide +kernel
theorem dL_areStores_109 : decode cL_areStores 109 = .ok (.aload_n 3, 1) := by decide +kernel
theorem dL_areStores_110 : decode cL_areStores 110 = .ok (.aload 4, 2) := by decide +kernel
theorem dL_areStores_112 : decode cL_areStores 112 = .ok (.aload 5, 2) := by decide +kernel
theorem dL_areStores_114 : decode cL_areStores 114 = .ok (.aload 9, 2) := by decide +kernel
theorem dL_areStores_116 : decode cL_areStores 116 = .ok (.aload 6, 2) := by decide +kernel
theorem dL_areStores_118 : decode cL_areStores 118 = .ok (.iload 11, 2) := by decide +kernel
theorem dL_areStores_120 : decode cL_areStores 120 = .ok (.iaload, 1) := by decide +kernel
theorem dL_areStores_121 : decode cL_areStores 121 = .ok (.iload 13, 2) := by decide +kernel
theorem dL_areStores_123 : decode cL_areStores 123 = .ok (.invokestatic 55, 3) := by decide +kernel
theorem dL_areStores_126 : decode cL_areStores 126 = .ok (.istore 15, 2) := by decide +kernel
theorem dL_areStores_128 : decode cL_areStores 128 = .ok (.iconst 0, 1) := by decide +kernel
theorem dL_areStores_129 : decode cL_areStores 129 = .ok (.istore 16, 2) := by decide +kernel
theorem dL_areStores_131 : decode cL_areStores 131 = .ok (.iconst 0, 1) := by decide +kernel
theorem dL_areStores_132 : decode cL_areStores 132 = .ok (.istore 17, 2) := by decide +kernel
theorem dL_areStores_134 : decode cL_areStores 134 = .ok (.iload 17, 2) := by decide +kernel
theorem dL_areStores_136 : decode cL_areStores 136 = .ok (.aload 9, 2) := by decide +kernel
theorem dL_areStores_138 : decode cL_areStores 138 = .ok (.iconst 0, 1) := by decide +kernel
theorem dL_areStores_139 : decode cL_areStores 139 = .ok (.iaload, 1) := by decide +kernel
theorem dL_areStores_140 : decode cL_areStores 140 = .ok (.if_icmp .ge 115, 3) := by decide +kernel
theorem dL_areStores_143 : decode cL_areStores 143 = .ok (.iload 10, 2) := by decide +kernel
theorem dL_areStores_145 : decode cL_areStores 145 = .ok (.ifCond .eq 110, 3) := by decide +kernel
theorem dL_areStores_148 : decode cL_areStores 148 = .ok (.iload 16, 2) := by decide +kernel
theorem dL_areStores_150 : decode cL_areStores 150 = .ok (.iload 14, 2) := by decide +kernel
theorem dL_areStores_152 : decode cL_areStores 152 = .ok (.iload 17, 2) := by decide +kernel
theorem dL_areStores_154 : decode cL_areStores 154 = .ok (.ishr, 1) := by decide +kernel
theorem dL_areStores_155 : decode cL_areStores 155 = .ok (.iconst 1, 1) := by decide +kernel
theorem dL_areStores_156 : decode cL_areStores 156 = .ok (.iand, 1) := by decide +kernel
theorem dL_areStores_157 : decode cL_areStores 157 = .ok (.iconst 1, 1) := by decide +kernel
theorem dL_areStores_158 : decode cL_areStores 158 = .ok (.if_icmp .ne 14, 3) := by decide +kernel
theorem dL_areStores_161 : decode cL_areStores 161 = .ok (.aload_n 2, 1) := by decide +kernel
theorem dL_areStores_162 : decode cL_areStores 162 = .ok (.iload 17, 2) := by decide +kernel
theorem dL_areStores_164 : decode cL_areStores 164 = .ok (.iaload, 1) := by decide +kernel
theorem dL_areStores_165 : decode cL_areStores 165 = .ok (.ifCond .lt 7, 3) := by decide +kernel
theorem dL_areStores_168 : decode cL_areStores 168 = .ok (.iconst 1, 1) := by decide +kernel
theorem dL_areStores_169 : decode cL_areStores 169 = .ok (.goto 4, 3) := by decide +kernel
theorem dL_areStores_172 : decode cL_areStores 172 = .ok (.iconst 0, 1) := by decide +kernel
theorem dL_areStores_173 : decode cL_areStores 173 = .ok (.iadd, 1) := by decide +kernel
theorem dL_areStores_174 : decode cL_areStores 174 = .ok (.istore 16, 2) := by decide +kernel
theorem dL_areStores_176 : decode cL_areStores 176 = .ok (.aload_n 1, 1) := by decide +kernel
theorem dL_areStores_177 : decode cL_areStores 177 = .ok (.iload 17, 2) := by decide +kernel
theorem dL_areStores_179 : decode cL_areStores 179 = .ok (.iaload, 1) := by decide +kernel
theorem dL_areStores_180 : decode cL_areStores 180 = .ok (.iload 13, 2) := by decide +kernel
theorem dL_areStores_182 : decode cL_areStores 182 = .ok (.if_icmp .ne 60, 3) := by decide +kernel
theorem dL_areStores_185 : decode cL_areStores 185 = .ok (.aload_n 0, 1) := by decide +kernel
theorem dL_areStores_186 : decode cL_areStores 186 = .ok (.iload 11, 2) := by decide +kernel
theorem dL_areStores_188 : decode cL_areStores 188 = .ok (.iload 17, 2) := by decide +kernel
theorem dL_areStores_190 : decode cL_areStores 190 = .ok (.invokevirtual 59, 3) := by decide +kernel
theorem dL_areStores_193 : decode cL_areStores 193 = .ok (.iload 14, 2) := by decide +kernel
theorem dL_areStores_195 : decode cL_areStores 195 = .ok (.iload 17, 2) := by decide +kernel
theorem dL_areStores_197 : decode cL_areStores 197 = .ok (.ishr, 1) := by decide +kernel
theorem dL_areStores_198 : decode cL_areStores 198 = .ok (.iconst 1, 1) := by decide +kernel
theorem dL_areStores_199 : decode cL_areStores 199 = .ok (.iand, 1) := by decide +kernel
theorem dL_areStores_200 : decode cL_areStores 200 = .ok (.iconst 1, 1) := by decide +kernel
theorem dL_areStores_201 : decode cL_areStores 201 = .ok (.if_icmp .ne 7, 3) := by decide +kernel
theorem dL_areStores_204 : decode cL_areStores 204 = .ok (.iconst 1, 1) := by decide +kernel
theorem dL_areStores_205 : decode cL_areStores 205 = .ok (.goto 4, 3) := by decide +kernel
theorem dL_areStores_208 : decode cL_areStores 208 = .ok (.iconst 0, 1) := by decide +kernel
theorem dL_areStores_209 : decode cL_areStores 209 = .ok (.if_icmp .ne 37, 3) := by decide +kernel
theorem dL_areStores_212 : decode cL_areStores 212 = .ok (.aload_n 0, 1) := by decide +kernel
theorem dL_areStores_213 : decode cL_areStores 213 = .ok (.iload 11, 2) := by decide +kernel
theorem dL_areStores_215 : decode cL_areStores 215 = .ok (.iload 17, 2) := by decide +kernel
theorem dL_areStores_217 : decode cL_areStores 217 = .ok (.invokevirtual 63, 3) := by decide +kernel
theorem dL_areStores_220 : decode cL_areStores 220 = .ok (.aload 6, 2) := by decide +kernel
theorem dL_areStores_222 : decode cL_areStores 222 = .ok (.iload 11, 2) := by decide +kernel
theorem dL_areStores_224 : decode cL_areStores 224 = .ok (.iaload, 1) := by decide +kernel
theorem dL_areStores_225 : decode cL_areStores 225 = .ok (.iload 17, 2) := by decide +kernel
theorem dL_areStores_227 : decode cL_areStores 227 = .ok (.ishr, 1) := by decide +kernel
theorem dL_areStores_228 : decode cL_areStores 228 = .ok (.iconst 1, 1) := by decide +kernel
theorem dL_areStores_229 : decode cL_areStores 229 = .ok (.iand, 1) := by decide +kernel
theorem dL_areStores_230 : decode cL_areStores 230 = .ok (.iconst 1, 1) := by decide +kernel
theorem dL_areStores_231 : decode cL_areStores 231 = .ok (.if_icmp .ne 7, 3) := by decide +kernel
theorem dL_areStores_234 : decode cL_areStores 234 = .ok (.iconst 1, 1) := by decide +kernel
theorem dL_areStores_235 : decode cL_areStores 235 = .ok (.goto 4, 3) := by decide +kernel
theorem dL_areStores_238 : decode cL_areStores 238 = .ok (.iconst 0, 1) := by decide +kernel
theorem dL_areStores_239 : decode cL_areStores 239 = .ok (.if_icmp .ne 7, 3) := by decide +kernel
theorem dL_areStores_242 : decode cL_areStores 242 = .ok (.iconst 1, 1) := by decide +kernel
theorem dL_areStores_243 : decode cL_areStores 243 = .ok (.goto 4, 3) := by decide +kernel
theorem dL_areStores_246 : decode cL_areStores 246 = .ok (.iconst 0, 1) := by decide +kernel
theorem dL_areStores_247 : decode cL_areStores 247 = .ok (.istore 10, 2) := by decide +kernel
theorem dL_areStores_249 : decode cL_areStores 249 = .ok (.iinc 17 1, 3) := by decide +kernel
theorem dL_areStores_252 : decode cL_areStores 252 = .ok (.goto (-118), 3) := by decide +kernel
theorem dL_areStores_255 : decode cL_areStores 255 = .ok (.iload 12, 2) := by decide +kernel
theorem dL_areStores_257 : decode cL_areStores 257 = .ok (.iload 15, 2) := by decide +kernel
theorem dL_areStores_259 : decode cL_areStores 259 = .ok (.ifCond .lt 14, 3) := by decide +kernel
theorem dL_areStores_262 : decode cL_areStores 262 = .ok (.aload_n 2, 1) := by decide +kernel
theorem dL_areStores_263 : decode cL_areStores 263 = .ok (.iload 15, 2) := by decide +kernel
theorem dL_areStores_265 : decode cL_areStores 265 = .ok (.iaload, 1) := by decide +kernel
theorem dL_areStores_266 : decode cL_areStores 266 = .ok (.ifCond .lt 7, 3) := by decide +kernel
theorem dL_areStores_269 : decode cL_areStores 269 = .ok (.iconst 1, 1) := by decide +kernel
theorem dL_areStores_270 : decode cL_areStores 270 = .ok (.goto 4, 3) := by decide +kernel
theorem dL_areStores_273 : decode cL_areStores 273 = .ok (.iconst 0, 1) := by decide +kernel
theorem dL_areStores_274 : decode cL_areStores 274 = .ok (.iadd, 1) := by decide +kernel
theorem dL_areStores_275 : decode cL_areStores 275 = .ok (.istore 12, 2) := by decide +kernel
theorem dL_areStores_277 : decode cL_areStores 277 = .ok (.iload 10, 2) := by decide +kernel
theorem dL_areStores_279 : decode cL_areStores 279 = .ok (.ifCond .eq 44, 3) := by decide +kernel
theorem dL_areStores_282 : decode cL_areStores 282 = .ok (.aload_n 0, 1) := by decide +kernel
theorem dL_areStores_283 : decode cL_areStores 283 = .ok (.iload 11, 2) := by decide +kernel
theorem dL_areStores_285 : decode cL_areStores 285 = .ok (.iload 13, 2) := by decide +kernel
theorem dL_areStores_287 : decode cL_areStores 287 = .ok (.invokevirtual 66, 3) := by decide +kernel
theorem dL_areStores_290 : decode cL_areStores 290 = .ok (.iload 15, 2) := by decide +kernel
theorem dL_areStores_292 : decode cL_areStores 292 = .ok (.if_icmp .ne 31, 3) := by decide +kernel
theorem dL_areStores_295 : decode cL_areStores 295 = .ok (.aload_n 0, 1) := by decide +kernel
theorem dL_areStores_296 : decode cL_areStores 296 = .ok (.iload 11, 2) := by decide +kernel
theorem dL_areStores_298 : decode cL_areStores 298 = .ok (.iload 13, 2) := by decide +kernel
theorem dL_areStores_300 : decode cL_areStores 300 = .ok (.invokevirtual 69, 3) := by decide +kernel
theorem dL_areStores_303 : decode cL_areStores 303 = .ok (.iload 16, 2) := by decide +kernel
theorem dL_areStores_305 : decode cL_areStores 305 = .ok (.ifCond .ne 7, 3) := by decide +kernel
theorem dL_areStores_308 : decode cL_areStores 308 = .ok (.iconst 0, 1) := by decide +kernel
theorem dL_areStores_309 : decode cL_areStores 309 = .ok (.goto 7, 3) := by decide +kernel
theorem dL_areStores_312 : decode cL_areStores 312 = .ok (.iload 16, 2) := by decide +kernel
theorem dL_areStores_314 : decode cL_areStores 314 = .ok (.iconst 1, 1) := by decide +kernel
theorem dL_areStores_315 : decode cL_areStores 315 = .ok (.isub, 1) := by decide +kernel
theorem dL_areStores_316 : decode cL_areStores 316 = .ok (.if_icmp .ne 7, 3) := by decide +kernel
theorem dL_areStores_319 : decode cL_areStores 319 = .ok (.iconst 1, 1) := by decide +kernel
theorem dL_areStores_320 : decode cL_areStores 320 = .ok (.goto 4, 3) := by decide +kernel
theorem dL_areStores_323 : decode cL_areStores 323 = .ok (.iconst 0, 1) := by decide +kernel
theorem dL_areStores_324 : decode cL_areStores 324 = .ok (.istore 10, 2) := by decide +kernel
theorem dL_areStores_326 : decode cL_areStores 326 = .ok (.iload 10, 2) := by decide +kernel
theorem dL_areStores_328 : decode cL_areStores 328 = .ok (.ifCond .eq 74, 3) := by decide +kernel
theorem dL_areStores_331 : decode cL_areStores 331 = .ok (.iload 15, 2) := by decide +kernel
theorem dL_areStores_333 : decode cL_areStores 333 = .ok (.ifCond .lt 28, 3) := by decide +kernel
theorem dL_areStores_336 : decode cL_areStores 336 = .ok (.aload_n 2, 1) := by decide +kernel
theorem dL_areStores_337 : decode cL_areStores 337 = .ok (.iload 15, 2) := by decide +kernel
theorem dL_areStores_339 : decode cL_areStores 339 = .ok (.iaload, 1) := by decide +kernel
theorem dL_areStores_340 : decode cL_areStores 340 = .ok (.ifCond .lt 21, 3) := by decide +kernel
theorem dL_areStores_343 : decode cL_areStores 343 = .ok (.aload_n 0, 1) := by decide +kernel
theorem dL_areStores_344 : decode cL_areStores 344 = .ok (.iload 11, 2) := by decide +kernel
theorem dL_areStores_346 : decode cL_areStores 346 = .ok (.aload_n 2, 1) := by decide +kernel
theorem dL_areStores_347 : decode cL_areStores 347 = .ok (.iload 15, 2) := by decide +kernel
theorem dL_areStores_349 : decode cL_areStores 349 = .ok (.iaload, 1) := by decide +kernel
theorem dL_areStores_350 : decode cL_areStores 350 = .ok (.aload_n 2, 1) := by decide +kernel
theorem dL_areStores_351 : decode cL_areStores 351 = .ok (.iload 15, 2) := by decide +kernel
theorem dL_areStores_353 : decode cL_areStores 353 = .ok (.iaload, 1) := by decide +kernel
theorem dL_areStores_354 : decode cL_areStores 354 = .ok (.invokevirtual 72, 3) := by decide +kernel
theorem dL_areStores_357 : decode cL_areStores 357 = .ok (.iconst 1, 1) := by decide +kernel
theorem dL_areStores_358 : decode cL_areStores 358 = .ok (.if_icmp .lt 44, 3) := by decide +kernel
theorem dL_areStores_361 : decode cL_areStores 361 = .ok (.aload_n 0, 1) := by decide +kernel
theorem dL_areStores_362 : decode cL_areStores 362 = .ok (.iload 13, 2) := by decide +kernel
theorem dL_areStores_364 : decode cL_areStores 364 = .ok (.invokevirtual 76, 3) := by decide +kernel
theorem dL_areStores_367 : decode cL_areStores 367 = .ok (.aload_n 1, 1) := by decide +kernel
theorem dL_areStores_368 : decode cL_areStores 368 = .ok (.aload_n 2, 1) := by decide +kernel
theorem dL_areStores_369 : decode cL_areStores 369 = .ok (.aload_n 3, 1) := by decide +kernel
theorem dL_areStores_370 : decode cL_areStores 370 = .ok (.aload 4, 2) := by decide +kernel
theorem dL_areStores_372 : decode cL_areStores 372 = .ok (.aload 5, 2) := by decide +kernel
theorem dL_areStores_374 : decode cL_areStores 374 = .ok (.aload 9, 2) := by decide +kernel
theorem dL_areStores_376 : decode cL_areStores 376 = .ok (.aload 6, 2) := by decide +kernel
theorem dL_areStores_378 : decode cL_areStores 378 = .ok (.iconst 0, 1) := by decide +kernel
theorem dL_areStores_379 : decode cL_areStores 379 = .ok (.iaload, 1) := by decide +kernel
theorem dL_areStores_380 : decode cL_areStores 380 = .ok (.aload 6, 2) := by decide +kernel
theorem dL_areStores_382 : decode cL_areStores 382 = .ok (.iconst 1, 1) := by decide +kernel
theorem dL_areStores_383 : decode cL_areStores 383 = .ok (.iaload, 1) := by decide +kernel
theorem dL_areStores_384 : decode cL_areStores 384 = .ok (.ior, 1) := by decide +kernel
theorem dL_areStores_385 : decode cL_areStores 385 = .ok (.aload 6, 2) := by decide +kernel
theorem dL_areStores_387 : decode cL_areStores 387 = .ok (.iconst 2, 1) := by decide +kernel
theorem dL_areStores_388 : decode cL_areStores 388 = .ok (.iaload, 1) := by decide +kernel
theorem dL_areStores_389 : decode cL_areStores 389 = .ok (.ior, 1) := by decide +kernel
theorem dL_areStores_390 : decode cL_areStores 390 = .ok (.iload 13, 2) := by decide +kernel
theorem dL_areStores_392 : decode cL_areStores 392 = .ok (.invokestatic 55, 3) := by decide +kernel
theorem dL_areStores_395 : decode cL_areStores 395 = .ok (.if_icmp .ne 7, 3) := by decide +kernel
theorem dL_areStores_398 : decode cL_areStores 398 = .ok (.iconst 1, 1) := by decide +kernel
theorem dL_areStores_399 : decode cL_areStores 399 = .ok (.goto 4, 3) := by decide +kernel
theorem dL_areStores_402 : decode cL_areStores 402 = .ok (.iconst 0, 1) := by decide +kernel
theorem dL_areStores_403 : decode cL_areStores 403 = .ok (.istore 10, 2) := by decide +kernel
theorem dL_areStores_405 : decode cL_areStores 405 = .ok (.iinc 13 1, 3) := by decide +kernel
theorem dL_areStores_408 : decode cL_areStores 408 = .ok (.goto (-329), 3) := by decide +kernel
theorem dL_areStores_411 : decode cL_areStores 411 = .ok (.iload 10, 2) := by decide +kernel
theorem dL_areStores_413 : decode cL_areStores 413 = .ok (.ifCond .eq 21, 3) := by decide +kernel
theorem dL_areStores_416 : decode cL_areStores 416 = .ok (.aload_n 0, 1) := by decide +kernel
theorem dL_areStores_417 : decode cL_areStores 417 = .ok (.iload 11, 2) := by decide +kernel
theorem dL_areStores_419 : decode cL_areStores 419 = .ok (.iconst 0, 1) := by decide +kernel
theorem dL_areStores_420 : decode cL_areStores 420 = .ok (.bipush 99, 2) := by decide +kernel
theorem dL_areStores_422 : decode cL_areStores 422 = .ok (.invokevirtual 72, 3) := by decide +kernel
theorem dL_areStores_425 : decode cL_areStores 425 = .ok (.iload 12, 2) := by decide +kernel
theorem dL_areStores_427 : decode cL_areStores 427 = .ok (.if_icmp .ne 7, 3) := by decide +kernel
theorem dL_areStores_430 : decode cL_areStores 430 = .ok (.iconst 1, 1) := by decide +kernel
theorem dL_areStores_431 : decode cL_areStores 431 = .ok (.goto 4, 3) := by decide +kernel
theorem dL_areStores_434 : decode cL_areStores 434 = .ok (.iconst 0, 1) := by decide +kernel
theorem dL_areStores_435 : decode cL_areStores 435 = .ok (.istore 10, 2) := by decide +kernel
theorem dL_areStores_437 : decode cL_areStores 437 = .ok (.iconst (-1), 1) := by decide +kernel
theorem dL_areStores_438 : decode cL_areStores 438 = .ok (.istore 13, 2) := by decide +kernel
theorem dL_areStores_440 : decode cL_areStores 440 = .ok (.iconst 0, 1) := by decide +kernel
theorem dL_areStores_441 : decode cL_areStores 441 = .ok (.istore 14, 2) := by decide +kernel
theorem dL_areStores_443 : decode cL_areStores 443 = .ok (.iload 14, 2) := by decide +kernel
theorem dL_areStores_445 : decode cL_areStores 445 = .ok (.iload 12, 2) := by decide +kernel
theorem dL_areStores_447 : decode cL_areStores 447 = .ok (.if_icmp .ge 70, 3) := by decide +kernel
theorem dL_areStores_450 : decode cL_areStores 450 = .ok (.iload 10, 2) := by decide +kernel
theorem dL_areStores_452 : decode cL_areStores 452 = .ok (.ifCond .eq 65, 3) := by decide +kernel
theorem dL_areStores_455 : decode cL_areStores 455 = .ok (.aload_n 0, 1) := by decide +kernel
theorem dL_areStores_456 : decode cL_areStores 456 = .ok (.iload 11, 2) := by decide +kernel
theorem dL_areStores_458 : decode cL_areStores 458 = .ok (.iload 14, 2) := by decide +kernel
theorem dL_areStores_460 : decode cL_areStores 460 = .ok (.invokevirtual 79, 3) := by decide +kernel
theorem dL_areStores_463 : decode cL_areStores 463 = .ok (.istore 15, 2) := by decide +kernel
theorem dL_areStores_465 : decode cL_areStores 465 = .ok (.iconst 4, 1) := by decide +kernel
theorem dL_areStores_466 : decode cL_areStores 466 = .ok (.aload_n 2, 1) := by decide +kernel
theorem dL_areStores_467 : decode cL_areStores 467 = .ok (.aload_n 1, 1) := by decide +kernel
theorem dL_areStores_468 : decode cL_areStores 468 = .ok (.aload_n 2, 1) := by decide +kernel
theorem dL_areStores_469 : decode cL_areStores 469 = .ok (.aload_n 3, 1) := by decide +kernel
theorem dL_areStores_470 : decode cL_areStores 470 = .ok (.aload 4, 2) := by decide +kernel
theorem dL_areStores_472 : decode cL_areStores 472 = .ok (.aload 5, 2) := by decide +kernel
theorem dL_areStores_474 : decode cL_areStores 474 = .ok (.aload 9, 2) := by decide +kernel
theorem dL_areStores_476 : decode cL_areStores 476 = .ok (.aload 6, 2) := by decide +kernel
theorem dL_areStores_478 : decode cL_areStores 478 = .ok (.iload 11, 2) := by decide +kernel
theorem dL_areStores_480 : decode cL_areStores 480 = .ok (.iaload, 1) := by decide +kernel
theorem dL_areStores_481 : decode cL_areStores 481 = .ok (.iload 15, 2) := by decide +kernel
theorem dL_areStores_483 : decode cL_areStores 483 = .ok (.invokestatic 55, 3) := by decide +kernel
theorem dL_areStores_486 : decode cL_areStores 486 = .ok (.iaload, 1) := by decide +kernel
theorem dL_areStores_487 : decode cL_areStores 487 = .ok (.imul, 1) := by decide +kernel
theorem dL_areStores_488 : decode cL_areStores 488 = .ok (.iload 15, 2) := by decide +kernel
theorem dL_areStores_490 : decode cL_areStores 490 = .ok (.iadd, 1) := by decide +kernel
theorem dL_areStores_491 : decode cL_areStores 491 = .ok (.istore 16, 2) := by decide +kernel
theorem dL_areStores_493 : decode cL_areStores 493 = .ok (.iload 16, 2) := by decide +kernel
theorem dL_areStores_495 : decode cL_areStores 495 = .ok (.iload 13, 2) := by decide +kernel
theorem dL_areStores_497 : decode cL_areStores 497 = .ok (.if_icmp .le 7, 3) := by decide +kernel
theorem dL_areStores_500 : decode cL_areStores 500 = .ok (.iconst 1, 1) := by decide +kernel
theorem dL_areStores_501 : decode cL_areStores 501 = .ok (.goto 4, 3) := by decide +kernel
theorem dL_areStores_504 : decode cL_areStores 504 = .ok (.iconst 0, 1) := by decide +kernel
theorem dL_areStores_505 : decode cL_areStores 505 = .ok (.istore 10, 2) := by decide +kernel
theorem dL_areStores_507 : decode cL_areStores 507 = .ok (.iload 16, 2) := by decide +kernel
theorem dL_areStores_509 : decode cL_areStores 509 = .ok (.istore 13, 2) := by decide +kernel
theorem dL_areStores_511 : decode cL_areStores 511 = .ok (.iinc 14 1, 3) := by decide +kernel
theorem dL_areStores_514 : decode cL_areStores 514 = .ok (.goto (-71), 3) := by decide +kernel
theorem dL_areStores_517 : decode cL_areStores 517 = .ok (.iconst 0, 1) := by decide +kernel
theorem dL_areStores_518 : decode cL_areStores 518 = .ok (.istore 14, 2) := by decide +kernel
theorem dL_areStores_520 : decode cL_areStores 520 = .ok (.iload 14, 2) := by decide +kernel
theorem dL_areStores_522 : decode cL_areStores 522 = .ok (.iconst 3, 1) := by decide +kernel
theorem dL_areStores_523 : decode cL_areStores 523 = .ok (.if_icmp .ge 111, 3) := by decide +kernel
theorem dL_areStores_526 : decode cL_areStores 526 = .ok (.iload 10, 2) := by decide +kernel
theorem dL_areStores_528 : decode cL_areStores 528 = .ok (.ifCond .eq 106, 3) := by decide +kernel
theorem dL_areStores_531 : decode cL_areStores 531 = .ok (.iconst 0, 1) := by decide +kernel
theorem dL_areStores_532 : decode cL_areStores 532 = .ok (.istore 15, 2) := by decide +kernel
theorem dL_areStores_534 : decode cL_areStores 534 = .ok (.iconst 0, 1) := by decide +kernel
theorem dL_areStores_535 : decode cL_areStores 535 = .ok (.istore 16, 2) := by decide +kernel
theorem dL_areStores_537 : decode cL_areStores 537 = .ok (.iload 16, 2) := by decide +kernel
theorem dL_areStores_539 : decode cL_areStores 539 = .ok (.iconst 4, 1) := by decide +kernel
theorem dL_areStores_540 : decode cL_areStores 540 = .ok (.if_icmp .ge 41, 3) := by decide +kernel
theorem dL_areStores_543 : decode cL_areStores 543 = .ok (.iload 15, 2) := by decide +kernel
theorem dL_areStores_545 : decode cL_areStores 545 = .ok (.aload 7, 2) := by decide +kernel
theorem dL_areStores_547 : decode cL_areStores 547 = .ok (.iconst 4, 1) := by decide +kernel
theorem dL_areStores_548 : decode cL_areStores 548 = .ok (.iload 11, 2) := by decide +kernel
theorem dL_areStores_550 : decode cL_areStores 550 = .ok (.imul, 1) := by decide +kernel
theorem dL_areStores_551 : decode cL_areStores 551 = .ok (.iload 16, 2) := by decide +kernel
theorem dL_areStores_553 : decode cL_areStores 553 = .ok (.iadd, 1) := by decide +kernel
theorem dL_areStores_554 : decode cL_areStores 554 = .ok (.iaload, 1) := by decide +kernel
theorem dL_areStores_555 : decode cL_areStores 555 = .ok (.aload 8, 2) := by decide +kernel
theorem dL_areStores_557 : decode cL_areStores 557 = .ok (.iload 11, 2) := by decide +kernel
theorem dL_areStores_559 : decode cL_areStores 559 = .ok (.iload 14, 2) := by decide +kernel
theorem dL_areStores_561 : decode cL_areStores 561 = .ok (.invokestatic 35, 3) := by decide +kernel
theorem dL_areStores_564 : decode cL_areStores 564 = .ok (.if_icmp .le 7, 3) := by decide +kernel
theorem dL_areStores_567 : decode cL_areStores 567 = .ok (.iconst 1, 1) := by decide +kernel
theorem dL_areStores_568 : decode cL_areStores 568 = .ok (.goto 4, 3) := by decide +kernel
theorem dL_areStores_571 : decode cL_areStores 571 = .ok (.iconst 0, 1) := by decide +kernel
theorem dL_areStores_572 : decode cL_areStores 572 = .ok (.iadd, 1) := by decide +kernel
theorem dL_areStores_573 : decode cL_areStores 573 = .ok (.istore 15, 2) := by decide +kernel
theorem dL_areStores_575 : decode cL_areStores 575 = .ok (.iinc 16 1, 3) := by decide +kernel
theorem dL_areStores_578 : decode cL_areStores 578 = .ok (.goto (-41), 3) := by decide +kernel
theorem dL_areStores_581 : decode cL_areStores 581 = .ok (.iload 14, 2) := by decide +kernel
theorem dL_areStores_583 : decode cL_areStores 583 = .ok (.iload 11, 2) := by decide +kernel
theorem dL_areStores_585 : decode cL_areStores 585 = .ok (.if_icmp .eq 36, 3) := by decide +kernel
theorem dL_areStores_588 : decode cL_areStores 588 = .ok (.aload_n 0, 1) := by decide +kernel
theorem dL_areStores_589 : decode cL_areStores 589 = .ok (.iload 11, 2) := by decide +kernel
theorem dL_areStores_591 : decode cL_areStores 591 = .ok (.iload 14, 2) := by decide +kernel
theorem dL_areStores_593 : decode cL_areStores 593 = .ok (.invokevirtual 82, 3) := by decide +kernel
theorem dL_areStores_596 : decode cL_areStores 596 = .ok (.aload 8, 2) := by decide +kernel
theorem dL_areStores_598 : decode cL_areStores 598 = .ok (.iload 11, 2) := by decide +kernel
theorem dL_areStores_600 : decode cL_areStores 600 = .ok (.iload 14, 2) := by decide +kernel
theorem dL_areStores_602 : decode cL_areStores 602 = .ok (.invokestatic 35, 3) := by decide +kernel
theorem dL_areStores_605 : decode cL_areStores 605 = .ok (.if_icmp .ne 20, 3) := by decide +kernel
theorem dL_areStores_608 : decode cL_areStores 608 = .ok (.aload_n 0, 1) := by decide +kernel
theorem dL_areStores_609 : decode cL_areStores 609 = .ok (.iload 11, 2) := by decide +kernel
theorem dL_areStores_611 : decode cL_areStores 611 = .ok (.iload 14, 2) := by decide +kernel
theorem dL_areStores_613 : decode cL_areStores 613 = .ok (.invokevirtual 85, 3) := by decide +kernel
theorem dL_areStores_616 : decode cL_areStores 616 = .ok (.iload 15, 2) := by decide +kernel
theorem dL_areStores_618 : decode cL_areStores 618 = .ok (.if_icmp .ne 7, 3) := by decide +kernel
theorem dL_areStores_621 : decode cL_areStores 621 = .ok (.iconst 1, 1) := by decide +kernel
theorem dL_areStores_622 : decode cL_areStores 622 = .ok (.goto 4, 3) := by decide +kernel
theorem dL_areStores_625 : decode cL_areStores 625 = .ok (.iconst 0, 1) := by decide +kernel
theorem dL_areStores_626 : decode cL_areStores 626 = .ok (.istore 10, 2) := by decide +kernel
theorem dL_areStores_628 : decode cL_areStores 628 = .ok (.iinc 14 1, 3) := by decide +kernel
theorem dL_areStores_631 : decode cL_areStores 631 = .ok (.goto (-111), 3) := by decide +kernel
theorem dL_areStores_634 : decode cL_areStores 634 = .ok (.iinc 11 1, 3) := by decide +kernel
theorem dL_areStores_637 : decode cL_areStores 637 = .ok (.goto (-616), 3) := by decide +kernel
theorem dL_areStores_640 : decode cL_areStores 640 = .ok (.iload 10, 2) := by decide +kernel
theorem dL_areStores_642 : decode cL_areStores 642 = .ok (.ireturn, 1) := by decide +kernel
set_option maxRecDepth 20000 in
theorem ggL_areRevisions_X3_documentOf : GoodIn wsL_areRevisions wsX3_documentOf := goodIn_ca (goodIn_r _ [5, 6, 7, 8, 9, 4, 10, 11, 12, 29, 30, 31, 32, 33, 34, 35, 36, 37, 38] (by decide +kernel) (by decide +kernel)) (goodIn_sub (fun _ h => List.mem_cons_of_mem _ (List.mem_append_right _ h)) (by decide +kernel))
set_option maxRecDepth 20000 in
theorem gL_areRevisions_X3_documentOf : GoodIn wsL_areRevisions (wsV RL 88 RX3 yX3_documentOf wsX3_documentOf) := goodIn_app (goodIn_of _ (by decide +kernel)) ggL_areRevisions_X3_documentOf
set_option maxRecDepth 20000 in
theorem ggL_areRevisions_X3_parentOf : GoodIn wsL_areRevisions wsX3_parentOf := goodIn_ca (goodIn_r _ [16, 6, 7, 8, 9, 4, 10, 11, 12, 29, 30, 31, 32, 33, 34, 35, 36, 37, 38] (by decide +kernel) (by decide +kernel)) (goodIn_sub (fun _ h => List.mem_cons_of_mem _ (List.mem_append_right _ h)) (by decide +kernel))
set_option maxRecDepth 20000 in
theorem gL_areRevisions_X3_parentOf : GoodIn wsL_areRevisions (wsV RL 91 RX3 yX3_parentOf wsX3_parentOf) := goodIn_app (goodIn_of _ (by decide +kernel)) ggL_areRevisions_X3_parentOf
set_option maxRecDepth 20000 in
theorem ggL_areRevisions_X3_generation : GoodIn wsL_areRevisions wsX3_generation := goodIn_ca (goodIn_r _ [20, 6, 7, 8, 9, 4, 10, 11, 12, 29, 30, 31, 32, 33, 34, 35, 36, 37, 38] (by decide +kernel) (by decide +kernel)) (goodIn_sub (fun _ h => List.mem_cons_of_mem _ (List.mem_append_right _ h)) (by decide +kernel))
set_option maxRecDepth 20000 in
theorem gL_areRevisions_X3_generation : GoodIn wsL_areRevisions (wsV RL 94 RX3 yX3_generation wsX3_generation) := goodIn_app (goodIn_of _ (by decide +kernel)) ggL_areRevisions_X3_generation
set_option maxRecDepth 20000 in
theorem ggL_areRevisions_X3_sum : GoodIn wsL_areRevisions wsX3_sum := goodIn_ca (goodIn_r _ [24, 6, 7, 8, 9, 4, 10, 11, 12, 29, 30, 31, 32, 33, 34, 35, 36, 37, 38] (by decide +kernel) (by decide +kernel)) (goodIn_sub (fun _ h => List.mem_cons_of_mem _ (List.mem_append_right _ h)) (by decide +kernel))
set_option maxRecDepth 20000 in
theorem gL_areRevisions_X3_sum : GoodIn wsL_areRevisions (wsV RL 97 RX3 yX3_sum wsX3_sum) := goodIn_app (goodIn_of _ (by decide +kernel)) ggL_areRevisions_X3_sum
set_option maxRecDepth 20000 in
theorem ggL_areRevisions_X3_valueOf : GoodIn wsL_areRevisions wsX3_valueOf := goodIn_ca (goodIn_r _ [28, 6, 7, 8, 9, 4, 10, 11, 12, 29, 30, 31, 32, 33, 34, 35, 36, 37, 38] (by decide +kernel) (by decide +kernel)) (goodIn_sub (fun _ h => List.mem_cons_of_mem _ (List.mem_append_right _ h)) (by decide +kernel))
set_option maxRecDepth 20000 in
theorem gL_areRevisions_X3_valueOf : GoodIn wsL_areRevisions (wsV RL 100 RX3 yX3_valueOf wsX3_valueOf) := goodIn_app (goodIn_of _ (by decide +kernel)) ggL_areRevisions_X3_valueOf
theorem dL_areRevisions_0 : decode cL_areRevisions 0 = .ok (.iconst 1, 1) := by decide +kernel
theorem dL_areRevisions_1 : decode cL_areRevisions 1 = .ok (.istore 7, 2) := by decide +kernel
theorem dL_areRevisions_3 : decode cL_areRevisions 3 = .ok (.iconst 0, 1) := by decide +kernel
theorem dL_areRevisions_4 : decode cL_areRevisions 4 = .ok (.istore 8, 2) := by decide +kernel
theorem dL_areRevisions_6 : decode cL_areRevisions 6 = .ok (.iload 8, 2) := by decide +kernel
theorem dL_areRevisions_8 : decode cL_areRevisions 8 = .ok (.aload 6, 2) := by decide +kernel
theorem dL_areRevisions_10 : decode cL_areRevisions 10 = .ok (.iconst 0, 1) := by decide +kernel
theorem dL_areRevisions_11 : decode cL_areRevisions 11 = .ok (.iaload, 1) := by decide +kernel
theorem dL_areRevisions_12 : decode cL_areRevisions 12 = .ok (.if_icmp .ge 88, 3) := by decide +kernel
theorem dL_areRevisions_15 : decode cL_areRevisions 15 = .ok (.iload 7, 2) := by decide +kernel
theorem dL_areRevisions_17 : decode cL_areRevisions 17 = .ok (.ifCond .eq 83, 3) := by decide +kernel
theorem dL_areRevisions_20 : decode cL_areRevisions 20 = .ok (.aload_n 0, 1) := by decide +kernel
theorem dL_areRevisions_21 : decode cL_areRevisions 21 = .ok (.iload 8, 2) := by decide +kernel
theorem dL_areRevisions_23 : decode cL_areRevisions 23 = .ok (.invokevirtual 88, 3) := by decide +kernel
theorem dL_areRevisions_26 : decode cL_areRevisions 26 = .ok (.aload_n 1, 1) := by decide +kernel
theorem dL_areRevisions_27 : decode cL_areRevisions 27 = .ok (.iload 8, 2) := by decide +kernel
theorem dL_areRevisions_29 : decode cL_areRevisions 29 = .ok (.iaload, 1) := by decide +kernel
theorem dL_areRevisions_30 : decode cL_areRevisions 30 = .ok (.if_icmp .ne 61, 3) := by decide +kernel
theorem dL_areRevisions_33 : decode cL_areRevisions 33 = .ok (.aload_n 0, 1) := by decide +kernel
theorem dL_areRevisions_34 : decode cL_areRevisions 34 = .ok (.iload 8, 2) := by decide +kernel
theorem dL_areRevisions_36 : decode cL_areRevisions 36 = .ok (.invokevirtual 91, 3) := by decide +kernel
theorem dL_areRevisions_39 : decode cL_areRevisions 39 = .ok (.aload_n 3, 1) := by decide +kernel
theorem dL_areRevisions_40 : decode cL_areRevisions 40 = .ok (.iload 8, 2) := by decide +kernel
theorem dL_areRevisions_42 : decode cL_areRevisions 42 = .ok (.iaload, 1) := by decide +kernel
theorem dL_areRevisions_43 : decode cL_areRevisions 43 = .ok (.if_icmp .ne 48, 3) := by decide +kernel
theorem dL_areRevisions_46 : decode cL_areRevisions 46 = .ok (.aload_n 0, 1) := by decide +kernel
theorem dL_areRevisions_47 : decode cL_areRevisions 47 = .ok (.iload 8, 2) := by decide +kernel
theorem dL_areRevisions_49 : decode cL_areRevisions 49 = .ok (.invokevirtual 94, 3) := by decide +kernel
theorem dL_areRevisions_52 : decode cL_areRevisions 52 = .ok (.aload 4, 2) := by decide +kernel
theorem dL_areRevisions_54 : decode cL_areRevisions 54 = .ok (.iload 8, 2) := by decide +kernel
theorem dL_areRevisions_56 : decode cL_areRevisions 56 = .ok (.iaload, 1) := by decide +kernel
theorem dL_areRevisions_57 : decode cL_areRevisions 57 = .ok (.if_icmp .ne 34, 3) := by decide +kernel
theorem dL_areRevisions_60 : decode cL_areRevisions 60 = .ok (.aload_n 0, 1) := by decide +kernel
theorem dL_areRevisions_61 : decode cL_areRevisions 61 = .ok (.iload 8, 2) := by decide +kernel
theorem dL_areRevisions_63 : decode cL_areRevisions 63 = .ok (.invokevirtual 97, 3) := by decide +kernel
theorem dL_areRevisions_66 : decode cL_areRevisions 66 = .ok (.aload 5, 2) := by decide +kernel
theorem dL_areRevisions_68 : decode cL_areRevisions 68 = .ok (.iload 8, 2) := by decide +kernel
theorem dL_areRevisions_70 : decode cL_areRevisions 70 = .ok (.iaload, 1) := by decide +kernel
theorem dL_areRevisions_71 : decode cL_areRevisions 71 = .ok (.if_icmp .ne 20, 3) := by decide +kernel
theorem dL_areRevisions_74 : decode cL_areRevisions 74 = .ok (.aload_n 0, 1) := by decide +kernel
theorem dL_areRevisions_75 : decode cL_areRevisions 75 = .ok (.iload 8, 2) := by decide +kernel
theorem dL_areRevisions_77 : decode cL_areRevisions 77 = .ok (.invokevirtual 100, 3) := by decide +kernel
theorem dL_areRevisions_80 : decode cL_areRevisions 80 = .ok (.aload_n 2, 1) := by decide +kernel
theorem dL_areRevisions_81 : decode cL_areRevisions 81 = .ok (.iload 8, 2) := by decide +kernel
theorem dL_areRevisions_83 : decode cL_areRevisions 83 = .ok (.iaload, 1) := by decide +kernel
theorem dL_areRevisions_84 : decode cL_areRevisions 84 = .ok (.if_icmp .ne 7, 3) := by decide +kernel
theorem dL_areRevisions_87 : decode cL_areRevisions 87 = .ok (.iconst 1, 1) := by decide +kernel
theorem dL_areRevisions_88 : decode cL_areRevisions 88 = .ok (.goto 4, 3) := by decide +kernel
theorem dL_areRevisions_91 : decode cL_areRevisions 91 = .ok (.iconst 0, 1) := by decide +kernel
theorem dL_areRevisions_92 : decode cL_areRevisions 92 = .ok (.istore 7, 2) := by decide +kernel
theorem dL_areRevisions_94 : decode cL_areRevisions 94 = .ok (.iinc 8 1, 3) := by decide +kernel
theorem dL_areRevisions_97 : decode cL_areRevisions 97 = .ok (.goto (-91), 3) := by decide +kernel
theorem dL_areRevisions_100 : decode cL_areRevisions 100 = .ok (.iload 7, 2) := by decide +kernel
theorem dL_areRevisions_102 : decode cL_areRevisions 102 = .ok (.ireturn, 1) := by decide +kernel
set_option maxRecDepth 20000 in
theorem ggL_edited_X3_edit : GoodIn wsL_edited wsX3_edit := goodIn_ca (goodIn_ca (goodIn_ca (goodIn_r _ [6, 7, 8, 9, 10, 11, 5, 12, 13, 14, 15, 16, 17, 18, 19, 20, 21, 22, 23, 24, 25, 26, 27, 28, 29, 30, 31, 32, 33, 34, 35, 36, 37, 38, 39, 40, 41, 42, 43, 44, 45, 46, 47, 48, 49, 50, 51, 52, 53, 54, 55, 56, 57, 58, 59, 60, 61, 62, 63, 64, 65, 66, 67, 68, 69, 70, 71, 72, 73, 74, 75, 76, 77, 78, 79, 80, 81, 82, 83, 84, 85, 86, 87, 88, 89, 90, 91, 92, 93, 94, 95, 96, 97, 98, 99, 100, 101, 102, 103, 104, 105, 106, 107, 108, 109, 110, 111, 112, 113, 114, 115, 116, 117, 118, 119, 120, 121, 122, 123, 124, 125, 126, 127, 128, 129, 130] (by decide +kernel) (by decide +kernel)) (goodIn_sub (fun _ h => List.mem_cons_of_mem _ (List.mem_append_left _ (List.mem_append_left _ (List.mem_append_right _ h)))) (by decide +kernel))) (goodIn_sub (fun _ h => List.mem_cons_of_mem _ (List.mem_append_left _ (List.mem_append_right _ h))) (by decide +kernel))) (goodIn_sub (fun _ h => List.mem_cons_of_mem _ (List.mem_append_right _ h)) (by decide +kernel))
set_option maxRecDepth 20000 in
theorem gL_edited_X3_edit : GoodIn wsL_edited (wsV RL 103 RX3 yX3_edit wsX3_edit) := goodIn_app (goodIn_of _ (by decide +kernel)) ggL_edited_X3_edit
theorem dL_edited_0 : decode cL_edited 0 = .ok (.aload_n 0, 1) := by decide +kernel
theorem dL_edited_1 : decode cL_edited 1 = .ok (.iload_n 1, 1) := by decide +kernel
theorem dL_edited_2 : decode cL_edited 2 = .ok (.iload_n 2, 1) := by decide +kernel
theorem dL_edited_3 : decode cL_edited 3 = .ok (.iload_n 3, 1) := by decide +kernel
theorem dL_edited_4 : decode cL_edited 4 = .ok (.iload 4, 2) := by decide +kernel
theorem dL_edited_6 : decode cL_edited 6 = .ok (.invokevirtual 103, 3) := by decide +kernel
theorem dL_edited_9 : decode cL_edited 9 = .ok (.ireturn, 1) := by decide +kernel
theorem dL_edited_10 : decode cL_edited 10 = .ok (.astore 5, 2) := by decide +kernel
theorem dL_edited_12 : decode cL_edited 12 = .ok (.bipush (-2), 2) := by decide +kernel
theorem dL_edited_14 : decode cL_edited 14 = .ok (.ireturn, 1) := by decide +kernel
set_option maxRecDepth 20000 in
theorem ggL_deleted_X3_delete : GoodIn wsL_deleted wsX3_delete := goodIn_ca (goodIn_ca (goodIn_r _ [6, 7, 8, 9, 10, 11, 12, 5, 13, 14, 15, 16, 17, 18, 19, 20, 21, 22, 23, 24, 25, 26, 27, 28, 29, 30, 31, 32, 33, 34, 35, 36, 37, 38, 39, 40, 41, 42, 43, 44, 45, 46, 47, 48, 49, 50, 51, 52, 53, 54, 55, 56, 57, 58, 59, 60, 61, 62, 63, 64, 65, 66, 67, 68, 69, 70, 71, 72, 73, 74, 75, 76, 77, 78, 79, 80, 81, 82, 83, 84, 85, 86, 87, 88, 89, 90, 91, 92, 93, 94, 95, 96, 97, 98, 99, 100, 101, 102, 103, 104, 105, 106, 107, 108, 109, 110, 111, 112, 113, 114, 115, 116, 117, 118, 119, 120, 121, 122, 123, 124] (by decide +kernel) (by decide +kernel)) (goodIn_sub (fun _ h => List.mem_cons_of_mem _ (List.mem_append_left _ (List.mem_append_right _ h))) (by decide +kernel))) (goodIn_sub (fun _ h => List.mem_cons_of_mem _ (List.mem_append_right _ h)) (by decide +kernel))
set_option maxRecDepth 20000 in
theorem gL_deleted_X3_delete : GoodIn wsL_deleted (wsV RL 109 RX3 yX3_delete wsX3_delete) := goodIn_app (goodIn_of _ (by decide +kernel)) ggL_deleted_X3_delete
theorem dL_deleted_0 : decode cL_deleted 0 = .ok (.aload_n 0, 1) := by decide +kernel
theorem dL_deleted_1 : decode cL_deleted 1 = .ok (.iload_n 1, 1) := by decide +kernel
theorem dL_deleted_2 : decode cL_deleted 2 = .ok (.iload_n 2, 1) := by decide +kernel
theorem dL_deleted_3 : decode cL_deleted 3 = .ok (.iload_n 3, 1) := by decide +kernel
theorem dL_deleted_4 : decode cL_deleted 4 = .ok (.invokevirtual 109, 3) := by decide +kernel
theorem dL_deleted_7 : decode cL_deleted 7 = .ok (.ireturn, 1) := by decide +kernel
theorem dL_deleted_8 : decode cL_deleted 8 = .ok (.astore 4, 2) := by decide +kernel
theorem dL_deleted_10 : decode cL_deleted 10 = .ok (.bipush (-2), 2) := by decide +kernel
theorem dL_deleted_12 : decode cL_deleted 12 = .ok (.ireturn, 1) := by decide +kernel
set_option maxRecDepth 20000 in
theorem ggL_acts_L_leaves : GoodIn wsL_acts wsL_leaves := goodIn_r _ [4] (by decide +kernel) (by decide +kernel)
set_option maxRecDepth 20000 in
theorem gL_acts_L_leaves : GoodIn wsL_acts (va_wsS RL 9 yL_leaves wsL_leaves) := goodIn_app (goodIn_of _ (by decide +kernel)) ggL_acts_L_leaves
set_option maxRecDepth 20000 in
theorem ggL_acts_L_deleted : GoodIn wsL_acts wsL_deleted := goodIn_ca (goodIn_ca (goodIn_r _ [7, 8, 9, 10, 11, 12, 13, 14, 15, 16, 17, 18, 19, 20, 21, 22, 23, 24, 25, 26, 27, 28, 29, 30, 31, 32, 33, 34, 35, 36, 37, 38, 39, 40, 41, 42, 43, 44, 45, 46, 47, 48, 49, 50, 51, 52, 53, 54, 55, 56, 57, 58, 59, 60, 61, 62, 63, 64, 65, 66, 67, 68, 69, 70, 71, 72, 73, 74, 75, 76, 77, 78, 79, 80, 81, 82, 83, 84, 85, 86, 87, 88, 89, 90, 91, 92, 93, 94, 95, 96, 97, 98, 99, 100, 101, 102, 103, 104, 105, 106, 107, 108, 109, 110, 111, 112, 113, 206, 207, 208, 209, 210, 211, 212, 213, 214, 215, 216, 217, 218, 219, 220, 221, 222, 223] (by decide +kernel) (by decide +kernel)) (goodIn_sub (fun _ h => List.mem_cons_of_mem _ (List.mem_append_left _ (List.mem_append_left _ (List.mem_append_right _ h)))) (by decide +kernel))) (goodIn_sub (fun _ h => List.mem_cons_of_mem _ (List.mem_append_left _ (List.mem_append_right _ h))) (by decide +kernel))
set_option maxRecDepth 20000 in
theorem gL_acts_L_deleted : GoodIn wsL_acts (va_wsS RL 112 yL_deleted wsL_deleted) := goodIn_app (goodIn_of _ (by decide +kernel)) ggL_acts_L_deleted
set_option maxRecDepth 20000 in
theorem ggL_acts_L_add : GoodIn wsL_acts wsL_add := goodIn_r _ [116, 117, 118, 3, 119, 120, 121, 122, 123, 124, 125, 1, 2, 4, 126, 127, 128] (by decide +kernel) (by decide +kernel)
set_option maxRecDepth 20000 in
theorem gL_acts_L_add : GoodIn wsL_acts (va_wsS RL 116 yL_add wsL_add) := goodIn_app (goodIn_of _ (by decide +kernel)) ggL_acts_L_add
set_option maxRecDepth 20000 in
theorem ggL_acts_L_edited : GoodIn wsL_acts wsL_edited := goodIn_ca (goodIn_ca (goodIn_ca (goodIn_r _ [131, 8, 132, 133, 134, 12, 135, 136, 137, 17, 18, 19, 20, 21, 22, 23, 24, 25, 26, 27, 28, 29, 30, 31, 16, 138, 139, 140, 141, 14, 15, 32, 33, 34, 35, 36, 37, 38, 39, 40, 41, 42, 43, 44, 45, 46, 47, 48, 49, 50, 51, 52, 53, 54, 55, 56, 57, 58, 59, 60, 61, 62, 63, 64, 65, 66, 67, 68, 69, 70, 71, 72, 73, 74, 75, 76, 77, 78, 79, 80, 81, 82, 83, 84, 85, 86, 87, 88, 89, 90, 91, 92, 93, 94, 95, 96, 97, 98, 99, 100, 101, 102, 103, 104, 105, 106, 107, 108, 109, 110, 111, 112, 113, 206, 207, 208, 209, 210, 211, 212, 213, 214, 215, 216, 217, 218, 219, 220, 221, 222, 223] (by decide +kernel) (by decide +kernel)) (goodIn_sub (fun _ h => List.mem_cons_of_mem _ (List.mem_append_right _ h)) (by decide +kernel))) (goodIn_sub (fun _ h => List.mem_cons_of_mem _ (List.mem_append_left _ (List.mem_append_right _ h))) (by decide +kernel))) (goodIn_sub (fun _ h => List.mem_cons_of_mem _ (List.mem_append_left _ (List.mem_append_left _ (List.mem_append_right _ h)))) (by decide +kernel))
set_option maxRecDepth 20000 in
theorem gL_acts_L_edited : GoodIn wsL_acts (va_wsS RL 120 yL_edited wsL_edited) := goodIn_app (goodIn_of _ (by decide +kernel)) ggL_acts_L_edited
set_option maxRecDepth 20000 in
theorem ggL_acts_X3_replicate : GoodIn wsL_acts wsX3_replicate := goodIn_ca (goodIn_ca (goodIn_r _ [145, 136, 137, 16, 17, 18, 19, 12, 20, 21, 22, 23, 146, 147, 148, 149, 150, 151, 152, 153, 154, 93, 94, 95, 155, 156, 157, 158, 159, 160, 74, 161, 82, 162, 163, 164, 165, 76, 166, 167, 168, 39, 169, 41, 100, 37, 38, 40, 42, 43, 44, 45, 46, 170, 171, 172, 173, 77, 78, 79, 80, 81, 83, 84, 85, 86, 87, 88, 89, 90, 91, 92, 96, 97, 98, 99, 101, 102, 103, 104, 105, 106, 107, 108, 58, 109, 64, 69, 70, 110, 111, 112, 113, 206, 207, 208, 216, 217, 218, 219, 220, 209, 210, 211, 212, 213, 214, 215, 221, 222, 223] (by decide +kernel) (by decide +kernel)) (goodIn_sub (fun _ h => List.mem_cons_of_mem _ (List.mem_append_right _ h)) (by decide +kernel))) (goodIn_sub (fun _ h => List.mem_cons_of_mem _ (List.mem_append_left _ (List.mem_append_right _ h))) (by decide +kernel))
set_option maxRecDepth 20000 in
theorem gL_acts_X3_replicate : GoodIn wsL_acts (wsV RL 124 RX3 yX3_replicate wsX3_replicate) := goodIn_app (goodIn_of _ (by decide +kernel)) ggL_acts_X3_replicate
set_option maxRecDepth 20000 in
theorem ggL_acts_L_replicated : GoodIn wsL_acts wsL_replicated := goodIn_r _ [176, 177, 178, 3, 179, 180, 181, 182, 1, 2, 4, 120, 121, 122, 123, 124, 125, 126, 127, 128] (by decide +kernel) (by decide +kernel)
set_option maxRecDepth 20000 in
theorem gL_acts_L_replicated : GoodIn wsL_acts (va_wsS RL 127 yL_replicated wsL_replicated) := goodIn_app (goodIn_of _ (by decide +kernel)) ggL_acts_L_replicated
set_option maxRecDepth 20000 in
theorem ggL_acts_X3_setDepth : GoodIn wsL_acts wsX3_setDepth := goodIn_ca (goodIn_ca (goodIn_r _ [186, 136, 137, 16, 17, 18, 19, 12, 20, 21, 22, 23, 187, 111, 112, 39, 113, 41, 46, 42, 43, 44, 45, 216, 217, 218, 219, 220, 206, 207, 208, 209, 210, 211, 212, 213, 214, 215, 221, 222, 223] (by decide +kernel) (by decide +kernel)) (goodIn_sub (fun _ h => List.mem_cons_of_mem _ (List.mem_append_right _ h)) (by decide +kernel))) (goodIn_sub (fun _ h => List.mem_cons_of_mem _ (List.mem_append_left _ (List.mem_append_right _ h))) (by decide +kernel))
set_option maxRecDepth 20000 in
theorem gL_acts_X3_setDepth : GoodIn wsL_acts (wsV RL 130 RX3 yX3_setDepth wsX3_setDepth) := goodIn_app (goodIn_of _ (by decide +kernel)) ggL_acts_X3_setDepth
set_option maxRecDepth 20000 in
theorem ggL_acts_L_stem : GoodIn wsL_acts wsL_stem := goodIn_r _ [122, 123, 124, 3, 125, 1, 2, 4, 126, 127, 128] (by decide +kernel) (by decide +kernel)
set_option maxRecDepth 20000 in
theorem gL_acts_L_stem : GoodIn wsL_acts (va_wsS RL 31 yL_stem wsL_stem) := goodIn_app (goodIn_of _ (by decide +kernel)) ggL_acts_L_stem
set_option maxRecDepth 20000 in
theorem ggL_acts_L_ones : GoodIn wsL_acts wsL_ones := goodIn_r _ [128] (by decide +kernel) (by decide +kernel)
set_option maxRecDepth 20000 in
theorem gL_acts_L_ones : GoodIn wsL_acts (va_wsS RL 23 yL_ones wsL_ones) := goodIn_app (goodIn_of _ (by decide +kernel)) ggL_acts_L_ones
set_option maxRecDepth 20000 in
theorem ggL_acts_X3_wipe : GoodIn wsL_acts wsX3_wipe := goodIn_ca (goodIn_r _ [191, 16, 17, 18, 19, 12, 20, 21, 22, 23, 192, 193, 194, 39, 195, 41, 196, 197, 198, 74, 199, 76, 81, 82, 200, 201, 202, 203, 204, 84, 85, 86, 87, 88, 89, 90, 91, 46, 92, 93, 94, 95, 96, 97, 98, 99, 100, 37, 38, 40, 42, 43, 44, 45, 101, 102, 103, 104, 105, 106, 107, 108, 58, 109, 64, 69, 70, 205, 216, 217, 218, 219, 220, 206, 207, 208, 209, 210, 211, 212, 213, 214, 215, 221, 222, 223] (by decide +kernel) (by decide +kernel)) (goodIn_sub (fun _ h => List.mem_cons_of_mem _ (List.mem_append_left _ (List.mem_append_right _ h))) (by decide +kernel))
set_option maxRecDepth 20000 in
theorem gL_acts_X3_wipe : GoodIn wsL_acts (wsV RL 133 RX3 yX3_wipe wsX3_wipe) := goodIn_app (goodIn_of _ (by decide +kernel)) ggL_acts_X3_wipe
theorem dL_acts_0 : decode cL_acts 0 = .ok (.iload 12, 2) := by decide +kernel
theorem dL_acts_2 : decode cL_acts 2 = .ok (.iconst 3, 1) := by decide +kernel
theorem dL_acts_3 : decode cL_acts 3 = .ok (.irem, 1) := by decide +kernel
theorem dL_acts_4 : decode cL_acts 4 = .ok (.istore 13, 2) := by decide +kernel
theorem dL_acts_6 : decode cL_acts 6 = .ok (.iload 12, 2) := by decide +kernel
theorem dL_acts_8 : decode cL_acts 8 = .ok (.iconst 3, 1) := by decide +kernel
theorem dL_acts_9 : decode cL_acts 9 = .ok (.idiv, 1) := by decide +kernel
theorem dL_acts_10 : decode cL_acts 10 = .ok (.iconst 5, 1) := by decide +kernel
theorem dL_acts_11 : decode cL_acts 11 = .ok (.irem, 1) := by decide +kernel
theorem dL_acts_12 : decode cL_acts 12 = .ok (.iconst 4, 1) := by decide +kernel
theorem dL_acts_13 : decode cL_acts 13 = .ok (.irem, 1) := by decide +kernel
theorem dL_acts_14 : decode cL_acts 14 = .ok (.istore 14, 2) := by decide +kernel
theorem dL_acts_16 : decode cL_acts 16 = .ok (.iload 13, 2) := by decide +kernel
theorem dL_acts_18 : decode cL_acts 18 = .ok (.iconst 1, 1) := by decide +kernel
theorem dL_acts_19 : decode cL_acts 19 = .ok (.iadd, 1) := by decide +kernel
theorem dL_acts_20 : decode cL_acts 20 = .ok (.iload 12, 2) := by decide +kernel
theorem dL_acts_22 : decode cL_acts 22 = .ok (.bipush 15, 2) := by decide +kernel
theorem dL_acts_24 : decode cL_acts 24 = .ok (.idiv, 1) := by decide +kernel
theorem dL_acts_25 : decode cL_acts 25 = .ok (.iconst 2, 1) := by decide +kernel
theorem dL_acts_26 : decode cL_acts 26 = .ok (.irem, 1) := by decide +kernel
theorem dL_acts_27 : decode cL_acts 27 = .ok (.iadd, 1) := by decide +kernel
theorem dL_acts_28 : decode cL_acts 28 = .ok (.iconst 3, 1) := by decide +kernel
theorem dL_acts_29 : decode cL_acts 29 = .ok (.irem, 1) := by decide +kernel
theorem dL_acts_30 : decode cL_acts 30 = .ok (.istore 15, 2) := by decide +kernel
theorem dL_acts_32 : decode cL_acts 32 = .ok (.aload_n 1, 1) := by decide +kernel
theorem dL_acts_33 : decode cL_acts 33 = .ok (.aload 6, 2) := by decide +kernel
theorem dL_acts_35 : decode cL_acts 35 = .ok (.aload 10, 2) := by decide +kernel
theorem dL_acts_37 : decode cL_acts 37 = .ok (.aload 7, 2) := by decide +kernel
theorem dL_acts_39 : decode cL_acts 39 = .ok (.iload 13, 2) := by decide +kernel
theorem dL_acts_41 : decode cL_acts 41 = .ok (.iaload, 1) := by decide +kernel
theorem dL_acts_42 : decode cL_acts 42 = .ok (.iload 14, 2) := by decide +kernel
theorem dL_acts_44 : decode cL_acts 44 = .ok (.invokestatic 9, 3) := by decide +kernel
theorem dL_acts_47 : decode cL_acts 47 = .ok (.istore 16, 2) := by decide +kernel
theorem dL_acts_49 : decode cL_acts 49 = .ok (.aload 10, 2) := by decide +kernel
theorem dL_acts_51 : decode cL_acts 51 = .ok (.iconst 0, 1) := by decide +kernel
theorem dL_acts_52 : decode cL_acts 52 = .ok (.iaload, 1) := by decide +kernel
theorem dL_acts_53 : decode cL_acts 53 = .ok (.ifCond .ne 7, 3) := by decide +kernel
theorem dL_acts_56 : decode cL_acts 56 = .ok (.iconst 0, 1) := by decide +kernel
theorem dL_acts_57 : decode cL_acts 57 = .ok (.goto 13, 3) := by decide +kernel
theorem dL_acts_60 : decode cL_acts 60 = .ok (.iload 12, 2) := by decide +kernel
theorem dL_acts_62 : decode cL_acts 62 = .ok (.bipush 30, 2) := by decide +kernel
theorem dL_acts_64 : decode cL_acts 64 = .ok (.idiv, 1) := by decide +kernel
theorem dL_acts_65 : decode cL_acts 65 = .ok (.aload 10, 2) := by decide +kernel
theorem dL_acts_67 : decode cL_acts 67 = .ok (.iconst 0, 1) := by decide +kernel
theorem dL_acts_68 : decode cL_acts 68 = .ok (.iaload, 1) := by decide +kernel
theorem dL_acts_69 : decode cL_acts 69 = .ok (.irem, 1) := by decide +kernel
theorem dL_acts_70 : decode cL_acts 70 = .ok (.istore 17, 2) := by decide +kernel
theorem dL_acts_72 : decode cL_acts 72 = .ok (.iconst 0, 1) := by decide +kernel
theorem dL_acts_73 : decode cL_acts 73 = .ok (.istore 18, 2) := by decide +kernel
theorem dL_acts_75 : decode cL_acts 75 = .ok (.iload 18, 2) := by decide +kernel
theorem dL_acts_77 : decode cL_acts 77 = .ok (.aload 10, 2) := by decide +kernel
theorem dL_acts_79 : decode cL_acts 79 = .ok (.iconst 0, 1) := by decide +kernel
theorem dL_acts_80 : decode cL_acts 80 = .ok (.iaload, 1) := by decide +kernel
theorem dL_acts_81 : decode cL_acts 81 = .ok (.if_icmp .ge 57, 3) := by decide +kernel
theorem dL_acts_84 : decode cL_acts 84 = .ok (.iload 12, 2) := by decide +kernel
theorem dL_acts_86 : decode cL_acts 86 = .ok (.iconst 5, 1) := by decide +kernel
theorem dL_acts_87 : decode cL_acts 87 = .ok (.irem, 1) := by decide +kernel
theorem dL_acts_88 : decode cL_acts 88 = .ok (.ifCond .le 50, 3) := by decide +kernel
theorem dL_acts_91 : decode cL_acts 91 = .ok (.iload 16, 2) := by decide +kernel
theorem dL_acts_93 : decode cL_acts 93 = .ok (.iload 18, 2) := by decide +kernel
theorem dL_acts_95 : decode cL_acts 95 = .ok (.ishr, 1) := by decide +kernel
theorem dL_acts_96 : decode cL_acts 96 = .ok (.iconst 1, 1) := by decide +kernel
theorem dL_acts_97 : decode cL_acts 97 = .ok (.iand, 1) := by decide +kernel
theorem dL_acts_98 : decode cL_acts 98 = .ok (.iconst 1, 1) := by decide +kernel
theorem dL_acts_99 : decode cL_acts 99 = .ok (.if_icmp .ne 29, 3) := by decide +kernel
theorem dL_acts_102 : decode cL_acts 102 = .ok (.iload 16, 2) := by decide +kernel
theorem dL_acts_104 : decode cL_acts 104 = .ok (.iload 17, 2) := by decide +kernel
theorem dL_acts_106 : decode cL_acts 106 = .ok (.ishr, 1) := by decide +kernel
theorem dL_acts_107 : decode cL_acts 107 = .ok (.iconst 1, 1) := by decide +kernel
theorem dL_acts_108 : decode cL_acts 108 = .ok (.iand, 1) := by decide +kernel
theorem dL_acts_109 : decode cL_acts 109 = .ok (.ifCond .eq 14, 3) := by decide +kernel
theorem dL_acts_112 : decode cL_acts 112 = .ok (.iload 18, 2) := by decide +kernel
theorem dL_acts_114 : decode cL_acts 114 = .ok (.iconst 3, 1) := by decide +kernel
theorem dL_acts_115 : decode cL_acts 115 = .ok (.irem, 1) := by decide +kernel
theorem dL_acts_116 : decode cL_acts 116 = .ok (.iload 12, 2) := by decide +kernel
theorem dL_acts_118 : decode cL_acts 118 = .ok (.iconst 3, 1) := by decide +kernel
theorem dL_acts_119 : decode cL_acts 119 = .ok (.irem, 1) := by decide +kernel
theorem dL_acts_120 : decode cL_acts 120 = .ok (.if_icmp .ne 8, 3) := by decide +kernel
theorem dL_acts_123 : decode cL_acts 123 = .ok (.iload 18, 2) := by decide +kernel
theorem dL_acts_125 : decode cL_acts 125 = .ok (.goto 5, 3) := by decide +kernel
theorem dL_acts_128 : decode cL_acts 128 = .ok (.iload 17, 2) := by decide +kernel
theorem dL_acts_130 : decode cL_acts 130 = .ok (.istore 17, 2) := by decide +kernel
theorem dL_acts_132 : decode cL_acts 132 = .ok (.iinc 18 1, 3) := by decide +kernel
theorem dL_acts_135 : decode cL_acts 135 = .ok (.goto (-60), 3) := by decide +kernel
theorem dL_acts_138 : decode cL_acts 138 = .ok (.iload 11, 2) := by decide +kernel
theorem dL_acts_140 : decode cL_acts 140 = .ok (.bipush 6, 2) := by decide +kernel
theorem dL_acts_142 : decode cL_acts 142 = .ok (.if_icmp .ge 271, 3) := by decide +kernel
theorem dL_acts_145 : decode cL_acts 145 = .ok (.aload 10, 2) := by decide +kernel
theorem dL_acts_147 : decode cL_acts 147 = .ok (.iconst 0, 1) := by decide +kernel
theorem dL_acts_148 : decode cL_acts 148 = .ok (.iaload, 1) := by decide +kernel
theorem dL_acts_149 : decode cL_acts 149 = .ok (.bipush 24, 2) := by decide +kernel
theorem dL_acts_151 : decode cL_acts 151 = .ok (.if_icmp .ge 262, 3) := by decide +kernel
theorem dL_acts_154 : decode cL_acts 154 = .ok (.iload 12, 2) := by decide +kernel
theorem dL_acts_156 : decode cL_acts 156 = .ok (.sipush 900, 3) := by decide +kernel
theorem dL_acts_159 : decode cL_acts 159 = .ok (.idiv, 1) := by decide +kernel
theorem dL_acts_160 : decode cL_acts 160 = .ok (.bipush 6, 2) := by decide +kernel
theorem dL_acts_162 : decode cL_acts 162 = .ok (.irem, 1) := by decide +kernel
theorem dL_acts_163 : decode cL_acts 163 = .ok (.istore 18, 2) := by decide +kernel
theorem dL_acts_165 : decode cL_acts 165 = .ok (.iload 16, 2) := by decide +kernel
theorem dL_acts_167 : decode cL_acts 167 = .ok (.ifCond .ne 15, 3) := by decide +kernel
theorem dL_acts_170 : decode cL_acts 170 = .ok (.iload 12, 2) := by decide +kernel
theorem dL_acts_172 : decode cL_acts 172 = .ok (.bipush 7, 2) := by decide +kernel
theorem dL_acts_174 : decode cL_acts 174 = .ok (.irem, 1) := by decide +kernel
theorem dL_acts_175 : decode cL_acts 175 = .ok (.ifCond .le 7, 3) := by decide +kernel
theorem dL_acts_178 : decode cL_acts 178 = .ok (.iconst 1, 1) := by decide +kernel
theorem dL_acts_179 : decode cL_acts 179 = .ok (.goto 4, 3) := by decide +kernel
theorem dL_acts_182 : decode cL_acts 182 = .ok (.iconst 0, 1) := by decide +kernel
theorem dL_acts_183 : decode cL_acts 183 = .ok (.istore 19, 2) := by decide +kernel
theorem dL_acts_185 : decode cL_acts 185 = .ok (.iload 19, 2) := by decide +kernel
theorem dL_acts_187 : decode cL_acts 187 = .ok (.ifCond .ne 21, 3) := by decide +kernel
theorem dL_acts_190 : decode cL_acts 190 = .ok (.aload 10, 2) := by decide +kernel
theorem dL_acts_192 : decode cL_acts 192 = .ok (.iconst 0, 1) := by decide +kernel
theorem dL_acts_193 : decode cL_acts 193 = .ok (.iaload, 1) := by decide +kernel
theorem dL_acts_194 : decode cL_acts 194 = .ok (.ifCond .le 18, 3) := by decide +kernel
theorem dL_acts_197 : decode cL_acts 197 = .ok (.iload 16, 2) := by decide +kernel
theorem dL_acts_199 : decode cL_acts 199 = .ok (.iload 17, 2) := by decide +kernel
theorem dL_acts_201 : decode cL_acts 201 = .ok (.ishr, 1) := by decide +kernel
theorem dL_acts_202 : decode cL_acts 202 = .ok (.iconst 1, 1) := by decide +kernel
theorem dL_acts_203 : decode cL_acts 203 = .ok (.iand, 1) := by decide +kernel
theorem dL_acts_204 : decode cL_acts 204 = .ok (.iconst 1, 1) := by decide +kernel
theorem dL_acts_205 : decode cL_acts 205 = .ok (.if_icmp .ne 7, 3) := by decide +kernel
theorem dL_acts_208 : decode cL_acts 208 = .ok (.iconst 1, 1) := by decide +kernel
theorem dL_acts_209 : decode cL_acts 209 = .ok (.goto 4, 3) := by decide +kernel
theorem dL_acts_212 : decode cL_acts 212 = .ok (.iconst 0, 1) := by decide +kernel
theorem dL_acts_213 : decode cL_acts 213 = .ok (.istore 20, 2) := by decide +kernel
theorem dL_acts_215 : decode cL_acts 215 = .ok (.aload 10, 2) := by decide +kernel
theorem dL_acts_217 : decode cL_acts 217 = .ok (.iconst 0, 1) := by decide +kernel
theorem dL_acts_218 : decode cL_acts 218 = .ok (.iaload, 1) := by decide +kernel
theorem dL_acts_219 : decode cL_acts 219 = .ok (.ifCond .ne 10, 3) := by decide +kernel
theorem dL_acts_222 : decode cL_acts 222 = .ok (.iload 19, 2) := by decide +kernel
theorem dL_acts_224 : decode cL_acts 224 = .ok (.ifCond .ne 5, 3) := by decide +kernel
theorem dL_acts_227 : decode cL_acts 227 = .ok (.iconst 1, 1) := by decide +kernel
theorem dL_acts_228 : decode cL_acts 228 = .ok (.ireturn, 1) := by decide +kernel
theorem dL_acts_229 : decode cL_acts 229 = .ok (.iload 11, 2) := by decide +kernel
theorem dL_acts_231 : decode cL_acts 231 = .ok (.iconst 5, 1) := by decide +kernel
theorem dL_acts_232 : decode cL_acts 232 = .ok (.if_icmp .ne 81, 3) := by decide +kernel
theorem dL_acts_235 : decode cL_acts 235 = .ok (.iload 19, 2) := by decide +kernel
theorem dL_acts_237 : decode cL_acts 237 = .ok (.ifCond .ne 76, 3) := by decide +kernel
theorem dL_acts_240 : decode cL_acts 240 = .ok (.iload 20, 2) := by decide +kernel
theorem dL_acts_242 : decode cL_acts 242 = .ok (.ifCond .eq 14, 3) := by decide +kernel
theorem dL_acts_245 : decode cL_acts 245 = .ok (.aload_n 2, 1) := by decide +kernel
theorem dL_acts_246 : decode cL_acts 246 = .ok (.iload 17, 2) := by decide +kernel
theorem dL_acts_248 : decode cL_acts 248 = .ok (.iaload, 1) := by decide +kernel
theorem dL_acts_249 : decode cL_acts 249 = .ok (.ifCond .lt 7, 3) := by decide +kernel
theorem dL_acts_252 : decode cL_acts 252 = .ok (.iconst 1, 1) := by decide +kernel
theorem dL_acts_253 : decode cL_acts 253 = .ok (.goto 4, 3) := by decide +kernel
theorem dL_acts_256 : decode cL_acts 256 = .ok (.iconst 0, 1) := by decide +kernel
theorem dL_acts_257 : decode cL_acts 257 = .ok (.istore 20, 2) := by decide +kernel
theorem dL_acts_259 : decode cL_acts 259 = .ok (.aload_n 0, 1) := by decide +kernel
theorem dL_acts_260 : decode cL_acts 260 = .ok (.iload 13, 2) := by decide +kernel
theorem dL_acts_262 : decode cL_acts 262 = .ok (.iload 14, 2) := by decide +kernel
theorem dL_acts_264 : decode cL_acts 264 = .ok (.iload 17, 2) := by decide +kernel
theorem dL_acts_266 : decode cL_acts 266 = .ok (.invokestatic 112, 3) := by decide +kernel
theorem dL_acts_269 : decode cL_acts 269 = .ok (.iload 20, 2) := by decide +kernel
theorem dL_acts_271 : decode cL_acts 271 = .ok (.ifCond .eq 31, 3) := by decide +kernel
theorem dL_acts_274 : decode cL_acts 274 = .ok (.aload_n 1, 1) := by decide +kernel
theorem dL_acts_275 : decode cL_acts 275 = .ok (.aload_n 2, 1) := by decide +kernel
theorem dL_acts_276 : decode cL_acts 276 = .ok (.aload_n 3, 1) := by decide +kernel
theorem dL_acts_277 : decode cL_acts 277 = .ok (.aload 4, 2) := by decide +kernel
theorem dL_acts_279 : decode cL_acts 279 = .ok (.aload 5, 2) := by decide +kernel
theorem dL_acts_281 : decode cL_acts 281 = .ok (.aload 6, 2) := by decide +kernel
theorem dL_acts_283 : decode cL_acts 283 = .ok (.aload 7, 2) := by decide +kernel
theorem dL_acts_285 : decode cL_acts 285 = .ok (.aload 8, 2) := by decide +kernel
theorem dL_acts_287 : decode cL_acts 287 = .ok (.aload 10, 2) := by decide +kernel
theorem dL_acts_289 : decode cL_acts 289 = .ok (.iload 13, 2) := by decide +kernel
theorem dL_acts_291 : decode cL_acts 291 = .ok (.iload 14, 2) := by decide +kernel
theorem dL_acts_293 : decode cL_acts 293 = .ok (.iload 17, 2) := by decide +kernel
theorem dL_acts_295 : decode cL_acts 295 = .ok (.iconst (-1), 1) := by decide +kernel
theorem dL_acts_296 : decode cL_acts 296 = .ok (.invokestatic 116, 3) := by decide +kernel
theorem dL_acts_299 : decode cL_acts 299 = .ok (.goto 5, 3) := by decide +kernel
theorem dL_acts_302 : decode cL_acts 302 = .ok (.bipush (-2), 2) := by decide +kernel
theorem dL_acts_304 : decode cL_acts 304 = .ok (.if_icmp .ne 7, 3) := by decide +kernel
theorem dL_acts_307 : decode cL_acts 307 = .ok (.iconst 1, 1) := by decide +kernel
theorem dL_acts_308 : decode cL_acts 308 = .ok (.goto 4, 3) := by decide +kernel
theorem dL_acts_311 : decode cL_acts 311 = .ok (.iconst 0, 1) := by decide +kernel
theorem dL_acts_312 : decode cL_acts 312 = .ok (.ireturn, 1) := by decide +kernel
theorem dL_acts_313 : decode cL_acts 313 = .ok (.aload_n 0, 1) := by decide +kernel
theorem dL_acts_314 : decode cL_acts 314 = .ok (.iload 13, 2) := by decide +kernel
theorem dL_acts_316 : decode cL_acts 316 = .ok (.iload 14, 2) := by decide +kernel
theorem dL_acts_318 : decode cL_acts 318 = .ok (.iload 19, 2) := by decide +kernel
theorem dL_acts_320 : decode cL_acts 320 = .ok (.ifCond .eq 7, 3) := by decide +kernel
theorem dL_acts_323 : decode cL_acts 323 = .ok (.iconst (-1), 1) := by decide +kernel
theorem dL_acts_324 : decode cL_acts 324 = .ok (.goto 5, 3) := by decide +kernel
theorem dL_acts_327 : decode cL_acts 327 = .ok (.iload 17, 2) := by decide +kernel
theorem dL_acts_329 : decode cL_acts 329 = .ok (.iload 18, 2) := by decide +kernel
theorem dL_acts_331 : decode cL_acts 331 = .ok (.invokestatic 120, 3) := by decide +kernel
theorem dL_acts_334 : decode cL_acts 334 = .ok (.istore 21, 2) := by decide +kernel
theorem dL_acts_336 : decode cL_acts 336 = .ok (.iload 21, 2) := by decide +kernel
theorem dL_acts_338 : decode cL_acts 338 = .ok (.iload 20, 2) := by decide +kernel
theorem dL_acts_340 : decode cL_acts 340 = .ok (.ifCond .eq 41, 3) := by decide +kernel
theorem dL_acts_343 : decode cL_acts 343 = .ok (.aload_n 1, 1) := by decide +kernel
theorem dL_acts_344 : decode cL_acts 344 = .ok (.aload_n 2, 1) := by decide +kernel
theorem dL_acts_345 : decode cL_acts 345 = .ok (.aload_n 3, 1) := by decide +kernel
theorem dL_acts_346 : decode cL_acts 346 = .ok (.aload 4, 2) := by decide +kernel
theorem dL_acts_348 : decode cL_acts 348 = .ok (.aload 5, 2) := by decide +kernel
theorem dL_acts_350 : decode cL_acts 350 = .ok (.aload 6, 2) := by decide +kernel
theorem dL_acts_352 : decode cL_acts 352 = .ok (.aload 7, 2) := by decide +kernel
theorem dL_acts_354 : decode cL_acts 354 = .ok (.aload 8, 2) := by decide +kernel
theorem dL_acts_356 : decode cL_acts 356 = .ok (.aload 10, 2) := by decide +kernel
theorem dL_acts_358 : decode cL_acts 358 = .ok (.iload 13, 2) := by decide +kernel
theorem dL_acts_360 : decode cL_acts 360 = .ok (.iload 14, 2) := by decide +kernel
theorem dL_acts_362 : decode cL_acts 362 = .ok (.iload 19, 2) := by decide +kernel
theorem dL_acts_364 : decode cL_acts 364 = .ok (.ifCond .eq 7, 3) := by decide +kernel
theorem dL_acts_367 : decode cL_acts 367 = .ok (.iconst (-1), 1) := by decide +kernel
theorem dL_acts_368 : decode cL_acts 368 = .ok (.goto 5, 3) := by decide +kernel
theorem dL_acts_371 : decode cL_acts 371 = .ok (.iload 17, 2) := by decide +kernel
theorem dL_acts_373 : decode cL_acts 373 = .ok (.iload 18, 2) := by decide +kernel
theorem dL_acts_375 : decode cL_acts 375 = .ok (.invokestatic 116, 3) := by decide +kernel
theorem dL_acts_378 : decode cL_acts 378 = .ok (.goto 5, 3) := by decide +kernel
theorem dL_acts_381 : decode cL_acts 381 = .ok (.bipush (-2), 2) := by decide +kernel
theorem dL_acts_383 : decode cL_acts 383 = .ok (.if_icmp .ne 28, 3) := by decide +kernel
theorem dL_acts_386 : decode cL_acts 386 = .ok (.iload 16, 2) := by decide +kernel
theorem dL_acts_388 : decode cL_acts 388 = .ok (.ifCond .eq 19, 3) := by decide +kernel
theorem dL_acts_391 : decode cL_acts 391 = .ok (.aload_n 0, 1) := by decide +kernel
theorem dL_acts_392 : decode cL_acts 392 = .ok (.iload 13, 2) := by decide +kernel
theorem dL_acts_394 : decode cL_acts 394 = .ok (.iload 14, 2) := by decide +kernel
theorem dL_acts_396 : decode cL_acts 396 = .ok (.iconst (-1), 1) := by decide +kernel
theorem dL_acts_397 : decode cL_acts 397 = .ok (.iload 18, 2) := by decide +kernel
theorem dL_acts_399 : decode cL_acts 399 = .ok (.invokestatic 120, 3) := by decide +kernel
theorem dL_acts_402 : decode cL_acts 402 = .ok (.bipush (-2), 2) := by decide +kernel
theorem dL_acts_404 : decode cL_acts 404 = .ok (.if_icmp .ne 7, 3) := by decide +kernel
theorem dL_acts_407 : decode cL_acts 407 = .ok (.iconst 1, 1) := by decide +kernel
theorem dL_acts_408 : decode cL_acts 408 = .ok (.goto 4, 3) := by decide +kernel
theorem dL_acts_411 : decode cL_acts 411 = .ok (.iconst 0, 1) := by decide +kernel
theorem dL_acts_412 : decode cL_acts 412 = .ok (.ireturn, 1) := by decide +kernel
theorem dL_acts_413 : decode cL_acts 413 = .ok (.iload 11, 2) := by decide +kernel
theorem dL_acts_415 : decode cL_acts 415 = .ok (.bipush 10, 2) := by decide +kernel
theorem dL_acts_417 : decode cL_acts 417 = .ok (.if_icmp .ge 55, 3) := by decide +kernel
theorem dL_acts_420 : decode cL_acts 420 = .ok (.iconst 1, 1) := by decide +kernel
theorem dL_acts_421 : decode cL_acts 421 = .ok (.iload 12, 2) := by decide +kernel
theorem dL_acts_423 : decode cL_acts 423 = .ok (.bipush 30, 2) := by decide +kernel
theorem dL_acts_425 : decode cL_acts 425 = .ok (.idiv, 1) := by decide +kernel
theorem dL_acts_426 : decode cL_acts 426 = .ok (.iconst 4, 1) := by decide +kernel
theorem dL_acts_427 : decode cL_acts 427 = .ok (.irem, 1) := by decide +kernel
theorem dL_acts_428 : decode cL_acts 428 = .ok (.iadd, 1) := by decide +kernel
theorem dL_acts_429 : decode cL_acts 429 = .ok (.istore 18, 2) := by decide +kernel
theorem dL_acts_431 : decode cL_acts 431 = .ok (.aload_n 0, 1) := by decide +kernel
theorem dL_acts_432 : decode cL_acts 432 = .ok (.iload 13, 2) := by decide +kernel
theorem dL_acts_434 : decode cL_acts 434 = .ok (.iload 15, 2) := by decide +kernel
theorem dL_acts_436 : decode cL_acts 436 = .ok (.iload 18, 2) := by decide +kernel
theorem dL_acts_438 : decode cL_acts 438 = .ok (.invokevirtual 124, 3) := by decide +kernel
theorem dL_acts_441 : decode cL_acts 441 = .ok (.aload_n 1, 1) := by decide +kernel
theorem dL_acts_442 : decode cL_acts 442 = .ok (.aload 4, 2) := by decide +kernel
theorem dL_acts_444 : decode cL_acts 444 = .ok (.aload 6, 2) := by decide +kernel
theorem dL_acts_446 : decode cL_acts 446 = .ok (.aload 7, 2) := by decide +kernel
theorem dL_acts_448 : decode cL_acts 448 = .ok (.aload 8, 2) := by decide +kernel
theorem dL_acts_450 : decode cL_acts 450 = .ok (.aload 9, 2) := by decide +kernel
theorem dL_acts_452 : decode cL_acts 452 = .ok (.aload 10, 2) := by decide +kernel
theorem dL_acts_454 : decode cL_acts 454 = .ok (.iload 13, 2) := by decide +kernel
theorem dL_acts_456 : decode cL_acts 456 = .ok (.iload 15, 2) := by decide +kernel
theorem dL_acts_458 : decode cL_acts 458 = .ok (.iload 18, 2) := by decide +kernel
theorem dL_acts_460 : decode cL_acts 460 = .ok (.invokestatic 127, 3) := by decide +kernel
theorem dL_acts_463 : decode cL_acts 463 = .ok (.if_icmp .ne 7, 3) := by decide +kernel
theorem dL_acts_466 : decode cL_acts 466 = .ok (.iconst 1, 1) := by decide +kernel
theorem dL_acts_467 : decode cL_acts 467 = .ok (.goto 4, 3) := by decide +kernel
theorem dL_acts_470 : decode cL_acts 470 = .ok (.iconst 0, 1) := by decide +kernel
theorem dL_acts_471 : decode cL_acts 471 = .ok (.ireturn, 1) := by decide +kernel
theorem dL_acts_472 : decode cL_acts 472 = .ok (.iload 11, 2) := by decide +kernel
theorem dL_acts_474 : decode cL_acts 474 = .ok (.bipush 10, 2) := by decide +kernel
theorem dL_acts_476 : decode cL_acts 476 = .ok (.if_icmp .ne 54, 3) := by decide +kernel
theorem dL_acts_479 : decode cL_acts 479 = .ok (.aload 7, 2) := by decide +kernel
theorem dL_acts_481 : decode cL_acts 481 = .ok (.iconst 4, 1) := by decide +kernel
theorem dL_acts_482 : decode cL_acts 482 = .ok (.iload 13, 2) := by decide +kernel
theorem dL_acts_484 : decode cL_acts 484 = .ok (.iadd, 1) := by decide +kernel
theorem dL_acts_485 : decode cL_acts 485 = .ok (.iconst 1, 1) := by decide +kernel
theorem dL_acts_486 : decode cL_acts 486 = .ok (.iload 12, 2) := by decide +kernel
theorem dL_acts_488 : decode cL_acts 488 = .ok (.iconst 3, 1) := by decide +kernel
theorem dL_acts_489 : decode cL_acts 489 = .ok (.idiv, 1) := by decide +kernel
theorem dL_acts_490 : decode cL_acts 490 = .ok (.iconst 5, 1) := by decide +kernel
theorem dL_acts_491 : decode cL_acts 491 = .ok (.irem, 1) := by decide +kernel
theorem dL_acts_492 : decode cL_acts 492 = .ok (.iadd, 1) := by decide +kernel
theorem dL_acts_493 : decode cL_acts 493 = .ok (.iastore, 1) := by decide +kernel
theorem dL_acts_494 : decode cL_acts 494 = .ok (.aload_n 0, 1) := by decide +kernel
theorem dL_acts_495 : decode cL_acts 495 = .ok (.iload 13, 2) := by decide +kernel
theorem dL_acts_497 : decode cL_acts 497 = .ok (.aload 7, 2) := by decide +kernel
theorem dL_acts_499 : decode cL_acts 499 = .ok (.iconst 4, 1) := by decide +kernel
theorem dL_acts_500 : decode cL_acts 500 = .ok (.iload 13, 2) := by decide +kernel
theorem dL_acts_502 : decode cL_acts 502 = .ok (.iadd, 1) := by decide +kernel
theorem dL_acts_503 : decode cL_acts 503 = .ok (.iaload, 1) := by decide +kernel
theorem dL_acts_504 : decode cL_acts 504 = .ok (.invokevirtual 130, 3) := by decide +kernel
theorem dL_acts_507 : decode cL_acts 507 = .ok (.aload_n 1, 1) := by decide +kernel
theorem dL_acts_508 : decode cL_acts 508 = .ok (.aload 4, 2) := by decide +kernel
theorem dL_acts_510 : decode cL_acts 510 = .ok (.aload 6, 2) := by decide +kernel
theorem dL_acts_512 : decode cL_acts 512 = .ok (.aload 7, 2) := by decide +kernel
theorem dL_acts_514 : decode cL_acts 514 = .ok (.aload 10, 2) := by decide +kernel
theorem dL_acts_516 : decode cL_acts 516 = .ok (.iload 13, 2) := by decide +kernel
theorem dL_acts_518 : decode cL_acts 518 = .ok (.invokestatic 31, 3) := by decide +kernel
theorem dL_acts_521 : decode cL_acts 521 = .ok (.if_icmp .ne 7, 3) := by decide +kernel
theorem dL_acts_524 : decode cL_acts 524 = .ok (.iconst 1, 1) := by decide +kernel
theorem dL_acts_525 : decode cL_acts 525 = .ok (.goto 4, 3) := by decide +kernel
theorem dL_acts_528 : decode cL_acts 528 = .ok (.iconst 0, 1) := by decide +kernel
theorem dL_acts_529 : decode cL_acts 529 = .ok (.ireturn, 1) := by decide +kernel
theorem dL_acts_530 : decode cL_acts 530 = .ok (.iload 11, 2) := by decide +kernel
theorem dL_acts_532 : decode cL_acts 532 = .ok (.bipush 11, 2) := by decide +kernel
theorem dL_acts_534 : decode cL_acts 534 = .ok (.if_icmp .ne 93, 3) := by decide +kernel
theorem dL_acts_537 : decode cL_acts 537 = .ok (.iload 12, 2) := by decide +kernel
theorem dL_acts_539 : decode cL_acts 539 = .ok (.iconst 4, 1) := by decide +kernel
theorem dL_acts_540 : decode cL_acts 540 = .ok (.irem, 1) := by decide +kernel
theorem dL_acts_541 : decode cL_acts 541 = .ok (.ifCond .ne 86, 3) := by decide +kernel
theorem dL_acts_544 : decode cL_acts 544 = .ok (.aload 7, 2) := by decide +kernel
theorem dL_acts_546 : decode cL_acts 546 = .ok (.iload 13, 2) := by decide +kernel
theorem dL_acts_548 : decode cL_acts 548 = .ok (.iaload, 1) := by decide +kernel
theorem dL_acts_549 : decode cL_acts 549 = .ok (.invokestatic 23, 3) := by decide +kernel
theorem dL_acts_552 : decode cL_acts 552 = .ok (.istore 18, 2) := by decide +kernel
theorem dL_acts_554 : decode cL_acts 554 = .ok (.aload 7, 2) := by decide +kernel
theorem dL_acts_556 : decode cL_acts 556 = .ok (.iload 13, 2) := by decide +kernel
theorem dL_acts_558 : decode cL_acts 558 = .ok (.iconst 0, 1) := by decide +kernel
theorem dL_acts_559 : decode cL_acts 559 = .ok (.iastore, 1) := by decide +kernel
theorem dL_acts_560 : decode cL_acts 560 = .ok (.aload 7, 2) := by decide +kernel
theorem dL_acts_562 : decode cL_acts 562 = .ok (.bipush 8, 2) := by decide +kernel
theorem dL_acts_564 : decode cL_acts 564 = .ok (.iload 13, 2) := by decide +kernel
theorem dL_acts_566 : decode cL_acts 566 = .ok (.iadd, 1) := by decide +kernel
theorem dL_acts_567 : decode cL_acts 567 = .ok (.iconst 0, 1) := by decide +kernel
theorem dL_acts_568 : decode cL_acts 568 = .ok (.iastore, 1) := by decide +kernel
theorem dL_acts_569 : decode cL_acts 569 = .ok (.iconst 0, 1) := by decide +kernel
theorem dL_acts_570 : decode cL_acts 570 = .ok (.istore 19, 2) := by decide +kernel
theorem dL_acts_572 : decode cL_acts 572 = .ok (.iload 19, 2) := by decide +kernel
theorem dL_acts_574 : decode cL_acts 574 = .ok (.bipush 9, 2) := by decide +kernel
theorem dL_acts_576 : decode cL_acts 576 = .ok (.if_icmp .ge 34, 3) := by decide +kernel
theorem dL_acts_579 : decode cL_acts 579 = .ok (.aload 9, 2) := by decide +kernel
theorem dL_acts_581 : decode cL_acts 581 = .ok (.bipush 9, 2) := by decide +kernel
theorem dL_acts_583 : decode cL_acts 583 = .ok (.iload 13, 2) := by decide +kernel
theorem dL_acts_585 : decode cL_acts 585 = .ok (.imul, 1) := by decide +kernel
theorem dL_acts_586 : decode cL_acts 586 = .ok (.iload 19, 2) := by decide +kernel
theorem dL_acts_588 : decode cL_acts 588 = .ok (.iadd, 1) := by decide +kernel
theorem dL_acts_589 : decode cL_acts 589 = .ok (.iconst 0, 1) := by decide +kernel
theorem dL_acts_590 : decode cL_acts 590 = .ok (.iastore, 1) := by decide +kernel
theorem dL_acts_591 : decode cL_acts 591 = .ok (.aload 8, 2) := by decide +kernel
theorem dL_acts_593 : decode cL_acts 593 = .ok (.iconst 4, 1) := by decide +kernel
theorem dL_acts_594 : decode cL_acts 594 = .ok (.iload 13, 2) := by decide +kernel
theorem dL_acts_596 : decode cL_acts 596 = .ok (.imul, 1) := by decide +kernel
theorem dL_acts_597 : decode cL_acts 597 = .ok (.iload 19, 2) := by decide +kernel
theorem dL_acts_599 : decode cL_acts 599 = .ok (.iconst 4, 1) := by decide +kernel
theorem dL_acts_600 : decode cL_acts 600 = .ok (.irem, 1) := by decide +kernel
theorem dL_acts_601 : decode cL_acts 601 = .ok (.iadd, 1) := by decide +kernel
theorem dL_acts_602 : decode cL_acts 602 = .ok (.iconst 0, 1) := by decide +kernel
theorem dL_acts_603 : decode cL_acts 603 = .ok (.iastore, 1) := by decide +kernel
theorem dL_acts_604 : decode cL_acts 604 = .ok (.iinc 19 1, 3) := by decide +kernel
theorem dL_acts_607 : decode cL_acts 607 = .ok (.goto (-35), 3) := by decide +kernel
theorem dL_acts_610 : decode cL_acts 610 = .ok (.aload_n 0, 1) := by decide +kernel
theorem dL_acts_611 : decode cL_acts 611 = .ok (.iload 13, 2) := by decide +kernel
theorem dL_acts_613 : decode cL_acts 613 = .ok (.invokevirtual 133, 3) := by decide +kernel
theorem dL_acts_616 : decode cL_acts 616 = .ok (.iload 18, 2) := by decide +kernel
theorem dL_acts_618 : decode cL_acts 618 = .ok (.if_icmp .ne 7, 3) := by decide +kernel
theorem dL_acts_621 : decode cL_acts 621 = .ok (.iconst 1, 1) := by decide +kernel
theorem dL_acts_622 : decode cL_acts 622 = .ok (.goto 4, 3) := by decide +kernel
theorem dL_acts_625 : decode cL_acts 625 = .ok (.iconst 0, 1) := by decide +kernel
theorem dL_acts_626 : decode cL_acts 626 = .ok (.ireturn, 1) := by decide +kernel
theorem dL_acts_627 : decode cL_acts 627 = .ok (.iconst 1, 1) := by decide +kernel
theorem dL_acts_628 : decode cL_acts 628 = .ok (.ireturn, 1) := by decide +kernel
set_option maxRecDepth 20000 in
theorem ggL_holds_X3_init : GoodIn wsL_holds wsX3_init := goodIn_r _ [8, 9, 10, 11, 12, 13, 14, 15, 16, 17, 18, 19, 20, 21, 22, 23, 24, 25, 26, 4, 27, 28, 29, 30, 31, 32, 33, 34, 35, 36, 37, 38, 39, 40, 41, 42, 43, 44, 45, 46, 47, 48, 49, 50, 51, 52, 53, 54, 55, 353, 354, 355, 356, 357, 358, 359, 350, 351, 352, 360, 361, 362, 363, 364, 365, 366, 367] (by decide +kernel) (by decide +kernel)
set_option maxRecDepth 20000 in
theorem gL_holds_X3_init : GoodIn wsL_holds (wsX3_init) := ggL_holds_X3_init
set_option maxRecDepth 20000 in
theorem ggL_holds_L_from : GoodIn wsL_holds wsL_from := goodIn_r _ [59, 60, 61] (by decide +kernel) (by decide +kernel)
set_option maxRecDepth 20000 in
theorem gL_holds_L_from : GoodIn wsL_holds (va_wsS RL 137 yL_from wsL_from) := goodIn_app (goodIn_of _ (by decide +kernel)) ggL_holds_L_from
set_option maxRecDepth 20000 in
theorem ggL_holds_L_acts : GoodIn wsL_holds wsL_acts := goodIn_ca (goodIn_ca (goodIn_ca (goodIn_r _ [64, 65, 66, 58, 67, 68, 69, 70, 71, 72, 73, 74, 3, 75, 76, 77, 15, 78, 79, 80, 81, 82, 83, 17, 84, 85, 86, 87, 88, 89, 90, 91, 92, 93, 94, 95, 96, 97, 98, 20, 99, 39, 100, 101, 102, 103, 40, 104, 105, 106, 107, 108, 109, 110, 111, 112, 113, 114, 14, 115, 34, 27, 28, 29, 31, 116, 117, 118, 119, 32, 33, 120, 121, 122, 23, 123, 50, 124, 125, 126, 127, 52, 53, 51, 128, 129, 130, 131, 132, 133, 134, 135, 136, 137, 138, 139, 42, 43, 44, 45, 140, 141, 142, 143, 144, 41, 145, 146, 147, 148, 149, 150, 151, 152, 153, 154, 155, 156, 157, 158, 159, 160, 161, 162, 163, 164, 165, 166, 167, 168, 169, 170, 171, 172, 173, 174, 175, 176, 177, 178, 179, 180, 181, 182, 183, 184, 185, 186, 187, 188, 189, 190, 191, 192, 193, 194, 195, 196, 197, 198, 199, 200, 201, 202, 203, 204, 205, 206, 207, 208, 209, 210, 211, 212, 213, 214, 215, 216, 217, 218, 219, 220, 221, 222, 223, 224, 225, 226, 227, 228, 229, 230, 231, 232, 233, 234, 235, 236, 237, 238, 54, 239, 240, 241, 242, 243, 350, 351, 352, 353, 354, 355, 356, 357, 358, 359, 363, 364, 365, 366, 367, 360, 361, 362] (by decide +kernel) (by decide +kernel)) (goodIn_sub (fun _ h => List.mem_cons_of_mem _ (List.mem_append_left _ (List.mem_append_left _ (List.mem_append_right _ h)))) (by decide +kernel))) (goodIn_sub (fun _ h => List.mem_cons_of_mem _ (List.mem_append_left _ (List.mem_append_right _ h))) (by decide +kernel))) (goodIn_sub (fun _ h => List.mem_cons_of_mem _ (List.mem_append_right _ h)) (by decide +kernel))
set_option maxRecDepth 20000 in
theorem gL_holds_L_acts : GoodIn wsL_holds (va_wsS RL 141 yL_acts wsL_acts) := goodIn_app (goodIn_of _ (by decide +kernel)) ggL_holds_L_acts
set_option maxRecDepth 20000 in
theorem ggL_holds_L_areRevisions : GoodIn wsL_holds wsL_areRevisions := goodIn_ca (goodIn_r _ [246, 247, 248, 249, 3, 250, 15, 88, 89, 90, 91, 82, 83, 251, 252, 253, 254, 255, 256, 257, 258, 259, 260, 261, 262, 263, 264, 265, 266, 350, 351, 352, 353, 354, 355, 356, 357, 358, 359] (by decide +kernel) (by decide +kernel)) (goodIn_sub (fun _ h => List.mem_cons_of_mem _ (List.mem_append_left _ (List.mem_append_right _ h))) (by decide +kernel))
set_option maxRecDepth 20000 in
theorem gL_holds_L_areRevisions : GoodIn wsL_holds (va_wsS RL 145 yL_areRevisions wsL_areRevisions) := goodIn_app (goodIn_of _ (by decide +kernel)) ggL_holds_L_areRevisions
set_option maxRecDepth 20000 in
theorem ggL_holds_L_areStores : GoodIn wsL_holds wsL_areStores := goodIn_ca (goodIn_ca (goodIn_r _ [269, 270, 271, 272, 3, 273, 15, 274, 275, 276, 277, 78, 79, 80, 81, 82, 83, 17, 278, 279, 280, 281, 231, 232, 233, 20, 234, 39, 165, 166, 58, 167, 65, 66, 67, 282, 283, 284, 285, 286, 287, 288, 289, 290, 291, 88, 89, 90, 91, 96, 97, 98, 99, 100, 101, 102, 103, 40, 292, 293, 294, 295, 296, 297, 298, 299, 84, 85, 86, 87, 300, 301, 302, 303, 304, 305, 138, 306, 307, 308, 309, 310, 140, 311, 312, 313, 314, 315, 316, 317, 318, 41, 319, 320, 321, 322, 21, 323, 240, 241, 242, 324, 325, 326, 327, 328, 129, 130, 131, 132, 133, 134, 135, 136, 137, 139, 42, 43, 44, 45, 141, 142, 143, 144, 145, 146, 147, 14, 148, 31, 32, 33, 329, 330, 331, 332, 333, 334, 335, 336, 337, 216, 217, 218, 338, 339, 340, 341, 185, 186, 187, 188, 175, 176, 189, 190, 191, 192, 193, 194, 195, 196, 342, 343, 344, 345, 346, 347, 348, 23, 349, 53, 350, 351, 352, 353, 354, 355, 356, 357, 358, 359, 363, 364, 365, 366, 367, 360, 361, 362] (by decide +kernel) (by decide +kernel)) (goodIn_sub (fun _ h => List.mem_cons_of_mem _ (List.mem_append_left _ (List.mem_append_right _ h))) (by decide +kernel))) (goodIn_sub (fun _ h => List.mem_cons_of_mem _ (List.mem_append_right _ h)) (by decide +kernel))
set_option maxRecDepth 20000 in
theorem gL_holds_L_areStores : GoodIn wsL_holds (va_wsS RL 149 yL_areStores wsL_areStores) := goodIn_app (goodIn_of _ (by decide +kernel)) ggL_holds_L_areStores
theorem dL_holds_0 : decode cL_holds 0 = .ok (.new 44, 3) := by decide +kernel
theorem dL_holds_3 : decode cL_holds 3 = .ok (.dup, 1) := by decide +kernel
theorem dL_holds_4 : decode cL_holds 4 = .ok (.invokespecial 136, 3) := by decide +kernel
theorem dL_holds_7 : decode cL_holds 7 = .ok (.astore_n 1, 1) := by decide +kernel
theorem dL_holds_8 : decode cL_holds 8 = .ok (.bipush 24, 2) := by decide +kernel
theorem dL_holds_10 : decode cL_holds 10 = .ok (.newarray .int, 2) := by decide +kernel
theorem dL_holds_12 : decode cL_holds 12 = .ok (.astore_n 2, 1) := by decide +kernel
theorem dL_holds_13 : decode cL_holds 13 = .ok (.bipush 24, 2) := by decide +kernel
theorem dL_holds_15 : decode cL_holds 15 = .ok (.newarray .int, 2) := by decide +kernel
theorem dL_holds_17 : decode cL_holds 17 = .ok (.astore_n 3, 1) := by decide +kernel
theorem dL_holds_18 : decode cL_holds 18 = .ok (.bipush 24, 2) := by decide +kernel
theorem dL_holds_20 : decode cL_holds 20 = .ok (.newarray .int, 2) := by decide +kernel
theorem dL_holds_22 : decode cL_holds 22 = .ok (.astore 4, 2) := by decide +kernel
theorem dL_holds_24 : decode cL_holds 24 = .ok (.bipush 24, 2) := by decide +kernel
theorem dL_holds_26 : decode cL_holds 26 = .ok (.newarray .int, 2) := by decide +kernel
theorem dL_holds_28 : decode cL_holds 28 = .ok (.astore 5, 2) := by decide +kernel
theorem dL_holds_30 : decode cL_holds 30 = .ok (.bipush 24, 2) := by decide +kernel
theorem dL_holds_32 : decode cL_holds 32 = .ok (.newarray .int, 2) := by decide +kernel
theorem dL_holds_34 : decode cL_holds 34 = .ok (.astore 6, 2) := by decide +kernel
theorem dL_holds_36 : decode cL_holds 36 = .ok (.bipush 24, 2) := by decide +kernel
theorem dL_holds_38 : decode cL_holds 38 = .ok (.newarray .int, 2) := by decide +kernel
theorem dL_holds_40 : decode cL_holds 40 = .ok (.astore 7, 2) := by decide +kernel
theorem dL_holds_42 : decode cL_holds 42 = .ok (.bipush 11, 2) := by decide +kernel
theorem dL_holds_44 : decode cL_holds 44 = .ok (.newarray .int, 2) := by decide +kernel
theorem dL_holds_46 : decode cL_holds 46 = .ok (.astore 8, 2) := by decide +kernel
theorem dL_holds_48 : decode cL_holds 48 = .ok (.bipush 12, 2) := by decide +kernel
theorem dL_holds_50 : decode cL_holds 50 = .ok (.newarray .int, 2) := by decide +kernel
theorem dL_holds_52 : decode cL_holds 52 = .ok (.astore 9, 2) := by decide +kernel
theorem dL_holds_54 : decode cL_holds 54 = .ok (.bipush 27, 2) := by decide +kernel
theorem dL_holds_56 : decode cL_holds 56 = .ok (.newarray .int, 2) := by decide +kernel
theorem dL_holds_58 : decode cL_holds 58 = .ok (.astore 10, 2) := by decide +kernel
theorem dL_holds_60 : decode cL_holds 60 = .ok (.iconst 1, 1) := by decide +kernel
theorem dL_holds_61 : decode cL_holds 61 = .ok (.newarray .int, 2) := by decide +kernel
theorem dL_holds_63 : decode cL_holds 63 = .ok (.astore 11, 2) := by decide +kernel
theorem dL_holds_65 : decode cL_holds 65 = .ok (.aload 8, 2) := by decide +kernel
theorem dL_holds_67 : decode cL_holds 67 = .ok (.iconst 4, 1) := by decide +kernel
theorem dL_holds_68 : decode cL_holds 68 = .ok (.bipush 20, 2) := by decide +kernel
theorem dL_holds_70 : decode cL_holds 70 = .ok (.iastore, 1) := by decide +kernel
theorem dL_holds_71 : decode cL_holds 71 = .ok (.aload 8, 2) := by decide +kernel
theorem dL_holds_73 : decode cL_holds 73 = .ok (.iconst 5, 1) := by decide +kernel
theorem dL_holds_74 : decode cL_holds 74 = .ok (.bipush 20, 2) := by decide +kernel
theorem dL_holds_76 : decode cL_holds 76 = .ok (.iastore, 1) := by decide +kernel
theorem dL_holds_77 : decode cL_holds 77 = .ok (.aload 8, 2) := by decide +kernel
theorem dL_holds_79 : decode cL_holds 79 = .ok (.bipush 6, 2) := by decide +kernel
theorem dL_holds_81 : decode cL_holds 81 = .ok (.bipush 20, 2) := by decide +kernel
theorem dL_holds_83 : decode cL_holds 83 = .ok (.iastore, 1) := by decide +kernel
theorem dL_holds_84 : decode cL_holds 84 = .ok (.iconst 1, 1) := by decide +kernel
theorem dL_holds_85 : decode cL_holds 85 = .ok (.istore 12, 2) := by decide +kernel
theorem dL_holds_87 : decode cL_holds 87 = .ok (.iconst 0, 1) := by decide +kernel
theorem dL_holds_88 : decode cL_holds 88 = .ok (.istore 13, 2) := by decide +kernel
theorem dL_holds_90 : decode cL_holds 90 = .ok (.iload 13, 2) := by decide +kernel
theorem dL_holds_92 : decode cL_holds 92 = .ok (.bipush 70, 2) := by decide +kernel
theorem dL_holds_94 : decode cL_holds 94 = .ok (.if_icmp .ge 115, 3) := by decide +kernel
theorem dL_holds_97 : decode cL_holds 97 = .ok (.iload 12, 2) := by decide +kernel
theorem dL_holds_99 : decode cL_holds 99 = .ok (.ifCond .eq 110, 3) := by decide +kernel
theorem dL_holds_102 : decode cL_holds 102 = .ok (.aload_n 1, 1) := by decide +kernel
theorem dL_holds_103 : decode cL_holds 103 = .ok (.aload_n 2, 1) := by decide +kernel
theorem dL_holds_104 : decode cL_holds 104 = .ok (.aload_n 3, 1) := by decide +kernel
theorem dL_holds_105 : decode cL_holds 105 = .ok (.aload 4, 2) := by decide +kernel
theorem dL_holds_107 : decode cL_holds 107 = .ok (.aload 5, 2) := by decide +kernel
theorem dL_holds_109 : decode cL_holds 109 = .ok (.aload 6, 2) := by decide +kernel
theorem dL_holds_111 : decode cL_holds 111 = .ok (.aload 7, 2) := by decide +kernel
theorem dL_holds_113 : decode cL_holds 113 = .ok (.aload 8, 2) := by decide +kernel
theorem dL_holds_115 : decode cL_holds 115 = .ok (.aload 9, 2) := by decide +kernel
theorem dL_holds_117 : decode cL_holds 117 = .ok (.aload 10, 2) := by decide +kernel
theorem dL_holds_119 : decode cL_holds 119 = .ok (.aload 11, 2) := by decide +kernel
theorem dL_holds_121 : decode cL_holds 121 = .ok (.aload_n 0, 1) := by decide +kernel
theorem dL_holds_122 : decode cL_holds 122 = .ok (.iconst 2, 1) := by decide +kernel
theorem dL_holds_123 : decode cL_holds 123 = .ok (.iload 13, 2) := by decide +kernel
theorem dL_holds_125 : decode cL_holds 125 = .ok (.imul, 1) := by decide +kernel
theorem dL_holds_126 : decode cL_holds 126 = .ok (.bipush 12, 2) := by decide +kernel
theorem dL_holds_128 : decode cL_holds 128 = .ok (.invokestatic 137, 3) := by decide +kernel
theorem dL_holds_131 : decode cL_holds 131 = .ok (.aload_n 0, 1) := by decide +kernel
theorem dL_holds_132 : decode cL_holds 132 = .ok (.iconst 2, 1) := by decide +kernel
theorem dL_holds_133 : decode cL_holds 133 = .ok (.iload 13, 2) := by decide +kernel
theorem dL_holds_135 : decode cL_holds 135 = .ok (.imul, 1) := by decide +kernel
theorem dL_holds_136 : decode cL_holds 136 = .ok (.iconst 1, 1) := by decide +kernel
theorem dL_holds_137 : decode cL_holds 137 = .ok (.iadd, 1) := by decide +kernel
theorem dL_holds_138 : decode cL_holds 138 = .ok (.ldc 140, 2) := by decide +kernel
theorem dL_holds_140 : decode cL_holds 140 = .ok (.invokestatic 137, 3) := by decide +kernel
theorem dL_holds_143 : decode cL_holds 143 = .ok (.invokestatic 141, 3) := by decide +kernel
theorem dL_holds_146 : decode cL_holds 146 = .ok (.ifCond .eq 54, 3) := by decide +kernel
theorem dL_holds_149 : decode cL_holds 149 = .ok (.aload_n 1, 1) := by decide +kernel
theorem dL_holds_150 : decode cL_holds 150 = .ok (.aload_n 2, 1) := by decide +kernel
theorem dL_holds_151 : decode cL_holds 151 = .ok (.aload_n 3, 1) := by decide +kernel
theorem dL_holds_152 : decode cL_holds 152 = .ok (.aload 4, 2) := by decide +kernel
theorem dL_holds_154 : decode cL_holds 154 = .ok (.aload 5, 2) := by decide +kernel
theorem dL_holds_156 : decode cL_holds 156 = .ok (.aload 6, 2) := by decide +kernel
theorem dL_holds_158 : decode cL_holds 158 = .ok (.aload 11, 2) := by decide +kernel
theorem dL_holds_160 : decode cL_holds 160 = .ok (.invokestatic 145, 3) := by decide +kernel
theorem dL_holds_163 : decode cL_holds 163 = .ok (.ifCond .eq 37, 3) := by decide +kernel
theorem dL_holds_166 : decode cL_holds 166 = .ok (.iload 13, 2) := by decide +kernel
theorem dL_holds_168 : decode cL_holds 168 = .ok (.iconst 2, 1) := by decide +kernel
theorem dL_holds_169 : decode cL_holds 169 = .ok (.irem, 1) := by decide +kernel
theorem dL_holds_170 : decode cL_holds 170 = .ok (.ifCond .eq 26, 3) := by decide +kernel
theorem dL_holds_173 : decode cL_holds 173 = .ok (.aload_n 1, 1) := by decide +kernel
theorem dL_holds_174 : decode cL_holds 174 = .ok (.aload_n 2, 1) := by decide +kernel
theorem dL_holds_175 : decode cL_holds 175 = .ok (.aload_n 3, 1) := by decide +kernel
theorem dL_holds_176 : decode cL_holds 176 = .ok (.aload 5, 2) := by decide +kernel
theorem dL_holds_178 : decode cL_holds 178 = .ok (.aload 6, 2) := by decide +kernel
theorem dL_holds_180 : decode cL_holds 180 = .ok (.aload 7, 2) := by decide +kernel
theorem dL_holds_182 : decode cL_holds 182 = .ok (.aload 8, 2) := by decide +kernel
theorem dL_holds_184 : decode cL_holds 184 = .ok (.aload 9, 2) := by decide +kernel
theorem dL_holds_186 : decode cL_holds 186 = .ok (.aload 10, 2) := by decide +kernel
theorem dL_holds_188 : decode cL_holds 188 = .ok (.aload 11, 2) := by decide +kernel
theorem dL_holds_190 : decode cL_holds 190 = .ok (.invokestatic 149, 3) := by decide +kernel
theorem dL_holds_193 : decode cL_holds 193 = .ok (.ifCond .eq 7, 3) := by decide +kernel
theorem dL_holds_196 : decode cL_holds 196 = .ok (.iconst 1, 1) := by decide +kernel
theorem dL_holds_197 : decode cL_holds 197 = .ok (.goto 4, 3) := by decide +kernel
theorem dL_holds_200 : decode cL_holds 200 = .ok (.iconst 0, 1) := by decide +kernel
theorem dL_holds_201 : decode cL_holds 201 = .ok (.istore 12, 2) := by decide +kernel
theorem dL_holds_203 : decode cL_holds 203 = .ok (.iinc 13 1, 3) := by decide +kernel
theorem dL_holds_206 : decode cL_holds 206 = .ok (.goto (-116), 3) := by decide +kernel
theorem dL_holds_209 : decode cL_holds 209 = .ok (.iload 12, 2) := by decide +kernel
theorem dL_holds_211 : decode cL_holds 211 = .ok (.ireturn, 1) := by decide +kernel
set_option maxRecDepth 20000 in
theorem ggL_isHeld_L_holds : GoodIn wsL_isHeld wsL_holds := goodIn_ca (goodIn_ca (goodIn_ca (goodIn_r _ [6, 7, 8, 9, 10, 11, 12, 13, 14, 15, 16, 17, 18, 19, 20, 21, 22, 23, 24, 25, 26, 27, 28, 29, 30, 31, 32, 33, 34, 35, 36, 37, 38, 39, 40, 41, 42, 43, 44, 45, 46, 47, 48, 49, 50, 51, 52, 53, 54, 55, 56, 57, 58, 59, 60, 61, 62, 63, 5, 64, 65, 66, 67, 68, 69, 70, 71, 72, 73, 74, 75, 76, 77, 78, 79, 80, 81, 82, 83, 84, 85, 86, 87, 88, 89, 90, 91, 92, 93, 94, 95, 96, 97, 98, 99, 100, 101, 102, 103, 104, 105, 106, 107, 108, 109, 110, 111, 112, 113, 114, 115, 116, 117, 118, 119, 120, 121, 122, 123, 124, 125, 126, 127, 128, 129, 130, 131, 132, 133, 134, 135, 136, 137, 138, 139, 140, 141, 142, 143, 144, 145, 146, 147, 148, 149, 150, 151, 152, 153, 154, 155, 156, 157, 158, 159, 160, 161, 162, 163, 164, 165, 166, 167, 168, 169, 170, 171, 172, 173, 174, 175, 176, 177, 178, 179, 180, 181, 182, 183, 184, 185, 186, 187, 188, 189, 190, 191, 192, 193, 194, 195, 196, 197, 198, 199, 200, 201, 202, 203, 204, 205, 206, 207, 208, 209, 210, 211, 212, 213, 214, 215, 216, 217, 218, 219, 220, 221, 222, 223, 224, 225, 226, 227, 228, 229, 230, 231, 232, 233, 234, 235, 236, 237, 238, 239, 240, 241, 242, 243, 244, 245, 246, 247, 248, 249, 250, 251, 252, 253, 254, 255, 256, 257, 258, 259, 260, 261, 262, 263, 264, 265, 266, 267, 268, 269, 270, 271, 272, 273, 274, 275, 276, 277, 278, 279, 280, 281, 282, 283, 284, 285, 286, 287, 288, 289, 290, 291, 292, 293, 294, 295, 296, 297, 298, 299, 300, 301, 302, 303, 304, 305, 306, 307, 308, 309, 310, 311, 312, 313, 314, 315, 316, 317, 318, 319, 320, 321, 322, 323, 324, 325, 326, 327, 328, 329, 330, 331, 332, 333, 334, 335, 336, 337, 338, 339, 340, 341, 342, 343, 344, 345, 346, 347, 348, 349, 350, 351, 352, 353, 354, 355, 356, 357, 358, 359, 360, 361, 362, 363, 364, 365, 366, 367, 368, 369, 370, 371, 372] (by decide +kernel) (by decide +kernel)) (goodIn_sub (fun _ h => List.mem_cons_of_mem _ (List.mem_append_left _ (List.mem_append_left _ (List.mem_append_right _ h)))) (by decide +kernel))) (goodIn_sub (fun _ h => List.mem_cons_of_mem _ (List.mem_append_left _ (List.mem_append_right _ h))) (by decide +kernel))) (goodIn_sub (fun _ h => List.mem_cons_of_mem _ (List.mem_append_right _ h)) (by decide +kernel))
set_option maxRecDepth 20000 in
theorem gL_isHeld_L_holds : GoodIn wsL_isHeld (va_wsS RL 153 yL_holds wsL_holds) := goodIn_app (goodIn_of _ (by decide +kernel)) ggL_isHeld_L_holds
theorem dL_isHeld_0 : decode cL_isHeld 0 = .ok (.aload_n 0, 1) := by decide +kernel
theorem dL_isHeld_1 : decode cL_isHeld 1 = .ok (.invokestatic 153, 3) := by decide +kernel
theorem dL_isHeld_4 : decode cL_isHeld 4 = .ok (.ireturn, 1) := by decide +kernel
theorem dL_isHeld_5 : decode cL_isHeld 5 = .ok (.astore_n 1, 1) := by decide +kernel
theorem dL_isHeld_6 : decode cL_isHeld 6 = .ok (.iconst 0, 1) := by decide +kernel
theorem dL_isHeld_7 : decode cL_isHeld 7 = .ok (.ireturn, 1) := by decide +kernel
theorem dL_isHeld_8 : decode cL_isHeld 8 = .ok (.astore_n 1, 1) := by decide +kernel
theorem dL_isHeld_9 : decode cL_isHeld 9 = .ok (.iconst 0, 1) := by decide +kernel
theorem dL_isHeld_10 : decode cL_isHeld 10 = .ok (.ireturn, 1) := by decide +kernel
theorem dL_isHeld_11 : decode cL_isHeld 11 = .ok (.astore_n 1, 1) := by decide +kernel
theorem dL_isHeld_12 : decode cL_isHeld 12 = .ok (.iconst 0, 1) := by decide +kernel
theorem dL_isHeld_13 : decode cL_isHeld 13 = .ok (.ireturn, 1) := by decide +kernel
set_option maxRecDepth 20000 in
theorem ggL_law_L_isHeld : GoodIn wsL_law wsL_isHeld := goodIn_ca (goodIn_ca (goodIn_ca (goodIn_r _ [3, 4, 5, 6, 7, 2, 8, 9, 10, 11, 12, 13, 14, 15, 16, 17, 18, 19, 20, 21, 22, 23, 24, 25, 26, 27, 28, 29, 30, 31, 32, 33, 34, 35, 36, 37, 38, 39, 40, 41, 42, 43, 44, 45, 46, 47, 48, 49, 50, 51, 52, 53, 54, 55, 56, 57, 58, 59, 60, 61, 62, 63, 64, 65, 66, 67, 68, 69, 70, 71, 72, 73, 74, 75, 76, 77, 78, 79, 80, 81, 82, 83, 84, 85, 86, 87, 88, 89, 90, 91, 92, 93, 94, 95, 96, 97, 98, 99, 100, 101, 102, 103, 104, 105, 106, 107, 108, 109, 110, 111, 112, 113, 114, 115, 116, 117, 118, 119, 120, 121, 122, 123, 124, 125, 126, 127, 128, 129, 130, 131, 132, 133, 134, 135, 136, 137, 138, 139, 140, 141, 142, 143, 144, 145, 146, 147, 148, 149, 150, 151, 152, 153, 154, 155, 156, 157, 158, 159, 160, 161, 162, 163, 164, 165, 166, 167, 168, 169, 170, 171, 172, 173, 174, 175, 176, 177, 178, 179, 180, 181, 182, 183, 184, 185, 186, 187, 188, 189, 190, 191, 192, 193, 194, 195, 196, 197, 198, 199, 200, 201, 202, 203, 204, 205, 206, 207, 208, 209, 210, 211, 212, 213, 214, 215, 216, 217, 218, 219, 220, 221, 222, 223, 224, 225, 226, 227, 228, 229, 230, 231, 232, 233, 234, 235, 236, 237, 238, 239, 240, 241, 242, 243, 244, 245, 246, 247, 248, 249, 250, 251, 252, 253, 254, 255, 256, 257, 258, 259, 260, 261, 262, 263, 264, 265, 266, 267, 268, 269, 270, 271, 272, 273, 274, 275, 276, 277, 278, 279, 280, 281, 282, 283, 284, 285, 286, 287, 288, 289, 290, 291, 292, 293, 294, 295, 296, 297, 298, 299, 300, 301, 302, 303, 304, 305, 306, 307, 308, 309, 310, 311, 312, 313, 314, 315, 316, 317, 318, 319, 320, 321, 322, 323, 324, 325, 326, 327, 328, 329, 330, 331, 332, 333, 334, 335, 336, 337, 338, 339, 340, 341, 342, 343, 344, 345, 346, 347, 348, 349, 350, 351, 352, 353, 354, 355, 356, 357, 358, 359, 360, 361, 362, 363, 364, 365, 366, 367, 368, 369, 370, 371, 372, 373, 374] (by decide +kernel) (by decide +kernel)) (goodIn_sub (fun _ h => List.mem_append_left _ (List.mem_append_left _ (List.mem_append_right _ h))) (by decide +kernel))) (goodIn_sub (fun _ h => List.mem_append_left _ (List.mem_append_right _ h)) (by decide +kernel))) (goodIn_sub (fun _ h => List.mem_append_right _ h) (by decide +kernel))
set_option maxRecDepth 20000 in
theorem gL_law_L_isHeld : GoodIn wsL_law (va_wsS RL 161 yL_isHeld wsL_isHeld) := goodIn_app (goodIn_of _ (by decide +kernel)) ggL_law_L_isHeld
theorem dL_law_0 : decode cL_law 0 = .ok (.aload_n 0, 1) := by decide +kernel
theorem dL_law_1 : decode cL_law 1 = .ok (.invokestatic 161, 3) := by decide +kernel
theorem dL_law_4 : decode cL_law 4 = .ok (.ireturn, 1) := by decide +kernel
abbrev vwCl : List vw_C := [(RX0, TX0, 3), (RX1, TX1, 5), (RX2, TX2, 7), (RX3, TX3, 3)]
