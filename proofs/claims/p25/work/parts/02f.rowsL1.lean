theorem goodIn_td {big ws : List Cond} (k : Nat) (h1 : GoodIn big (ws.take k)) (h2 : GoodIn big (ws.drop k)) : GoodIn big ws := by
  intro w hw
  rw [← List.take_append_drop k ws] at hw
  exact (List.mem_append.mp hw).elim (h1 w) (h2 w)
theorem goodIn_1 {big ws : List Cond} {w : Cond} (i : Nat) (hw : ws = [w]) (h : big[i]? = some w) (hg : goodWord w = true) : GoodIn big ws := by
  intro v hv
  rw [hw] at hv
  rw [List.mem_singleton.mp hv]
  exact ⟨List.mem_of_getElem? h, good_of_word hg⟩
theorem dL_from_0 : decode cL_from 0 = .ok (.aload_n 0, 1) := by decide +kernel
theorem dL_from_1 : decode cL_from 1 = .ok (.arraylength, 1) := by decide +kernel
theorem dL_from_2 : decode cL_from 2 = .ok (.ifCond .ne 14, 3) := by decide +kernel
theorem dL_from_5 : decode cL_from 5 = .ok (.sipush 137, 3) := by decide +kernel
theorem dL_from_8 : decode cL_from 8 = .ok (.iload_n 1, 1) := by decide +kernel
theorem dL_from_9 : decode cL_from 9 = .ok (.imul, 1) := by decide +kernel
theorem dL_from_10 : decode cL_from 10 = .ok (.bipush 107, 2) := by decide +kernel
theorem dL_from_12 : decode cL_from 12 = .ok (.iadd, 1) := by decide +kernel
theorem dL_from_13 : decode cL_from 13 = .ok (.goto 14, 3) := by decide +kernel
theorem dL_from_16 : decode cL_from 16 = .ok (.aload_n 0, 1) := by decide +kernel
theorem dL_from_17 : decode cL_from 17 = .ok (.iload_n 1, 1) := by decide +kernel
theorem dL_from_18 : decode cL_from 18 = .ok (.aload_n 0, 1) := by decide +kernel
theorem dL_from_19 : decode cL_from 19 = .ok (.arraylength, 1) := by decide +kernel
theorem dL_from_20 : decode cL_from 20 = .ok (.irem, 1) := by decide +kernel
theorem dL_from_21 : decode cL_from 21 = .ok (.iaload, 1) := by decide +kernel
theorem dL_from_22 : decode cL_from 22 = .ok (.ldc 7, 2) := by decide +kernel
theorem dL_from_24 : decode cL_from 24 = .ok (.iload_n 1, 1) := by decide +kernel
theorem dL_from_25 : decode cL_from 25 = .ok (.imul, 1) := by decide +kernel
theorem dL_from_26 : decode cL_from 26 = .ok (.ixor, 1) := by decide +kernel
theorem dL_from_27 : decode cL_from 27 = .ok (.istore_n 3, 1) := by decide +kernel
theorem dL_from_28 : decode cL_from 28 = .ok (.iload_n 3, 1) := by decide +kernel
theorem dL_from_29 : decode cL_from 29 = .ok (.ldc 8, 2) := by decide +kernel
theorem dL_from_31 : decode cL_from 31 = .ok (.iand, 1) := by decide +kernel
theorem dL_from_32 : decode cL_from 32 = .ok (.iload_n 2, 1) := by decide +kernel
theorem dL_from_33 : decode cL_from 33 = .ok (.irem, 1) := by decide +kernel
theorem dL_from_34 : decode cL_from 34 = .ok (.ireturn, 1) := by decide +kernel
theorem dL_leaves_0 : decode cL_leaves 0 = .ok (.iconst 0, 1) := by decide +kernel
theorem dL_leaves_1 : decode cL_leaves 1 = .ok (.istore 5, 2) := by decide +kernel
theorem dL_leaves_3 : decode cL_leaves 3 = .ok (.aload_n 2, 1) := by decide +kernel
theorem dL_leaves_4 : decode cL_leaves 4 = .ok (.iconst 0, 1) := by decide +kernel
theorem dL_leaves_5 : decode cL_leaves 5 = .ok (.iaload, 1) := by decide +kernel
theorem dL_leaves_6 : decode cL_leaves 6 = .ok (.iconst 1, 1) := by decide +kernel
theorem dL_leaves_7 : decode cL_leaves 7 = .ok (.isub, 1) := by decide +kernel
theorem dL_leaves_8 : decode cL_leaves 8 = .ok (.istore 6, 2) := by decide +kernel
theorem dL_leaves_10 : decode cL_leaves 10 = .ok (.iload 6, 2) := by decide +kernel
theorem dL_leaves_12 : decode cL_leaves 12 = .ok (.ifCond .lt 88, 3) := by decide +kernel
theorem dL_leaves_15 : decode cL_leaves 15 = .ok (.iconst 0, 1) := by decide +kernel
theorem dL_leaves_16 : decode cL_leaves 16 = .ok (.istore 7, 2) := by decide +kernel
theorem dL_leaves_18 : decode cL_leaves 18 = .ok (.iload 6, 2) := by decide +kernel
theorem dL_leaves_20 : decode cL_leaves 20 = .ok (.iconst 1, 1) := by decide +kernel
theorem dL_leaves_21 : decode cL_leaves 21 = .ok (.iadd, 1) := by decide +kernel
theorem dL_leaves_22 : decode cL_leaves 22 = .ok (.istore 8, 2) := by decide +kernel
theorem dL_leaves_24 : decode cL_leaves 24 = .ok (.iload 8, 2) := by decide +kernel
theorem dL_leaves_26 : decode cL_leaves 26 = .ok (.aload_n 2, 1) := by decide +kernel
theorem dL_leaves_27 : decode cL_leaves 27 = .ok (.iconst 0, 1) := by decide +kernel
theorem dL_leaves_28 : decode cL_leaves 28 = .ok (.iaload, 1) := by decide +kernel
theorem dL_leaves_29 : decode cL_leaves 29 = .ok (.if_icmp .ge 26, 3) := by decide +kernel
theorem dL_leaves_32 : decode cL_leaves 32 = .ok (.iload 7, 2) := by decide +kernel
theorem dL_leaves_34 : decode cL_leaves 34 = .ok (.aload_n 1, 1) := by decide +kernel
theorem dL_leaves_35 : decode cL_leaves 35 = .ok (.iload 8, 2) := by decide +kernel
theorem dL_leaves_37 : decode cL_leaves 37 = .ok (.iaload, 1) := by decide +kernel
theorem dL_leaves_38 : decode cL_leaves 38 = .ok (.iload 6, 2) := by decide +kernel
theorem dL_leaves_40 : decode cL_leaves 40 = .ok (.ishr, 1) := by decide +kernel
theorem dL_leaves_41 : decode cL_leaves 41 = .ok (.iconst 1, 1) := by decide +kernel
theorem dL_leaves_42 : decode cL_leaves 42 = .ok (.iand, 1) := by decide +kernel
theorem dL_leaves_43 : decode cL_leaves 43 = .ok (.iload 8, 2) := by decide +kernel
theorem dL_leaves_45 : decode cL_leaves 45 = .ok (.ishl, 1) := by decide +kernel
theorem dL_leaves_46 : decode cL_leaves 46 = .ok (.ior, 1) := by decide +kernel
theorem dL_leaves_47 : decode cL_leaves 47 = .ok (.istore 7, 2) := by decide +kernel
theorem dL_leaves_49 : decode cL_leaves 49 = .ok (.iinc 8 1, 3) := by decide +kernel
theorem dL_leaves_52 : decode cL_leaves 52 = .ok (.goto (-28), 3) := by decide +kernel
theorem dL_leaves_55 : decode cL_leaves 55 = .ok (.iload 5, 2) := by decide +kernel
theorem dL_leaves_57 : decode cL_leaves 57 = .ok (.iload_n 3, 1) := by decide +kernel
theorem dL_leaves_58 : decode cL_leaves 58 = .ok (.iload 6, 2) := by decide +kernel
theorem dL_leaves_60 : decode cL_leaves 60 = .ok (.ishr, 1) := by decide +kernel
theorem dL_leaves_61 : decode cL_leaves 61 = .ok (.iconst 1, 1) := by decide +kernel
theorem dL_leaves_62 : decode cL_leaves 62 = .ok (.iand, 1) := by decide +kernel
theorem dL_leaves_63 : decode cL_leaves 63 = .ok (.iconst 1, 1) := by decide +kernel
theorem dL_leaves_64 : decode cL_leaves 64 = .ok (.if_icmp .ne 26, 3) := by decide +kernel
theorem dL_leaves_67 : decode cL_leaves 67 = .ok (.aload_n 0, 1) := by decide +kernel
theorem dL_leaves_68 : decode cL_leaves 68 = .ok (.iload 6, 2) := by decide +kernel
theorem dL_leaves_70 : decode cL_leaves 70 = .ok (.iaload, 1) := by decide +kernel
theorem dL_leaves_71 : decode cL_leaves 71 = .ok (.iload 4, 2) := by decide +kernel
theorem dL_leaves_73 : decode cL_leaves 73 = .ok (.if_icmp .ne 17, 3) := by decide +kernel
theorem dL_leaves_76 : decode cL_leaves 76 = .ok (.iload 7, 2) := by decide +kernel
theorem dL_leaves_78 : decode cL_leaves 78 = .ok (.iload_n 3, 1) := by decide +kernel
theorem dL_leaves_79 : decode cL_leaves 79 = .ok (.iand, 1) := by decide +kernel
theorem dL_leaves_80 : decode cL_leaves 80 = .ok (.ifCond .ne 10, 3) := by decide +kernel
theorem dL_leaves_83 : decode cL_leaves 83 = .ok (.iconst 1, 1) := by decide +kernel
theorem dL_leaves_84 : decode cL_leaves 84 = .ok (.iload 6, 2) := by decide +kernel
theorem dL_leaves_86 : decode cL_leaves 86 = .ok (.ishl, 1) := by decide +kernel
theorem dL_leaves_87 : decode cL_leaves 87 = .ok (.goto 4, 3) := by decide +kernel
theorem dL_leaves_90 : decode cL_leaves 90 = .ok (.iconst 0, 1) := by decide +kernel
theorem dL_leaves_91 : decode cL_leaves 91 = .ok (.ior, 1) := by decide +kernel
theorem dL_leaves_92 : decode cL_leaves 92 = .ok (.istore 5, 2) := by decide +kernel
theorem dL_leaves_94 : decode cL_leaves 94 = .ok (.iinc 6 (-1), 3) := by decide +kernel
theorem dL_leaves_97 : decode cL_leaves 97 = .ok (.goto (-87), 3) := by decide +kernel
theorem dL_leaves_100 : decode cL_leaves 100 = .ok (.iload 5, 2) := by decide +kernel
theorem dL_leaves_102 : decode cL_leaves 102 = .ok (.ireturn, 1) := by decide +kernel
theorem dL_rank_0 : decode cL_rank 0 = .ok (.aload_n 0, 1) := by decide +kernel
theorem dL_rank_1 : decode cL_rank 1 = .ok (.iload_n 3, 1) := by decide +kernel
theorem dL_rank_2 : decode cL_rank 2 = .ok (.iaload, 1) := by decide +kernel
theorem dL_rank_3 : decode cL_rank 3 = .ok (.ifCond .lt 8, 3) := by decide +kernel
theorem dL_rank_6 : decode cL_rank 6 = .ok (.bipush 64, 2) := by decide +kernel
theorem dL_rank_8 : decode cL_rank 8 = .ok (.goto 4, 3) := by decide +kernel
theorem dL_rank_11 : decode cL_rank 11 = .ok (.iconst 0, 1) := by decide +kernel
theorem dL_rank_12 : decode cL_rank 12 = .ok (.aload_n 1, 1) := by decide +kernel
theorem dL_rank_13 : decode cL_rank 13 = .ok (.iload_n 3, 1) := by decide +kernel
theorem dL_rank_14 : decode cL_rank 14 = .ok (.iaload, 1) := by decide +kernel
theorem dL_rank_15 : decode cL_rank 15 = .ok (.iadd, 1) := by decide +kernel
theorem dL_rank_16 : decode cL_rank 16 = .ok (.sipush 1000, 3) := by decide +kernel
theorem dL_rank_19 : decode cL_rank 19 = .ok (.imul, 1) := by decide +kernel
theorem dL_rank_20 : decode cL_rank 20 = .ok (.aload_n 2, 1) := by decide +kernel
theorem dL_rank_21 : decode cL_rank 21 = .ok (.iload_n 3, 1) := by decide +kernel
theorem dL_rank_22 : decode cL_rank 22 = .ok (.iaload, 1) := by decide +kernel
theorem dL_rank_23 : decode cL_rank 23 = .ok (.iadd, 1) := by decide +kernel
theorem dL_rank_24 : decode cL_rank 24 = .ok (.ireturn, 1) := by decide +kernel
set_option maxRecDepth 20000 in
theorem ggL_winner_L_leaves : GoodIn wsL_winner wsL_leaves := goodIn_r _ [4] (by decide +kernel) (by decide +kernel)
set_option maxRecDepth 20000 in
theorem gL_winner_L_leaves : GoodIn wsL_winner (va_wsS RL 9 yL_leaves wsL_leaves) := goodIn_app (goodIn_of _ (by decide +kernel)) ggL_winner_L_leaves
set_option maxRecDepth 20000 in
theorem ggL_winner_L_rank : GoodIn wsL_winner wsL_rank := goodIn_r _ [7] (by decide +kernel) (by decide +kernel)
set_option maxRecDepth 20000 in
theorem gL_winner_L_rank : GoodIn wsL_winner (va_wsS RL 15 yL_rank wsL_rank) := goodIn_app (goodIn_of _ (by decide +kernel)) ggL_winner_L_rank
theorem dL_winner_0 : decode cL_winner 0 = .ok (.aload_n 0, 1) := by decide +kernel
theorem dL_winner_1 : decode cL_winner 1 = .ok (.aload 4, 2) := by decide +kernel
theorem dL_winner_3 : decode cL_winner 3 = .ok (.aload 5, 2) := by decide +kernel
theorem dL_winner_5 : decode cL_winner 5 = .ok (.iload 6, 2) := by decide +kernel
theorem dL_winner_7 : decode cL_winner 7 = .ok (.iload 7, 2) := by decide +kernel
theorem dL_winner_9 : decode cL_winner 9 = .ok (.invokestatic 9, 3) := by decide +kernel
theorem dL_winner_12 : decode cL_winner 12 = .ok (.istore 8, 2) := by decide +kernel
theorem dL_winner_14 : decode cL_winner 14 = .ok (.iconst (-1), 1) := by decide +kernel
theorem dL_winner_15 : decode cL_winner 15 = .ok (.istore 9, 2) := by decide +kernel
theorem dL_winner_17 : decode cL_winner 17 = .ok (.iconst 0, 1) := by decide +kernel
theorem dL_winner_18 : decode cL_winner 18 = .ok (.istore 10, 2) := by decide +kernel
theorem dL_winner_20 : decode cL_winner 20 = .ok (.iload 10, 2) := by decide +kernel
theorem dL_winner_22 : decode cL_winner 22 = .ok (.aload 5, 2) := by decide +kernel
theorem dL_winner_24 : decode cL_winner 24 = .ok (.iconst 0, 1) := by decide +kernel
theorem dL_winner_25 : decode cL_winner 25 = .ok (.iaload, 1) := by decide +kernel
theorem dL_winner_26 : decode cL_winner 26 = .ok (.if_icmp .ge 53, 3) := by decide +kernel
theorem dL_winner_29 : decode cL_winner 29 = .ok (.iload 8, 2) := by decide +kernel
theorem dL_winner_31 : decode cL_winner 31 = .ok (.iload 10, 2) := by decide +kernel
theorem dL_winner_33 : decode cL_winner 33 = .ok (.ishr, 1) := by decide +kernel
theorem dL_winner_34 : decode cL_winner 34 = .ok (.iconst 1, 1) := by decide +kernel
theorem dL_winner_35 : decode cL_winner 35 = .ok (.iand, 1) := by decide +kernel
theorem dL_winner_36 : decode cL_winner 36 = .ok (.iconst 1, 1) := by decide +kernel
theorem dL_winner_37 : decode cL_winner 37 = .ok (.if_icmp .ne 32, 3) := by decide +kernel
theorem dL_winner_40 : decode cL_winner 40 = .ok (.iload 9, 2) := by decide +kernel
theorem dL_winner_42 : decode cL_winner 42 = .ok (.ifCond .lt 22, 3) := by decide +kernel
theorem dL_winner_45 : decode cL_winner 45 = .ok (.aload_n 1, 1) := by decide +kernel
theorem dL_winner_46 : decode cL_winner 46 = .ok (.aload_n 2, 1) := by decide +kernel
theorem dL_winner_47 : decode cL_winner 47 = .ok (.aload_n 3, 1) := by decide +kernel
theorem dL_winner_48 : decode cL_winner 48 = .ok (.iload 10, 2) := by decide +kernel
theorem dL_winner_50 : decode cL_winner 50 = .ok (.invokestatic 15, 3) := by decide +kernel
theorem dL_winner_53 : decode cL_winner 53 = .ok (.aload_n 1, 1) := by decide +kernel
theorem dL_winner_54 : decode cL_winner 54 = .ok (.aload_n 2, 1) := by decide +kernel
theorem dL_winner_55 : decode cL_winner 55 = .ok (.aload_n 3, 1) := by decide +kernel
theorem dL_winner_56 : decode cL_winner 56 = .ok (.iload 9, 2) := by decide +kernel
theorem dL_winner_58 : decode cL_winner 58 = .ok (.invokestatic 15, 3) := by decide +kernel
theorem dL_winner_61 : decode cL_winner 61 = .ok (.if_icmp .le 8, 3) := by decide +kernel
theorem dL_winner_64 : decode cL_winner 64 = .ok (.iload 10, 2) := by decide +kernel
theorem dL_winner_66 : decode cL_winner 66 = .ok (.goto 5, 3) := by decide +kernel
theorem dL_winner_69 : decode cL_winner 69 = .ok (.iload 9, 2) := by decide +kernel
theorem dL_winner_71 : decode cL_winner 71 = .ok (.istore 9, 2) := by decide +kernel
theorem dL_winner_73 : decode cL_winner 73 = .ok (.iinc 10 1, 3) := by decide +kernel
theorem dL_winner_76 : decode cL_winner 76 = .ok (.goto (-56), 3) := by decide +kernel
theorem dL_winner_79 : decode cL_winner 79 = .ok (.iload 9, 2) := by decide +kernel
theorem dL_winner_81 : decode cL_winner 81 = .ok (.ireturn, 1) := by decide +kernel
theorem dL_ones_0 : decode cL_ones 0 = .ok (.iconst 0, 1) := by decide +kernel
theorem dL_ones_1 : decode cL_ones 1 = .ok (.istore_n 1, 1) := by decide +kernel
theorem dL_ones_2 : decode cL_ones 2 = .ok (.iload_n 0, 1) := by decide +kernel
theorem dL_ones_3 : decode cL_ones 3 = .ok (.istore_n 2, 1) := by decide +kernel
theorem dL_ones_4 : decode cL_ones 4 = .ok (.iload_n 2, 1) := by decide +kernel
theorem dL_ones_5 : decode cL_ones 5 = .ok (.ifCond .eq 15, 3) := by decide +kernel
theorem dL_ones_8 : decode cL_ones 8 = .ok (.iinc 1 1, 3) := by decide +kernel
theorem dL_ones_11 : decode cL_ones 11 = .ok (.iload_n 2, 1) := by decide +kernel
theorem dL_ones_12 : decode cL_ones 12 = .ok (.iload_n 2, 1) := by decide +kernel
theorem dL_ones_13 : decode cL_ones 13 = .ok (.iconst 1, 1) := by decide +kernel
theorem dL_ones_14 : decode cL_ones 14 = .ok (.isub, 1) := by decide +kernel
theorem dL_ones_15 : decode cL_ones 15 = .ok (.iand, 1) := by decide +kernel
theorem dL_ones_16 : decode cL_ones 16 = .ok (.istore_n 2, 1) := by decide +kernel
theorem dL_ones_17 : decode cL_ones 17 = .ok (.goto (-13), 3) := by decide +kernel
theorem dL_ones_20 : decode cL_ones 20 = .ok (.iload_n 1, 1) := by decide +kernel
theorem dL_ones_21 : decode cL_ones 21 = .ok (.ireturn, 1) := by decide +kernel
set_option maxRecDepth 20000 in
theorem ggL_deep_L_leaves : GoodIn wsL_deep wsL_leaves := goodIn_r _ [4] (by decide +kernel) (by decide +kernel)
set_option maxRecDepth 20000 in
theorem gL_deep_L_leaves : GoodIn wsL_deep (va_wsS RL 9 yL_leaves wsL_leaves) := goodIn_app (goodIn_of _ (by decide +kernel)) ggL_deep_L_leaves
theorem dL_deep_0 : decode cL_deep 0 = .ok (.iconst 0, 1) := by decide +kernel
theorem dL_deep_1 : decode cL_deep 1 = .ok (.istore 6, 2) := by decide +kernel
theorem dL_deep_3 : decode cL_deep 3 = .ok (.iconst 0, 1) := by decide +kernel
theorem dL_deep_4 : decode cL_deep 4 = .ok (.istore 7, 2) := by decide +kernel
theorem dL_deep_6 : decode cL_deep 6 = .ok (.iload 7, 2) := by decide +kernel
theorem dL_deep_8 : decode cL_deep 8 = .ok (.aload_n 3, 1) := by decide +kernel
theorem dL_deep_9 : decode cL_deep 9 = .ok (.iconst 0, 1) := by decide +kernel
theorem dL_deep_10 : decode cL_deep 10 = .ok (.iaload, 1) := by decide +kernel
theorem dL_deep_11 : decode cL_deep 11 = .ok (.if_icmp .ge 155, 3) := by decide +kernel
theorem dL_deep_14 : decode cL_deep 14 = .ok (.aload_n 0, 1) := by decide +kernel
theorem dL_deep_15 : decode cL_deep 15 = .ok (.aload_n 2, 1) := by decide +kernel
theorem dL_deep_16 : decode cL_deep 16 = .ok (.aload_n 3, 1) := by decide +kernel
theorem dL_deep_17 : decode cL_deep 17 = .ok (.iload 4, 2) := by decide +kernel
theorem dL_deep_19 : decode cL_deep 19 = .ok (.aload_n 0, 1) := by decide +kernel
theorem dL_deep_20 : decode cL_deep 20 = .ok (.iload 7, 2) := by decide +kernel
theorem dL_deep_22 : decode cL_deep 22 = .ok (.iaload, 1) := by decide +kernel
theorem dL_deep_23 : decode cL_deep 23 = .ok (.invokestatic 9, 3) := by decide +kernel
theorem dL_deep_26 : decode cL_deep 26 = .ok (.istore 8, 2) := by decide +kernel
theorem dL_deep_28 : decode cL_deep 28 = .ok (.iconst 0, 1) := by decide +kernel
theorem dL_deep_29 : decode cL_deep 29 = .ok (.istore 9, 2) := by decide +kernel
theorem dL_deep_31 : decode cL_deep 31 = .ok (.iconst 0, 1) := by decide +kernel
theorem dL_deep_32 : decode cL_deep 32 = .ok (.istore 10, 2) := by decide +kernel
theorem dL_deep_34 : decode cL_deep 34 = .ok (.iconst 0, 1) := by decide +kernel
theorem dL_deep_35 : decode cL_deep 35 = .ok (.istore 11, 2) := by decide +kernel
theorem dL_deep_37 : decode cL_deep 37 = .ok (.iload 11, 2) := by decide +kernel
theorem dL_deep_39 : decode cL_deep 39 = .ok (.aload_n 3, 1) := by decide +kernel
theorem dL_deep_40 : decode cL_deep 40 = .ok (.iconst 0, 1) := by decide +kernel
theorem dL_deep_41 : decode cL_deep 41 = .ok (.iaload, 1) := by decide +kernel
theorem dL_deep_42 : decode cL_deep 42 = .ok (.if_icmp .ge 84, 3) := by decide +kernel
theorem dL_deep_45 : decode cL_deep 45 = .ok (.iload 8, 2) := by decide +kernel
theorem dL_deep_47 : decode cL_deep 47 = .ok (.iload 11, 2) := by decide +kernel
theorem dL_deep_49 : decode cL_deep 49 = .ok (.ishr, 1) := by decide +kernel
theorem dL_deep_50 : decode cL_deep 50 = .ok (.iconst 1, 1) := by decide +kernel
theorem dL_deep_51 : decode cL_deep 51 = .ok (.iand, 1) := by decide +kernel
theorem dL_deep_52 : decode cL_deep 52 = .ok (.iconst 1, 1) := by decide +kernel
theorem dL_deep_53 : decode cL_deep 53 = .ok (.if_icmp .ne 20, 3) := by decide +kernel
theorem dL_deep_56 : decode cL_deep 56 = .ok (.aload_n 2, 1) := by decide +kernel
theorem dL_deep_57 : decode cL_deep 57 = .ok (.iload 11, 2) := by decide +kernel
theorem dL_deep_59 : decode cL_deep 59 = .ok (.iaload, 1) := by decide +kernel
theorem dL_deep_60 : decode cL_deep 60 = .ok (.iload 7, 2) := by decide +kernel
theorem dL_deep_62 : decode cL_deep 62 = .ok (.ishr, 1) := by decide +kernel
theorem dL_deep_63 : decode cL_deep 63 = .ok (.iconst 1, 1) := by decide +kernel
theorem dL_deep_64 : decode cL_deep 64 = .ok (.iand, 1) := by decide +kernel
theorem dL_deep_65 : decode cL_deep 65 = .ok (.iconst 1, 1) := by decide +kernel
theorem dL_deep_66 : decode cL_deep 66 = .ok (.if_icmp .ne 7, 3) := by decide +kernel
theorem dL_deep_69 : decode cL_deep 69 = .ok (.iconst 1, 1) := by decide +kernel
theorem dL_deep_70 : decode cL_deep 70 = .ok (.goto 4, 3) := by decide +kernel
theorem dL_deep_73 : decode cL_deep 73 = .ok (.iconst 0, 1) := by decide +kernel
theorem dL_deep_74 : decode cL_deep 74 = .ok (.istore 12, 2) := by decide +kernel
theorem dL_deep_76 : decode cL_deep 76 = .ok (.iload 9, 2) := by decide +kernel
theorem dL_deep_78 : decode cL_deep 78 = .ok (.iload 12, 2) := by decide +kernel
theorem dL_deep_80 : decode cL_deep 80 = .ok (.ifCond .eq 7, 3) := by decide +kernel
theorem dL_deep_83 : decode cL_deep 83 = .ok (.iconst 1, 1) := by decide +kernel
theorem dL_deep_84 : decode cL_deep 84 = .ok (.goto 4, 3) := by decide +kernel
theorem dL_deep_87 : decode cL_deep 87 = .ok (.iconst 0, 1) := by decide +kernel
theorem dL_deep_88 : decode cL_deep 88 = .ok (.iadd, 1) := by decide +kernel
theorem dL_deep_89 : decode cL_deep 89 = .ok (.istore 9, 2) := by decide +kernel
theorem dL_deep_91 : decode cL_deep 91 = .ok (.iload 10, 2) := by decide +kernel
theorem dL_deep_93 : decode cL_deep 93 = .ok (.iload 12, 2) := by decide +kernel
theorem dL_deep_95 : decode cL_deep 95 = .ok (.ifCond .eq 21, 3) := by decide +kernel
theorem dL_deep_98 : decode cL_deep 98 = .ok (.aload_n 1, 1) := by decide +kernel
theorem dL_deep_99 : decode cL_deep 99 = .ok (.iload 11, 2) := by decide +kernel
theorem dL_deep_101 : decode cL_deep 101 = .ok (.iaload, 1) := by decide +kernel
theorem dL_deep_102 : decode cL_deep 102 = .ok (.aload_n 1, 1) := by decide +kernel
theorem dL_deep_103 : decode cL_deep 103 = .ok (.iload 7, 2) := by decide +kernel
theorem dL_deep_105 : decode cL_deep 105 = .ok (.iaload, 1) := by decide +kernel
theorem dL_deep_106 : decode cL_deep 106 = .ok (.isub, 1) := by decide +kernel
theorem dL_deep_107 : decode cL_deep 107 = .ok (.iload 5, 2) := by decide +kernel
theorem dL_deep_109 : decode cL_deep 109 = .ok (.if_icmp .ge 7, 3) := by decide +kernel
theorem dL_deep_112 : decode cL_deep 112 = .ok (.iconst 1, 1) := by decide +kernel
theorem dL_deep_113 : decode cL_deep 113 = .ok (.goto 4, 3) := by decide +kernel
theorem dL_deep_116 : decode cL_deep 116 = .ok (.iconst 0, 1) := by decide +kernel
theorem dL_deep_117 : decode cL_deep 117 = .ok (.iadd, 1) := by decide +kernel
theorem dL_deep_118 : decode cL_deep 118 = .ok (.istore 10, 2) := by decide +kernel
theorem dL_deep_120 : decode cL_deep 120 = .ok (.iinc 11 1, 3) := by decide +kernel
theorem dL_deep_123 : decode cL_deep 123 = .ok (.goto (-86), 3) := by decide +kernel
theorem dL_deep_126 : decode cL_deep 126 = .ok (.iload 6, 2) := by decide +kernel
theorem dL_deep_128 : decode cL_deep 128 = .ok (.iload 4, 2) := by decide +kernel
theorem dL_deep_130 : decode cL_deep 130 = .ok (.iload 7, 2) := by decide +kernel
theorem dL_deep_132 : decode cL_deep 132 = .ok (.ishr, 1) := by decide +kernel
theorem dL_deep_133 : decode cL_deep 133 = .ok (.iconst 1, 1) := by decide +kernel
theorem dL_deep_134 : decode cL_deep 134 = .ok (.iand, 1) := by decide +kernel
theorem dL_deep_135 : decode cL_deep 135 = .ok (.iconst 1, 1) := by decide +kernel
theorem dL_deep_136 : decode cL_deep 136 = .ok (.if_icmp .ne 20, 3) := by decide +kernel
theorem dL_deep_139 : decode cL_deep 139 = .ok (.iload 9, 2) := by decide +kernel
theorem dL_deep_141 : decode cL_deep 141 = .ok (.ifCond .le 15, 3) := by decide +kernel
theorem dL_deep_144 : decode cL_deep 144 = .ok (.iload 10, 2) := by decide +kernel
theorem dL_deep_146 : decode cL_deep 146 = .ok (.ifCond .ne 10, 3) := by decide +kernel
theorem dL_deep_149 : decode cL_deep 149 = .ok (.iconst 1, 1) := by decide +kernel
theorem dL_deep_150 : decode cL_deep 150 = .ok (.iload 7, 2) := by decide +kernel
theorem dL_deep_152 : decode cL_deep 152 = .ok (.ishl, 1) := by decide +kernel
theorem dL_deep_153 : decode cL_deep 153 = .ok (.goto 4, 3) := by decide +kernel
theorem dL_deep_156 : decode cL_deep 156 = .ok (.iconst 0, 1) := by decide +kernel
theorem dL_deep_157 : decode cL_deep 157 = .ok (.ior, 1) := by decide +kernel
theorem dL_deep_158 : decode cL_deep 158 = .ok (.istore 6, 2) := by decide +kernel
theorem dL_deep_160 : decode cL_deep 160 = .ok (.iinc 7 1, 3) := by decide +kernel
theorem dL_deep_163 : decode cL_deep 163 = .ok (.goto (-157), 3) := by decide +kernel
theorem dL_deep_166 : decode cL_deep 166 = .ok (.iload 6, 2) := by decide +kernel
theorem dL_deep_168 : decode cL_deep 168 = .ok (.ireturn, 1) := by decide +kernel
set_option maxRecDepth 20000 in
theorem ggL_stem_L_deep : GoodIn wsL_stem wsL_deep := goodIn_r _ [4, 5, 6, 3, 7] (by decide +kernel) (by decide +kernel)
set_option maxRecDepth 20000 in
theorem gL_stem_L_deep : GoodIn wsL_stem (va_wsS RL 19 yL_deep wsL_deep) := goodIn_app (goodIn_of _ (by decide +kernel)) ggL_stem_L_deep
set_option maxRecDepth 20000 in
theorem ggL_stem_L_ones : GoodIn wsL_stem wsL_ones := goodIn_r _ [10] (by decide +kernel) (by decide +kernel)
set_option maxRecDepth 20000 in
theorem gL_stem_L_ones : GoodIn wsL_stem (va_wsS RL 23 yL_ones wsL_ones) := goodIn_app (goodIn_of _ (by decide +kernel)) ggL_stem_L_ones
theorem dL_stem_0 : decode cL_stem 0 = .ok (.aload_n 0, 1) := by decide +kernel
theorem dL_stem_1 : decode cL_stem 1 = .ok (.aload_n 1, 1) := by decide +kernel
theorem dL_stem_2 : decode cL_stem 2 = .ok (.aload_n 2, 1) := by decide +kernel
theorem dL_stem_3 : decode cL_stem 3 = .ok (.aload 4, 2) := by decide +kernel
theorem dL_stem_5 : decode cL_stem 5 = .ok (.aload_n 3, 1) := by decide +kernel
theorem dL_stem_6 : decode cL_stem 6 = .ok (.iload 5, 2) := by decide +kernel
theorem dL_stem_8 : decode cL_stem 8 = .ok (.iaload, 1) := by decide +kernel
theorem dL_stem_9 : decode cL_stem 9 = .ok (.aload_n 3, 1) := by decide +kernel
theorem dL_stem_10 : decode cL_stem 10 = .ok (.iconst 4, 1) := by decide +kernel
theorem dL_stem_11 : decode cL_stem 11 = .ok (.iload 5, 2) := by decide +kernel
theorem dL_stem_13 : decode cL_stem 13 = .ok (.iadd, 1) := by decide +kernel
theorem dL_stem_14 : decode cL_stem 14 = .ok (.iaload, 1) := by decide +kernel
theorem dL_stem_15 : decode cL_stem 15 = .ok (.invokestatic 19, 3) := by decide +kernel
theorem dL_stem_18 : decode cL_stem 18 = .ok (.istore 6, 2) := by decide +kernel
theorem dL_stem_20 : decode cL_stem 20 = .ok (.aload_n 3, 1) := by decide +kernel
theorem dL_stem_21 : decode cL_stem 21 = .ok (.iload 5, 2) := by decide +kernel
theorem dL_stem_23 : decode cL_stem 23 = .ok (.dup2, 1) := by decide +kernel
theorem dL_stem_24 : decode cL_stem 24 = .ok (.iaload, 1) := by decide +kernel
theorem dL_stem_25 : decode cL_stem 25 = .ok (.iload 6, 2) := by decide +kernel
theorem dL_stem_27 : decode cL_stem 27 = .ok (.iconst (-1), 1) := by decide +kernel
theorem dL_stem_28 : decode cL_stem 28 = .ok (.ixor, 1) := by decide +kernel
theorem dL_stem_29 : decode cL_stem 29 = .ok (.iand, 1) := by decide +kernel
theorem dL_stem_30 : decode cL_stem 30 = .ok (.iastore, 1) := by decide +kernel
theorem dL_stem_31 : decode cL_stem 31 = .ok (.iload 6, 2) := by decide +kernel
theorem dL_stem_33 : decode cL_stem 33 = .ok (.invokestatic 23, 3) := by decide +kernel
theorem dL_stem_36 : decode cL_stem 36 = .ok (.ireturn, 1) := by decide +kernel
theorem dL_make_0 : decode cL_make 0 = .ok (.iconst 0, 1) := by decide +kernel
theorem dL_make_1 : decode cL_make 1 = .ok (.istore 10, 2) := by decide +kernel
theorem dL_make_3 : decode cL_make 3 = .ok (.iload 10, 2) := by decide +kernel
theorem dL_make_5 : decode cL_make 5 = .ok (.aload 6, 2) := by decide +kernel
theorem dL_make_7 : decode cL_make 7 = .ok (.iconst 0, 1) := by decide +kernel
theorem dL_make_8 : decode cL_make 8 = .ok (.iaload, 1) := by decide +kernel
theorem dL_make_9 : decode cL_make 9 = .ok (.if_icmp .ge 39, 3) := by decide +kernel
theorem dL_make_12 : decode cL_make 12 = .ok (.aload_n 0, 1) := by decide +kernel
theorem dL_make_13 : decode cL_make 13 = .ok (.iload 10, 2) := by decide +kernel
theorem dL_make_15 : decode cL_make 15 = .ok (.iaload, 1) := by decide +kernel
theorem dL_make_16 : decode cL_make 16 = .ok (.iload 7, 2) := by decide +kernel
theorem dL_make_18 : decode cL_make 18 = .ok (.if_icmp .ne 24, 3) := by decide +kernel
theorem dL_make_21 : decode cL_make 21 = .ok (.aload_n 2, 1) := by decide +kernel
theorem dL_make_22 : decode cL_make 22 = .ok (.iload 10, 2) := by decide +kernel
theorem dL_make_24 : decode cL_make 24 = .ok (.iaload, 1) := by decide +kernel
theorem dL_make_25 : decode cL_make 25 = .ok (.iload 8, 2) := by decide +kernel
theorem dL_make_27 : decode cL_make 27 = .ok (.if_icmp .ne 15, 3) := by decide +kernel
theorem dL_make_30 : decode cL_make 30 = .ok (.aload_n 1, 1) := by decide +kernel
theorem dL_make_31 : decode cL_make 31 = .ok (.iload 10, 2) := by decide +kernel
theorem dL_make_33 : decode cL_make 33 = .ok (.iaload, 1) := by decide +kernel
theorem dL_make_34 : decode cL_make 34 = .ok (.iload 9, 2) := by decide +kernel
theorem dL_make_36 : decode cL_make 36 = .ok (.if_icmp .ne 6, 3) := by decide +kernel
theorem dL_make_39 : decode cL_make 39 = .ok (.iload 10, 2) := by decide +kernel
theorem dL_make_41 : decode cL_make 41 = .ok (.ireturn, 1) := by decide +kernel
theorem dL_make_42 : decode cL_make 42 = .ok (.iinc 10 1, 3) := by decide +kernel
theorem dL_make_45 : decode cL_make 45 = .ok (.goto (-42), 3) := by decide +kernel
theorem dL_make_48 : decode cL_make 48 = .ok (.aload 6, 2) := by decide +kernel
theorem dL_make_50 : decode cL_make 50 = .ok (.iconst 0, 1) := by decide +kernel
theorem dL_make_51 : decode cL_make 51 = .ok (.iaload, 1) := by decide +kernel
theorem dL_make_52 : decode cL_make 52 = .ok (.istore 10, 2) := by decide +kernel
theorem dL_make_54 : decode cL_make 54 = .ok (.aload_n 0, 1) := by decide +kernel
theorem dL_make_55 : decode cL_make 55 = .ok (.iload 10, 2) := by decide +kernel
theorem dL_make_57 : decode cL_make 57 = .ok (.iload 7, 2) := by decide +kernel
theorem dL_make_59 : decode cL_make 59 = .ok (.iastore, 1) := by decide +kernel
theorem dL_make_60 : decode cL_make 60 = .ok (.aload_n 2, 1) := by decide +kernel
theorem dL_make_61 : decode cL_make 61 = .ok (.iload 10, 2) := by decide +kernel
theorem dL_make_63 : decode cL_make 63 = .ok (.iload 8, 2) := by decide +kernel
theorem dL_make_65 : decode cL_make 65 = .ok (.iastore, 1) := by decide +kernel
theorem dL_make_66 : decode cL_make 66 = .ok (.aload_n 1, 1) := by decide +kernel
theorem dL_make_67 : decode cL_make 67 = .ok (.iload 10, 2) := by decide +kernel
theorem dL_make_69 : decode cL_make 69 = .ok (.iload 9, 2) := by decide +kernel
theorem dL_make_71 : decode cL_make 71 = .ok (.iastore, 1) := by decide +kernel
theorem dL_make_72 : decode cL_make 72 = .ok (.aload_n 3, 1) := by decide +kernel
theorem dL_make_73 : decode cL_make 73 = .ok (.iload 10, 2) := by decide +kernel
theorem dL_make_75 : decode cL_make 75 = .ok (.iload 8, 2) := by decide +kernel
theorem dL_make_77 : decode cL_make 77 = .ok (.ifCond .ge 7, 3) := by decide +kernel
theorem dL_make_80 : decode cL_make 80 = .ok (.iconst 1, 1) := by decide +kernel
theorem dL_make_81 : decode cL_make 81 = .ok (.goto 9, 3) := by decide +kernel
theorem dL_make_84 : decode cL_make 84 = .ok (.iconst 1, 1) := by decide +kernel
theorem dL_make_85 : decode cL_make 85 = .ok (.aload_n 3, 1) := by decide +kernel
theorem dL_make_86 : decode cL_make 86 = .ok (.iload 8, 2) := by decide +kernel
theorem dL_make_88 : decode cL_make 88 = .ok (.iaload, 1) := by decide +kernel
theorem dL_make_89 : decode cL_make 89 = .ok (.iadd, 1) := by decide +kernel
theorem dL_make_90 : decode cL_make 90 = .ok (.iastore, 1) := by decide +kernel
theorem dL_make_91 : decode cL_make 91 = .ok (.aload 5, 2) := by decide +kernel
theorem dL_make_93 : decode cL_make 93 = .ok (.iload 10, 2) := by decide +kernel
theorem dL_make_95 : decode cL_make 95 = .ok (.iload 8, 2) := by decide +kernel
theorem dL_make_97 : decode cL_make 97 = .ok (.ifCond .ge 7, 3) := by decide +kernel
theorem dL_make_100 : decode cL_make 100 = .ok (.iconst 0, 1) := by decide +kernel
theorem dL_make_101 : decode cL_make 101 = .ok (.goto 13, 3) := by decide +kernel
theorem dL_make_104 : decode cL_make 104 = .ok (.aload 5, 2) := by decide +kernel
theorem dL_make_106 : decode cL_make 106 = .ok (.iload 8, 2) := by decide +kernel
theorem dL_make_108 : decode cL_make 108 = .ok (.iaload, 1) := by decide +kernel
theorem dL_make_109 : decode cL_make 109 = .ok (.iconst 1, 1) := by decide +kernel
theorem dL_make_110 : decode cL_make 110 = .ok (.iload 8, 2) := by decide +kernel
theorem dL_make_112 : decode cL_make 112 = .ok (.ishl, 1) := by decide +kernel
theorem dL_make_113 : decode cL_make 113 = .ok (.ior, 1) := by decide +kernel
theorem dL_make_114 : decode cL_make 114 = .ok (.iastore, 1) := by decide +kernel
theorem dL_make_115 : decode cL_make 115 = .ok (.aload 4, 2) := by decide +kernel
theorem dL_make_117 : decode cL_make 117 = .ok (.iload 10, 2) := by decide +kernel
theorem dL_make_119 : decode cL_make 119 = .ok (.iload 8, 2) := by decide +kernel
theorem dL_make_121 : decode cL_make 121 = .ok (.ifCond .ge 8, 3) := by decide +kernel
theorem dL_make_124 : decode cL_make 124 = .ok (.bipush 31, 2) := by decide +kernel
theorem dL_make_126 : decode cL_make 126 = .ok (.goto 11, 3) := by decide +kernel
theorem dL_make_129 : decode cL_make 129 = .ok (.bipush 31, 2) := by decide +kernel
theorem dL_make_131 : decode cL_make 131 = .ok (.aload 4, 2) := by decide +kernel
theorem dL_make_133 : decode cL_make 133 = .ok (.iload 8, 2) := by decide +kernel
theorem dL_make_135 : decode cL_make 135 = .ok (.iaload, 1) := by decide +kernel
theorem dL_make_136 : decode cL_make 136 = .ok (.imul, 1) := by decide +kernel
theorem dL_make_137 : decode cL_make 137 = .ok (.iload 9, 2) := by decide +kernel
theorem dL_make_139 : decode cL_make 139 = .ok (.ifCond .ge 7, 3) := by decide +kernel
theorem dL_make_142 : decode cL_make 142 = .ok (.iconst 3, 1) := by decide +kernel
theorem dL_make_143 : decode cL_make 143 = .ok (.goto 8, 3) := by decide +kernel
theorem dL_make_146 : decode cL_make 146 = .ok (.bipush 7, 2) := by decide +kernel
theorem dL_make_148 : decode cL_make 148 = .ok (.iload 9, 2) := by decide +kernel
theorem dL_make_150 : decode cL_make 150 = .ok (.imul, 1) := by decide +kernel
theorem dL_make_151 : decode cL_make 151 = .ok (.iadd, 1) := by decide +kernel
theorem dL_make_152 : decode cL_make 152 = .ok (.aload_n 3, 1) := by decide +kernel
theorem dL_make_153 : decode cL_make 153 = .ok (.iload 10, 2) := by decide +kernel
theorem dL_make_155 : decode cL_make 155 = .ok (.iaload, 1) := by decide +kernel
theorem dL_make_156 : decode cL_make 156 = .ok (.iadd, 1) := by decide +kernel
theorem dL_make_157 : decode cL_make 157 = .ok (.sipush 997, 3) := by decide +kernel
theorem dL_make_160 : decode cL_make 160 = .ok (.irem, 1) := by decide +kernel
theorem dL_make_161 : decode cL_make 161 = .ok (.iastore, 1) := by decide +kernel
theorem dL_make_162 : decode cL_make 162 = .ok (.aload 6, 2) := by decide +kernel
theorem dL_make_164 : decode cL_make 164 = .ok (.iconst 0, 1) := by decide +kernel
theorem dL_make_165 : decode cL_make 165 = .ok (.dup2, 1) := by decide +kernel
theorem dL_make_166 : decode cL_make 166 = .ok (.iaload, 1) := by decide +kernel
theorem dL_make_167 : decode cL_make 167 = .ok (.iconst 1, 1) := by decide +kernel
theorem dL_make_168 : decode cL_make 168 = .ok (.iadd, 1) := by decide +kernel
theorem dL_make_169 : decode cL_make 169 = .ok (.iastore, 1) := by decide +kernel
theorem dL_make_170 : decode cL_make 170 = .ok (.iload 10, 2) := by decide +kernel
theorem dL_make_172 : decode cL_make 172 = .ok (.ireturn, 1) := by decide +kernel
set_option maxRecDepth 20000 in
theorem ggL_add_L_make : GoodIn wsL_add wsL_make := goodIn_r _ [4] (by decide +kernel) (by decide +kernel)
set_option maxRecDepth 20000 in
theorem gL_add_L_make : GoodIn wsL_add (va_wsS RL 27 yL_make wsL_make) := goodIn_app (goodIn_of _ (by decide +kernel)) ggL_add_L_make
set_option maxRecDepth 20000 in
theorem ggL_add_L_stem : GoodIn wsL_add wsL_stem := goodIn_r _ [7, 8, 9, 3, 10, 11, 12, 13, 14, 15, 16] (by decide +kernel) (by decide +kernel)
set_option maxRecDepth 20000 in
theorem gL_add_L_stem : GoodIn wsL_add (va_wsS RL 31 yL_stem wsL_stem) := goodIn_app (goodIn_of _ (by decide +kernel)) ggL_add_L_stem
theorem dL_add_0 : decode cL_add 0 = .ok (.aload_n 0, 1) := by decide +kernel
theorem dL_add_1 : decode cL_add 1 = .ok (.aload_n 1, 1) := by decide +kernel
theorem dL_add_2 : decode cL_add 2 = .ok (.aload_n 2, 1) := by decide +kernel
theorem dL_add_3 : decode cL_add 3 = .ok (.aload_n 3, 1) := by decide +kernel
theorem dL_add_4 : decode cL_add 4 = .ok (.aload 4, 2) := by decide +kernel
theorem dL_add_6 : decode cL_add 6 = .ok (.aload 5, 2) := by decide +kernel
theorem dL_add_8 : decode cL_add 8 = .ok (.aload 8, 2) := by decide +kernel
theorem dL_add_10 : decode cL_add 10 = .ok (.iload 10, 2) := by decide +kernel
theorem dL_add_12 : decode cL_add 12 = .ok (.iload 11, 2) := by decide +kernel
theorem dL_add_14 : decode cL_add 14 = .ok (.iload 12, 2) := by decide +kernel
theorem dL_add_16 : decode cL_add 16 = .ok (.invokestatic 27, 3) := by decide +kernel
theorem dL_add_19 : decode cL_add 19 = .ok (.istore 13, 2) := by decide +kernel
theorem dL_add_21 : decode cL_add 21 = .ok (.aload 6, 2) := by decide +kernel
theorem dL_add_23 : decode cL_add 23 = .ok (.iload 9, 2) := by decide +kernel
theorem dL_add_25 : decode cL_add 25 = .ok (.dup2, 1) := by decide +kernel
theorem dL_add_26 : decode cL_add 26 = .ok (.iaload, 1) := by decide +kernel
theorem dL_add_27 : decode cL_add 27 = .ok (.iconst 1, 1) := by decide +kernel
theorem dL_add_28 : decode cL_add 28 = .ok (.iload 13, 2) := by decide +kernel
theorem dL_add_30 : decode cL_add 30 = .ok (.ishl, 1) := by decide +kernel
theorem dL_add_31 : decode cL_add 31 = .ok (.ior, 1) := by decide +kernel
theorem dL_add_32 : decode cL_add 32 = .ok (.iastore, 1) := by decide +kernel
theorem dL_add_33 : decode cL_add 33 = .ok (.aload 6, 2) := by decide +kernel
theorem dL_add_35 : decode cL_add 35 = .ok (.bipush 8, 2) := by decide +kernel
theorem dL_add_37 : decode cL_add 37 = .ok (.iload 9, 2) := by decide +kernel
theorem dL_add_39 : decode cL_add 39 = .ok (.iadd, 1) := by decide +kernel
theorem dL_add_40 : decode cL_add 40 = .ok (.dup2, 1) := by decide +kernel
theorem dL_add_41 : decode cL_add 41 = .ok (.iaload, 1) := by decide +kernel
theorem dL_add_42 : decode cL_add 42 = .ok (.iconst 1, 1) := by decide +kernel
theorem dL_add_43 : decode cL_add 43 = .ok (.iadd, 1) := by decide +kernel
theorem dL_add_44 : decode cL_add 44 = .ok (.iastore, 1) := by decide +kernel
theorem dL_add_45 : decode cL_add 45 = .ok (.aload 7, 2) := by decide +kernel
theorem dL_add_47 : decode cL_add 47 = .ok (.iconst 4, 1) := by decide +kernel
theorem dL_add_48 : decode cL_add 48 = .ok (.iload 9, 2) := by decide +kernel
theorem dL_add_50 : decode cL_add 50 = .ok (.imul, 1) := by decide +kernel
theorem dL_add_51 : decode cL_add 51 = .ok (.iload 10, 2) := by decide +kernel
theorem dL_add_53 : decode cL_add 53 = .ok (.iadd, 1) := by decide +kernel
theorem dL_add_54 : decode cL_add 54 = .ok (.aload 6, 2) := by decide +kernel
theorem dL_add_56 : decode cL_add 56 = .ok (.bipush 8, 2) := by decide +kernel
theorem dL_add_58 : decode cL_add 58 = .ok (.iload 9, 2) := by decide +kernel
theorem dL_add_60 : decode cL_add 60 = .ok (.iadd, 1) := by decide +kernel
theorem dL_add_61 : decode cL_add 61 = .ok (.iaload, 1) := by decide +kernel
theorem dL_add_62 : decode cL_add 62 = .ok (.iastore, 1) := by decide +kernel
theorem dL_add_63 : decode cL_add 63 = .ok (.aload_n 0, 1) := by decide +kernel
theorem dL_add_64 : decode cL_add 64 = .ok (.aload_n 3, 1) := by decide +kernel
theorem dL_add_65 : decode cL_add 65 = .ok (.aload 5, 2) := by decide +kernel
theorem dL_add_67 : decode cL_add 67 = .ok (.aload 6, 2) := by decide +kernel
theorem dL_add_69 : decode cL_add 69 = .ok (.aload 8, 2) := by decide +kernel
theorem dL_add_71 : decode cL_add 71 = .ok (.iload 9, 2) := by decide +kernel
theorem dL_add_73 : decode cL_add 73 = .ok (.invokestatic 31, 3) := by decide +kernel
theorem dL_add_76 : decode cL_add 76 = .ok (.ifCond .ge 7, 3) := by decide +kernel
theorem dL_add_79 : decode cL_add 79 = .ok (.iconst (-1), 1) := by decide +kernel
theorem dL_add_80 : decode cL_add 80 = .ok (.goto 5, 3) := by decide +kernel
theorem dL_add_83 : decode cL_add 83 = .ok (.iload 13, 2) := by decide +kernel
theorem dL_add_85 : decode cL_add 85 = .ok (.ireturn, 1) := by decide +kernel
theorem dL_start_0 : decode cL_start 0 = .ok (.aload_n 0, 1) := by decide +kernel
theorem dL_start_1 : decode cL_start 1 = .ok (.bipush 9, 2) := by decide +kernel
theorem dL_start_3 : decode cL_start 3 = .ok (.iload_n 1, 1) := by decide +kernel
theorem dL_start_4 : decode cL_start 4 = .ok (.imul, 1) := by decide +kernel
theorem dL_start_5 : decode cL_start 5 = .ok (.iconst 3, 1) := by decide +kernel
theorem dL_start_6 : decode cL_start 6 = .ok (.iload_n 1, 1) := by decide +kernel
theorem dL_start_7 : decode cL_start 7 = .ok (.imul, 1) := by decide +kernel
theorem dL_start_8 : decode cL_start 8 = .ok (.iadd, 1) := by decide +kernel
theorem dL_start_9 : decode cL_start 9 = .ok (.iload_n 2, 1) := by decide +kernel
theorem dL_start_10 : decode cL_start 10 = .ok (.iadd, 1) := by decide +kernel
theorem dL_start_11 : decode cL_start 11 = .ok (.iaload, 1) := by decide +kernel
theorem dL_start_12 : decode cL_start 12 = .ok (.istore_n 3, 1) := by decide +kernel
theorem dL_start_13 : decode cL_start 13 = .ok (.aload_n 0, 1) := by decide +kernel
theorem dL_start_14 : decode cL_start 14 = .ok (.bipush 9, 2) := by decide +kernel
theorem dL_start_16 : decode cL_start 16 = .ok (.iload_n 2, 1) := by decide +kernel
theorem dL_start_17 : decode cL_start 17 = .ok (.imul, 1) := by decide +kernel
theorem dL_start_18 : decode cL_start 18 = .ok (.iconst 3, 1) := by decide +kernel
theorem dL_start_19 : decode cL_start 19 = .ok (.iload_n 1, 1) := by decide +kernel
theorem dL_start_20 : decode cL_start 20 = .ok (.imul, 1) := by decide +kernel
theorem dL_start_21 : decode cL_start 21 = .ok (.iadd, 1) := by decide +kernel
theorem dL_start_22 : decode cL_start 22 = .ok (.iload_n 2, 1) := by decide +kernel
theorem dL_start_23 : decode cL_start 23 = .ok (.iadd, 1) := by decide +kernel
theorem dL_start_24 : decode cL_start 24 = .ok (.iaload, 1) := by decide +kernel
theorem dL_start_25 : decode cL_start 25 = .ok (.istore 4, 2) := by decide +kernel
theorem dL_start_27 : decode cL_start 27 = .ok (.iload_n 3, 1) := by decide +kernel
theorem dL_start_28 : decode cL_start 28 = .ok (.iload 4, 2) := by decide +kernel
theorem dL_start_30 : decode cL_start 30 = .ok (.if_icmp .le 8, 3) := by decide +kernel
theorem dL_start_33 : decode cL_start 33 = .ok (.iload 4, 2) := by decide +kernel
theorem dL_start_35 : decode cL_start 35 = .ok (.goto 4, 3) := by decide +kernel
theorem dL_start_38 : decode cL_start 38 = .ok (.iload_n 3, 1) := by decide +kernel
theorem dL_start_39 : decode cL_start 39 = .ok (.ireturn, 1) := by decide +kernel
set_option maxRecDepth 20000 in
theorem ggL_got_L_leaves : GoodIn wsL_got wsL_leaves := goodIn_r _ [4] (by decide +kernel) (by decide +kernel)
set_option maxRecDepth 20000 in
theorem gL_got_L_leaves : GoodIn wsL_got (va_wsS RL 9 yL_leaves wsL_leaves) := goodIn_app (goodIn_of _ (by decide +kernel)) ggL_got_L_leaves
set_option maxRecDepth 20000 in
theorem ggL_got_L_stem : GoodIn wsL_got wsL_stem := goodIn_r _ [7, 8, 9, 3, 10, 1, 2, 4, 11, 12, 13] (by decide +kernel) (by decide +kernel)
set_option maxRecDepth 20000 in
theorem gL_got_L_stem : GoodIn wsL_got (va_wsS RL 31 yL_stem wsL_stem) := goodIn_app (goodIn_of _ (by decide +kernel)) ggL_got_L_stem
set_option maxRecDepth 20000 in
theorem ggL_got_L_ones : GoodIn wsL_got wsL_ones := goodIn_r _ [13] (by decide +kernel) (by decide +kernel)
set_option maxRecDepth 20000 in
theorem gL_got_L_ones : GoodIn wsL_got (va_wsS RL 23 yL_ones wsL_ones) := goodIn_app (goodIn_of _ (by decide +kernel)) ggL_got_L_ones
theorem dL_got_0 : decode cL_got 0 = .ok (.aload_n 0, 1) := by decide +kernel
theorem dL_got_1 : decode cL_got 1 = .ok (.aload_n 2, 1) := by decide +kernel
theorem dL_got_2 : decode cL_got 2 = .ok (.aload 5, 2) := by decide +kernel
theorem dL_got_4 : decode cL_got 4 = .ok (.aload_n 3, 1) := by decide +kernel
theorem dL_got_5 : decode cL_got 5 = .ok (.iload 6, 2) := by decide +kernel
theorem dL_got_7 : decode cL_got 7 = .ok (.iaload, 1) := by decide +kernel
theorem dL_got_8 : decode cL_got 8 = .ok (.iload 8, 2) := by decide +kernel
theorem dL_got_10 : decode cL_got 10 = .ok (.invokestatic 9, 3) := by decide +kernel
theorem dL_got_13 : decode cL_got 13 = .ok (.istore 9, 2) := by decide +kernel
theorem dL_got_15 : decode cL_got 15 = .ok (.iconst 0, 1) := by decide +kernel
theorem dL_got_16 : decode cL_got 16 = .ok (.istore 10, 2) := by decide +kernel
theorem dL_got_18 : decode cL_got 18 = .ok (.iconst 0, 1) := by decide +kernel
theorem dL_got_19 : decode cL_got 19 = .ok (.istore 11, 2) := by decide +kernel
theorem dL_got_21 : decode cL_got 21 = .ok (.iload 11, 2) := by decide +kernel
theorem dL_got_23 : decode cL_got 23 = .ok (.aload 5, 2) := by decide +kernel
theorem dL_got_25 : decode cL_got 25 = .ok (.iconst 0, 1) := by decide +kernel
theorem dL_got_26 : decode cL_got 26 = .ok (.iaload, 1) := by decide +kernel
theorem dL_got_27 : decode cL_got 27 = .ok (.if_icmp .ge 136, 3) := by decide +kernel
theorem dL_got_30 : decode cL_got 30 = .ok (.iconst 0, 1) := by decide +kernel
theorem dL_got_31 : decode cL_got 31 = .ok (.istore 12, 2) := by decide +kernel
theorem dL_got_33 : decode cL_got 33 = .ok (.iconst 0, 1) := by decide +kernel
theorem dL_got_34 : decode cL_got 34 = .ok (.istore 13, 2) := by decide +kernel
theorem dL_got_36 : decode cL_got 36 = .ok (.iload 13, 2) := by decide +kernel
theorem dL_got_38 : decode cL_got 38 = .ok (.aload 5, 2) := by decide +kernel
theorem dL_got_40 : decode cL_got 40 = .ok (.iconst 0, 1) := by decide +kernel
theorem dL_got_41 : decode cL_got 41 = .ok (.iaload, 1) := by decide +kernel
theorem dL_got_42 : decode cL_got 42 = .ok (.if_icmp .ge 45, 3) := by decide +kernel
theorem dL_got_45 : decode cL_got 45 = .ok (.iload 12, 2) := by decide +kernel
theorem dL_got_47 : decode cL_got 47 = .ok (.aload_n 3, 1) := by decide +kernel
theorem dL_got_48 : decode cL_got 48 = .ok (.iload 7, 2) := by decide +kernel
theorem dL_got_50 : decode cL_got 50 = .ok (.iaload, 1) := by decide +kernel
theorem dL_got_51 : decode cL_got 51 = .ok (.iload 13, 2) := by decide +kernel
theorem dL_got_53 : decode cL_got 53 = .ok (.ishr, 1) := by decide +kernel
theorem dL_got_54 : decode cL_got 54 = .ok (.iconst 1, 1) := by decide +kernel
theorem dL_got_55 : decode cL_got 55 = .ok (.iand, 1) := by decide +kernel
theorem dL_got_56 : decode cL_got 56 = .ok (.iconst 1, 1) := by decide +kernel
theorem dL_got_57 : decode cL_got 57 = .ok (.if_icmp .ne 20, 3) := by decide +kernel
theorem dL_got_60 : decode cL_got 60 = .ok (.aload_n 2, 1) := by decide +kernel
theorem dL_got_61 : decode cL_got 61 = .ok (.iload 13, 2) := by decide +kernel
theorem dL_got_63 : decode cL_got 63 = .ok (.iaload, 1) := by decide +kernel
theorem dL_got_64 : decode cL_got 64 = .ok (.iload 11, 2) := by decide +kernel
theorem dL_got_66 : decode cL_got 66 = .ok (.ishr, 1) := by decide +kernel
theorem dL_got_67 : decode cL_got 67 = .ok (.iconst 1, 1) := by decide +kernel
theorem dL_got_68 : decode cL_got 68 = .ok (.iand, 1) := by decide +kernel
theorem dL_got_69 : decode cL_got 69 = .ok (.iconst 1, 1) := by decide +kernel
theorem dL_got_70 : decode cL_got 70 = .ok (.if_icmp .ne 7, 3) := by decide +kernel
theorem dL_got_73 : decode cL_got 73 = .ok (.iconst 1, 1) := by decide +kernel
theorem dL_got_74 : decode cL_got 74 = .ok (.goto 4, 3) := by decide +kernel
theorem dL_got_77 : decode cL_got 77 = .ok (.iconst 0, 1) := by decide +kernel
theorem dL_got_78 : decode cL_got 78 = .ok (.ior, 1) := by decide +kernel
theorem dL_got_79 : decode cL_got 79 = .ok (.istore 12, 2) := by decide +kernel
theorem dL_got_81 : decode cL_got 81 = .ok (.iinc 13 1, 3) := by decide +kernel
theorem dL_got_84 : decode cL_got 84 = .ok (.goto (-48), 3) := by decide +kernel
theorem dL_got_87 : decode cL_got 87 = .ok (.iload 9, 2) := by decide +kernel
theorem dL_got_89 : decode cL_got 89 = .ok (.iload 11, 2) := by decide +kernel
theorem dL_got_91 : decode cL_got 91 = .ok (.ishr, 1) := by decide +kernel
theorem dL_got_92 : decode cL_got 92 = .ok (.iconst 1, 1) := by decide +kernel
theorem dL_got_93 : decode cL_got 93 = .ok (.iand, 1) := by decide +kernel
theorem dL_got_94 : decode cL_got 94 = .ok (.iconst 1, 1) := by decide +kernel
theorem dL_got_95 : decode cL_got 95 = .ok (.if_icmp .ne 24, 3) := by decide +kernel
theorem dL_got_98 : decode cL_got 98 = .ok (.aload_n 3, 1) := by decide +kernel
theorem dL_got_99 : decode cL_got 99 = .ok (.iload 7, 2) := by decide +kernel
theorem dL_got_101 : decode cL_got 101 = .ok (.iaload, 1) := by decide +kernel
theorem dL_got_102 : decode cL_got 102 = .ok (.iload 11, 2) := by decide +kernel
theorem dL_got_104 : decode cL_got 104 = .ok (.ishr, 1) := by decide +kernel
theorem dL_got_105 : decode cL_got 105 = .ok (.iconst 1, 1) := by decide +kernel
theorem dL_got_106 : decode cL_got 106 = .ok (.iand, 1) := by decide +kernel
theorem dL_got_107 : decode cL_got 107 = .ok (.ifCond .ne 12, 3) := by decide +kernel
theorem dL_got_110 : decode cL_got 110 = .ok (.iload 12, 2) := by decide +kernel
theorem dL_got_112 : decode cL_got 112 = .ok (.ifCond .ne 7, 3) := by decide +kernel
theorem dL_got_115 : decode cL_got 115 = .ok (.iconst 1, 1) := by decide +kernel
theorem dL_got_116 : decode cL_got 116 = .ok (.goto 4, 3) := by decide +kernel
theorem dL_got_119 : decode cL_got 119 = .ok (.iconst 0, 1) := by decide +kernel
theorem dL_got_120 : decode cL_got 120 = .ok (.istore 13, 2) := by decide +kernel
theorem dL_got_122 : decode cL_got 122 = .ok (.iload 10, 2) := by decide +kernel
theorem dL_got_124 : decode cL_got 124 = .ok (.iload 13, 2) := by decide +kernel
theorem dL_got_126 : decode cL_got 126 = .ok (.ifCond .eq 27, 3) := by decide +kernel
theorem dL_got_129 : decode cL_got 129 = .ok (.iconst 1, 1) := by decide +kernel
theorem dL_got_130 : decode cL_got 130 = .ok (.iload 11, 2) := by decide +kernel
theorem dL_got_132 : decode cL_got 132 = .ok (.ishl, 1) := by decide +kernel
theorem dL_got_133 : decode cL_got 133 = .ok (.aload_n 2, 1) := by decide +kernel
theorem dL_got_134 : decode cL_got 134 = .ok (.iload 11, 2) := by decide +kernel
theorem dL_got_136 : decode cL_got 136 = .ok (.iaload, 1) := by decide +kernel
theorem dL_got_137 : decode cL_got 137 = .ok (.ior, 1) := by decide +kernel
theorem dL_got_138 : decode cL_got 138 = .ok (.aload_n 3, 1) := by decide +kernel
theorem dL_got_139 : decode cL_got 139 = .ok (.iload 6, 2) := by decide +kernel
theorem dL_got_141 : decode cL_got 141 = .ok (.iaload, 1) := by decide +kernel
theorem dL_got_142 : decode cL_got 142 = .ok (.iand, 1) := by decide +kernel
theorem dL_got_143 : decode cL_got 143 = .ok (.aload_n 3, 1) := by decide +kernel
theorem dL_got_144 : decode cL_got 144 = .ok (.iload 7, 2) := by decide +kernel
theorem dL_got_146 : decode cL_got 146 = .ok (.iaload, 1) := by decide +kernel
theorem dL_got_147 : decode cL_got 147 = .ok (.iconst (-1), 1) := by decide +kernel
theorem dL_got_148 : decode cL_got 148 = .ok (.ixor, 1) := by decide +kernel
theorem dL_got_149 : decode cL_got 149 = .ok (.iand, 1) := by decide +kernel
theorem dL_got_150 : decode cL_got 150 = .ok (.goto 4, 3) := by decide +kernel
theorem dL_got_153 : decode cL_got 153 = .ok (.iconst 0, 1) := by decide +kernel
theorem dL_got_154 : decode cL_got 154 = .ok (.ior, 1) := by decide +kernel
theorem dL_got_155 : decode cL_got 155 = .ok (.istore 10, 2) := by decide +kernel
theorem dL_got_157 : decode cL_got 157 = .ok (.iinc 11 1, 3) := by decide +kernel
theorem dL_got_160 : decode cL_got 160 = .ok (.goto (-139), 3) := by decide +kernel
theorem dL_got_163 : decode cL_got 163 = .ok (.aload_n 3, 1) := by decide +kernel
theorem dL_got_164 : decode cL_got 164 = .ok (.iload 7, 2) := by decide +kernel
theorem dL_got_166 : decode cL_got 166 = .ok (.dup2, 1) := by decide +kernel
theorem dL_got_167 : decode cL_got 167 = .ok (.iaload, 1) := by decide +kernel
theorem dL_got_168 : decode cL_got 168 = .ok (.iload 10, 2) := by decide +kernel
theorem dL_got_170 : decode cL_got 170 = .ok (.ior, 1) := by decide +kernel
theorem dL_got_171 : decode cL_got 171 = .ok (.iastore, 1) := by decide +kernel
theorem dL_got_172 : decode cL_got 172 = .ok (.aload_n 3, 1) := by decide +kernel
theorem dL_got_173 : decode cL_got 173 = .ok (.bipush 8, 2) := by decide +kernel
theorem dL_got_175 : decode cL_got 175 = .ok (.iload 7, 2) := by decide +kernel
theorem dL_got_177 : decode cL_got 177 = .ok (.iadd, 1) := by decide +kernel
theorem dL_got_178 : decode cL_got 178 = .ok (.dup2, 1) := by decide +kernel
theorem dL_got_179 : decode cL_got 179 = .ok (.iaload, 1) := by decide +kernel
theorem dL_got_180 : decode cL_got 180 = .ok (.iload 10, 2) := by decide +kernel
theorem dL_got_182 : decode cL_got 182 = .ok (.ifCond .ne 7, 3) := by decide +kernel
theorem dL_got_185 : decode cL_got 185 = .ok (.iconst 0, 1) := by decide +kernel
theorem dL_got_186 : decode cL_got 186 = .ok (.goto 4, 3) := by decide +kernel
theorem dL_got_189 : decode cL_got 189 = .ok (.iconst 1, 1) := by decide +kernel
theorem dL_got_190 : decode cL_got 190 = .ok (.iadd, 1) := by decide +kernel
theorem dL_got_191 : decode cL_got 191 = .ok (.iastore, 1) := by decide +kernel
theorem dL_got_192 : decode cL_got 192 = .ok (.aload 4, 2) := by decide +kernel
theorem dL_got_194 : decode cL_got 194 = .ok (.iconst 4, 1) := by decide +kernel
theorem dL_got_195 : decode cL_got 195 = .ok (.iload 7, 2) := by decide +kernel
theorem dL_got_197 : decode cL_got 197 = .ok (.imul, 1) := by decide +kernel
theorem dL_got_198 : decode cL_got 198 = .ok (.iload 8, 2) := by decide +kernel
theorem dL_got_200 : decode cL_got 200 = .ok (.iadd, 1) := by decide +kernel
theorem dL_got_201 : decode cL_got 201 = .ok (.iload 10, 2) := by decide +kernel
theorem dL_got_203 : decode cL_got 203 = .ok (.ifCond .ne 16, 3) := by decide +kernel
theorem dL_got_206 : decode cL_got 206 = .ok (.aload 4, 2) := by decide +kernel
theorem dL_got_208 : decode cL_got 208 = .ok (.iconst 4, 1) := by decide +kernel
theorem dL_got_209 : decode cL_got 209 = .ok (.iload 7, 2) := by decide +kernel
theorem dL_got_211 : decode cL_got 211 = .ok (.imul, 1) := by decide +kernel
theorem dL_got_212 : decode cL_got 212 = .ok (.iload 8, 2) := by decide +kernel
theorem dL_got_214 : decode cL_got 214 = .ok (.iadd, 1) := by decide +kernel
theorem dL_got_215 : decode cL_got 215 = .ok (.iaload, 1) := by decide +kernel
theorem dL_got_216 : decode cL_got 216 = .ok (.goto 10, 3) := by decide +kernel
theorem dL_got_219 : decode cL_got 219 = .ok (.aload_n 3, 1) := by decide +kernel
theorem dL_got_220 : decode cL_got 220 = .ok (.bipush 8, 2) := by decide +kernel
theorem dL_got_222 : decode cL_got 222 = .ok (.iload 7, 2) := by decide +kernel
theorem dL_got_224 : decode cL_got 224 = .ok (.iadd, 1) := by decide +kernel
theorem dL_got_225 : decode cL_got 225 = .ok (.iaload, 1) := by decide +kernel
theorem dL_got_226 : decode cL_got 226 = .ok (.iastore, 1) := by decide +kernel
theorem dL_got_227 : decode cL_got 227 = .ok (.aload_n 0, 1) := by decide +kernel
theorem dL_got_228 : decode cL_got 228 = .ok (.aload_n 1, 1) := by decide +kernel
theorem dL_got_229 : decode cL_got 229 = .ok (.aload_n 2, 1) := by decide +kernel
theorem dL_got_230 : decode cL_got 230 = .ok (.aload_n 3, 1) := by decide +kernel
theorem dL_got_231 : decode cL_got 231 = .ok (.aload 5, 2) := by decide +kernel
theorem dL_got_233 : decode cL_got 233 = .ok (.iload 7, 2) := by decide +kernel
theorem dL_got_235 : decode cL_got 235 = .ok (.invokestatic 31, 3) := by decide +kernel
theorem dL_got_238 : decode cL_got 238 = .ok (.ifCond .ge 7, 3) := by decide +kernel
theorem dL_got_241 : decode cL_got 241 = .ok (.iconst (-1), 1) := by decide +kernel
theorem dL_got_242 : decode cL_got 242 = .ok (.goto 8, 3) := by decide +kernel
theorem dL_got_245 : decode cL_got 245 = .ok (.iload 10, 2) := by decide +kernel
theorem dL_got_247 : decode cL_got 247 = .ok (.invokestatic 23, 3) := by decide +kernel
theorem dL_got_250 : decode cL_got 250 = .ok (.ireturn, 1) := by decide +kernel
set_option maxRecDepth 20000 in
theorem ggL_replicated_L_start : GoodIn wsL_replicated wsL_start := goodIn_r _ [4] (by decide +kernel) (by decide +kernel)
set_option maxRecDepth 20000 in
theorem gL_replicated_L_start : GoodIn wsL_replicated (va_wsS RL 35 yL_start wsL_start) := goodIn_app (goodIn_of _ (by decide +kernel)) ggL_replicated_L_start
set_option maxRecDepth 20000 in
theorem ggL_replicated_L_got : GoodIn wsL_replicated wsL_got := goodIn_r _ [7, 8, 9, 3, 10, 11, 12, 13, 14, 15, 16, 17, 18, 19] (by decide +kernel) (by decide +kernel)
set_option maxRecDepth 20000 in
theorem gL_replicated_L_got : GoodIn wsL_replicated (va_wsS RL 39 yL_got wsL_got) := goodIn_app (goodIn_of _ (by decide +kernel)) ggL_replicated_L_got
theorem dL_replicated_0 : decode cL_replicated 0 = .ok (.aload 5, 2) := by decide +kernel
theorem dL_replicated_2 : decode cL_replicated 2 = .ok (.iload 7, 2) := by decide +kernel
theorem dL_replicated_4 : decode cL_replicated 4 = .ok (.iload 8, 2) := by decide +kernel
theorem dL_replicated_6 : decode cL_replicated 6 = .ok (.invokestatic 35, 3) := by decide +kernel
theorem dL_replicated_9 : decode cL_replicated 9 = .ok (.istore 10, 2) := by decide +kernel
theorem dL_replicated_11 : decode cL_replicated 11 = .ok (.iconst 0, 1) := by decide +kernel
theorem dL_replicated_12 : decode cL_replicated 12 = .ok (.istore 11, 2) := by decide +kernel
theorem dL_replicated_14 : decode cL_replicated 14 = .ok (.iconst 0, 1) := by decide +kernel
theorem dL_replicated_15 : decode cL_replicated 15 = .ok (.istore 12, 2) := by decide +kernel
theorem dL_replicated_17 : decode cL_replicated 17 = .ok (.iload 10, 2) := by decide +kernel
theorem dL_replicated_19 : decode cL_replicated 19 = .ok (.iconst 1, 1) := by decide +kernel
theorem dL_replicated_20 : decode cL_replicated 20 = .ok (.iadd, 1) := by decide +kernel
theorem dL_replicated_21 : decode cL_replicated 21 = .ok (.istore 13, 2) := by decide +kernel
theorem dL_replicated_23 : decode cL_replicated 23 = .ok (.iload 13, 2) := by decide +kernel
theorem dL_replicated_25 : decode cL_replicated 25 = .ok (.aload_n 3, 1) := by decide +kernel
theorem dL_replicated_26 : decode cL_replicated 26 = .ok (.bipush 8, 2) := by decide +kernel
theorem dL_replicated_28 : decode cL_replicated 28 = .ok (.iload 7, 2) := by decide +kernel
theorem dL_replicated_30 : decode cL_replicated 30 = .ok (.iadd, 1) := by decide +kernel
theorem dL_replicated_31 : decode cL_replicated 31 = .ok (.iaload, 1) := by decide +kernel
theorem dL_replicated_32 : decode cL_replicated 32 = .ok (.if_icmp .gt 75, 3) := by decide +kernel
theorem dL_replicated_35 : decode cL_replicated 35 = .ok (.iload 12, 2) := by decide +kernel
theorem dL_replicated_37 : decode cL_replicated 37 = .ok (.iload 9, 2) := by decide +kernel
theorem dL_replicated_39 : decode cL_replicated 39 = .ok (.if_icmp .ge 68, 3) := by decide +kernel
theorem dL_replicated_42 : decode cL_replicated 42 = .ok (.iconst 0, 1) := by decide +kernel
theorem dL_replicated_43 : decode cL_replicated 43 = .ok (.istore 14, 2) := by decide +kernel
theorem dL_replicated_45 : decode cL_replicated 45 = .ok (.iload 14, 2) := by decide +kernel
theorem dL_replicated_47 : decode cL_replicated 47 = .ok (.iconst 4, 1) := by decide +kernel
theorem dL_replicated_48 : decode cL_replicated 48 = .ok (.if_icmp .ge 53, 3) := by decide +kernel
theorem dL_replicated_51 : decode cL_replicated 51 = .ok (.aload 4, 2) := by decide +kernel
theorem dL_replicated_53 : decode cL_replicated 53 = .ok (.iconst 4, 1) := by decide +kernel
theorem dL_replicated_54 : decode cL_replicated 54 = .ok (.iload 7, 2) := by decide +kernel
theorem dL_replicated_56 : decode cL_replicated 56 = .ok (.imul, 1) := by decide +kernel
theorem dL_replicated_57 : decode cL_replicated 57 = .ok (.iload 14, 2) := by decide +kernel
theorem dL_replicated_59 : decode cL_replicated 59 = .ok (.iadd, 1) := by decide +kernel
theorem dL_replicated_60 : decode cL_replicated 60 = .ok (.iaload, 1) := by decide +kernel
theorem dL_replicated_61 : decode cL_replicated 61 = .ok (.iload 13, 2) := by decide +kernel
theorem dL_replicated_63 : decode cL_replicated 63 = .ok (.if_icmp .ne 32, 3) := by decide +kernel
theorem dL_replicated_66 : decode cL_replicated 66 = .ok (.iload 11, 2) := by decide +kernel
theorem dL_replicated_68 : decode cL_replicated 68 = .ok (.aload_n 0, 1) := by decide +kernel
theorem dL_replicated_69 : decode cL_replicated 69 = .ok (.aload_n 1, 1) := by decide +kernel
theorem dL_replicated_70 : decode cL_replicated 70 = .ok (.aload_n 2, 1) := by decide +kernel
theorem dL_replicated_71 : decode cL_replicated 71 = .ok (.aload_n 3, 1) := by decide +kernel
theorem dL_replicated_72 : decode cL_replicated 72 = .ok (.aload 4, 2) := by decide +kernel
theorem dL_replicated_74 : decode cL_replicated 74 = .ok (.aload 6, 2) := by decide +kernel
theorem dL_replicated_76 : decode cL_replicated 76 = .ok (.iload 7, 2) := by decide +kernel
theorem dL_replicated_78 : decode cL_replicated 78 = .ok (.iload 8, 2) := by decide +kernel
theorem dL_replicated_80 : decode cL_replicated 80 = .ok (.iload 14, 2) := by decide +kernel
theorem dL_replicated_82 : decode cL_replicated 82 = .ok (.invokestatic 39, 3) := by decide +kernel
theorem dL_replicated_85 : decode cL_replicated 85 = .ok (.iadd, 1) := by decide +kernel
theorem dL_replicated_86 : decode cL_replicated 86 = .ok (.istore 11, 2) := by decide +kernel
theorem dL_replicated_88 : decode cL_replicated 88 = .ok (.iinc 12 1, 3) := by decide +kernel
theorem dL_replicated_91 : decode cL_replicated 91 = .ok (.iload 13, 2) := by decide +kernel
theorem dL_replicated_93 : decode cL_replicated 93 = .ok (.istore 10, 2) := by decide +kernel
theorem dL_replicated_95 : decode cL_replicated 95 = .ok (.iinc 14 1, 3) := by decide +kernel
theorem dL_replicated_98 : decode cL_replicated 98 = .ok (.goto (-53), 3) := by decide +kernel
theorem dL_replicated_101 : decode cL_replicated 101 = .ok (.iinc 13 1, 3) := by decide +kernel
theorem dL_replicated_104 : decode cL_replicated 104 = .ok (.goto (-81), 3) := by decide +kernel
theorem dL_replicated_107 : decode cL_replicated 107 = .ok (.iconst 0, 1) := by decide +kernel
theorem dL_replicated_108 : decode cL_replicated 108 = .ok (.istore 13, 2) := by decide +kernel
theorem dL_replicated_110 : decode cL_replicated 110 = .ok (.iconst 0, 1) := by decide +kernel
theorem dL_replicated_111 : decode cL_replicated 111 = .ok (.istore 14, 2) := by decide +kernel
theorem dL_replicated_113 : decode cL_replicated 113 = .ok (.iload 14, 2) := by decide +kernel
theorem dL_replicated_115 : decode cL_replicated 115 = .ok (.iconst 4, 1) := by decide +kernel
theorem dL_replicated_116 : decode cL_replicated 116 = .ok (.if_icmp .ge 34, 3) := by decide +kernel
theorem dL_replicated_119 : decode cL_replicated 119 = .ok (.iload 13, 2) := by decide +kernel
theorem dL_replicated_121 : decode cL_replicated 121 = .ok (.aload 4, 2) := by decide +kernel
theorem dL_replicated_123 : decode cL_replicated 123 = .ok (.iconst 4, 1) := by decide +kernel
theorem dL_replicated_124 : decode cL_replicated 124 = .ok (.iload 7, 2) := by decide +kernel
theorem dL_replicated_126 : decode cL_replicated 126 = .ok (.imul, 1) := by decide +kernel
theorem dL_replicated_127 : decode cL_replicated 127 = .ok (.iload 14, 2) := by decide +kernel
theorem dL_replicated_129 : decode cL_replicated 129 = .ok (.iadd, 1) := by decide +kernel
theorem dL_replicated_130 : decode cL_replicated 130 = .ok (.iaload, 1) := by decide +kernel
theorem dL_replicated_131 : decode cL_replicated 131 = .ok (.iload 10, 2) := by decide +kernel
theorem dL_replicated_133 : decode cL_replicated 133 = .ok (.if_icmp .le 7, 3) := by decide +kernel
theorem dL_replicated_136 : decode cL_replicated 136 = .ok (.iconst 1, 1) := by decide +kernel
theorem dL_replicated_137 : decode cL_replicated 137 = .ok (.goto 4, 3) := by decide +kernel
theorem dL_replicated_140 : decode cL_replicated 140 = .ok (.iconst 0, 1) := by decide +kernel
theorem dL_replicated_141 : decode cL_replicated 141 = .ok (.iadd, 1) := by decide +kernel
theorem dL_replicated_142 : decode cL_replicated 142 = .ok (.istore 13, 2) := by decide +kernel
theorem dL_replicated_144 : decode cL_replicated 144 = .ok (.iinc 14 1, 3) := by decide +kernel
theorem dL_replicated_147 : decode cL_replicated 147 = .ok (.goto (-34), 3) := by decide +kernel
theorem dL_replicated_150 : decode cL_replicated 150 = .ok (.iload 13, 2) := by decide +kernel
theorem dL_replicated_152 : decode cL_replicated 152 = .ok (.ifCond .ne 13, 3) := by decide +kernel
theorem dL_replicated_155 : decode cL_replicated 155 = .ok (.aload_n 3, 1) := by decide +kernel
theorem dL_replicated_156 : decode cL_replicated 156 = .ok (.bipush 8, 2) := by decide +kernel
theorem dL_replicated_158 : decode cL_replicated 158 = .ok (.iload 7, 2) := by decide +kernel
theorem dL_replicated_160 : decode cL_replicated 160 = .ok (.iadd, 1) := by decide +kernel
theorem dL_replicated_161 : decode cL_replicated 161 = .ok (.iaload, 1) := by decide +kernel
theorem dL_replicated_162 : decode cL_replicated 162 = .ok (.goto 5, 3) := by decide +kernel
theorem dL_replicated_165 : decode cL_replicated 165 = .ok (.iload 10, 2) := by decide +kernel
theorem dL_replicated_167 : decode cL_replicated 167 = .ok (.istore 10, 2) := by decide +kernel
theorem dL_replicated_169 : decode cL_replicated 169 = .ok (.aload 5, 2) := by decide +kernel
theorem dL_replicated_171 : decode cL_replicated 171 = .ok (.bipush 9, 2) := by decide +kernel
theorem dL_replicated_173 : decode cL_replicated 173 = .ok (.iload 7, 2) := by decide +kernel
theorem dL_replicated_175 : decode cL_replicated 175 = .ok (.imul, 1) := by decide +kernel
theorem dL_replicated_176 : decode cL_replicated 176 = .ok (.iconst 3, 1) := by decide +kernel
theorem dL_replicated_177 : decode cL_replicated 177 = .ok (.iload 7, 2) := by decide +kernel
theorem dL_replicated_179 : decode cL_replicated 179 = .ok (.imul, 1) := by decide +kernel
theorem dL_replicated_180 : decode cL_replicated 180 = .ok (.iadd, 1) := by decide +kernel
theorem dL_replicated_181 : decode cL_replicated 181 = .ok (.iload 8, 2) := by decide +kernel
theorem dL_replicated_183 : decode cL_replicated 183 = .ok (.iadd, 1) := by decide +kernel
theorem dL_replicated_184 : decode cL_replicated 184 = .ok (.iload 10, 2) := by decide +kernel
theorem dL_replicated_186 : decode cL_replicated 186 = .ok (.iastore, 1) := by decide +kernel
theorem dL_replicated_187 : decode cL_replicated 187 = .ok (.aload 5, 2) := by decide +kernel
theorem dL_replicated_189 : decode cL_replicated 189 = .ok (.bipush 9, 2) := by decide +kernel
theorem dL_replicated_191 : decode cL_replicated 191 = .ok (.iload 8, 2) := by decide +kernel
theorem dL_replicated_193 : decode cL_replicated 193 = .ok (.imul, 1) := by decide +kernel
theorem dL_replicated_194 : decode cL_replicated 194 = .ok (.iconst 3, 1) := by decide +kernel
theorem dL_replicated_195 : decode cL_replicated 195 = .ok (.iload 7, 2) := by decide +kernel
theorem dL_replicated_197 : decode cL_replicated 197 = .ok (.imul, 1) := by decide +kernel
theorem dL_replicated_198 : decode cL_replicated 198 = .ok (.iadd, 1) := by decide +kernel
theorem dL_replicated_199 : decode cL_replicated 199 = .ok (.iload 8, 2) := by decide +kernel
theorem dL_replicated_201 : decode cL_replicated 201 = .ok (.iadd, 1) := by decide +kernel
theorem dL_replicated_202 : decode cL_replicated 202 = .ok (.iload 10, 2) := by decide +kernel
theorem dL_replicated_204 : decode cL_replicated 204 = .ok (.iastore, 1) := by decide +kernel
theorem dL_replicated_205 : decode cL_replicated 205 = .ok (.iload 11, 2) := by decide +kernel
theorem dL_replicated_207 : decode cL_replicated 207 = .ok (.ireturn, 1) := by decide +kernel
set_option maxRecDepth 20000 in
theorem ggL_areStores_X3_revisions : GoodIn wsL_areStores wsX3_revisions := goodIn_r _ [5, 6, 172, 173, 174, 175, 176, 177, 178, 179, 180, 181] (by decide +kernel) (by decide +kernel)
set_option maxRecDepth 20000 in
theorem gL_areStores_X3_revisions : GoodIn wsL_areStores (wsV RL 43 RX3 yX3_revisions wsX3_revisions) := goodIn_app (goodIn_of _ (by decide +kernel)) ggL_areStores_X3_revisions
set_option maxRecDepth 20000 in
theorem ggL_areStores_X3_sequence : GoodIn wsL_areStores wsX3_sequence := goodIn_ca (goodIn_r _ [10, 11, 12, 13, 4, 14, 15, 16, 17, 182, 183, 184, 185, 186, 172, 173, 174] (by decide +kernel) (by decide +kernel)) (goodIn_sub (fun _ h => List.mem_cons_of_mem _ (List.mem_append_left _ (List.mem_append_right _ h))) (by decide +kernel))
set_option maxRecDepth 20000 in
theorem gL_areStores_X3_sequence : GoodIn wsL_areStores (wsV RL 49 RX3 yX3_sequence wsX3_sequence) := goodIn_app (goodIn_of _ (by decide +kernel)) ggL_areStores_X3_sequence
set_option maxRecDepth 20000 in
theorem ggL_areStores_X3_size : GoodIn wsL_areStores wsX3_size := goodIn_ca (goodIn_r _ [21, 6, 11, 12, 13, 4, 14, 15, 16, 17, 22, 23, 24, 25, 26, 27, 182, 183, 184, 185, 186, 172, 173, 174, 175, 176, 177, 178, 179, 180, 181, 187, 188, 189] (by decide +kernel) (by decide +kernel)) (goodIn_sub (fun _ h => List.mem_cons_of_mem _ (List.mem_append_left _ (List.mem_append_right _ h))) (by decide +kernel))
set_option maxRecDepth 20000 in
theorem gL_areStores_X3_size : GoodIn wsL_areStores (wsV RL 52 RX3 yX3_size wsX3_size) := goodIn_app (goodIn_of _ (by decide +kernel)) ggL_areStores_X3_size
set_option maxRecDepth 20000 in
theorem ggL_areStores_L_ones : GoodIn wsL_areStores wsL_ones := goodIn_r _ [31] (by decide +kernel) (by decide +kernel)
set_option maxRecDepth 20000 in
theorem gL_areStores_L_ones : GoodIn wsL_areStores (va_wsS RL 23 yL_ones wsL_ones) := goodIn_app (goodIn_of _ (by decide +kernel)) ggL_areStores_L_ones
set_option maxRecDepth 20000 in
theorem ggL_areStores_L_leaves : GoodIn wsL_areStores wsL_leaves := goodIn_r _ [34] (by decide +kernel) (by decide +kernel)
set_option maxRecDepth 20000 in
theorem gL_areStores_L_leaves : GoodIn wsL_areStores (va_wsS RL 9 yL_leaves wsL_leaves) := goodIn_app (goodIn_of _ (by decide +kernel)) ggL_areStores_L_leaves
set_option maxRecDepth 20000 in
theorem ggL_areStores_L_winner : GoodIn wsL_areStores wsL_winner := goodIn_r _ [37, 32, 33, 30, 34, 38, 39, 40] (by decide +kernel) (by decide +kernel)
set_option maxRecDepth 20000 in
theorem gL_areStores_L_winner : GoodIn wsL_areStores (va_wsS RL 55 yL_winner wsL_winner) := goodIn_app (goodIn_of _ (by decide +kernel)) ggL_areStores_L_winner
set_option maxRecDepth 20000 in
theorem ggL_areStores_X3_isLeaf : GoodIn wsL_areStores wsX3_isLeaf := goodIn_ca (goodIn_r _ [44, 11, 12, 13, 4, 14, 15, 16, 17, 45, 46, 47, 48, 6, 49, 50, 51, 25, 52, 27, 53, 54, 55, 56, 57, 182, 183, 184, 185, 186, 172, 173, 174, 175, 176, 177, 178, 179, 180, 181, 187, 188, 189] (by decide +kernel) (by decide +kernel)) (goodIn_sub (fun _ h => List.mem_cons_of_mem _ (List.mem_append_left _ (List.mem_append_right _ h))) (by decide +kernel))
set_option maxRecDepth 20000 in
theorem gL_areStores_X3_isLeaf : GoodIn wsL_areStores (wsV RL 59 RX3 yX3_isLeaf wsX3_isLeaf) := goodIn_app (goodIn_of _ (by decide +kernel)) ggL_areStores_X3_isLeaf
set_option maxRecDepth 20000 in
theorem ggL_areStores_X3_has : GoodIn wsL_areStores wsX3_has := goodIn_ca (goodIn_r _ [61, 11, 12, 13, 4, 14, 15, 16, 17, 45, 46, 47, 48, 6, 182, 183, 184, 185, 186, 187, 188, 189, 172, 173, 174, 175, 176, 177, 178, 179, 180, 181] (by decide +kernel) (by decide +kernel)) (goodIn_sub (fun _ h => List.mem_cons_of_mem _ (List.mem_append_left _ (List.mem_append_right _ h))) (by decide +kernel))
set_option maxRecDepth 20000 in
theorem gL_areStores_X3_has : GoodIn wsL_areStores (wsV RL 63 RX3 yX3_has wsX3_has) := goodIn_app (goodIn_of _ (by decide +kernel)) ggL_areStores_X3_has
set_option maxRecDepth 20000 in
theorem ggL_areStores_X3_winner : GoodIn wsL_areStores wsX3_winner := goodIn_ca (goodIn_r _ [65, 11, 12, 13, 4, 14, 15, 16, 17, 66, 67, 68, 69, 182, 183, 184, 185, 186, 187, 188, 189, 172, 173, 174] (by decide +kernel) (by decide +kernel)) (goodIn_sub (fun _ h => List.mem_cons_of_mem _ (List.mem_append_left _ (List.mem_append_right _ h))) (by decide +kernel))
set_option maxRecDepth 20000 in
theorem gL_areStores_X3_winner : GoodIn wsL_areStores (wsV RL 66 RX3 yX3_winner wsX3_winner) := goodIn_app (goodIn_of _ (by decide +kernel)) ggL_areStores_X3_winner
set_option maxRecDepth 20000 in
theorem ggL_areStores_X3_conflicts : GoodIn wsL_areStores wsX3_conflicts := goodIn_ca (goodIn_r _ [73, 6, 74, 75, 76, 77, 11, 12, 13, 4, 14, 15, 16, 17, 66, 67, 68, 69, 78, 79, 80, 25, 81, 82, 50, 51, 52, 27, 53, 54, 55, 56, 57, 182, 183, 184, 185, 186, 172, 173, 174, 175, 176, 177, 178, 179, 180, 181, 187, 188, 189] (by decide +kernel) (by decide +kernel)) (goodIn_sub (fun _ h => List.mem_cons_of_mem _ (List.mem_append_left _ (List.mem_append_right _ h))) (by decide +kernel))
set_option maxRecDepth 20000 in
theorem gL_areStores_X3_conflicts : GoodIn wsL_areStores (wsV RL 69 RX3 yX3_conflicts wsX3_conflicts) := goodIn_app (goodIn_of _ (by decide +kernel)) ggL_areStores_X3_conflicts
set_option maxRecDepth 20000 in
theorem ggL_areStores_X3_count : GoodIn wsL_areStores wsX3_count := goodIn_ca (goodIn_r _ [86, 6, 11, 12, 13, 4, 14, 15, 16, 17, 87, 88, 89, 25, 90, 91, 182, 183, 184, 185, 186, 172, 173, 174, 187, 188, 189, 175, 176, 177, 178, 179, 180, 181] (by decide +kernel) (by decide +kernel)) (goodIn_sub (fun _ h => List.mem_cons_of_mem _ (List.mem_append_left _ (List.mem_append_right _ h))) (by decide +kernel))
set_option maxRecDepth 20000 in
theorem gL_areStores_X3_count : GoodIn wsL_areStores (wsV RL 72 RX3 yX3_count wsX3_count) := goodIn_app (goodIn_of _ (by decide +kernel)) ggL_areStores_X3_count
set_option maxRecDepth 20000 in
theorem ggL_areStores_X3_winnerOfAll : GoodIn wsL_areStores wsX3_winnerOfAll := goodIn_ca (goodIn_r _ [95, 96, 6, 17, 66, 67, 68, 4, 69, 15, 16, 97, 98, 99, 25, 100, 27, 101, 102, 103, 104, 105, 106, 107, 108, 109, 110, 111, 112, 57, 113, 114, 76, 115, 116, 117, 118, 119, 82, 50, 51, 52, 53, 54, 55, 56, 120, 121, 122, 123, 91, 124, 125, 126, 127, 128, 129, 130, 131, 172, 173, 174, 182, 183, 184, 185, 186, 187, 188, 189, 175, 176, 177, 178, 179, 180, 181] (by decide +kernel) (by decide +kernel)) (goodIn_sub (fun _ h => List.mem_cons_of_mem _ (List.mem_append_left _ (List.mem_append_right _ h))) (by decide +kernel))
set_option maxRecDepth 20000 in
theorem gL_areStores_X3_winnerOfAll : GoodIn wsL_areStores (wsV RL 76 RX3 yX3_winnerOfAll wsX3_winnerOfAll) := goodIn_app (goodIn_of _ (by decide +kernel)) ggL_areStores_X3_winnerOfAll
set_option maxRecDepth 20000 in
theorem ggL_areStores_X3_viewAt : GoodIn wsL_areStores wsX3_viewAt := goodIn_ca (goodIn_r _ [135, 15, 16, 6, 11, 12, 13, 4, 14, 17, 87, 88, 89, 25, 90, 91, 136, 137, 138, 139, 140, 182, 183, 184, 185, 186, 172, 173, 174, 187, 188, 189, 175, 176, 177, 178, 179, 180, 181] (by decide +kernel) (by decide +kernel)) (goodIn_sub (fun _ h => List.mem_cons_of_mem _ (List.mem_append_left _ (List.mem_append_right _ h))) (by decide +kernel))
set_option maxRecDepth 20000 in
theorem gL_areStores_X3_viewAt : GoodIn wsL_areStores (wsV RL 79 RX3 yX3_viewAt wsX3_viewAt) := goodIn_app (goodIn_of _ (by decide +kernel)) ggL_areStores_X3_viewAt
set_option maxRecDepth 20000 in
theorem ggL_areStores_L_start : GoodIn wsL_areStores wsL_start := goodIn_r _ [143] (by decide +kernel) (by decide +kernel)
set_option maxRecDepth 20000 in
theorem gL_areStores_L_start : GoodIn wsL_areStores (va_wsS RL 35 yL_start wsL_start) := goodIn_app (goodIn_of _ (by decide +kernel)) ggL_areStores_L_start
set_option maxRecDepth 20000 in
theorem ggL_areStores_X3_checkpoint : GoodIn wsL_areStores wsX3_checkpoint := goodIn_ca (goodIn_ca (goodIn_r _ [147, 11, 12, 13, 4, 14, 15, 16, 17, 148, 149, 150, 151, 152, 153, 154, 155, 156, 157, 158, 114, 76, 115, 159, 160, 161, 172, 173, 174, 182, 183, 184, 185, 186] (by decide +kernel) (by decide +kernel)) (goodIn_sub (fun _ h => List.mem_cons_of_mem _ (List.mem_append_left _ (List.mem_append_right _ h))) (by decide +kernel))) (goodIn_sub (fun _ h => List.mem_cons_of_mem _ (List.mem_append_right _ h)) (by decide +kernel))
set_option maxRecDepth 20000 in
theorem gL_areStores_X3_checkpoint : GoodIn wsL_areStores (wsV RL 82 RX3 yX3_checkpoint wsX3_checkpoint) := goodIn_app (goodIn_of _ (by decide +kernel)) ggL_areStores_X3_checkpoint
set_option maxRecDepth 20000 in
theorem ggL_areStores_X3_pending : GoodIn wsL_areStores wsX3_pending := goodIn_ca (goodIn_ca (goodIn_r _ [165, 11, 12, 13, 4, 14, 15, 16, 17, 148, 149, 150, 151, 152, 153, 154, 155, 156, 157, 158, 114, 76, 115, 159, 160, 161, 166, 167, 168, 169, 170, 171, 172, 173, 174, 182, 183, 184, 185, 186] (by decide +kernel) (by decide +kernel)) (goodIn_sub (fun _ h => List.mem_cons_of_mem _ (List.mem_append_left _ (List.mem_append_right _ h))) (by decide +kernel))) (goodIn_sub (fun _ h => List.mem_cons_of_mem _ (List.mem_append_right _ h)) (by decide +kernel))
set_option maxRecDepth 20000 in
theorem gL_areStores_X3_pending : GoodIn wsL_areStores (wsV RL 85 RX3 yX3_pending wsX3_pending) := goodIn_app (goodIn_of _ (by decide +kernel)) ggL_areStores_X3_pending
