theorem dX4_init_0 : decode cX4_init 0 = .ok (.aload_n 0, 1) := by decide +kernel
theorem dX4_init_1 : decode cX4_init 1 = .ok (.invokespecial 1, 3) := by decide +kernel
theorem dX4_init_4 : decode cX4_init 4 = .ok (.aload_n 0, 1) := by decide +kernel
theorem dX4_init_5 : decode cX4_init 5 = .ok (.sipush 150, 3) := by decide +kernel
theorem dX4_init_8 : decode cX4_init 8 = .ok (.newarray .int, 2) := by decide +kernel
theorem dX4_init_10 : decode cX4_init 10 = .ok (.putfield 7, 3) := by decide +kernel
theorem dX4_init_13 : decode cX4_init 13 = .ok (.aload_n 0, 1) := by decide +kernel
theorem dX4_init_14 : decode cX4_init 14 = .ok (.sipush 150, 3) := by decide +kernel
theorem dX4_init_17 : decode cX4_init 17 = .ok (.newarray .int, 2) := by decide +kernel
theorem dX4_init_19 : decode cX4_init 19 = .ok (.putfield 13, 3) := by decide +kernel
theorem dX4_init_22 : decode cX4_init 22 = .ok (.aload_n 0, 1) := by decide +kernel
theorem dX4_init_23 : decode cX4_init 23 = .ok (.sipush 150, 3) := by decide +kernel
theorem dX4_init_26 : decode cX4_init 26 = .ok (.newarray .int, 2) := by decide +kernel
theorem dX4_init_28 : decode cX4_init 28 = .ok (.putfield 16, 3) := by decide +kernel
theorem dX4_init_31 : decode cX4_init 31 = .ok (.aload_n 0, 1) := by decide +kernel
theorem dX4_init_32 : decode cX4_init 32 = .ok (.sipush 150, 3) := by decide +kernel
theorem dX4_init_35 : decode cX4_init 35 = .ok (.newarray .boolean, 2) := by decide +kernel
theorem dX4_init_37 : decode cX4_init 37 = .ok (.putfield 19, 3) := by decide +kernel
theorem dX4_init_40 : decode cX4_init 40 = .ok (.aload_n 0, 1) := by decide +kernel
theorem dX4_init_41 : decode cX4_init 41 = .ok (.sipush 150, 3) := by decide +kernel
theorem dX4_init_44 : decode cX4_init 44 = .ok (.newarray .int, 2) := by decide +kernel
theorem dX4_init_46 : decode cX4_init 46 = .ok (.putfield 23, 3) := by decide +kernel
theorem dX4_init_49 : decode cX4_init 49 = .ok (.aload_n 0, 1) := by decide +kernel
theorem dX4_init_50 : decode cX4_init 50 = .ok (.sipush 150, 3) := by decide +kernel
theorem dX4_init_53 : decode cX4_init 53 = .ok (.newarray .int, 2) := by decide +kernel
theorem dX4_init_55 : decode cX4_init 55 = .ok (.putfield 26, 3) := by decide +kernel
theorem dX4_init_58 : decode cX4_init 58 = .ok (.aload_n 0, 1) := by decide +kernel
theorem dX4_init_59 : decode cX4_init 59 = .ok (.sipush 450, 3) := by decide +kernel
theorem dX4_init_62 : decode cX4_init 62 = .ok (.newarray .boolean, 2) := by decide +kernel
theorem dX4_init_64 : decode cX4_init 64 = .ok (.putfield 29, 3) := by decide +kernel
theorem dX4_init_67 : decode cX4_init 67 = .ok (.aload_n 0, 1) := by decide +kernel
theorem dX4_init_68 : decode cX4_init 68 = .ok (.iconst 3, 1) := by decide +kernel
theorem dX4_init_69 : decode cX4_init 69 = .ok (.newarray .int, 2) := by decide +kernel
theorem dX4_init_71 : decode cX4_init 71 = .ok (.putfield 32, 3) := by decide +kernel
theorem dX4_init_74 : decode cX4_init 74 = .ok (.aload_n 0, 1) := by decide +kernel
theorem dX4_init_75 : decode cX4_init 75 = .ok (.iconst 3, 1) := by decide +kernel
theorem dX4_init_76 : decode cX4_init 76 = .ok (.newarray .int, 2) := by decide +kernel
theorem dX4_init_78 : decode cX4_init 78 = .ok (.putfield 35, 3) := by decide +kernel
theorem dX4_init_81 : decode cX4_init 81 = .ok (.aload_n 0, 1) := by decide +kernel
theorem dX4_init_82 : decode cX4_init 82 = .ok (.bipush 12, 2) := by decide +kernel
theorem dX4_init_84 : decode cX4_init 84 = .ok (.newarray .int, 2) := by decide +kernel
theorem dX4_init_86 : decode cX4_init 86 = .ok (.putfield 38, 3) := by decide +kernel
theorem dX4_init_89 : decode cX4_init 89 = .ok (.aload_n 0, 1) := by decide +kernel
theorem dX4_init_90 : decode cX4_init 90 = .ok (.bipush 27, 2) := by decide +kernel
theorem dX4_init_92 : decode cX4_init 92 = .ok (.newarray .int, 2) := by decide +kernel
theorem dX4_init_94 : decode cX4_init 94 = .ok (.putfield 41, 3) := by decide +kernel
theorem dX4_init_97 : decode cX4_init 97 = .ok (.iconst 0, 1) := by decide +kernel
theorem dX4_init_98 : decode cX4_init 98 = .ok (.istore_n 1, 1) := by decide +kernel
theorem dX4_init_99 : decode cX4_init 99 = .ok (.iload_n 1, 1) := by decide +kernel
theorem dX4_init_100 : decode cX4_init 100 = .ok (.iconst 3, 1) := by decide +kernel
theorem dX4_init_101 : decode cX4_init 101 = .ok (.if_icmp .ge 17, 3) := by decide +kernel
theorem dX4_init_104 : decode cX4_init 104 = .ok (.aload_n 0, 1) := by decide +kernel
theorem dX4_init_105 : decode cX4_init 105 = .ok (.getfield 32, 3) := by decide +kernel
theorem dX4_init_108 : decode cX4_init 108 = .ok (.iload_n 1, 1) := by decide +kernel
theorem dX4_init_109 : decode cX4_init 109 = .ok (.bipush 20, 2) := by decide +kernel
theorem dX4_init_111 : decode cX4_init 111 = .ok (.iastore, 1) := by decide +kernel
theorem dX4_init_112 : decode cX4_init 112 = .ok (.iinc 1 1, 3) := by decide +kernel
theorem dX4_init_115 : decode cX4_init 115 = .ok (.goto (-16), 3) := by decide +kernel
theorem dX4_init_118 : decode cX4_init 118 = .ok (.return_, 1) := by decide +kernel
theorem dX4_thrown_0 : decode cX4_thrown 0 = .ok (.aload_n 0, 1) := by decide +kernel
theorem dX4_thrown_1 : decode cX4_thrown 1 = .ok (.getfield 44, 3) := by decide +kernel
theorem dX4_thrown_4 : decode cX4_thrown 4 = .ok (.ireturn, 1) := by decide +kernel
theorem dX4_in_0 : decode cX4_in 0 = .ok (.iload_n 0, 1) := by decide +kernel
theorem dX4_in_1 : decode cX4_in 1 = .ok (.iload_n 1, 1) := by decide +kernel
theorem dX4_in_2 : decode cX4_in 2 = .ok (.if_icmp .lt 12, 3) := by decide +kernel
theorem dX4_in_5 : decode cX4_in 5 = .ok (.iload_n 0, 1) := by decide +kernel
theorem dX4_in_6 : decode cX4_in 6 = .ok (.iload_n 2, 1) := by decide +kernel
theorem dX4_in_7 : decode cX4_in 7 = .ok (.if_icmp .gt 7, 3) := by decide +kernel
theorem dX4_in_10 : decode cX4_in 10 = .ok (.iconst 1, 1) := by decide +kernel
theorem dX4_in_11 : decode cX4_in 11 = .ok (.goto 4, 3) := by decide +kernel
theorem dX4_in_14 : decode cX4_in 14 = .ok (.iconst 0, 1) := by decide +kernel
theorem dX4_in_15 : decode cX4_in 15 = .ok (.ireturn, 1) := by decide +kernel
theorem dX4_goes_0 : decode cX4_goes 0 = .ok (.aload_n 0, 1) := by decide +kernel
theorem dX4_goes_1 : decode cX4_goes 1 = .ok (.iload_n 1, 1) := by decide +kernel
theorem dX4_goes_2 : decode cX4_goes 2 = .ok (.ifCond .ne 7, 3) := by decide +kernel
theorem dX4_goes_5 : decode cX4_goes 5 = .ok (.iconst 1, 1) := by decide +kernel
theorem dX4_goes_6 : decode cX4_goes 6 = .ok (.goto 20, 3) := by decide +kernel
theorem dX4_goes_9 : decode cX4_goes 9 = .ok (.iload_n 2, 1) := by decide +kernel
theorem dX4_goes_10 : decode cX4_goes 10 = .ok (.ifCond .ne 7, 3) := by decide +kernel
theorem dX4_goes_13 : decode cX4_goes 13 = .ok (.iconst 2, 1) := by decide +kernel
theorem dX4_goes_14 : decode cX4_goes 14 = .ok (.goto 12, 3) := by decide +kernel
theorem dX4_goes_17 : decode cX4_goes 17 = .ok (.iload_n 3, 1) := by decide +kernel
theorem dX4_goes_18 : decode cX4_goes 18 = .ok (.ifCond .eq 7, 3) := by decide +kernel
theorem dX4_goes_21 : decode cX4_goes 21 = .ok (.iconst 0, 1) := by decide +kernel
theorem dX4_goes_22 : decode cX4_goes 22 = .ok (.goto 4, 3) := by decide +kernel
theorem dX4_goes_25 : decode cX4_goes 25 = .ok (.iconst 3, 1) := by decide +kernel
theorem dX4_goes_26 : decode cX4_goes 26 = .ok (.putfield 44, 3) := by decide +kernel
theorem dX4_goes_29 : decode cX4_goes 29 = .ok (.aload_n 0, 1) := by decide +kernel
theorem dX4_goes_30 : decode cX4_goes 30 = .ok (.getfield 44, 3) := by decide +kernel
theorem dX4_goes_33 : decode cX4_goes 33 = .ok (.ifCond .ne 7, 3) := by decide +kernel
theorem dX4_goes_36 : decode cX4_goes 36 = .ok (.iconst 1, 1) := by decide +kernel
theorem dX4_goes_37 : decode cX4_goes 37 = .ok (.goto 4, 3) := by decide +kernel
theorem dX4_goes_40 : decode cX4_goes 40 = .ok (.iconst 0, 1) := by decide +kernel
theorem dX4_goes_41 : decode cX4_goes 41 = .ok (.ireturn, 1) := by decide +kernel
set_option maxRecDepth 20000 in
theorem ggX4_isStore_X4_in : GoodIn wsX4_isStore wsX4_in := goodIn_r _ [4] (by decide +kernel) (by decide +kernel)
set_option maxRecDepth 20000 in
theorem gX4_isStore_X4_in : GoodIn wsX4_isStore (va_wsS RX4 48 yX4_in wsX4_in) := goodIn_app (goodIn_of _ (by decide +kernel)) ggX4_isStore_X4_in
theorem dX4_isStore_0 : decode cX4_isStore 0 = .ok (.iload_n 0, 1) := by decide +kernel
theorem dX4_isStore_1 : decode cX4_isStore 1 = .ok (.iconst 0, 1) := by decide +kernel
theorem dX4_isStore_2 : decode cX4_isStore 2 = .ok (.iconst 2, 1) := by decide +kernel
theorem dX4_isStore_3 : decode cX4_isStore 3 = .ok (.invokestatic 48, 3) := by decide +kernel
theorem dX4_isStore_6 : decode cX4_isStore 6 = .ok (.ireturn, 1) := by decide +kernel
set_option maxRecDepth 20000 in
theorem ggX4_isDocument_X4_in : GoodIn wsX4_isDocument wsX4_in := goodIn_r _ [4] (by decide +kernel) (by decide +kernel)
set_option maxRecDepth 20000 in
theorem gX4_isDocument_X4_in : GoodIn wsX4_isDocument (va_wsS RX4 48 yX4_in wsX4_in) := goodIn_app (goodIn_of _ (by decide +kernel)) ggX4_isDocument_X4_in
theorem dX4_isDocument_0 : decode cX4_isDocument 0 = .ok (.iload_n 0, 1) := by decide +kernel
theorem dX4_isDocument_1 : decode cX4_isDocument 1 = .ok (.iconst 0, 1) := by decide +kernel
theorem dX4_isDocument_2 : decode cX4_isDocument 2 = .ok (.iconst 3, 1) := by decide +kernel
theorem dX4_isDocument_3 : decode cX4_isDocument 3 = .ok (.invokestatic 48, 3) := by decide +kernel
theorem dX4_isDocument_6 : decode cX4_isDocument 6 = .ok (.ireturn, 1) := by decide +kernel
set_option maxRecDepth 20000 in
theorem ggX4_isRevision_X4_in : GoodIn wsX4_isRevision wsX4_in := goodIn_r _ [5] (by decide +kernel) (by decide +kernel)
set_option maxRecDepth 20000 in
theorem gX4_isRevision_X4_in : GoodIn wsX4_isRevision (va_wsS RX4 48 yX4_in wsX4_in) := goodIn_app (goodIn_of _ (by decide +kernel)) ggX4_isRevision_X4_in
theorem dX4_isRevision_0 : decode cX4_isRevision 0 = .ok (.iload_n 1, 1) := by decide +kernel
theorem dX4_isRevision_1 : decode cX4_isRevision 1 = .ok (.iconst 0, 1) := by decide +kernel
theorem dX4_isRevision_2 : decode cX4_isRevision 2 = .ok (.aload_n 0, 1) := by decide +kernel
theorem dX4_isRevision_3 : decode cX4_isRevision 3 = .ok (.getfield 52, 3) := by decide +kernel
theorem dX4_isRevision_6 : decode cX4_isRevision 6 = .ok (.iconst 1, 1) := by decide +kernel
theorem dX4_isRevision_7 : decode cX4_isRevision 7 = .ok (.isub, 1) := by decide +kernel
theorem dX4_isRevision_8 : decode cX4_isRevision 8 = .ok (.invokestatic 48, 3) := by decide +kernel
theorem dX4_isRevision_11 : decode cX4_isRevision 11 = .ok (.ireturn, 1) := by decide +kernel
theorem dX4_isAncestor_0 : decode cX4_isAncestor 0 = .ok (.iload_n 2, 1) := by decide +kernel
theorem dX4_isAncestor_1 : decode cX4_isAncestor 1 = .ok (.istore_n 3, 1) := by decide +kernel
theorem dX4_isAncestor_2 : decode cX4_isAncestor 2 = .ok (.iload_n 3, 1) := by decide +kernel
theorem dX4_isAncestor_3 : decode cX4_isAncestor 3 = .ok (.iload_n 1, 1) := by decide +kernel
theorem dX4_isAncestor_4 : decode cX4_isAncestor 4 = .ok (.if_icmp .le 13, 3) := by decide +kernel
theorem dX4_isAncestor_7 : decode cX4_isAncestor 7 = .ok (.aload_n 0, 1) := by decide +kernel
theorem dX4_isAncestor_8 : decode cX4_isAncestor 8 = .ok (.getfield 13, 3) := by decide +kernel
theorem dX4_isAncestor_11 : decode cX4_isAncestor 11 = .ok (.iload_n 3, 1) := by decide +kernel
theorem dX4_isAncestor_12 : decode cX4_isAncestor 12 = .ok (.iaload, 1) := by decide +kernel
theorem dX4_isAncestor_13 : decode cX4_isAncestor 13 = .ok (.istore_n 3, 1) := by decide +kernel
theorem dX4_isAncestor_14 : decode cX4_isAncestor 14 = .ok (.goto (-12), 3) := by decide +kernel
theorem dX4_isAncestor_17 : decode cX4_isAncestor 17 = .ok (.iload_n 3, 1) := by decide +kernel
theorem dX4_isAncestor_18 : decode cX4_isAncestor 18 = .ok (.iload_n 1, 1) := by decide +kernel
theorem dX4_isAncestor_19 : decode cX4_isAncestor 19 = .ok (.if_icmp .ne 12, 3) := by decide +kernel
theorem dX4_isAncestor_22 : decode cX4_isAncestor 22 = .ok (.iload_n 2, 1) := by decide +kernel
theorem dX4_isAncestor_23 : decode cX4_isAncestor 23 = .ok (.iload_n 1, 1) := by decide +kernel
theorem dX4_isAncestor_24 : decode cX4_isAncestor 24 = .ok (.if_icmp .eq 7, 3) := by decide +kernel
theorem dX4_isAncestor_27 : decode cX4_isAncestor 27 = .ok (.iconst 1, 1) := by decide +kernel
theorem dX4_isAncestor_28 : decode cX4_isAncestor 28 = .ok (.goto 4, 3) := by decide +kernel
theorem dX4_isAncestor_31 : decode cX4_isAncestor 31 = .ok (.iconst 0, 1) := by decide +kernel
theorem dX4_isAncestor_32 : decode cX4_isAncestor 32 = .ok (.ireturn, 1) := by decide +kernel
set_option maxRecDepth 20000 in
theorem ggX4_hasDescendant_X4_isAncestor : GoodIn wsX4_hasDescendant wsX4_isAncestor := goodIn_r _ [7, 8, 9, 10, 11, 12, 13, 14, 15, 16, 17, 18, 19, 20, 21] (by decide +kernel) (by decide +kernel)
set_option maxRecDepth 20000 in
theorem gX4_hasDescendant_X4_isAncestor : GoodIn wsX4_hasDescendant (wsV RX4 55 RX4 yX4_isAncestor wsX4_isAncestor) := goodIn_app (goodIn_of _ (by decide +kernel)) ggX4_hasDescendant_X4_isAncestor
theorem dX4_hasDescendant_0 : decode cX4_hasDescendant 0 = .ok (.iconst 0, 1) := by decide +kernel
theorem dX4_hasDescendant_1 : decode cX4_hasDescendant 1 = .ok (.istore_n 3, 1) := by decide +kernel
theorem dX4_hasDescendant_2 : decode cX4_hasDescendant 2 = .ok (.iload_n 2, 1) := by decide +kernel
theorem dX4_hasDescendant_3 : decode cX4_hasDescendant 3 = .ok (.iconst 1, 1) := by decide +kernel
theorem dX4_hasDescendant_4 : decode cX4_hasDescendant 4 = .ok (.iadd, 1) := by decide +kernel
theorem dX4_hasDescendant_5 : decode cX4_hasDescendant 5 = .ok (.istore 4, 2) := by decide +kernel
theorem dX4_hasDescendant_7 : decode cX4_hasDescendant 7 = .ok (.iload 4, 2) := by decide +kernel
theorem dX4_hasDescendant_9 : decode cX4_hasDescendant 9 = .ok (.aload_n 0, 1) := by decide +kernel
theorem dX4_hasDescendant_10 : decode cX4_hasDescendant 10 = .ok (.getfield 52, 3) := by decide +kernel
theorem dX4_hasDescendant_13 : decode cX4_hasDescendant 13 = .ok (.if_icmp .ge 45, 3) := by decide +kernel
theorem dX4_hasDescendant_16 : decode cX4_hasDescendant 16 = .ok (.iload_n 3, 1) := by decide +kernel
theorem dX4_hasDescendant_17 : decode cX4_hasDescendant 17 = .ok (.ifCond .ne 29, 3) := by decide +kernel
theorem dX4_hasDescendant_20 : decode cX4_hasDescendant 20 = .ok (.aload_n 0, 1) := by decide +kernel
theorem dX4_hasDescendant_21 : decode cX4_hasDescendant 21 = .ok (.getfield 29, 3) := by decide +kernel
theorem dX4_hasDescendant_24 : decode cX4_hasDescendant 24 = .ok (.sipush 150, 3) := by decide +kernel
theorem dX4_hasDescendant_27 : decode cX4_hasDescendant 27 = .ok (.iload_n 1, 1) := by decide +kernel
theorem dX4_hasDescendant_28 : decode cX4_hasDescendant 28 = .ok (.imul, 1) := by decide +kernel
theorem dX4_hasDescendant_29 : decode cX4_hasDescendant 29 = .ok (.iload 4, 2) := by decide +kernel
theorem dX4_hasDescendant_31 : decode cX4_hasDescendant 31 = .ok (.iadd, 1) := by decide +kernel
theorem dX4_hasDescendant_32 : decode cX4_hasDescendant 32 = .ok (.baload, 1) := by decide +kernel
theorem dX4_hasDescendant_33 : decode cX4_hasDescendant 33 = .ok (.ifCond .eq 17, 3) := by decide +kernel
theorem dX4_hasDescendant_36 : decode cX4_hasDescendant 36 = .ok (.aload_n 0, 1) := by decide +kernel
theorem dX4_hasDescendant_37 : decode cX4_hasDescendant 37 = .ok (.iload_n 2, 1) := by decide +kernel
theorem dX4_hasDescendant_38 : decode cX4_hasDescendant 38 = .ok (.iload 4, 2) := by decide +kernel
theorem dX4_hasDescendant_40 : decode cX4_hasDescendant 40 = .ok (.invokevirtual 55, 3) := by decide +kernel
theorem dX4_hasDescendant_43 : decode cX4_hasDescendant 43 = .ok (.ifCond .eq 7, 3) := by decide +kernel
theorem dX4_hasDescendant_46 : decode cX4_hasDescendant 46 = .ok (.iconst 1, 1) := by decide +kernel
theorem dX4_hasDescendant_47 : decode cX4_hasDescendant 47 = .ok (.goto 4, 3) := by decide +kernel
theorem dX4_hasDescendant_50 : decode cX4_hasDescendant 50 = .ok (.iconst 0, 1) := by decide +kernel
theorem dX4_hasDescendant_51 : decode cX4_hasDescendant 51 = .ok (.istore_n 3, 1) := by decide +kernel
theorem dX4_hasDescendant_52 : decode cX4_hasDescendant 52 = .ok (.iinc 4 1, 3) := by decide +kernel
theorem dX4_hasDescendant_55 : decode cX4_hasDescendant 55 = .ok (.goto (-48), 3) := by decide +kernel
theorem dX4_hasDescendant_58 : decode cX4_hasDescendant 58 = .ok (.iload_n 3, 1) := by decide +kernel
theorem dX4_hasDescendant_59 : decode cX4_hasDescendant 59 = .ok (.ireturn, 1) := by decide +kernel
set_option maxRecDepth 20000 in
theorem ggX4_leaf_X4_hasDescendant : GoodIn wsX4_leaf wsX4_hasDescendant := goodIn_r _ [6, 7, 1, 8, 9, 10, 5, 11, 12, 13, 14, 15, 16, 17, 18, 19, 20, 21, 22, 23, 24, 25] (by decide +kernel) (by decide +kernel)
set_option maxRecDepth 20000 in
theorem gX4_leaf_X4_hasDescendant : GoodIn wsX4_leaf (wsV RX4 59 RX4 yX4_hasDescendant wsX4_hasDescendant) := goodIn_app (goodIn_of _ (by decide +kernel)) ggX4_leaf_X4_hasDescendant
theorem dX4_leaf_0 : decode cX4_leaf 0 = .ok (.aload_n 0, 1) := by decide +kernel
theorem dX4_leaf_1 : decode cX4_leaf 1 = .ok (.getfield 29, 3) := by decide +kernel
theorem dX4_leaf_4 : decode cX4_leaf 4 = .ok (.sipush 150, 3) := by decide +kernel
theorem dX4_leaf_7 : decode cX4_leaf 7 = .ok (.iload_n 1, 1) := by decide +kernel
theorem dX4_leaf_8 : decode cX4_leaf 8 = .ok (.imul, 1) := by decide +kernel
theorem dX4_leaf_9 : decode cX4_leaf 9 = .ok (.iload_n 2, 1) := by decide +kernel
theorem dX4_leaf_10 : decode cX4_leaf 10 = .ok (.iadd, 1) := by decide +kernel
theorem dX4_leaf_11 : decode cX4_leaf 11 = .ok (.baload, 1) := by decide +kernel
theorem dX4_leaf_12 : decode cX4_leaf 12 = .ok (.ifCond .eq 16, 3) := by decide +kernel
theorem dX4_leaf_15 : decode cX4_leaf 15 = .ok (.aload_n 0, 1) := by decide +kernel
theorem dX4_leaf_16 : decode cX4_leaf 16 = .ok (.iload_n 1, 1) := by decide +kernel
theorem dX4_leaf_17 : decode cX4_leaf 17 = .ok (.iload_n 2, 1) := by decide +kernel
theorem dX4_leaf_18 : decode cX4_leaf 18 = .ok (.invokevirtual 59, 3) := by decide +kernel
theorem dX4_leaf_21 : decode cX4_leaf 21 = .ok (.ifCond .ne 7, 3) := by decide +kernel
theorem dX4_leaf_24 : decode cX4_leaf 24 = .ok (.iconst 1, 1) := by decide +kernel
theorem dX4_leaf_25 : decode cX4_leaf 25 = .ok (.goto 4, 3) := by decide +kernel
theorem dX4_leaf_28 : decode cX4_leaf 28 = .ok (.iconst 0, 1) := by decide +kernel
theorem dX4_leaf_29 : decode cX4_leaf 29 = .ok (.ireturn, 1) := by decide +kernel
theorem dX4_isBetter_0 : decode cX4_isBetter 0 = .ok (.aload_n 0, 1) := by decide +kernel
theorem dX4_isBetter_1 : decode cX4_isBetter 1 = .ok (.getfield 19, 3) := by decide +kernel
theorem dX4_isBetter_4 : decode cX4_isBetter 4 = .ok (.iload_n 1, 1) := by decide +kernel
theorem dX4_isBetter_5 : decode cX4_isBetter 5 = .ok (.baload, 1) := by decide +kernel
theorem dX4_isBetter_6 : decode cX4_isBetter 6 = .ok (.aload_n 0, 1) := by decide +kernel
theorem dX4_isBetter_7 : decode cX4_isBetter 7 = .ok (.getfield 19, 3) := by decide +kernel
theorem dX4_isBetter_10 : decode cX4_isBetter 10 = .ok (.iload_n 2, 1) := by decide +kernel
theorem dX4_isBetter_11 : decode cX4_isBetter 11 = .ok (.baload, 1) := by decide +kernel
theorem dX4_isBetter_12 : decode cX4_isBetter 12 = .ok (.if_icmp .eq 18, 3) := by decide +kernel
theorem dX4_isBetter_15 : decode cX4_isBetter 15 = .ok (.aload_n 0, 1) := by decide +kernel
theorem dX4_isBetter_16 : decode cX4_isBetter 16 = .ok (.getfield 19, 3) := by decide +kernel
theorem dX4_isBetter_19 : decode cX4_isBetter 19 = .ok (.iload_n 1, 1) := by decide +kernel
theorem dX4_isBetter_20 : decode cX4_isBetter 20 = .ok (.baload, 1) := by decide +kernel
theorem dX4_isBetter_21 : decode cX4_isBetter 21 = .ok (.ifCond .ne 7, 3) := by decide +kernel
theorem dX4_isBetter_24 : decode cX4_isBetter 24 = .ok (.iconst 1, 1) := by decide +kernel
theorem dX4_isBetter_25 : decode cX4_isBetter 25 = .ok (.goto 4, 3) := by decide +kernel
theorem dX4_isBetter_28 : decode cX4_isBetter 28 = .ok (.iconst 0, 1) := by decide +kernel
theorem dX4_isBetter_29 : decode cX4_isBetter 29 = .ok (.ireturn, 1) := by decide +kernel
theorem dX4_isBetter_30 : decode cX4_isBetter 30 = .ok (.aload_n 0, 1) := by decide +kernel
theorem dX4_isBetter_31 : decode cX4_isBetter 31 = .ok (.getfield 23, 3) := by decide +kernel
theorem dX4_isBetter_34 : decode cX4_isBetter 34 = .ok (.iload_n 1, 1) := by decide +kernel
theorem dX4_isBetter_35 : decode cX4_isBetter 35 = .ok (.iaload, 1) := by decide +kernel
theorem dX4_isBetter_36 : decode cX4_isBetter 36 = .ok (.aload_n 0, 1) := by decide +kernel
theorem dX4_isBetter_37 : decode cX4_isBetter 37 = .ok (.getfield 23, 3) := by decide +kernel
theorem dX4_isBetter_40 : decode cX4_isBetter 40 = .ok (.iload_n 2, 1) := by decide +kernel
theorem dX4_isBetter_41 : decode cX4_isBetter 41 = .ok (.iaload, 1) := by decide +kernel
theorem dX4_isBetter_42 : decode cX4_isBetter 42 = .ok (.if_icmp .eq 24, 3) := by decide +kernel
theorem dX4_isBetter_45 : decode cX4_isBetter 45 = .ok (.aload_n 0, 1) := by decide +kernel
theorem dX4_isBetter_46 : decode cX4_isBetter 46 = .ok (.getfield 23, 3) := by decide +kernel
theorem dX4_isBetter_49 : decode cX4_isBetter 49 = .ok (.iload_n 1, 1) := by decide +kernel
theorem dX4_isBetter_50 : decode cX4_isBetter 50 = .ok (.iaload, 1) := by decide +kernel
theorem dX4_isBetter_51 : decode cX4_isBetter 51 = .ok (.aload_n 0, 1) := by decide +kernel
theorem dX4_isBetter_52 : decode cX4_isBetter 52 = .ok (.getfield 23, 3) := by decide +kernel
theorem dX4_isBetter_55 : decode cX4_isBetter 55 = .ok (.iload_n 2, 1) := by decide +kernel
theorem dX4_isBetter_56 : decode cX4_isBetter 56 = .ok (.iaload, 1) := by decide +kernel
theorem dX4_isBetter_57 : decode cX4_isBetter 57 = .ok (.if_icmp .le 7, 3) := by decide +kernel
theorem dX4_isBetter_60 : decode cX4_isBetter 60 = .ok (.iconst 1, 1) := by decide +kernel
theorem dX4_isBetter_61 : decode cX4_isBetter 61 = .ok (.goto 4, 3) := by decide +kernel
theorem dX4_isBetter_64 : decode cX4_isBetter 64 = .ok (.iconst 0, 1) := by decide +kernel
theorem dX4_isBetter_65 : decode cX4_isBetter 65 = .ok (.ireturn, 1) := by decide +kernel
theorem dX4_isBetter_66 : decode cX4_isBetter 66 = .ok (.aload_n 0, 1) := by decide +kernel
theorem dX4_isBetter_67 : decode cX4_isBetter 67 = .ok (.getfield 26, 3) := by decide +kernel
theorem dX4_isBetter_70 : decode cX4_isBetter 70 = .ok (.iload_n 1, 1) := by decide +kernel
theorem dX4_isBetter_71 : decode cX4_isBetter 71 = .ok (.iaload, 1) := by decide +kernel
theorem dX4_isBetter_72 : decode cX4_isBetter 72 = .ok (.aload_n 0, 1) := by decide +kernel
theorem dX4_isBetter_73 : decode cX4_isBetter 73 = .ok (.getfield 26, 3) := by decide +kernel
theorem dX4_isBetter_76 : decode cX4_isBetter 76 = .ok (.iload_n 2, 1) := by decide +kernel
theorem dX4_isBetter_77 : decode cX4_isBetter 77 = .ok (.iaload, 1) := by decide +kernel
theorem dX4_isBetter_78 : decode cX4_isBetter 78 = .ok (.if_icmp .eq 26, 3) := by decide +kernel
theorem dX4_isBetter_81 : decode cX4_isBetter 81 = .ok (.aload_n 0, 1) := by decide +kernel
theorem dX4_isBetter_82 : decode cX4_isBetter 82 = .ok (.getfield 26, 3) := by decide +kernel
theorem dX4_isBetter_85 : decode cX4_isBetter 85 = .ok (.iload_n 1, 1) := by decide +kernel
theorem dX4_isBetter_86 : decode cX4_isBetter 86 = .ok (.iaload, 1) := by decide +kernel
theorem dX4_isBetter_87 : decode cX4_isBetter 87 = .ok (.aload_n 0, 1) := by decide +kernel
theorem dX4_isBetter_88 : decode cX4_isBetter 88 = .ok (.getfield 26, 3) := by decide +kernel
theorem dX4_isBetter_91 : decode cX4_isBetter 91 = .ok (.iload_n 2, 1) := by decide +kernel
theorem dX4_isBetter_92 : decode cX4_isBetter 92 = .ok (.iaload, 1) := by decide +kernel
theorem dX4_isBetter_93 : decode cX4_isBetter 93 = .ok (.if_icmp .le 7, 3) := by decide +kernel
theorem dX4_isBetter_96 : decode cX4_isBetter 96 = .ok (.iconst 1, 1) := by decide +kernel
theorem dX4_isBetter_97 : decode cX4_isBetter 97 = .ok (.goto 17, 3) := by decide +kernel
theorem dX4_isBetter_100 : decode cX4_isBetter 100 = .ok (.iconst 0, 1) := by decide +kernel
theorem dX4_isBetter_101 : decode cX4_isBetter 101 = .ok (.goto 13, 3) := by decide +kernel
theorem dX4_isBetter_104 : decode cX4_isBetter 104 = .ok (.iload_n 1, 1) := by decide +kernel
theorem dX4_isBetter_105 : decode cX4_isBetter 105 = .ok (.iload_n 2, 1) := by decide +kernel
theorem dX4_isBetter_106 : decode cX4_isBetter 106 = .ok (.if_icmp .ge 7, 3) := by decide +kernel
theorem dX4_isBetter_109 : decode cX4_isBetter 109 = .ok (.iconst 1, 1) := by decide +kernel
theorem dX4_isBetter_110 : decode cX4_isBetter 110 = .ok (.goto 4, 3) := by decide +kernel
theorem dX4_isBetter_113 : decode cX4_isBetter 113 = .ok (.iconst 0, 1) := by decide +kernel
theorem dX4_isBetter_114 : decode cX4_isBetter 114 = .ok (.ireturn, 1) := by decide +kernel
set_option maxRecDepth 20000 in
theorem ggX4_best_X4_leaf : GoodIn wsX4_best wsX4_leaf := goodIn_r _ [7, 8, 9, 10, 11, 6, 12, 1, 13, 14, 15, 16, 17, 25, 26, 27, 28, 29, 30, 31, 32, 33, 34, 35, 36, 37] (by decide +kernel) (by decide +kernel)
set_option maxRecDepth 20000 in
theorem gX4_best_X4_leaf : GoodIn wsX4_best (wsV RX4 62 RX4 yX4_leaf wsX4_leaf) := goodIn_app (goodIn_of _ (by decide +kernel)) ggX4_best_X4_leaf
set_option maxRecDepth 20000 in
theorem ggX4_best_X4_isBetter : GoodIn wsX4_best wsX4_isBetter := goodIn_r _ [21, 22, 23, 24, 25, 26, 27, 28, 29, 30, 31, 32, 33, 34, 35, 36, 37] (by decide +kernel) (by decide +kernel)
set_option maxRecDepth 20000 in
theorem gX4_best_X4_isBetter : GoodIn wsX4_best (wsV RX4 65 RX4 yX4_isBetter wsX4_isBetter) := goodIn_app (goodIn_of _ (by decide +kernel)) ggX4_best_X4_isBetter
theorem dX4_best_0 : decode cX4_best 0 = .ok (.iconst (-1), 1) := by decide +kernel
theorem dX4_best_1 : decode cX4_best 1 = .ok (.istore_n 3, 1) := by decide +kernel
theorem dX4_best_2 : decode cX4_best 2 = .ok (.iconst 0, 1) := by decide +kernel
theorem dX4_best_3 : decode cX4_best 3 = .ok (.istore 4, 2) := by decide +kernel
theorem dX4_best_5 : decode cX4_best 5 = .ok (.iload 4, 2) := by decide +kernel
theorem dX4_best_7 : decode cX4_best 7 = .ok (.aload_n 0, 1) := by decide +kernel
theorem dX4_best_8 : decode cX4_best 8 = .ok (.getfield 52, 3) := by decide +kernel
theorem dX4_best_11 : decode cX4_best 11 = .ok (.if_icmp .ge 64, 3) := by decide +kernel
theorem dX4_best_14 : decode cX4_best 14 = .ok (.aload_n 0, 1) := by decide +kernel
theorem dX4_best_15 : decode cX4_best 15 = .ok (.getfield 7, 3) := by decide +kernel
theorem dX4_best_18 : decode cX4_best 18 = .ok (.iload 4, 2) := by decide +kernel
theorem dX4_best_20 : decode cX4_best 20 = .ok (.iaload, 1) := by decide +kernel
theorem dX4_best_21 : decode cX4_best 21 = .ok (.iload_n 2, 1) := by decide +kernel
theorem dX4_best_22 : decode cX4_best 22 = .ok (.if_icmp .ne 17, 3) := by decide +kernel
theorem dX4_best_25 : decode cX4_best 25 = .ok (.aload_n 0, 1) := by decide +kernel
theorem dX4_best_26 : decode cX4_best 26 = .ok (.iload_n 1, 1) := by decide +kernel
theorem dX4_best_27 : decode cX4_best 27 = .ok (.iload 4, 2) := by decide +kernel
theorem dX4_best_29 : decode cX4_best 29 = .ok (.invokevirtual 62, 3) := by decide +kernel
theorem dX4_best_32 : decode cX4_best 32 = .ok (.ifCond .eq 7, 3) := by decide +kernel
theorem dX4_best_35 : decode cX4_best 35 = .ok (.iconst 1, 1) := by decide +kernel
theorem dX4_best_36 : decode cX4_best 36 = .ok (.goto 4, 3) := by decide +kernel
theorem dX4_best_39 : decode cX4_best 39 = .ok (.iconst 0, 1) := by decide +kernel
theorem dX4_best_40 : decode cX4_best 40 = .ok (.istore 5, 2) := by decide +kernel
theorem dX4_best_42 : decode cX4_best 42 = .ok (.iload 5, 2) := by decide +kernel
theorem dX4_best_44 : decode cX4_best 44 = .ok (.ifCond .eq 23, 3) := by decide +kernel
theorem dX4_best_47 : decode cX4_best 47 = .ok (.iload_n 3, 1) := by decide +kernel
theorem dX4_best_48 : decode cX4_best 48 = .ok (.iconst (-1), 1) := by decide +kernel
theorem dX4_best_49 : decode cX4_best 49 = .ok (.if_icmp .eq 13, 3) := by decide +kernel
theorem dX4_best_52 : decode cX4_best 52 = .ok (.aload_n 0, 1) := by decide +kernel
theorem dX4_best_53 : decode cX4_best 53 = .ok (.iload 4, 2) := by decide +kernel
theorem dX4_best_55 : decode cX4_best 55 = .ok (.iload_n 3, 1) := by decide +kernel
theorem dX4_best_56 : decode cX4_best 56 = .ok (.invokevirtual 65, 3) := by decide +kernel
theorem dX4_best_59 : decode cX4_best 59 = .ok (.ifCond .eq 8, 3) := by decide +kernel
theorem dX4_best_62 : decode cX4_best 62 = .ok (.iload 4, 2) := by decide +kernel
theorem dX4_best_64 : decode cX4_best 64 = .ok (.goto 4, 3) := by decide +kernel
theorem dX4_best_67 : decode cX4_best 67 = .ok (.iload_n 3, 1) := by decide +kernel
theorem dX4_best_68 : decode cX4_best 68 = .ok (.istore_n 3, 1) := by decide +kernel
theorem dX4_best_69 : decode cX4_best 69 = .ok (.iinc 4 1, 3) := by decide +kernel
theorem dX4_best_72 : decode cX4_best 72 = .ok (.goto (-67), 3) := by decide +kernel
theorem dX4_best_75 : decode cX4_best 75 = .ok (.iload_n 3, 1) := by decide +kernel
theorem dX4_best_76 : decode cX4_best 76 = .ok (.ireturn, 1) := by decide +kernel
set_option maxRecDepth 20000 in
theorem ggX4_isDeep_X4_isAncestor : GoodIn wsX4_isDeep wsX4_isAncestor := goodIn_r _ [8, 9, 19, 20, 21, 22, 23, 24, 25, 26, 27, 28, 29, 30, 31] (by decide +kernel) (by decide +kernel)
set_option maxRecDepth 20000 in
theorem gX4_isDeep_X4_isAncestor : GoodIn wsX4_isDeep (wsV RX4 55 RX4 yX4_isAncestor wsX4_isAncestor) := goodIn_app (goodIn_of _ (by decide +kernel)) ggX4_isDeep_X4_isAncestor
set_option maxRecDepth 20000 in
theorem ggX4_isDeep_X4_leaf : GoodIn wsX4_isDeep wsX4_leaf := goodIn_r _ [13, 14, 15, 16, 17, 7, 18, 1, 4, 5, 6, 8, 9, 19, 20, 21, 22, 23, 24, 25, 26, 27, 28, 29, 30, 31] (by decide +kernel) (by decide +kernel)
set_option maxRecDepth 20000 in
theorem gX4_isDeep_X4_leaf : GoodIn wsX4_isDeep (wsV RX4 62 RX4 yX4_leaf wsX4_leaf) := goodIn_app (goodIn_of _ (by decide +kernel)) ggX4_isDeep_X4_leaf
theorem dX4_isDeep_0 : decode cX4_isDeep 0 = .ok (.iconst 0, 1) := by decide +kernel
theorem dX4_isDeep_1 : decode cX4_isDeep 1 = .ok (.istore_n 3, 1) := by decide +kernel
theorem dX4_isDeep_2 : decode cX4_isDeep 2 = .ok (.iload_n 2, 1) := by decide +kernel
theorem dX4_isDeep_3 : decode cX4_isDeep 3 = .ok (.iconst 1, 1) := by decide +kernel
theorem dX4_isDeep_4 : decode cX4_isDeep 4 = .ok (.iadd, 1) := by decide +kernel
theorem dX4_isDeep_5 : decode cX4_isDeep 5 = .ok (.istore 4, 2) := by decide +kernel
theorem dX4_isDeep_7 : decode cX4_isDeep 7 = .ok (.iload 4, 2) := by decide +kernel
theorem dX4_isDeep_9 : decode cX4_isDeep 9 = .ok (.aload_n 0, 1) := by decide +kernel
theorem dX4_isDeep_10 : decode cX4_isDeep 10 = .ok (.getfield 52, 3) := by decide +kernel
theorem dX4_isDeep_13 : decode cX4_isDeep 13 = .ok (.if_icmp .ge 56, 3) := by decide +kernel
theorem dX4_isDeep_16 : decode cX4_isDeep 16 = .ok (.aload_n 0, 1) := by decide +kernel
theorem dX4_isDeep_17 : decode cX4_isDeep 17 = .ok (.iload_n 2, 1) := by decide +kernel
theorem dX4_isDeep_18 : decode cX4_isDeep 18 = .ok (.iload 4, 2) := by decide +kernel
theorem dX4_isDeep_20 : decode cX4_isDeep 20 = .ok (.invokevirtual 55, 3) := by decide +kernel
theorem dX4_isDeep_23 : decode cX4_isDeep 23 = .ok (.ifCond .eq 40, 3) := by decide +kernel
theorem dX4_isDeep_26 : decode cX4_isDeep 26 = .ok (.aload_n 0, 1) := by decide +kernel
theorem dX4_isDeep_27 : decode cX4_isDeep 27 = .ok (.iload_n 1, 1) := by decide +kernel
theorem dX4_isDeep_28 : decode cX4_isDeep 28 = .ok (.iload 4, 2) := by decide +kernel
theorem dX4_isDeep_30 : decode cX4_isDeep 30 = .ok (.invokevirtual 62, 3) := by decide +kernel
theorem dX4_isDeep_33 : decode cX4_isDeep 33 = .ok (.ifCond .eq 30, 3) := by decide +kernel
theorem dX4_isDeep_36 : decode cX4_isDeep 36 = .ok (.iconst 1, 1) := by decide +kernel
theorem dX4_isDeep_37 : decode cX4_isDeep 37 = .ok (.istore_n 3, 1) := by decide +kernel
theorem dX4_isDeep_38 : decode cX4_isDeep 38 = .ok (.aload_n 0, 1) := by decide +kernel
theorem dX4_isDeep_39 : decode cX4_isDeep 39 = .ok (.getfield 23, 3) := by decide +kernel
theorem dX4_isDeep_42 : decode cX4_isDeep 42 = .ok (.iload 4, 2) := by decide +kernel
theorem dX4_isDeep_44 : decode cX4_isDeep 44 = .ok (.iaload, 1) := by decide +kernel
theorem dX4_isDeep_45 : decode cX4_isDeep 45 = .ok (.aload_n 0, 1) := by decide +kernel
theorem dX4_isDeep_46 : decode cX4_isDeep 46 = .ok (.getfield 23, 3) := by decide +kernel
theorem dX4_isDeep_49 : decode cX4_isDeep 49 = .ok (.iload_n 2, 1) := by decide +kernel
theorem dX4_isDeep_50 : decode cX4_isDeep 50 = .ok (.iaload, 1) := by decide +kernel
theorem dX4_isDeep_51 : decode cX4_isDeep 51 = .ok (.aload_n 0, 1) := by decide +kernel
theorem dX4_isDeep_52 : decode cX4_isDeep 52 = .ok (.getfield 32, 3) := by decide +kernel
theorem dX4_isDeep_55 : decode cX4_isDeep 55 = .ok (.iload_n 1, 1) := by decide +kernel
theorem dX4_isDeep_56 : decode cX4_isDeep 56 = .ok (.iaload, 1) := by decide +kernel
theorem dX4_isDeep_57 : decode cX4_isDeep 57 = .ok (.iadd, 1) := by decide +kernel
theorem dX4_isDeep_58 : decode cX4_isDeep 58 = .ok (.if_icmp .ge 5, 3) := by decide +kernel
theorem dX4_isDeep_61 : decode cX4_isDeep 61 = .ok (.iconst 0, 1) := by decide +kernel
theorem dX4_isDeep_62 : decode cX4_isDeep 62 = .ok (.ireturn, 1) := by decide +kernel
theorem dX4_isDeep_63 : decode cX4_isDeep 63 = .ok (.iinc 4 1, 3) := by decide +kernel
theorem dX4_isDeep_66 : decode cX4_isDeep 66 = .ok (.goto (-59), 3) := by decide +kernel
theorem dX4_isDeep_69 : decode cX4_isDeep 69 = .ok (.iload_n 3, 1) := by decide +kernel
theorem dX4_isDeep_70 : decode cX4_isDeep 70 = .ok (.ireturn, 1) := by decide +kernel
set_option maxRecDepth 20000 in
theorem ggX4_stems_X4_isDeep : GoodIn wsX4_stems wsX4_isDeep := goodIn_r _ [7, 1, 8, 9, 10, 11, 12, 6, 13, 14, 15, 16, 17, 18, 2, 19, 20, 21, 22, 23, 24, 25, 26, 27, 28, 29, 30, 31, 32, 33, 34, 35] (by decide +kernel) (by decide +kernel)
set_option maxRecDepth 20000 in
theorem gX4_stems_X4_isDeep : GoodIn wsX4_stems (wsV RX4 68 RX4 yX4_isDeep wsX4_isDeep) := goodIn_app (goodIn_of _ (by decide +kernel)) ggX4_stems_X4_isDeep
theorem dX4_stems_0 : decode cX4_stems 0 = .ok (.iconst 0, 1) := by decide +kernel
theorem dX4_stems_1 : decode cX4_stems 1 = .ok (.istore_n 2, 1) := by decide +kernel
theorem dX4_stems_2 : decode cX4_stems 2 = .ok (.iconst 0, 1) := by decide +kernel
theorem dX4_stems_3 : decode cX4_stems 3 = .ok (.istore_n 3, 1) := by decide +kernel
theorem dX4_stems_4 : decode cX4_stems 4 = .ok (.iload_n 3, 1) := by decide +kernel
theorem dX4_stems_5 : decode cX4_stems 5 = .ok (.aload_n 0, 1) := by decide +kernel
theorem dX4_stems_6 : decode cX4_stems 6 = .ok (.getfield 52, 3) := by decide +kernel
theorem dX4_stems_9 : decode cX4_stems 9 = .ok (.if_icmp .ge 49, 3) := by decide +kernel
theorem dX4_stems_12 : decode cX4_stems 12 = .ok (.aload_n 0, 1) := by decide +kernel
theorem dX4_stems_13 : decode cX4_stems 13 = .ok (.getfield 29, 3) := by decide +kernel
theorem dX4_stems_16 : decode cX4_stems 16 = .ok (.sipush 150, 3) := by decide +kernel
theorem dX4_stems_19 : decode cX4_stems 19 = .ok (.iload_n 1, 1) := by decide +kernel
theorem dX4_stems_20 : decode cX4_stems 20 = .ok (.imul, 1) := by decide +kernel
theorem dX4_stems_21 : decode cX4_stems 21 = .ok (.iload_n 3, 1) := by decide +kernel
theorem dX4_stems_22 : decode cX4_stems 22 = .ok (.iadd, 1) := by decide +kernel
theorem dX4_stems_23 : decode cX4_stems 23 = .ok (.baload, 1) := by decide +kernel
theorem dX4_stems_24 : decode cX4_stems 24 = .ok (.ifCond .eq 28, 3) := by decide +kernel
theorem dX4_stems_27 : decode cX4_stems 27 = .ok (.aload_n 0, 1) := by decide +kernel
theorem dX4_stems_28 : decode cX4_stems 28 = .ok (.iload_n 1, 1) := by decide +kernel
theorem dX4_stems_29 : decode cX4_stems 29 = .ok (.iload_n 3, 1) := by decide +kernel
theorem dX4_stems_30 : decode cX4_stems 30 = .ok (.invokevirtual 68, 3) := by decide +kernel
theorem dX4_stems_33 : decode cX4_stems 33 = .ok (.ifCond .eq 19, 3) := by decide +kernel
theorem dX4_stems_36 : decode cX4_stems 36 = .ok (.aload_n 0, 1) := by decide +kernel
theorem dX4_stems_37 : decode cX4_stems 37 = .ok (.getfield 29, 3) := by decide +kernel
theorem dX4_stems_40 : decode cX4_stems 40 = .ok (.sipush 150, 3) := by decide +kernel
theorem dX4_stems_43 : decode cX4_stems 43 = .ok (.iload_n 1, 1) := by decide +kernel
theorem dX4_stems_44 : decode cX4_stems 44 = .ok (.imul, 1) := by decide +kernel
theorem dX4_stems_45 : decode cX4_stems 45 = .ok (.iload_n 3, 1) := by decide +kernel
theorem dX4_stems_46 : decode cX4_stems 46 = .ok (.iadd, 1) := by decide +kernel
theorem dX4_stems_47 : decode cX4_stems 47 = .ok (.iconst 0, 1) := by decide +kernel
theorem dX4_stems_48 : decode cX4_stems 48 = .ok (.bastore, 1) := by decide +kernel
theorem dX4_stems_49 : decode cX4_stems 49 = .ok (.iinc 2 1, 3) := by decide +kernel
theorem dX4_stems_52 : decode cX4_stems 52 = .ok (.iinc 3 1, 3) := by decide +kernel
theorem dX4_stems_55 : decode cX4_stems 55 = .ok (.goto (-51), 3) := by decide +kernel
theorem dX4_stems_58 : decode cX4_stems 58 = .ok (.iload_n 2, 1) := by decide +kernel
theorem dX4_stems_59 : decode cX4_stems 59 = .ok (.ireturn, 1) := by decide +kernel
theorem dX4_touches_0 : decode cX4_touches 0 = .ok (.aload_n 0, 1) := by decide +kernel
theorem dX4_touches_1 : decode cX4_touches 1 = .ok (.getfield 35, 3) := by decide +kernel
theorem dX4_touches_4 : decode cX4_touches 4 = .ok (.iload_n 1, 1) := by decide +kernel
theorem dX4_touches_5 : decode cX4_touches 5 = .ok (.dup2, 1) := by decide +kernel
theorem dX4_touches_6 : decode cX4_touches 6 = .ok (.iaload, 1) := by decide +kernel
theorem dX4_touches_7 : decode cX4_touches 7 = .ok (.iconst 1, 1) := by decide +kernel
theorem dX4_touches_8 : decode cX4_touches 8 = .ok (.iadd, 1) := by decide +kernel
theorem dX4_touches_9 : decode cX4_touches 9 = .ok (.iastore, 1) := by decide +kernel
theorem dX4_touches_10 : decode cX4_touches 10 = .ok (.aload_n 0, 1) := by decide +kernel
theorem dX4_touches_11 : decode cX4_touches 11 = .ok (.getfield 38, 3) := by decide +kernel
theorem dX4_touches_14 : decode cX4_touches 14 = .ok (.iconst 4, 1) := by decide +kernel
theorem dX4_touches_15 : decode cX4_touches 15 = .ok (.iload_n 1, 1) := by decide +kernel
theorem dX4_touches_16 : decode cX4_touches 16 = .ok (.imul, 1) := by decide +kernel
theorem dX4_touches_17 : decode cX4_touches 17 = .ok (.iload_n 2, 1) := by decide +kernel
theorem dX4_touches_18 : decode cX4_touches 18 = .ok (.iadd, 1) := by decide +kernel
theorem dX4_touches_19 : decode cX4_touches 19 = .ok (.aload_n 0, 1) := by decide +kernel
theorem dX4_touches_20 : decode cX4_touches 20 = .ok (.getfield 35, 3) := by decide +kernel
theorem dX4_touches_23 : decode cX4_touches 23 = .ok (.iload_n 1, 1) := by decide +kernel
theorem dX4_touches_24 : decode cX4_touches 24 = .ok (.iaload, 1) := by decide +kernel
theorem dX4_touches_25 : decode cX4_touches 25 = .ok (.iastore, 1) := by decide +kernel
theorem dX4_touches_26 : decode cX4_touches 26 = .ok (.return_, 1) := by decide +kernel
theorem dX4_makes_0 : decode cX4_makes 0 = .ok (.iconst 0, 1) := by decide +kernel
theorem dX4_makes_1 : decode cX4_makes 1 = .ok (.istore 5, 2) := by decide +kernel
theorem dX4_makes_3 : decode cX4_makes 3 = .ok (.iload 5, 2) := by decide +kernel
theorem dX4_makes_5 : decode cX4_makes 5 = .ok (.aload_n 0, 1) := by decide +kernel
theorem dX4_makes_6 : decode cX4_makes 6 = .ok (.getfield 52, 3) := by decide +kernel
theorem dX4_makes_9 : decode cX4_makes 9 = .ok (.if_icmp .ge 57, 3) := by decide +kernel
theorem dX4_makes_12 : decode cX4_makes 12 = .ok (.aload_n 0, 1) := by decide +kernel
theorem dX4_makes_13 : decode cX4_makes 13 = .ok (.getfield 7, 3) := by decide +kernel
theorem dX4_makes_16 : decode cX4_makes 16 = .ok (.iload 5, 2) := by decide +kernel
theorem dX4_makes_18 : decode cX4_makes 18 = .ok (.iaload, 1) := by decide +kernel
theorem dX4_makes_19 : decode cX4_makes 19 = .ok (.iload_n 1, 1) := by decide +kernel
theorem dX4_makes_20 : decode cX4_makes 20 = .ok (.if_icmp .ne 40, 3) := by decide +kernel
theorem dX4_makes_23 : decode cX4_makes 23 = .ok (.aload_n 0, 1) := by decide +kernel
theorem dX4_makes_24 : decode cX4_makes 24 = .ok (.getfield 13, 3) := by decide +kernel
theorem dX4_makes_27 : decode cX4_makes 27 = .ok (.iload 5, 2) := by decide +kernel
theorem dX4_makes_29 : decode cX4_makes 29 = .ok (.iaload, 1) := by decide +kernel
theorem dX4_makes_30 : decode cX4_makes 30 = .ok (.iload_n 2, 1) := by decide +kernel
theorem dX4_makes_31 : decode cX4_makes 31 = .ok (.if_icmp .ne 29, 3) := by decide +kernel
theorem dX4_makes_34 : decode cX4_makes 34 = .ok (.aload_n 0, 1) := by decide +kernel
theorem dX4_makes_35 : decode cX4_makes 35 = .ok (.getfield 16, 3) := by decide +kernel
theorem dX4_makes_38 : decode cX4_makes 38 = .ok (.iload 5, 2) := by decide +kernel
theorem dX4_makes_40 : decode cX4_makes 40 = .ok (.iaload, 1) := by decide +kernel
theorem dX4_makes_41 : decode cX4_makes 41 = .ok (.iload_n 3, 1) := by decide +kernel
theorem dX4_makes_42 : decode cX4_makes 42 = .ok (.if_icmp .ne 18, 3) := by decide +kernel
theorem dX4_makes_45 : decode cX4_makes 45 = .ok (.aload_n 0, 1) := by decide +kernel
theorem dX4_makes_46 : decode cX4_makes 46 = .ok (.getfield 19, 3) := by decide +kernel
theorem dX4_makes_49 : decode cX4_makes 49 = .ok (.iload 5, 2) := by decide +kernel
theorem dX4_makes_51 : decode cX4_makes 51 = .ok (.baload, 1) := by decide +kernel
theorem dX4_makes_52 : decode cX4_makes 52 = .ok (.iload 4, 2) := by decide +kernel
theorem dX4_makes_54 : decode cX4_makes 54 = .ok (.if_icmp .ne 6, 3) := by decide +kernel
theorem dX4_makes_57 : decode cX4_makes 57 = .ok (.iload 5, 2) := by decide +kernel
theorem dX4_makes_59 : decode cX4_makes 59 = .ok (.ireturn, 1) := by decide +kernel
theorem dX4_makes_60 : decode cX4_makes 60 = .ok (.iinc 5 1, 3) := by decide +kernel
theorem dX4_makes_63 : decode cX4_makes 63 = .ok (.goto (-60), 3) := by decide +kernel
theorem dX4_makes_66 : decode cX4_makes 66 = .ok (.iload_n 2, 1) := by decide +kernel
theorem dX4_makes_67 : decode cX4_makes 67 = .ok (.iconst (-1), 1) := by decide +kernel
theorem dX4_makes_68 : decode cX4_makes 68 = .ok (.if_icmp .ne 7, 3) := by decide +kernel
theorem dX4_makes_71 : decode cX4_makes 71 = .ok (.iconst 1, 1) := by decide +kernel
theorem dX4_makes_72 : decode cX4_makes 72 = .ok (.goto 11, 3) := by decide +kernel
theorem dX4_makes_75 : decode cX4_makes 75 = .ok (.aload_n 0, 1) := by decide +kernel
theorem dX4_makes_76 : decode cX4_makes 76 = .ok (.getfield 23, 3) := by decide +kernel
theorem dX4_makes_79 : decode cX4_makes 79 = .ok (.iload_n 2, 1) := by decide +kernel
theorem dX4_makes_80 : decode cX4_makes 80 = .ok (.iaload, 1) := by decide +kernel
theorem dX4_makes_81 : decode cX4_makes 81 = .ok (.iconst 1, 1) := by decide +kernel
theorem dX4_makes_82 : decode cX4_makes 82 = .ok (.iadd, 1) := by decide +kernel
theorem dX4_makes_83 : decode cX4_makes 83 = .ok (.istore 5, 2) := by decide +kernel
theorem dX4_makes_85 : decode cX4_makes 85 = .ok (.iload_n 2, 1) := by decide +kernel
theorem dX4_makes_86 : decode cX4_makes 86 = .ok (.iconst (-1), 1) := by decide +kernel
theorem dX4_makes_87 : decode cX4_makes 87 = .ok (.if_icmp .ne 8, 3) := by decide +kernel
theorem dX4_makes_90 : decode cX4_makes 90 = .ok (.bipush 31, 2) := by decide +kernel
theorem dX4_makes_92 : decode cX4_makes 92 = .ok (.goto 12, 3) := by decide +kernel
theorem dX4_makes_95 : decode cX4_makes 95 = .ok (.bipush 31, 2) := by decide +kernel
theorem dX4_makes_97 : decode cX4_makes 97 = .ok (.aload_n 0, 1) := by decide +kernel
theorem dX4_makes_98 : decode cX4_makes 98 = .ok (.getfield 26, 3) := by decide +kernel
theorem dX4_makes_101 : decode cX4_makes 101 = .ok (.iload_n 2, 1) := by decide +kernel
theorem dX4_makes_102 : decode cX4_makes 102 = .ok (.iaload, 1) := by decide +kernel
theorem dX4_makes_103 : decode cX4_makes 103 = .ok (.imul, 1) := by decide +kernel
theorem dX4_makes_104 : decode cX4_makes 104 = .ok (.istore 6, 2) := by decide +kernel
theorem dX4_makes_106 : decode cX4_makes 106 = .ok (.aload_n 0, 1) := by decide +kernel
theorem dX4_makes_107 : decode cX4_makes 107 = .ok (.getfield 7, 3) := by decide +kernel
theorem dX4_makes_110 : decode cX4_makes 110 = .ok (.aload_n 0, 1) := by decide +kernel
theorem dX4_makes_111 : decode cX4_makes 111 = .ok (.getfield 52, 3) := by decide +kernel
theorem dX4_makes_114 : decode cX4_makes 114 = .ok (.iload_n 1, 1) := by decide +kernel
theorem dX4_makes_115 : decode cX4_makes 115 = .ok (.iastore, 1) := by decide +kernel
theorem dX4_makes_116 : decode cX4_makes 116 = .ok (.aload_n 0, 1) := by decide +kernel
theorem dX4_makes_117 : decode cX4_makes 117 = .ok (.getfield 13, 3) := by decide +kernel
theorem dX4_makes_120 : decode cX4_makes 120 = .ok (.aload_n 0, 1) := by decide +kernel
theorem dX4_makes_121 : decode cX4_makes 121 = .ok (.getfield 52, 3) := by decide +kernel
theorem dX4_makes_124 : decode cX4_makes 124 = .ok (.iload_n 2, 1) := by decide +kernel
theorem dX4_makes_125 : decode cX4_makes 125 = .ok (.iastore, 1) := by decide +kernel
theorem dX4_makes_126 : decode cX4_makes 126 = .ok (.aload_n 0, 1) := by decide +kernel
theorem dX4_makes_127 : decode cX4_makes 127 = .ok (.getfield 16, 3) := by decide +kernel
theorem dX4_makes_130 : decode cX4_makes 130 = .ok (.aload_n 0, 1) := by decide +kernel
theorem dX4_makes_131 : decode cX4_makes 131 = .ok (.getfield 52, 3) := by decide +kernel
theorem dX4_makes_134 : decode cX4_makes 134 = .ok (.iload_n 3, 1) := by decide +kernel
theorem dX4_makes_135 : decode cX4_makes 135 = .ok (.iastore, 1) := by decide +kernel
theorem dX4_makes_136 : decode cX4_makes 136 = .ok (.aload_n 0, 1) := by decide +kernel
theorem dX4_makes_137 : decode cX4_makes 137 = .ok (.getfield 19, 3) := by decide +kernel
theorem dX4_makes_140 : decode cX4_makes 140 = .ok (.aload_n 0, 1) := by decide +kernel
theorem dX4_makes_141 : decode cX4_makes 141 = .ok (.getfield 52, 3) := by decide +kernel
theorem dX4_makes_144 : decode cX4_makes 144 = .ok (.iload 4, 2) := by decide +kernel
theorem dX4_makes_146 : decode cX4_makes 146 = .ok (.bastore, 1) := by decide +kernel
theorem dX4_makes_147 : decode cX4_makes 147 = .ok (.aload_n 0, 1) := by decide +kernel
theorem dX4_makes_148 : decode cX4_makes 148 = .ok (.getfield 23, 3) := by decide +kernel
theorem dX4_makes_151 : decode cX4_makes 151 = .ok (.aload_n 0, 1) := by decide +kernel
theorem dX4_makes_152 : decode cX4_makes 152 = .ok (.getfield 52, 3) := by decide +kernel
theorem dX4_makes_155 : decode cX4_makes 155 = .ok (.iload 5, 2) := by decide +kernel
theorem dX4_makes_157 : decode cX4_makes 157 = .ok (.iastore, 1) := by decide +kernel
theorem dX4_makes_158 : decode cX4_makes 158 = .ok (.aload_n 0, 1) := by decide +kernel
theorem dX4_makes_159 : decode cX4_makes 159 = .ok (.getfield 26, 3) := by decide +kernel
theorem dX4_makes_162 : decode cX4_makes 162 = .ok (.aload_n 0, 1) := by decide +kernel
theorem dX4_makes_163 : decode cX4_makes 163 = .ok (.getfield 52, 3) := by decide +kernel
theorem dX4_makes_166 : decode cX4_makes 166 = .ok (.iload 6, 2) := by decide +kernel
theorem dX4_makes_168 : decode cX4_makes 168 = .ok (.bipush 7, 2) := by decide +kernel
theorem dX4_makes_170 : decode cX4_makes 170 = .ok (.iload_n 3, 1) := by decide +kernel
theorem dX4_makes_171 : decode cX4_makes 171 = .ok (.imul, 1) := by decide +kernel
theorem dX4_makes_172 : decode cX4_makes 172 = .ok (.iadd, 1) := by decide +kernel
theorem dX4_makes_173 : decode cX4_makes 173 = .ok (.iload 5, 2) := by decide +kernel
theorem dX4_makes_175 : decode cX4_makes 175 = .ok (.iadd, 1) := by decide +kernel
theorem dX4_makes_176 : decode cX4_makes 176 = .ok (.iload 4, 2) := by decide +kernel
theorem dX4_makes_178 : decode cX4_makes 178 = .ok (.ifCond .eq 7, 3) := by decide +kernel
theorem dX4_makes_181 : decode cX4_makes 181 = .ok (.iconst 3, 1) := by decide +kernel
theorem dX4_makes_182 : decode cX4_makes 182 = .ok (.goto 4, 3) := by decide +kernel
theorem dX4_makes_185 : decode cX4_makes 185 = .ok (.iconst 0, 1) := by decide +kernel
theorem dX4_makes_186 : decode cX4_makes 186 = .ok (.iadd, 1) := by decide +kernel
theorem dX4_makes_187 : decode cX4_makes 187 = .ok (.sipush 997, 3) := by decide +kernel
theorem dX4_makes_190 : decode cX4_makes 190 = .ok (.irem, 1) := by decide +kernel
theorem dX4_makes_191 : decode cX4_makes 191 = .ok (.iastore, 1) := by decide +kernel
theorem dX4_makes_192 : decode cX4_makes 192 = .ok (.aload_n 0, 1) := by decide +kernel
theorem dX4_makes_193 : decode cX4_makes 193 = .ok (.dup, 1) := by decide +kernel
theorem dX4_makes_194 : decode cX4_makes 194 = .ok (.getfield 52, 3) := by decide +kernel
theorem dX4_makes_197 : decode cX4_makes 197 = .ok (.iconst 1, 1) := by decide +kernel
theorem dX4_makes_198 : decode cX4_makes 198 = .ok (.iadd, 1) := by decide +kernel
theorem dX4_makes_199 : decode cX4_makes 199 = .ok (.putfield 52, 3) := by decide +kernel
theorem dX4_makes_202 : decode cX4_makes 202 = .ok (.aload_n 0, 1) := by decide +kernel
theorem dX4_makes_203 : decode cX4_makes 203 = .ok (.getfield 52, 3) := by decide +kernel
theorem dX4_makes_206 : decode cX4_makes 206 = .ok (.iconst 1, 1) := by decide +kernel
theorem dX4_makes_207 : decode cX4_makes 207 = .ok (.isub, 1) := by decide +kernel
theorem dX4_makes_208 : decode cX4_makes 208 = .ok (.ireturn, 1) := by decide +kernel
set_option maxRecDepth 20000 in
theorem ggX4_adds_X4_makes : GoodIn wsX4_adds wsX4_makes := goodIn_r _ [6, 7, 8, 9, 10, 11, 12, 13, 41, 42, 43, 44, 45, 46, 47, 48, 49, 50, 51, 52, 53] (by decide +kernel) (by decide +kernel)
set_option maxRecDepth 20000 in
theorem gX4_adds_X4_makes : GoodIn wsX4_adds (wsV RX4 71 RX4 yX4_makes wsX4_makes) := goodIn_app (goodIn_of _ (by decide +kernel)) ggX4_adds_X4_makes
set_option maxRecDepth 20000 in
theorem ggX4_adds_X4_touches : GoodIn wsX4_adds wsX4_touches := goodIn_r _ [17, 18, 19, 41, 42, 43, 44, 45, 46, 47, 48, 49, 50, 51, 52, 53] (by decide +kernel) (by decide +kernel)
set_option maxRecDepth 20000 in
theorem gX4_adds_X4_touches : GoodIn wsX4_adds (wsV RX4 75 RX4 yX4_touches wsX4_touches) := goodIn_app (goodIn_of _ (by decide +kernel)) ggX4_adds_X4_touches
set_option maxRecDepth 20000 in
theorem ggX4_adds_X4_stems : GoodIn wsX4_adds wsX4_stems := goodIn_r _ [23, 7, 1, 24, 25, 26, 5, 27, 12, 28, 29, 30, 31, 32, 9, 33, 34, 35, 36, 37, 38, 39, 40, 41, 42, 43, 44, 45, 46, 47, 48, 49, 50, 51, 52, 53] (by decide +kernel) (by decide +kernel)
set_option maxRecDepth 20000 in
theorem gX4_adds_X4_stems : GoodIn wsX4_adds (wsV RX4 79 RX4 yX4_stems wsX4_stems) := goodIn_app (goodIn_of _ (by decide +kernel)) ggX4_adds_X4_stems
theorem dX4_adds_0 : decode cX4_adds 0 = .ok (.aload_n 0, 1) := by decide +kernel
theorem dX4_adds_1 : decode cX4_adds 1 = .ok (.iload_n 2, 1) := by decide +kernel
theorem dX4_adds_2 : decode cX4_adds 2 = .ok (.iload_n 3, 1) := by decide +kernel
theorem dX4_adds_3 : decode cX4_adds 3 = .ok (.iload 4, 2) := by decide +kernel
theorem dX4_adds_5 : decode cX4_adds 5 = .ok (.iload 5, 2) := by decide +kernel
theorem dX4_adds_7 : decode cX4_adds 7 = .ok (.invokevirtual 71, 3) := by decide +kernel
theorem dX4_adds_10 : decode cX4_adds 10 = .ok (.istore 6, 2) := by decide +kernel
theorem dX4_adds_12 : decode cX4_adds 12 = .ok (.aload_n 0, 1) := by decide +kernel
theorem dX4_adds_13 : decode cX4_adds 13 = .ok (.getfield 29, 3) := by decide +kernel
theorem dX4_adds_16 : decode cX4_adds 16 = .ok (.sipush 150, 3) := by decide +kernel
theorem dX4_adds_19 : decode cX4_adds 19 = .ok (.iload_n 1, 1) := by decide +kernel
theorem dX4_adds_20 : decode cX4_adds 20 = .ok (.imul, 1) := by decide +kernel
theorem dX4_adds_21 : decode cX4_adds 21 = .ok (.iload 6, 2) := by decide +kernel
theorem dX4_adds_23 : decode cX4_adds 23 = .ok (.iadd, 1) := by decide +kernel
theorem dX4_adds_24 : decode cX4_adds 24 = .ok (.baload, 1) := by decide +kernel
theorem dX4_adds_25 : decode cX4_adds 25 = .ok (.ifCond .ne 29, 3) := by decide +kernel
theorem dX4_adds_28 : decode cX4_adds 28 = .ok (.aload_n 0, 1) := by decide +kernel
theorem dX4_adds_29 : decode cX4_adds 29 = .ok (.getfield 29, 3) := by decide +kernel
theorem dX4_adds_32 : decode cX4_adds 32 = .ok (.sipush 150, 3) := by decide +kernel
theorem dX4_adds_35 : decode cX4_adds 35 = .ok (.iload_n 1, 1) := by decide +kernel
theorem dX4_adds_36 : decode cX4_adds 36 = .ok (.imul, 1) := by decide +kernel
theorem dX4_adds_37 : decode cX4_adds 37 = .ok (.iload 6, 2) := by decide +kernel
theorem dX4_adds_39 : decode cX4_adds 39 = .ok (.iadd, 1) := by decide +kernel
theorem dX4_adds_40 : decode cX4_adds 40 = .ok (.iconst 1, 1) := by decide +kernel
theorem dX4_adds_41 : decode cX4_adds 41 = .ok (.bastore, 1) := by decide +kernel
theorem dX4_adds_42 : decode cX4_adds 42 = .ok (.aload_n 0, 1) := by decide +kernel
theorem dX4_adds_43 : decode cX4_adds 43 = .ok (.iload_n 1, 1) := by decide +kernel
theorem dX4_adds_44 : decode cX4_adds 44 = .ok (.iload_n 2, 1) := by decide +kernel
theorem dX4_adds_45 : decode cX4_adds 45 = .ok (.invokevirtual 75, 3) := by decide +kernel
theorem dX4_adds_48 : decode cX4_adds 48 = .ok (.aload_n 0, 1) := by decide +kernel
theorem dX4_adds_49 : decode cX4_adds 49 = .ok (.iload_n 1, 1) := by decide +kernel
theorem dX4_adds_50 : decode cX4_adds 50 = .ok (.invokevirtual 79, 3) := by decide +kernel
theorem dX4_adds_53 : decode cX4_adds 53 = .ok (.pop, 1) := by decide +kernel
theorem dX4_adds_54 : decode cX4_adds 54 = .ok (.iload 6, 2) := by decide +kernel
theorem dX4_adds_56 : decode cX4_adds 56 = .ok (.ireturn, 1) := by decide +kernel
set_option maxRecDepth 20000 in
theorem ggX4_canEdit_X4_best : GoodIn wsX4_canEdit wsX4_best := goodIn_r _ [7, 2, 1, 8, 9, 10, 6, 11, 12, 13, 14, 15, 16, 17, 18, 19, 20, 21, 22, 23, 24, 25, 26, 27, 28, 29, 30, 31, 32, 33, 34, 35, 36, 37, 38, 39, 40, 41] (by decide +kernel) (by decide +kernel)
set_option maxRecDepth 20000 in
theorem gX4_canEdit_X4_best : GoodIn wsX4_canEdit (wsV RX4 83 RX4 yX4_best wsX4_best) := goodIn_app (goodIn_of _ (by decide +kernel)) ggX4_canEdit_X4_best
set_option maxRecDepth 20000 in
theorem ggX4_canEdit_X4_leaf : GoodIn wsX4_canEdit wsX4_leaf := goodIn_r _ [11, 12, 13, 14, 15, 6, 16, 2, 17, 18, 19, 20, 21, 29, 30, 31, 32, 33, 34, 35, 36, 37, 38, 39, 40, 41] (by decide +kernel) (by decide +kernel)
set_option maxRecDepth 20000 in
theorem gX4_canEdit_X4_leaf : GoodIn wsX4_canEdit (wsV RX4 62 RX4 yX4_leaf wsX4_leaf) := goodIn_app (goodIn_of _ (by decide +kernel)) ggX4_canEdit_X4_leaf
theorem dX4_canEdit_0 : decode cX4_canEdit 0 = .ok (.iload_n 3, 1) := by decide +kernel
theorem dX4_canEdit_1 : decode cX4_canEdit 1 = .ok (.iconst (-1), 1) := by decide +kernel
theorem dX4_canEdit_2 : decode cX4_canEdit 2 = .ok (.if_icmp .ne 21, 3) := by decide +kernel
theorem dX4_canEdit_5 : decode cX4_canEdit 5 = .ok (.aload_n 0, 1) := by decide +kernel
theorem dX4_canEdit_6 : decode cX4_canEdit 6 = .ok (.iload_n 1, 1) := by decide +kernel
theorem dX4_canEdit_7 : decode cX4_canEdit 7 = .ok (.iload_n 2, 1) := by decide +kernel
theorem dX4_canEdit_8 : decode cX4_canEdit 8 = .ok (.invokevirtual 83, 3) := by decide +kernel
theorem dX4_canEdit_11 : decode cX4_canEdit 11 = .ok (.iconst (-1), 1) := by decide +kernel
theorem dX4_canEdit_12 : decode cX4_canEdit 12 = .ok (.if_icmp .ne 7, 3) := by decide +kernel
theorem dX4_canEdit_15 : decode cX4_canEdit 15 = .ok (.iconst 1, 1) := by decide +kernel
theorem dX4_canEdit_16 : decode cX4_canEdit 16 = .ok (.goto 31, 3) := by decide +kernel
theorem dX4_canEdit_19 : decode cX4_canEdit 19 = .ok (.iconst 0, 1) := by decide +kernel
theorem dX4_canEdit_20 : decode cX4_canEdit 20 = .ok (.goto 27, 3) := by decide +kernel
theorem dX4_canEdit_23 : decode cX4_canEdit 23 = .ok (.aload_n 0, 1) := by decide +kernel
theorem dX4_canEdit_24 : decode cX4_canEdit 24 = .ok (.getfield 7, 3) := by decide +kernel
theorem dX4_canEdit_27 : decode cX4_canEdit 27 = .ok (.iload_n 3, 1) := by decide +kernel
theorem dX4_canEdit_28 : decode cX4_canEdit 28 = .ok (.iaload, 1) := by decide +kernel
theorem dX4_canEdit_29 : decode cX4_canEdit 29 = .ok (.iload_n 2, 1) := by decide +kernel
theorem dX4_canEdit_30 : decode cX4_canEdit 30 = .ok (.if_icmp .ne 16, 3) := by decide +kernel
theorem dX4_canEdit_33 : decode cX4_canEdit 33 = .ok (.aload_n 0, 1) := by decide +kernel
theorem dX4_canEdit_34 : decode cX4_canEdit 34 = .ok (.iload_n 1, 1) := by decide +kernel
theorem dX4_canEdit_35 : decode cX4_canEdit 35 = .ok (.iload_n 3, 1) := by decide +kernel
theorem dX4_canEdit_36 : decode cX4_canEdit 36 = .ok (.invokevirtual 62, 3) := by decide +kernel
theorem dX4_canEdit_39 : decode cX4_canEdit 39 = .ok (.ifCond .eq 7, 3) := by decide +kernel
theorem dX4_canEdit_42 : decode cX4_canEdit 42 = .ok (.iconst 1, 1) := by decide +kernel
theorem dX4_canEdit_43 : decode cX4_canEdit 43 = .ok (.goto 4, 3) := by decide +kernel
theorem dX4_canEdit_46 : decode cX4_canEdit 46 = .ok (.iconst 0, 1) := by decide +kernel
theorem dX4_canEdit_47 : decode cX4_canEdit 47 = .ok (.istore 4, 2) := by decide +kernel
theorem dX4_canEdit_49 : decode cX4_canEdit 49 = .ok (.iload 4, 2) := by decide +kernel
theorem dX4_canEdit_51 : decode cX4_canEdit 51 = .ok (.ifCond .eq 17, 3) := by decide +kernel
theorem dX4_canEdit_54 : decode cX4_canEdit 54 = .ok (.aload_n 0, 1) := by decide +kernel
theorem dX4_canEdit_55 : decode cX4_canEdit 55 = .ok (.getfield 52, 3) := by decide +kernel
theorem dX4_canEdit_58 : decode cX4_canEdit 58 = .ok (.sipush 150, 3) := by decide +kernel
theorem dX4_canEdit_61 : decode cX4_canEdit 61 = .ok (.if_icmp .ge 7, 3) := by decide +kernel
theorem dX4_canEdit_64 : decode cX4_canEdit 64 = .ok (.iconst 1, 1) := by decide +kernel
theorem dX4_canEdit_65 : decode cX4_canEdit 65 = .ok (.goto 4, 3) := by decide +kernel
theorem dX4_canEdit_68 : decode cX4_canEdit 68 = .ok (.iconst 0, 1) := by decide +kernel
theorem dX4_canEdit_69 : decode cX4_canEdit 69 = .ok (.ireturn, 1) := by decide +kernel
set_option maxRecDepth 20000 in
theorem ggX4_edit_X4_isStore : GoodIn wsX4_edit wsX4_isStore := goodIn_r _ [4, 5, 6, 3, 7] (by decide +kernel) (by decide +kernel)
set_option maxRecDepth 20000 in
theorem gX4_edit_X4_isStore : GoodIn wsX4_edit (va_wsS RX4 87 yX4_isStore wsX4_isStore) := goodIn_app (goodIn_of _ (by decide +kernel)) ggX4_edit_X4_isStore
set_option maxRecDepth 20000 in
theorem ggX4_edit_X4_isDocument : GoodIn wsX4_edit wsX4_isDocument := goodIn_r _ [10, 5, 6, 3, 7] (by decide +kernel) (by decide +kernel)
set_option maxRecDepth 20000 in
theorem gX4_edit_X4_isDocument : GoodIn wsX4_edit (va_wsS RX4 91 yX4_isDocument wsX4_isDocument) := goodIn_app (goodIn_of _ (by decide +kernel)) ggX4_edit_X4_isDocument
set_option maxRecDepth 20000 in
theorem ggX4_edit_X4_isRevision : GoodIn wsX4_edit wsX4_isRevision := goodIn_r _ [14, 15, 5, 6, 3, 7, 75, 76, 77, 78, 79, 80, 81, 82, 83, 84, 85, 86, 87] (by decide +kernel) (by decide +kernel)
set_option maxRecDepth 20000 in
theorem gX4_edit_X4_isRevision : GoodIn wsX4_edit (wsV RX4 94 RX4 yX4_isRevision wsX4_isRevision) := goodIn_app (goodIn_of _ (by decide +kernel)) ggX4_edit_X4_isRevision
set_option maxRecDepth 20000 in
theorem ggX4_edit_X4_in : GoodIn wsX4_edit wsX4_in := goodIn_r _ [7] (by decide +kernel) (by decide +kernel)
set_option maxRecDepth 20000 in
theorem gX4_edit_X4_in : GoodIn wsX4_edit (va_wsS RX4 48 yX4_in wsX4_in) := goodIn_app (goodIn_of _ (by decide +kernel)) ggX4_edit_X4_in
set_option maxRecDepth 20000 in
theorem ggX4_edit_X4_canEdit : GoodIn wsX4_edit wsX4_canEdit := goodIn_r _ [19, 20, 15, 21, 22, 23, 3, 24, 25, 26, 27, 28, 29, 30, 31, 32, 33, 34, 35, 36, 37, 38, 39, 40, 41, 42, 43, 44, 45, 75, 76, 77, 78, 79, 80, 81, 82, 83, 84, 85, 86, 87] (by decide +kernel) (by decide +kernel)
set_option maxRecDepth 20000 in
theorem gX4_edit_X4_canEdit : GoodIn wsX4_edit (wsV RX4 97 RX4 yX4_canEdit wsX4_canEdit) := goodIn_app (goodIn_of _ (by decide +kernel)) ggX4_edit_X4_canEdit
set_option maxRecDepth 20000 in
theorem ggX4_edit_X4_goes : GoodIn wsX4_edit wsX4_goes := goodIn_r _ [49, 50, 75, 76, 77, 78, 79, 80, 81, 82, 83, 84, 85, 86, 87] (by decide +kernel) (by decide +kernel)
set_option maxRecDepth 20000 in
theorem gX4_edit_X4_goes : GoodIn wsX4_edit (wsV RX4 100 RX4 yX4_goes wsX4_goes) := goodIn_app (goodIn_of _ (by decide +kernel)) ggX4_edit_X4_goes
set_option maxRecDepth 20000 in
theorem ggX4_edit_X4_adds : GoodIn wsX4_edit wsX4_adds := goodIn_r _ [54, 29, 55, 56, 57, 3, 58, 15, 20, 38, 59, 43, 44, 45, 60, 61, 62, 63, 64, 65, 66, 67, 68, 69, 70, 71, 72, 73, 74, 34, 35, 36, 37, 25, 26, 27, 28, 30, 31, 32, 33, 75, 76, 77, 78, 79, 80, 81, 82, 83, 84, 85, 86, 87] (by decide +kernel) (by decide +kernel)
set_option maxRecDepth 20000 in
theorem gX4_edit_X4_adds : GoodIn wsX4_edit (wsV RX4 104 RX4 yX4_adds wsX4_adds) := goodIn_app (goodIn_of _ (by decide +kernel)) ggX4_edit_X4_adds
theorem dX4_edit_0 : decode cX4_edit 0 = .ok (.iload_n 1, 1) := by decide +kernel
theorem dX4_edit_1 : decode cX4_edit 1 = .ok (.invokestatic 87, 3) := by decide +kernel
theorem dX4_edit_4 : decode cX4_edit 4 = .ok (.ifCond .eq 27, 3) := by decide +kernel
theorem dX4_edit_7 : decode cX4_edit 7 = .ok (.iload_n 2, 1) := by decide +kernel
theorem dX4_edit_8 : decode cX4_edit 8 = .ok (.invokestatic 91, 3) := by decide +kernel
theorem dX4_edit_11 : decode cX4_edit 11 = .ok (.ifCond .eq 20, 3) := by decide +kernel
theorem dX4_edit_14 : decode cX4_edit 14 = .ok (.iload_n 3, 1) := by decide +kernel
theorem dX4_edit_15 : decode cX4_edit 15 = .ok (.iconst (-1), 1) := by decide +kernel
theorem dX4_edit_16 : decode cX4_edit 16 = .ok (.if_icmp .eq 11, 3) := by decide +kernel
theorem dX4_edit_19 : decode cX4_edit 19 = .ok (.aload_n 0, 1) := by decide +kernel
theorem dX4_edit_20 : decode cX4_edit 20 = .ok (.iload_n 3, 1) := by decide +kernel
theorem dX4_edit_21 : decode cX4_edit 21 = .ok (.invokevirtual 94, 3) := by decide +kernel
theorem dX4_edit_24 : decode cX4_edit 24 = .ok (.ifCond .eq 7, 3) := by decide +kernel
theorem dX4_edit_27 : decode cX4_edit 27 = .ok (.iconst 1, 1) := by decide +kernel
theorem dX4_edit_28 : decode cX4_edit 28 = .ok (.goto 4, 3) := by decide +kernel
theorem dX4_edit_31 : decode cX4_edit 31 = .ok (.iconst 0, 1) := by decide +kernel
theorem dX4_edit_32 : decode cX4_edit 32 = .ok (.istore 5, 2) := by decide +kernel
theorem dX4_edit_34 : decode cX4_edit 34 = .ok (.aload_n 0, 1) := by decide +kernel
theorem dX4_edit_35 : decode cX4_edit 35 = .ok (.iload 5, 2) := by decide +kernel
theorem dX4_edit_37 : decode cX4_edit 37 = .ok (.iload 4, 2) := by decide +kernel
theorem dX4_edit_39 : decode cX4_edit 39 = .ok (.iconst 0, 1) := by decide +kernel
theorem dX4_edit_40 : decode cX4_edit 40 = .ok (.bipush 99, 2) := by decide +kernel
theorem dX4_edit_42 : decode cX4_edit 42 = .ok (.invokestatic 48, 3) := by decide +kernel
theorem dX4_edit_45 : decode cX4_edit 45 = .ok (.iload 5, 2) := by decide +kernel
theorem dX4_edit_47 : decode cX4_edit 47 = .ok (.ifCond .eq 17, 3) := by decide +kernel
theorem dX4_edit_50 : decode cX4_edit 50 = .ok (.aload_n 0, 1) := by decide +kernel
theorem dX4_edit_51 : decode cX4_edit 51 = .ok (.iload_n 1, 1) := by decide +kernel
theorem dX4_edit_52 : decode cX4_edit 52 = .ok (.iload_n 2, 1) := by decide +kernel
theorem dX4_edit_53 : decode cX4_edit 53 = .ok (.iload_n 3, 1) := by decide +kernel
theorem dX4_edit_54 : decode cX4_edit 54 = .ok (.invokevirtual 97, 3) := by decide +kernel
theorem dX4_edit_57 : decode cX4_edit 57 = .ok (.ifCond .eq 7, 3) := by decide +kernel
theorem dX4_edit_60 : decode cX4_edit 60 = .ok (.iconst 1, 1) := by decide +kernel
theorem dX4_edit_61 : decode cX4_edit 61 = .ok (.goto 4, 3) := by decide +kernel
theorem dX4_edit_64 : decode cX4_edit 64 = .ok (.iconst 0, 1) := by decide +kernel
theorem dX4_edit_65 : decode cX4_edit 65 = .ok (.invokevirtual 100, 3) := by decide +kernel
theorem dX4_edit_68 : decode cX4_edit 68 = .ok (.ifCond .ne 5, 3) := by decide +kernel
theorem dX4_edit_71 : decode cX4_edit 71 = .ok (.iconst 0, 1) := by decide +kernel
theorem dX4_edit_72 : decode cX4_edit 72 = .ok (.ireturn, 1) := by decide +kernel
theorem dX4_edit_73 : decode cX4_edit 73 = .ok (.aload_n 0, 1) := by decide +kernel
theorem dX4_edit_74 : decode cX4_edit 74 = .ok (.iload_n 1, 1) := by decide +kernel
theorem dX4_edit_75 : decode cX4_edit 75 = .ok (.iload_n 2, 1) := by decide +kernel
theorem dX4_edit_76 : decode cX4_edit 76 = .ok (.iload_n 3, 1) := by decide +kernel
theorem dX4_edit_77 : decode cX4_edit 77 = .ok (.iload 4, 2) := by decide +kernel
theorem dX4_edit_79 : decode cX4_edit 79 = .ok (.iconst 0, 1) := by decide +kernel
theorem dX4_edit_80 : decode cX4_edit 80 = .ok (.invokevirtual 104, 3) := by decide +kernel
theorem dX4_edit_83 : decode cX4_edit 83 = .ok (.ireturn, 1) := by decide +kernel
set_option maxRecDepth 20000 in
theorem ggX4_delete_X4_isStore : GoodIn wsX4_delete wsX4_isStore := goodIn_r _ [5, 6, 7, 4, 8] (by decide +kernel) (by decide +kernel)
set_option maxRecDepth 20000 in
theorem gX4_delete_X4_isStore : GoodIn wsX4_delete (va_wsS RX4 87 yX4_isStore wsX4_isStore) := goodIn_app (goodIn_of _ (by decide +kernel)) ggX4_delete_X4_isStore
set_option maxRecDepth 20000 in
theorem ggX4_delete_X4_isDocument : GoodIn wsX4_delete wsX4_isDocument := goodIn_r _ [11, 6, 7, 4, 8] (by decide +kernel) (by decide +kernel)
set_option maxRecDepth 20000 in
theorem gX4_delete_X4_isDocument : GoodIn wsX4_delete (va_wsS RX4 91 yX4_isDocument wsX4_isDocument) := goodIn_app (goodIn_of _ (by decide +kernel)) ggX4_delete_X4_isDocument
set_option maxRecDepth 20000 in
theorem ggX4_delete_X4_isRevision : GoodIn wsX4_delete wsX4_isRevision := goodIn_r _ [15, 16, 6, 7, 4, 8, 75, 76, 77, 78, 79, 80, 81, 82, 83, 84, 85, 86, 87] (by decide +kernel) (by decide +kernel)
set_option maxRecDepth 20000 in
theorem gX4_delete_X4_isRevision : GoodIn wsX4_delete (wsV RX4 94 RX4 yX4_isRevision wsX4_isRevision) := goodIn_app (goodIn_of _ (by decide +kernel)) ggX4_delete_X4_isRevision
set_option maxRecDepth 20000 in
theorem ggX4_delete_X4_canEdit : GoodIn wsX4_delete wsX4_canEdit := goodIn_r _ [20, 21, 16, 22, 23, 24, 4, 25, 26, 27, 28, 29, 30, 31, 32, 33, 34, 35, 36, 37, 38, 39, 40, 41, 42, 43, 1, 44, 45, 75, 76, 77, 78, 79, 80, 81, 82, 83, 84, 85, 86, 87] (by decide +kernel) (by decide +kernel)
set_option maxRecDepth 20000 in
theorem gX4_delete_X4_canEdit : GoodIn wsX4_delete (wsV RX4 97 RX4 yX4_canEdit wsX4_canEdit) := goodIn_app (goodIn_of _ (by decide +kernel)) ggX4_delete_X4_canEdit
set_option maxRecDepth 20000 in
theorem ggX4_delete_X4_goes : GoodIn wsX4_delete wsX4_goes := goodIn_r _ [49, 50, 75, 76, 77, 78, 79, 80, 81, 82, 83, 84, 85, 86, 87] (by decide +kernel) (by decide +kernel)
set_option maxRecDepth 20000 in
theorem gX4_delete_X4_goes : GoodIn wsX4_delete (wsV RX4 100 RX4 yX4_goes wsX4_goes) := goodIn_app (goodIn_of _ (by decide +kernel)) ggX4_delete_X4_goes
set_option maxRecDepth 20000 in
theorem ggX4_delete_X4_adds : GoodIn wsX4_delete wsX4_adds := goodIn_r _ [54, 30, 55, 56, 57, 4, 58, 16, 21, 39, 59, 1, 44, 45, 60, 61, 62, 63, 64, 65, 66, 67, 68, 69, 70, 71, 72, 73, 74, 35, 36, 37, 38, 26, 27, 28, 29, 31, 32, 33, 34, 75, 76, 77, 78, 79, 80, 81, 82, 83, 84, 85, 86, 87] (by decide +kernel) (by decide +kernel)
set_option maxRecDepth 20000 in
theorem gX4_delete_X4_adds : GoodIn wsX4_delete (wsV RX4 104 RX4 yX4_adds wsX4_adds) := goodIn_app (goodIn_of _ (by decide +kernel)) ggX4_delete_X4_adds
theorem dX4_delete_0 : decode cX4_delete 0 = .ok (.iload_n 1, 1) := by decide +kernel
theorem dX4_delete_1 : decode cX4_delete 1 = .ok (.invokestatic 87, 3) := by decide +kernel
theorem dX4_delete_4 : decode cX4_delete 4 = .ok (.ifCond .eq 22, 3) := by decide +kernel
theorem dX4_delete_7 : decode cX4_delete 7 = .ok (.iload_n 2, 1) := by decide +kernel
theorem dX4_delete_8 : decode cX4_delete 8 = .ok (.invokestatic 91, 3) := by decide +kernel
theorem dX4_delete_11 : decode cX4_delete 11 = .ok (.ifCond .eq 15, 3) := by decide +kernel
theorem dX4_delete_14 : decode cX4_delete 14 = .ok (.aload_n 0, 1) := by decide +kernel
theorem dX4_delete_15 : decode cX4_delete 15 = .ok (.iload_n 3, 1) := by decide +kernel
theorem dX4_delete_16 : decode cX4_delete 16 = .ok (.invokevirtual 94, 3) := by decide +kernel
theorem dX4_delete_19 : decode cX4_delete 19 = .ok (.ifCond .eq 7, 3) := by decide +kernel
theorem dX4_delete_22 : decode cX4_delete 22 = .ok (.iconst 1, 1) := by decide +kernel
theorem dX4_delete_23 : decode cX4_delete 23 = .ok (.goto 4, 3) := by decide +kernel
theorem dX4_delete_26 : decode cX4_delete 26 = .ok (.iconst 0, 1) := by decide +kernel
theorem dX4_delete_27 : decode cX4_delete 27 = .ok (.istore 4, 2) := by decide +kernel
theorem dX4_delete_29 : decode cX4_delete 29 = .ok (.aload_n 0, 1) := by decide +kernel
theorem dX4_delete_30 : decode cX4_delete 30 = .ok (.iload 4, 2) := by decide +kernel
theorem dX4_delete_32 : decode cX4_delete 32 = .ok (.iload 4, 2) := by decide +kernel
theorem dX4_delete_34 : decode cX4_delete 34 = .ok (.ifCond .eq 26, 3) := by decide +kernel
theorem dX4_delete_37 : decode cX4_delete 37 = .ok (.aload_n 0, 1) := by decide +kernel
theorem dX4_delete_38 : decode cX4_delete 38 = .ok (.iload_n 1, 1) := by decide +kernel
theorem dX4_delete_39 : decode cX4_delete 39 = .ok (.iload_n 2, 1) := by decide +kernel
theorem dX4_delete_40 : decode cX4_delete 40 = .ok (.iload_n 3, 1) := by decide +kernel
theorem dX4_delete_41 : decode cX4_delete 41 = .ok (.invokevirtual 97, 3) := by decide +kernel
theorem dX4_delete_44 : decode cX4_delete 44 = .ok (.ifCond .eq 16, 3) := by decide +kernel
theorem dX4_delete_47 : decode cX4_delete 47 = .ok (.aload_n 0, 1) := by decide +kernel
theorem dX4_delete_48 : decode cX4_delete 48 = .ok (.getfield 19, 3) := by decide +kernel
theorem dX4_delete_51 : decode cX4_delete 51 = .ok (.iload_n 3, 1) := by decide +kernel
theorem dX4_delete_52 : decode cX4_delete 52 = .ok (.baload, 1) := by decide +kernel
theorem dX4_delete_53 : decode cX4_delete 53 = .ok (.ifCond .ne 7, 3) := by decide +kernel
theorem dX4_delete_56 : decode cX4_delete 56 = .ok (.iconst 1, 1) := by decide +kernel
theorem dX4_delete_57 : decode cX4_delete 57 = .ok (.goto 4, 3) := by decide +kernel
theorem dX4_delete_60 : decode cX4_delete 60 = .ok (.iconst 0, 1) := by decide +kernel
theorem dX4_delete_61 : decode cX4_delete 61 = .ok (.iconst 1, 1) := by decide +kernel
theorem dX4_delete_62 : decode cX4_delete 62 = .ok (.invokevirtual 100, 3) := by decide +kernel
theorem dX4_delete_65 : decode cX4_delete 65 = .ok (.ifCond .ne 5, 3) := by decide +kernel
theorem dX4_delete_68 : decode cX4_delete 68 = .ok (.iconst 0, 1) := by decide +kernel
theorem dX4_delete_69 : decode cX4_delete 69 = .ok (.ireturn, 1) := by decide +kernel
theorem dX4_delete_70 : decode cX4_delete 70 = .ok (.aload_n 0, 1) := by decide +kernel
theorem dX4_delete_71 : decode cX4_delete 71 = .ok (.iload_n 1, 1) := by decide +kernel
theorem dX4_delete_72 : decode cX4_delete 72 = .ok (.iload_n 2, 1) := by decide +kernel
theorem dX4_delete_73 : decode cX4_delete 73 = .ok (.iload_n 3, 1) := by decide +kernel
theorem dX4_delete_74 : decode cX4_delete 74 = .ok (.iconst 0, 1) := by decide +kernel
theorem dX4_delete_75 : decode cX4_delete 75 = .ok (.iconst 1, 1) := by decide +kernel
theorem dX4_delete_76 : decode cX4_delete 76 = .ok (.invokevirtual 104, 3) := by decide +kernel
theorem dX4_delete_79 : decode cX4_delete 79 = .ok (.ireturn, 1) := by decide +kernel
set_option maxRecDepth 20000 in
theorem ggX4_setDepth_X4_isStore : GoodIn wsX4_setDepth wsX4_isStore := goodIn_r _ [5, 6, 7, 4, 8] (by decide +kernel) (by decide +kernel)
set_option maxRecDepth 20000 in
theorem gX4_setDepth_X4_isStore : GoodIn wsX4_setDepth (va_wsS RX4 87 yX4_isStore wsX4_isStore) := goodIn_app (goodIn_of _ (by decide +kernel)) ggX4_setDepth_X4_isStore
set_option maxRecDepth 20000 in
theorem ggX4_setDepth_X4_in : GoodIn wsX4_setDepth wsX4_in := goodIn_r _ [8] (by decide +kernel) (by decide +kernel)
set_option maxRecDepth 20000 in
theorem gX4_setDepth_X4_in : GoodIn wsX4_setDepth (va_wsS RX4 48 yX4_in wsX4_in) := goodIn_app (goodIn_of _ (by decide +kernel)) ggX4_setDepth_X4_in
set_option maxRecDepth 20000 in
theorem ggX4_setDepth_X4_goes : GoodIn wsX4_setDepth wsX4_goes := goodIn_r _ [12, 13, 38, 39, 40, 41, 42, 43, 44, 45, 46, 47, 48, 49, 50] (by decide +kernel) (by decide +kernel)
set_option maxRecDepth 20000 in
theorem gX4_setDepth_X4_goes : GoodIn wsX4_setDepth (wsV RX4 100 RX4 yX4_goes wsX4_goes) := goodIn_app (goodIn_of _ (by decide +kernel)) ggX4_setDepth_X4_goes
set_option maxRecDepth 20000 in
theorem ggX4_setDepth_X4_stems : GoodIn wsX4_setDepth wsX4_stems := goodIn_r _ [17, 18, 19, 20, 21, 22, 4, 23, 24, 1, 25, 26, 27, 28, 29, 30, 31, 32, 33, 34, 35, 36, 37, 38, 39, 40, 41, 42, 43, 44, 45, 46, 47, 48, 49, 50] (by decide +kernel) (by decide +kernel)
set_option maxRecDepth 20000 in
theorem gX4_setDepth_X4_stems : GoodIn wsX4_setDepth (wsV RX4 79 RX4 yX4_stems wsX4_stems) := goodIn_app (goodIn_of _ (by decide +kernel)) ggX4_setDepth_X4_stems
theorem dX4_setDepth_0 : decode cX4_setDepth 0 = .ok (.aload_n 0, 1) := by decide +kernel
theorem dX4_setDepth_1 : decode cX4_setDepth 1 = .ok (.iload_n 1, 1) := by decide +kernel
theorem dX4_setDepth_2 : decode cX4_setDepth 2 = .ok (.invokestatic 87, 3) := by decide +kernel
theorem dX4_setDepth_5 : decode cX4_setDepth 5 = .ok (.iload_n 2, 1) := by decide +kernel
theorem dX4_setDepth_6 : decode cX4_setDepth 6 = .ok (.iconst 1, 1) := by decide +kernel
theorem dX4_setDepth_7 : decode cX4_setDepth 7 = .ok (.bipush 20, 2) := by decide +kernel
theorem dX4_setDepth_9 : decode cX4_setDepth 9 = .ok (.invokestatic 48, 3) := by decide +kernel
theorem dX4_setDepth_12 : decode cX4_setDepth 12 = .ok (.iconst 1, 1) := by decide +kernel
theorem dX4_setDepth_13 : decode cX4_setDepth 13 = .ok (.invokevirtual 100, 3) := by decide +kernel
theorem dX4_setDepth_16 : decode cX4_setDepth 16 = .ok (.ifCond .ne 5, 3) := by decide +kernel
theorem dX4_setDepth_19 : decode cX4_setDepth 19 = .ok (.iconst 0, 1) := by decide +kernel
theorem dX4_setDepth_20 : decode cX4_setDepth 20 = .ok (.ireturn, 1) := by decide +kernel
theorem dX4_setDepth_21 : decode cX4_setDepth 21 = .ok (.aload_n 0, 1) := by decide +kernel
theorem dX4_setDepth_22 : decode cX4_setDepth 22 = .ok (.getfield 32, 3) := by decide +kernel
theorem dX4_setDepth_25 : decode cX4_setDepth 25 = .ok (.iload_n 1, 1) := by decide +kernel
theorem dX4_setDepth_26 : decode cX4_setDepth 26 = .ok (.iload_n 2, 1) := by decide +kernel
theorem dX4_setDepth_27 : decode cX4_setDepth 27 = .ok (.iastore, 1) := by decide +kernel
theorem dX4_setDepth_28 : decode cX4_setDepth 28 = .ok (.aload_n 0, 1) := by decide +kernel
theorem dX4_setDepth_29 : decode cX4_setDepth 29 = .ok (.iload_n 1, 1) := by decide +kernel
theorem dX4_setDepth_30 : decode cX4_setDepth 30 = .ok (.invokevirtual 79, 3) := by decide +kernel
theorem dX4_setDepth_33 : decode cX4_setDepth 33 = .ok (.ireturn, 1) := by decide +kernel
set_option maxRecDepth 20000 in
theorem ggX4_wipe_X4_isStore : GoodIn wsX4_wipe wsX4_isStore := goodIn_r _ [8, 9, 10, 7, 11] (by decide +kernel) (by decide +kernel)
set_option maxRecDepth 20000 in
theorem gX4_wipe_X4_isStore : GoodIn wsX4_wipe (va_wsS RX4 87 yX4_isStore wsX4_isStore) := goodIn_app (goodIn_of _ (by decide +kernel)) ggX4_wipe_X4_isStore
set_option maxRecDepth 20000 in
theorem ggX4_wipe_X4_goes : GoodIn wsX4_wipe wsX4_goes := goodIn_r _ [15, 16, 17, 18, 19, 20, 21, 22, 23, 24, 25, 26, 27, 28, 29] (by decide +kernel) (by decide +kernel)
set_option maxRecDepth 20000 in
theorem gX4_wipe_X4_goes : GoodIn wsX4_wipe (wsV RX4 100 RX4 yX4_goes wsX4_goes) := goodIn_app (goodIn_of _ (by decide +kernel)) ggX4_wipe_X4_goes
theorem dX4_wipe_0 : decode cX4_wipe 0 = .ok (.iconst 0, 1) := by decide +kernel
theorem dX4_wipe_1 : decode cX4_wipe 1 = .ok (.istore_n 2, 1) := by decide +kernel
theorem dX4_wipe_2 : decode cX4_wipe 2 = .ok (.aload_n 0, 1) := by decide +kernel
theorem dX4_wipe_3 : decode cX4_wipe 3 = .ok (.iload_n 1, 1) := by decide +kernel
theorem dX4_wipe_4 : decode cX4_wipe 4 = .ok (.invokestatic 87, 3) := by decide +kernel
theorem dX4_wipe_7 : decode cX4_wipe 7 = .ok (.iconst 1, 1) := by decide +kernel
theorem dX4_wipe_8 : decode cX4_wipe 8 = .ok (.iconst 1, 1) := by decide +kernel
theorem dX4_wipe_9 : decode cX4_wipe 9 = .ok (.invokevirtual 100, 3) := by decide +kernel
theorem dX4_wipe_12 : decode cX4_wipe 12 = .ok (.ifCond .eq 111, 3) := by decide +kernel
theorem dX4_wipe_15 : decode cX4_wipe 15 = .ok (.iconst 0, 1) := by decide +kernel
theorem dX4_wipe_16 : decode cX4_wipe 16 = .ok (.istore_n 3, 1) := by decide +kernel
theorem dX4_wipe_17 : decode cX4_wipe 17 = .ok (.iload_n 3, 1) := by decide +kernel
theorem dX4_wipe_18 : decode cX4_wipe 18 = .ok (.sipush 150, 3) := by decide +kernel
theorem dX4_wipe_21 : decode cX4_wipe 21 = .ok (.if_icmp .ge 45, 3) := by decide +kernel
theorem dX4_wipe_24 : decode cX4_wipe 24 = .ok (.iload_n 2, 1) := by decide +kernel
theorem dX4_wipe_25 : decode cX4_wipe 25 = .ok (.aload_n 0, 1) := by decide +kernel
theorem dX4_wipe_26 : decode cX4_wipe 26 = .ok (.getfield 29, 3) := by decide +kernel
theorem dX4_wipe_29 : decode cX4_wipe 29 = .ok (.sipush 150, 3) := by decide +kernel
theorem dX4_wipe_32 : decode cX4_wipe 32 = .ok (.iload_n 1, 1) := by decide +kernel
theorem dX4_wipe_33 : decode cX4_wipe 33 = .ok (.imul, 1) := by decide +kernel
theorem dX4_wipe_34 : decode cX4_wipe 34 = .ok (.iload_n 3, 1) := by decide +kernel
theorem dX4_wipe_35 : decode cX4_wipe 35 = .ok (.iadd, 1) := by decide +kernel
theorem dX4_wipe_36 : decode cX4_wipe 36 = .ok (.baload, 1) := by decide +kernel
theorem dX4_wipe_37 : decode cX4_wipe 37 = .ok (.ifCond .eq 7, 3) := by decide +kernel
theorem dX4_wipe_40 : decode cX4_wipe 40 = .ok (.iconst 1, 1) := by decide +kernel
theorem dX4_wipe_41 : decode cX4_wipe 41 = .ok (.goto 4, 3) := by decide +kernel
theorem dX4_wipe_44 : decode cX4_wipe 44 = .ok (.iconst 0, 1) := by decide +kernel
theorem dX4_wipe_45 : decode cX4_wipe 45 = .ok (.iadd, 1) := by decide +kernel
theorem dX4_wipe_46 : decode cX4_wipe 46 = .ok (.istore_n 2, 1) := by decide +kernel
theorem dX4_wipe_47 : decode cX4_wipe 47 = .ok (.aload_n 0, 1) := by decide +kernel
theorem dX4_wipe_48 : decode cX4_wipe 48 = .ok (.getfield 29, 3) := by decide +kernel
theorem dX4_wipe_51 : decode cX4_wipe 51 = .ok (.sipush 150, 3) := by decide +kernel
theorem dX4_wipe_54 : decode cX4_wipe 54 = .ok (.iload_n 1, 1) := by decide +kernel
theorem dX4_wipe_55 : decode cX4_wipe 55 = .ok (.imul, 1) := by decide +kernel
theorem dX4_wipe_56 : decode cX4_wipe 56 = .ok (.iload_n 3, 1) := by decide +kernel
theorem dX4_wipe_57 : decode cX4_wipe 57 = .ok (.iadd, 1) := by decide +kernel
theorem dX4_wipe_58 : decode cX4_wipe 58 = .ok (.iconst 0, 1) := by decide +kernel
theorem dX4_wipe_59 : decode cX4_wipe 59 = .ok (.bastore, 1) := by decide +kernel
theorem dX4_wipe_60 : decode cX4_wipe 60 = .ok (.iinc 3 1, 3) := by decide +kernel
theorem dX4_wipe_63 : decode cX4_wipe 63 = .ok (.goto (-46), 3) := by decide +kernel
theorem dX4_wipe_66 : decode cX4_wipe 66 = .ok (.iconst 0, 1) := by decide +kernel
theorem dX4_wipe_67 : decode cX4_wipe 67 = .ok (.istore_n 3, 1) := by decide +kernel
theorem dX4_wipe_68 : decode cX4_wipe 68 = .ok (.iload_n 3, 1) := by decide +kernel
theorem dX4_wipe_69 : decode cX4_wipe 69 = .ok (.bipush 9, 2) := by decide +kernel
theorem dX4_wipe_71 : decode cX4_wipe 71 = .ok (.if_icmp .ge 21, 3) := by decide +kernel
theorem dX4_wipe_74 : decode cX4_wipe 74 = .ok (.aload_n 0, 1) := by decide +kernel
theorem dX4_wipe_75 : decode cX4_wipe 75 = .ok (.getfield 41, 3) := by decide +kernel
theorem dX4_wipe_78 : decode cX4_wipe 78 = .ok (.bipush 9, 2) := by decide +kernel
theorem dX4_wipe_80 : decode cX4_wipe 80 = .ok (.iload_n 1, 1) := by decide +kernel
theorem dX4_wipe_81 : decode cX4_wipe 81 = .ok (.imul, 1) := by decide +kernel
theorem dX4_wipe_82 : decode cX4_wipe 82 = .ok (.iload_n 3, 1) := by decide +kernel
theorem dX4_wipe_83 : decode cX4_wipe 83 = .ok (.iadd, 1) := by decide +kernel
theorem dX4_wipe_84 : decode cX4_wipe 84 = .ok (.iconst 0, 1) := by decide +kernel
theorem dX4_wipe_85 : decode cX4_wipe 85 = .ok (.iastore, 1) := by decide +kernel
theorem dX4_wipe_86 : decode cX4_wipe 86 = .ok (.iinc 3 1, 3) := by decide +kernel
theorem dX4_wipe_89 : decode cX4_wipe 89 = .ok (.goto (-21), 3) := by decide +kernel
theorem dX4_wipe_92 : decode cX4_wipe 92 = .ok (.iconst 0, 1) := by decide +kernel
theorem dX4_wipe_93 : decode cX4_wipe 93 = .ok (.istore_n 3, 1) := by decide +kernel
theorem dX4_wipe_94 : decode cX4_wipe 94 = .ok (.iload_n 3, 1) := by decide +kernel
theorem dX4_wipe_95 : decode cX4_wipe 95 = .ok (.iconst 4, 1) := by decide +kernel
theorem dX4_wipe_96 : decode cX4_wipe 96 = .ok (.if_icmp .ge 20, 3) := by decide +kernel
theorem dX4_wipe_99 : decode cX4_wipe 99 = .ok (.aload_n 0, 1) := by decide +kernel
theorem dX4_wipe_100 : decode cX4_wipe 100 = .ok (.getfield 38, 3) := by decide +kernel
theorem dX4_wipe_103 : decode cX4_wipe 103 = .ok (.iconst 4, 1) := by decide +kernel
theorem dX4_wipe_104 : decode cX4_wipe 104 = .ok (.iload_n 1, 1) := by decide +kernel
theorem dX4_wipe_105 : decode cX4_wipe 105 = .ok (.imul, 1) := by decide +kernel
theorem dX4_wipe_106 : decode cX4_wipe 106 = .ok (.iload_n 3, 1) := by decide +kernel
theorem dX4_wipe_107 : decode cX4_wipe 107 = .ok (.iadd, 1) := by decide +kernel
theorem dX4_wipe_108 : decode cX4_wipe 108 = .ok (.iconst 0, 1) := by decide +kernel
theorem dX4_wipe_109 : decode cX4_wipe 109 = .ok (.iastore, 1) := by decide +kernel
theorem dX4_wipe_110 : decode cX4_wipe 110 = .ok (.iinc 3 1, 3) := by decide +kernel
theorem dX4_wipe_113 : decode cX4_wipe 113 = .ok (.goto (-19), 3) := by decide +kernel
theorem dX4_wipe_116 : decode cX4_wipe 116 = .ok (.aload_n 0, 1) := by decide +kernel
theorem dX4_wipe_117 : decode cX4_wipe 117 = .ok (.getfield 35, 3) := by decide +kernel
theorem dX4_wipe_120 : decode cX4_wipe 120 = .ok (.iload_n 1, 1) := by decide +kernel
theorem dX4_wipe_121 : decode cX4_wipe 121 = .ok (.iconst 0, 1) := by decide +kernel
theorem dX4_wipe_122 : decode cX4_wipe 122 = .ok (.iastore, 1) := by decide +kernel
theorem dX4_wipe_123 : decode cX4_wipe 123 = .ok (.iload_n 2, 1) := by decide +kernel
theorem dX4_wipe_124 : decode cX4_wipe 124 = .ok (.ireturn, 1) := by decide +kernel
theorem dX4_begins_0 : decode cX4_begins 0 = .ok (.aload_n 0, 1) := by decide +kernel
theorem dX4_begins_1 : decode cX4_begins 1 = .ok (.getfield 41, 3) := by decide +kernel
theorem dX4_begins_4 : decode cX4_begins 4 = .ok (.bipush 9, 2) := by decide +kernel
theorem dX4_begins_6 : decode cX4_begins 6 = .ok (.iload_n 1, 1) := by decide +kernel
theorem dX4_begins_7 : decode cX4_begins 7 = .ok (.imul, 1) := by decide +kernel
theorem dX4_begins_8 : decode cX4_begins 8 = .ok (.iconst 3, 1) := by decide +kernel
theorem dX4_begins_9 : decode cX4_begins 9 = .ok (.iload_n 1, 1) := by decide +kernel
theorem dX4_begins_10 : decode cX4_begins 10 = .ok (.imul, 1) := by decide +kernel
theorem dX4_begins_11 : decode cX4_begins 11 = .ok (.iadd, 1) := by decide +kernel
theorem dX4_begins_12 : decode cX4_begins 12 = .ok (.iload_n 2, 1) := by decide +kernel
theorem dX4_begins_13 : decode cX4_begins 13 = .ok (.iadd, 1) := by decide +kernel
theorem dX4_begins_14 : decode cX4_begins 14 = .ok (.iaload, 1) := by decide +kernel
theorem dX4_begins_15 : decode cX4_begins 15 = .ok (.istore_n 3, 1) := by decide +kernel
theorem dX4_begins_16 : decode cX4_begins 16 = .ok (.aload_n 0, 1) := by decide +kernel
theorem dX4_begins_17 : decode cX4_begins 17 = .ok (.getfield 41, 3) := by decide +kernel
theorem dX4_begins_20 : decode cX4_begins 20 = .ok (.bipush 9, 2) := by decide +kernel
theorem dX4_begins_22 : decode cX4_begins 22 = .ok (.iload_n 2, 1) := by decide +kernel
theorem dX4_begins_23 : decode cX4_begins 23 = .ok (.imul, 1) := by decide +kernel
theorem dX4_begins_24 : decode cX4_begins 24 = .ok (.iconst 3, 1) := by decide +kernel
theorem dX4_begins_25 : decode cX4_begins 25 = .ok (.iload_n 1, 1) := by decide +kernel
theorem dX4_begins_26 : decode cX4_begins 26 = .ok (.imul, 1) := by decide +kernel
theorem dX4_begins_27 : decode cX4_begins 27 = .ok (.iadd, 1) := by decide +kernel
theorem dX4_begins_28 : decode cX4_begins 28 = .ok (.iload_n 2, 1) := by decide +kernel
theorem dX4_begins_29 : decode cX4_begins 29 = .ok (.iadd, 1) := by decide +kernel
theorem dX4_begins_30 : decode cX4_begins 30 = .ok (.iaload, 1) := by decide +kernel
theorem dX4_begins_31 : decode cX4_begins 31 = .ok (.istore 4, 2) := by decide +kernel
theorem dX4_begins_33 : decode cX4_begins 33 = .ok (.iload_n 3, 1) := by decide +kernel
theorem dX4_begins_34 : decode cX4_begins 34 = .ok (.iload 4, 2) := by decide +kernel
theorem dX4_begins_36 : decode cX4_begins 36 = .ok (.if_icmp .ge 7, 3) := by decide +kernel
theorem dX4_begins_39 : decode cX4_begins 39 = .ok (.iload_n 3, 1) := by decide +kernel
theorem dX4_begins_40 : decode cX4_begins 40 = .ok (.goto 5, 3) := by decide +kernel
theorem dX4_begins_43 : decode cX4_begins 43 = .ok (.iload 4, 2) := by decide +kernel
theorem dX4_begins_45 : decode cX4_begins 45 = .ok (.ireturn, 1) := by decide +kernel
theorem dX4_nextOf_0 : decode cX4_nextOf 0 = .ok (.iconst (-1), 1) := by decide +kernel
theorem dX4_nextOf_1 : decode cX4_nextOf 1 = .ok (.istore_n 3, 1) := by decide +kernel
theorem dX4_nextOf_2 : decode cX4_nextOf 2 = .ok (.iconst 0, 1) := by decide +kernel
theorem dX4_nextOf_3 : decode cX4_nextOf 3 = .ok (.istore 4, 2) := by decide +kernel
theorem dX4_nextOf_5 : decode cX4_nextOf 5 = .ok (.iload 4, 2) := by decide +kernel
theorem dX4_nextOf_7 : decode cX4_nextOf 7 = .ok (.iconst 4, 1) := by decide +kernel
theorem dX4_nextOf_8 : decode cX4_nextOf 8 = .ok (.if_icmp .ge 55, 3) := by decide +kernel
theorem dX4_nextOf_11 : decode cX4_nextOf 11 = .ok (.aload_n 0, 1) := by decide +kernel
theorem dX4_nextOf_12 : decode cX4_nextOf 12 = .ok (.getfield 38, 3) := by decide +kernel
theorem dX4_nextOf_15 : decode cX4_nextOf 15 = .ok (.iconst 4, 1) := by decide +kernel
theorem dX4_nextOf_16 : decode cX4_nextOf 16 = .ok (.iload_n 1, 1) := by decide +kernel
theorem dX4_nextOf_17 : decode cX4_nextOf 17 = .ok (.imul, 1) := by decide +kernel
theorem dX4_nextOf_18 : decode cX4_nextOf 18 = .ok (.iload 4, 2) := by decide +kernel
theorem dX4_nextOf_20 : decode cX4_nextOf 20 = .ok (.iadd, 1) := by decide +kernel
theorem dX4_nextOf_21 : decode cX4_nextOf 21 = .ok (.iaload, 1) := by decide +kernel
theorem dX4_nextOf_22 : decode cX4_nextOf 22 = .ok (.istore 5, 2) := by decide +kernel
theorem dX4_nextOf_24 : decode cX4_nextOf 24 = .ok (.iload 5, 2) := by decide +kernel
theorem dX4_nextOf_26 : decode cX4_nextOf 26 = .ok (.iload_n 2, 1) := by decide +kernel
theorem dX4_nextOf_27 : decode cX4_nextOf 27 = .ok (.if_icmp .le 28, 3) := by decide +kernel
theorem dX4_nextOf_30 : decode cX4_nextOf 30 = .ok (.iload_n 3, 1) := by decide +kernel
theorem dX4_nextOf_31 : decode cX4_nextOf 31 = .ok (.iconst (-1), 1) := by decide +kernel
theorem dX4_nextOf_32 : decode cX4_nextOf 32 = .ok (.if_icmp .eq 18, 3) := by decide +kernel
theorem dX4_nextOf_35 : decode cX4_nextOf 35 = .ok (.iload 5, 2) := by decide +kernel
theorem dX4_nextOf_37 : decode cX4_nextOf 37 = .ok (.aload_n 0, 1) := by decide +kernel
theorem dX4_nextOf_38 : decode cX4_nextOf 38 = .ok (.getfield 38, 3) := by decide +kernel
theorem dX4_nextOf_41 : decode cX4_nextOf 41 = .ok (.iconst 4, 1) := by decide +kernel
theorem dX4_nextOf_42 : decode cX4_nextOf 42 = .ok (.iload_n 1, 1) := by decide +kernel
theorem dX4_nextOf_43 : decode cX4_nextOf 43 = .ok (.imul, 1) := by decide +kernel
theorem dX4_nextOf_44 : decode cX4_nextOf 44 = .ok (.iload_n 3, 1) := by decide +kernel
theorem dX4_nextOf_45 : decode cX4_nextOf 45 = .ok (.iadd, 1) := by decide +kernel
theorem dX4_nextOf_46 : decode cX4_nextOf 46 = .ok (.iaload, 1) := by decide +kernel
theorem dX4_nextOf_47 : decode cX4_nextOf 47 = .ok (.if_icmp .ge 8, 3) := by decide +kernel
theorem dX4_nextOf_50 : decode cX4_nextOf 50 = .ok (.iload 4, 2) := by decide +kernel
theorem dX4_nextOf_52 : decode cX4_nextOf 52 = .ok (.goto 4, 3) := by decide +kernel
theorem dX4_nextOf_55 : decode cX4_nextOf 55 = .ok (.iload_n 3, 1) := by decide +kernel
theorem dX4_nextOf_56 : decode cX4_nextOf 56 = .ok (.istore_n 3, 1) := by decide +kernel
theorem dX4_nextOf_57 : decode cX4_nextOf 57 = .ok (.iinc 4 1, 3) := by decide +kernel
theorem dX4_nextOf_60 : decode cX4_nextOf 60 = .ok (.goto (-55), 3) := by decide +kernel
theorem dX4_nextOf_63 : decode cX4_nextOf 63 = .ok (.iload_n 3, 1) := by decide +kernel
theorem dX4_nextOf_64 : decode cX4_nextOf 64 = .ok (.ireturn, 1) := by decide +kernel
set_option maxRecDepth 20000 in
theorem ggX4_gets_X4_leaf : GoodIn wsX4_gets wsX4_leaf := goodIn_r _ [9, 3, 10, 11, 12, 8, 13, 1, 14, 15, 16, 17, 4, 34, 35, 36, 37, 38, 39, 40, 41, 42, 43, 44, 45, 46] (by decide +kernel) (by decide +kernel)
set_option maxRecDepth 20000 in
theorem gX4_gets_X4_leaf : GoodIn wsX4_gets (wsV RX4 62 RX4 yX4_leaf wsX4_leaf) := goodIn_app (goodIn_of _ (by decide +kernel)) ggX4_gets_X4_leaf
set_option maxRecDepth 20000 in
theorem ggX4_gets_X4_hasDescendant : GoodIn wsX4_gets wsX4_hasDescendant := goodIn_r _ [13, 1, 3, 14, 15, 16, 8, 17, 4, 34, 35, 36, 37, 38, 39, 40, 41, 42, 43, 44, 45, 46] (by decide +kernel) (by decide +kernel)
set_option maxRecDepth 20000 in
theorem gX4_gets_X4_hasDescendant : GoodIn wsX4_gets (wsV RX4 59 RX4 yX4_hasDescendant wsX4_hasDescendant) := goodIn_app (goodIn_of _ (by decide +kernel)) ggX4_gets_X4_hasDescendant
set_option maxRecDepth 20000 in
theorem ggX4_gets_X4_touches : GoodIn wsX4_gets wsX4_touches := goodIn_r _ [21, 22, 23, 34, 35, 36, 37, 38, 39, 40, 41, 42, 43, 44, 45, 46] (by decide +kernel) (by decide +kernel)
set_option maxRecDepth 20000 in
theorem gX4_gets_X4_touches : GoodIn wsX4_gets (wsV RX4 75 RX4 yX4_touches wsX4_touches) := goodIn_app (goodIn_of _ (by decide +kernel)) ggX4_gets_X4_touches
set_option maxRecDepth 20000 in
theorem ggX4_gets_X4_stems : GoodIn wsX4_gets wsX4_stems := goodIn_r _ [27, 1, 3, 28, 29, 30, 8, 31, 32, 33, 14, 15, 16, 17, 4, 5, 6, 7, 9, 10, 11, 12, 13, 34, 35, 36, 37, 38, 39, 40, 41, 42, 43, 44, 45, 46] (by decide +kernel) (by decide +kernel)
set_option maxRecDepth 20000 in
theorem gX4_gets_X4_stems : GoodIn wsX4_gets (wsV RX4 79 RX4 yX4_stems wsX4_stems) := goodIn_app (goodIn_of _ (by decide +kernel)) ggX4_gets_X4_stems
theorem dX4_gets_0 : decode cX4_gets 0 = .ok (.iconst 0, 1) := by decide +kernel
theorem dX4_gets_1 : decode cX4_gets 1 = .ok (.istore 4, 2) := by decide +kernel
theorem dX4_gets_3 : decode cX4_gets 3 = .ok (.iconst 0, 1) := by decide +kernel
theorem dX4_gets_4 : decode cX4_gets 4 = .ok (.istore 5, 2) := by decide +kernel
theorem dX4_gets_6 : decode cX4_gets 6 = .ok (.iload 5, 2) := by decide +kernel
theorem dX4_gets_8 : decode cX4_gets 8 = .ok (.aload_n 0, 1) := by decide +kernel
theorem dX4_gets_9 : decode cX4_gets 9 = .ok (.getfield 52, 3) := by decide +kernel
theorem dX4_gets_12 : decode cX4_gets 12 = .ok (.if_icmp .ge 183, 3) := by decide +kernel
theorem dX4_gets_15 : decode cX4_gets 15 = .ok (.aload_n 0, 1) := by decide +kernel
theorem dX4_gets_16 : decode cX4_gets 16 = .ok (.getfield 7, 3) := by decide +kernel
theorem dX4_gets_19 : decode cX4_gets 19 = .ok (.iload 5, 2) := by decide +kernel
theorem dX4_gets_21 : decode cX4_gets 21 = .ok (.iaload, 1) := by decide +kernel
theorem dX4_gets_22 : decode cX4_gets 22 = .ok (.iload_n 3, 1) := by decide +kernel
theorem dX4_gets_23 : decode cX4_gets 23 = .ok (.if_icmp .ne 43, 3) := by decide +kernel
theorem dX4_gets_26 : decode cX4_gets 26 = .ok (.aload_n 0, 1) := by decide +kernel
theorem dX4_gets_27 : decode cX4_gets 27 = .ok (.iload_n 1, 1) := by decide +kernel
theorem dX4_gets_28 : decode cX4_gets 28 = .ok (.iload 5, 2) := by decide +kernel
theorem dX4_gets_30 : decode cX4_gets 30 = .ok (.invokevirtual 62, 3) := by decide +kernel
theorem dX4_gets_33 : decode cX4_gets 33 = .ok (.ifCond .eq 33, 3) := by decide +kernel
theorem dX4_gets_36 : decode cX4_gets 36 = .ok (.aload_n 0, 1) := by decide +kernel
theorem dX4_gets_37 : decode cX4_gets 37 = .ok (.getfield 29, 3) := by decide +kernel
theorem dX4_gets_40 : decode cX4_gets 40 = .ok (.sipush 150, 3) := by decide +kernel
theorem dX4_gets_43 : decode cX4_gets 43 = .ok (.iload_n 2, 1) := by decide +kernel
theorem dX4_gets_44 : decode cX4_gets 44 = .ok (.imul, 1) := by decide +kernel
theorem dX4_gets_45 : decode cX4_gets 45 = .ok (.iload 5, 2) := by decide +kernel
theorem dX4_gets_47 : decode cX4_gets 47 = .ok (.iadd, 1) := by decide +kernel
theorem dX4_gets_48 : decode cX4_gets 48 = .ok (.baload, 1) := by decide +kernel
theorem dX4_gets_49 : decode cX4_gets 49 = .ok (.ifCond .ne 17, 3) := by decide +kernel
theorem dX4_gets_52 : decode cX4_gets 52 = .ok (.aload_n 0, 1) := by decide +kernel
theorem dX4_gets_53 : decode cX4_gets 53 = .ok (.iload_n 2, 1) := by decide +kernel
theorem dX4_gets_54 : decode cX4_gets 54 = .ok (.iload 5, 2) := by decide +kernel
theorem dX4_gets_56 : decode cX4_gets 56 = .ok (.invokevirtual 59, 3) := by decide +kernel
theorem dX4_gets_59 : decode cX4_gets 59 = .ok (.ifCond .ne 7, 3) := by decide +kernel
theorem dX4_gets_62 : decode cX4_gets 62 = .ok (.iconst 1, 1) := by decide +kernel
theorem dX4_gets_63 : decode cX4_gets 63 = .ok (.goto 4, 3) := by decide +kernel
theorem dX4_gets_66 : decode cX4_gets 66 = .ok (.iconst 0, 1) := by decide +kernel
theorem dX4_gets_67 : decode cX4_gets 67 = .ok (.istore 6, 2) := by decide +kernel
theorem dX4_gets_69 : decode cX4_gets 69 = .ok (.iload 5, 2) := by decide +kernel
theorem dX4_gets_71 : decode cX4_gets 71 = .ok (.istore 7, 2) := by decide +kernel
theorem dX4_gets_73 : decode cX4_gets 73 = .ok (.iload 7, 2) := by decide +kernel
theorem dX4_gets_75 : decode cX4_gets 75 = .ok (.iconst (-1), 1) := by decide +kernel
theorem dX4_gets_76 : decode cX4_gets 76 = .ok (.if_icmp .eq 113, 3) := by decide +kernel
theorem dX4_gets_79 : decode cX4_gets 79 = .ok (.iload 6, 2) := by decide +kernel
theorem dX4_gets_81 : decode cX4_gets 81 = .ok (.ifCond .eq 108, 3) := by decide +kernel
theorem dX4_gets_84 : decode cX4_gets 84 = .ok (.aload_n 0, 1) := by decide +kernel
theorem dX4_gets_85 : decode cX4_gets 85 = .ok (.getfield 29, 3) := by decide +kernel
theorem dX4_gets_88 : decode cX4_gets 88 = .ok (.sipush 150, 3) := by decide +kernel
theorem dX4_gets_91 : decode cX4_gets 91 = .ok (.iload_n 1, 1) := by decide +kernel
theorem dX4_gets_92 : decode cX4_gets 92 = .ok (.imul, 1) := by decide +kernel
theorem dX4_gets_93 : decode cX4_gets 93 = .ok (.iload 7, 2) := by decide +kernel
theorem dX4_gets_95 : decode cX4_gets 95 = .ok (.iadd, 1) := by decide +kernel
theorem dX4_gets_96 : decode cX4_gets 96 = .ok (.baload, 1) := by decide +kernel
theorem dX4_gets_97 : decode cX4_gets 97 = .ok (.ifCond .eq 23, 3) := by decide +kernel
theorem dX4_gets_100 : decode cX4_gets 100 = .ok (.aload_n 0, 1) := by decide +kernel
theorem dX4_gets_101 : decode cX4_gets 101 = .ok (.getfield 29, 3) := by decide +kernel
theorem dX4_gets_104 : decode cX4_gets 104 = .ok (.sipush 150, 3) := by decide +kernel
theorem dX4_gets_107 : decode cX4_gets 107 = .ok (.iload_n 2, 1) := by decide +kernel
theorem dX4_gets_108 : decode cX4_gets 108 = .ok (.imul, 1) := by decide +kernel
theorem dX4_gets_109 : decode cX4_gets 109 = .ok (.iload 7, 2) := by decide +kernel
theorem dX4_gets_111 : decode cX4_gets 111 = .ok (.iadd, 1) := by decide +kernel
theorem dX4_gets_112 : decode cX4_gets 112 = .ok (.baload, 1) := by decide +kernel
theorem dX4_gets_113 : decode cX4_gets 113 = .ok (.ifCond .ne 7, 3) := by decide +kernel
theorem dX4_gets_116 : decode cX4_gets 116 = .ok (.iconst 1, 1) := by decide +kernel
theorem dX4_gets_117 : decode cX4_gets 117 = .ok (.goto 4, 3) := by decide +kernel
theorem dX4_gets_120 : decode cX4_gets 120 = .ok (.iconst 0, 1) := by decide +kernel
theorem dX4_gets_121 : decode cX4_gets 121 = .ok (.istore 8, 2) := by decide +kernel
theorem dX4_gets_123 : decode cX4_gets 123 = .ok (.aload_n 0, 1) := by decide +kernel
theorem dX4_gets_124 : decode cX4_gets 124 = .ok (.getfield 29, 3) := by decide +kernel
theorem dX4_gets_127 : decode cX4_gets 127 = .ok (.sipush 150, 3) := by decide +kernel
theorem dX4_gets_130 : decode cX4_gets 130 = .ok (.iload_n 2, 1) := by decide +kernel
theorem dX4_gets_131 : decode cX4_gets 131 = .ok (.imul, 1) := by decide +kernel
theorem dX4_gets_132 : decode cX4_gets 132 = .ok (.iload 7, 2) := by decide +kernel
theorem dX4_gets_134 : decode cX4_gets 134 = .ok (.iadd, 1) := by decide +kernel
theorem dX4_gets_135 : decode cX4_gets 135 = .ok (.iload 8, 2) := by decide +kernel
theorem dX4_gets_137 : decode cX4_gets 137 = .ok (.ifCond .ne 19, 3) := by decide +kernel
theorem dX4_gets_140 : decode cX4_gets 140 = .ok (.aload_n 0, 1) := by decide +kernel
theorem dX4_gets_141 : decode cX4_gets 141 = .ok (.getfield 29, 3) := by decide +kernel
theorem dX4_gets_144 : decode cX4_gets 144 = .ok (.sipush 150, 3) := by decide +kernel
theorem dX4_gets_147 : decode cX4_gets 147 = .ok (.iload_n 2, 1) := by decide +kernel
theorem dX4_gets_148 : decode cX4_gets 148 = .ok (.imul, 1) := by decide +kernel
theorem dX4_gets_149 : decode cX4_gets 149 = .ok (.iload 7, 2) := by decide +kernel
theorem dX4_gets_151 : decode cX4_gets 151 = .ok (.iadd, 1) := by decide +kernel
theorem dX4_gets_152 : decode cX4_gets 152 = .ok (.baload, 1) := by decide +kernel
theorem dX4_gets_153 : decode cX4_gets 153 = .ok (.ifCond .eq 7, 3) := by decide +kernel
theorem dX4_gets_156 : decode cX4_gets 156 = .ok (.iconst 1, 1) := by decide +kernel
theorem dX4_gets_157 : decode cX4_gets 157 = .ok (.goto 4, 3) := by decide +kernel
theorem dX4_gets_160 : decode cX4_gets 160 = .ok (.iconst 0, 1) := by decide +kernel
theorem dX4_gets_161 : decode cX4_gets 161 = .ok (.bastore, 1) := by decide +kernel
theorem dX4_gets_162 : decode cX4_gets 162 = .ok (.iload 4, 2) := by decide +kernel
theorem dX4_gets_164 : decode cX4_gets 164 = .ok (.iload 8, 2) := by decide +kernel
theorem dX4_gets_166 : decode cX4_gets 166 = .ok (.ifCond .eq 7, 3) := by decide +kernel
theorem dX4_gets_169 : decode cX4_gets 169 = .ok (.iconst 1, 1) := by decide +kernel
theorem dX4_gets_170 : decode cX4_gets 170 = .ok (.goto 4, 3) := by decide +kernel
theorem dX4_gets_173 : decode cX4_gets 173 = .ok (.iconst 0, 1) := by decide +kernel
theorem dX4_gets_174 : decode cX4_gets 174 = .ok (.iadd, 1) := by decide +kernel
theorem dX4_gets_175 : decode cX4_gets 175 = .ok (.istore 4, 2) := by decide +kernel
theorem dX4_gets_177 : decode cX4_gets 177 = .ok (.aload_n 0, 1) := by decide +kernel
theorem dX4_gets_178 : decode cX4_gets 178 = .ok (.getfield 13, 3) := by decide +kernel
theorem dX4_gets_181 : decode cX4_gets 181 = .ok (.iload 7, 2) := by decide +kernel
theorem dX4_gets_183 : decode cX4_gets 183 = .ok (.iaload, 1) := by decide +kernel
theorem dX4_gets_184 : decode cX4_gets 184 = .ok (.istore 7, 2) := by decide +kernel
theorem dX4_gets_186 : decode cX4_gets 186 = .ok (.goto (-113), 3) := by decide +kernel
theorem dX4_gets_189 : decode cX4_gets 189 = .ok (.iinc 5 1, 3) := by decide +kernel
theorem dX4_gets_192 : decode cX4_gets 192 = .ok (.goto (-186), 3) := by decide +kernel
theorem dX4_gets_195 : decode cX4_gets 195 = .ok (.iload 4, 2) := by decide +kernel
theorem dX4_gets_197 : decode cX4_gets 197 = .ok (.ifCond .le 15, 3) := by decide +kernel
theorem dX4_gets_200 : decode cX4_gets 200 = .ok (.aload_n 0, 1) := by decide +kernel
theorem dX4_gets_201 : decode cX4_gets 201 = .ok (.iload_n 2, 1) := by decide +kernel
theorem dX4_gets_202 : decode cX4_gets 202 = .ok (.iload_n 3, 1) := by decide +kernel
theorem dX4_gets_203 : decode cX4_gets 203 = .ok (.invokevirtual 75, 3) := by decide +kernel
theorem dX4_gets_206 : decode cX4_gets 206 = .ok (.aload_n 0, 1) := by decide +kernel
theorem dX4_gets_207 : decode cX4_gets 207 = .ok (.iload_n 2, 1) := by decide +kernel
theorem dX4_gets_208 : decode cX4_gets 208 = .ok (.invokevirtual 79, 3) := by decide +kernel
theorem dX4_gets_211 : decode cX4_gets 211 = .ok (.pop, 1) := by decide +kernel
theorem dX4_gets_212 : decode cX4_gets 212 = .ok (.iload 4, 2) := by decide +kernel
theorem dX4_gets_214 : decode cX4_gets 214 = .ok (.ireturn, 1) := by decide +kernel
set_option maxRecDepth 20000 in
theorem ggX4_replicate_X4_isStore : GoodIn wsX4_replicate wsX4_isStore := goodIn_r _ [7, 8, 9, 6, 10] (by decide +kernel) (by decide +kernel)
set_option maxRecDepth 20000 in
theorem gX4_replicate_X4_isStore : GoodIn wsX4_replicate (va_wsS RX4 87 yX4_isStore wsX4_isStore) := goodIn_app (goodIn_of _ (by decide +kernel)) ggX4_replicate_X4_isStore
set_option maxRecDepth 20000 in
theorem ggX4_replicate_X4_in : GoodIn wsX4_replicate wsX4_in := goodIn_r _ [10] (by decide +kernel) (by decide +kernel)
set_option maxRecDepth 20000 in
theorem gX4_replicate_X4_in : GoodIn wsX4_replicate (va_wsS RX4 48 yX4_in wsX4_in) := goodIn_app (goodIn_of _ (by decide +kernel)) ggX4_replicate_X4_in
set_option maxRecDepth 20000 in
theorem ggX4_replicate_X4_goes : GoodIn wsX4_replicate wsX4_goes := goodIn_r _ [14, 15, 58, 59, 60, 61, 62, 63, 64, 65, 66, 67, 68, 69, 70] (by decide +kernel) (by decide +kernel)
set_option maxRecDepth 20000 in
theorem gX4_replicate_X4_goes : GoodIn wsX4_replicate (wsV RX4 100 RX4 yX4_goes wsX4_goes) := goodIn_app (goodIn_of _ (by decide +kernel)) ggX4_replicate_X4_goes
set_option maxRecDepth 20000 in
theorem ggX4_replicate_X4_begins : GoodIn wsX4_replicate wsX4_begins := goodIn_r _ [19, 3, 58, 59, 60, 61, 62, 63, 64, 65, 66, 67, 68, 69, 70] (by decide +kernel) (by decide +kernel)
set_option maxRecDepth 20000 in
theorem gX4_replicate_X4_begins : GoodIn wsX4_replicate (wsV RX4 108 RX4 yX4_begins wsX4_begins) := goodIn_app (goodIn_of _ (by decide +kernel)) ggX4_replicate_X4_begins
set_option maxRecDepth 20000 in
theorem ggX4_replicate_X4_nextOf : GoodIn wsX4_replicate wsX4_nextOf := goodIn_r _ [23, 1, 58, 59, 60, 61, 62, 63, 64, 65, 66, 67, 68, 69, 70] (by decide +kernel) (by decide +kernel)
set_option maxRecDepth 20000 in
theorem gX4_replicate_X4_nextOf : GoodIn wsX4_replicate (wsV RX4 111 RX4 yX4_nextOf wsX4_nextOf) := goodIn_app (goodIn_of _ (by decide +kernel)) ggX4_replicate_X4_nextOf
set_option maxRecDepth 20000 in
theorem ggX4_replicate_X4_gets : GoodIn wsX4_replicate wsX4_gets := goodIn_r _ [27, 28, 29, 30, 31, 32, 33, 34, 6, 35, 36, 37, 38, 39, 40, 41, 42, 43, 44, 45, 46, 47, 2, 1, 48, 49, 50, 51, 52, 53, 54, 55, 56, 57, 58, 59, 60, 61, 62, 63, 64, 65, 66, 67, 68, 69, 70] (by decide +kernel) (by decide +kernel)
set_option maxRecDepth 20000 in
theorem gX4_replicate_X4_gets : GoodIn wsX4_replicate (wsV RX4 114 RX4 yX4_gets wsX4_gets) := goodIn_app (goodIn_of _ (by decide +kernel)) ggX4_replicate_X4_gets
theorem dX4_replicate_0 : decode cX4_replicate 0 = .ok (.aload_n 0, 1) := by decide +kernel
theorem dX4_replicate_1 : decode cX4_replicate 1 = .ok (.iload_n 1, 1) := by decide +kernel
theorem dX4_replicate_2 : decode cX4_replicate 2 = .ok (.invokestatic 87, 3) := by decide +kernel
theorem dX4_replicate_5 : decode cX4_replicate 5 = .ok (.ifCond .eq 14, 3) := by decide +kernel
theorem dX4_replicate_8 : decode cX4_replicate 8 = .ok (.iload_n 2, 1) := by decide +kernel
theorem dX4_replicate_9 : decode cX4_replicate 9 = .ok (.invokestatic 87, 3) := by decide +kernel
theorem dX4_replicate_12 : decode cX4_replicate 12 = .ok (.ifCond .eq 7, 3) := by decide +kernel
theorem dX4_replicate_15 : decode cX4_replicate 15 = .ok (.iconst 1, 1) := by decide +kernel
theorem dX4_replicate_16 : decode cX4_replicate 16 = .ok (.goto 4, 3) := by decide +kernel
theorem dX4_replicate_19 : decode cX4_replicate 19 = .ok (.iconst 0, 1) := by decide +kernel
theorem dX4_replicate_20 : decode cX4_replicate 20 = .ok (.iload_n 3, 1) := by decide +kernel
theorem dX4_replicate_21 : decode cX4_replicate 21 = .ok (.iconst 1, 1) := by decide +kernel
theorem dX4_replicate_22 : decode cX4_replicate 22 = .ok (.iconst 4, 1) := by decide +kernel
theorem dX4_replicate_23 : decode cX4_replicate 23 = .ok (.invokestatic 48, 3) := by decide +kernel
theorem dX4_replicate_26 : decode cX4_replicate 26 = .ok (.ifCond .eq 12, 3) := by decide +kernel
theorem dX4_replicate_29 : decode cX4_replicate 29 = .ok (.iload_n 1, 1) := by decide +kernel
theorem dX4_replicate_30 : decode cX4_replicate 30 = .ok (.iload_n 2, 1) := by decide +kernel
theorem dX4_replicate_31 : decode cX4_replicate 31 = .ok (.if_icmp .eq 7, 3) := by decide +kernel
theorem dX4_replicate_34 : decode cX4_replicate 34 = .ok (.iconst 1, 1) := by decide +kernel
theorem dX4_replicate_35 : decode cX4_replicate 35 = .ok (.goto 4, 3) := by decide +kernel
theorem dX4_replicate_38 : decode cX4_replicate 38 = .ok (.iconst 0, 1) := by decide +kernel
theorem dX4_replicate_39 : decode cX4_replicate 39 = .ok (.iconst 1, 1) := by decide +kernel
theorem dX4_replicate_40 : decode cX4_replicate 40 = .ok (.invokevirtual 100, 3) := by decide +kernel
theorem dX4_replicate_43 : decode cX4_replicate 43 = .ok (.ifCond .ne 5, 3) := by decide +kernel
theorem dX4_replicate_46 : decode cX4_replicate 46 = .ok (.iconst 0, 1) := by decide +kernel
theorem dX4_replicate_47 : decode cX4_replicate 47 = .ok (.ireturn, 1) := by decide +kernel
theorem dX4_replicate_48 : decode cX4_replicate 48 = .ok (.iconst 0, 1) := by decide +kernel
theorem dX4_replicate_49 : decode cX4_replicate 49 = .ok (.istore 4, 2) := by decide +kernel
theorem dX4_replicate_51 : decode cX4_replicate 51 = .ok (.aload_n 0, 1) := by decide +kernel
theorem dX4_replicate_52 : decode cX4_replicate 52 = .ok (.iload_n 1, 1) := by decide +kernel
theorem dX4_replicate_53 : decode cX4_replicate 53 = .ok (.iload_n 2, 1) := by decide +kernel
theorem dX4_replicate_54 : decode cX4_replicate 54 = .ok (.invokevirtual 108, 3) := by decide +kernel
theorem dX4_replicate_57 : decode cX4_replicate 57 = .ok (.istore 5, 2) := by decide +kernel
theorem dX4_replicate_59 : decode cX4_replicate 59 = .ok (.iconst 0, 1) := by decide +kernel
theorem dX4_replicate_60 : decode cX4_replicate 60 = .ok (.istore 6, 2) := by decide +kernel
theorem dX4_replicate_62 : decode cX4_replicate 62 = .ok (.iload 6, 2) := by decide +kernel
theorem dX4_replicate_64 : decode cX4_replicate 64 = .ok (.iload_n 3, 1) := by decide +kernel
theorem dX4_replicate_65 : decode cX4_replicate 65 = .ok (.if_icmp .ge 55, 3) := by decide +kernel
theorem dX4_replicate_68 : decode cX4_replicate 68 = .ok (.aload_n 0, 1) := by decide +kernel
theorem dX4_replicate_69 : decode cX4_replicate 69 = .ok (.iload_n 1, 1) := by decide +kernel
theorem dX4_replicate_70 : decode cX4_replicate 70 = .ok (.iload 5, 2) := by decide +kernel
theorem dX4_replicate_72 : decode cX4_replicate 72 = .ok (.invokevirtual 111, 3) := by decide +kernel
theorem dX4_replicate_75 : decode cX4_replicate 75 = .ok (.iconst (-1), 1) := by decide +kernel
theorem dX4_replicate_76 : decode cX4_replicate 76 = .ok (.if_icmp .eq 44, 3) := by decide +kernel
theorem dX4_replicate_79 : decode cX4_replicate 79 = .ok (.aload_n 0, 1) := by decide +kernel
theorem dX4_replicate_80 : decode cX4_replicate 80 = .ok (.iload_n 1, 1) := by decide +kernel
theorem dX4_replicate_81 : decode cX4_replicate 81 = .ok (.iload 5, 2) := by decide +kernel
theorem dX4_replicate_83 : decode cX4_replicate 83 = .ok (.invokevirtual 111, 3) := by decide +kernel
theorem dX4_replicate_86 : decode cX4_replicate 86 = .ok (.istore 7, 2) := by decide +kernel
theorem dX4_replicate_88 : decode cX4_replicate 88 = .ok (.iload 4, 2) := by decide +kernel
theorem dX4_replicate_90 : decode cX4_replicate 90 = .ok (.aload_n 0, 1) := by decide +kernel
theorem dX4_replicate_91 : decode cX4_replicate 91 = .ok (.iload_n 1, 1) := by decide +kernel
theorem dX4_replicate_92 : decode cX4_replicate 92 = .ok (.iload_n 2, 1) := by decide +kernel
theorem dX4_replicate_93 : decode cX4_replicate 93 = .ok (.iload 7, 2) := by decide +kernel
theorem dX4_replicate_95 : decode cX4_replicate 95 = .ok (.invokevirtual 114, 3) := by decide +kernel
theorem dX4_replicate_98 : decode cX4_replicate 98 = .ok (.iadd, 1) := by decide +kernel
theorem dX4_replicate_99 : decode cX4_replicate 99 = .ok (.istore 4, 2) := by decide +kernel
theorem dX4_replicate_101 : decode cX4_replicate 101 = .ok (.aload_n 0, 1) := by decide +kernel
theorem dX4_replicate_102 : decode cX4_replicate 102 = .ok (.getfield 38, 3) := by decide +kernel
theorem dX4_replicate_105 : decode cX4_replicate 105 = .ok (.iconst 4, 1) := by decide +kernel
theorem dX4_replicate_106 : decode cX4_replicate 106 = .ok (.iload_n 1, 1) := by decide +kernel
theorem dX4_replicate_107 : decode cX4_replicate 107 = .ok (.imul, 1) := by decide +kernel
theorem dX4_replicate_108 : decode cX4_replicate 108 = .ok (.iload 7, 2) := by decide +kernel
theorem dX4_replicate_110 : decode cX4_replicate 110 = .ok (.iadd, 1) := by decide +kernel
theorem dX4_replicate_111 : decode cX4_replicate 111 = .ok (.iaload, 1) := by decide +kernel
theorem dX4_replicate_112 : decode cX4_replicate 112 = .ok (.istore 5, 2) := by decide +kernel
theorem dX4_replicate_114 : decode cX4_replicate 114 = .ok (.iinc 6 1, 3) := by decide +kernel
theorem dX4_replicate_117 : decode cX4_replicate 117 = .ok (.goto (-55), 3) := by decide +kernel
theorem dX4_replicate_120 : decode cX4_replicate 120 = .ok (.aload_n 0, 1) := by decide +kernel
theorem dX4_replicate_121 : decode cX4_replicate 121 = .ok (.iload_n 1, 1) := by decide +kernel
theorem dX4_replicate_122 : decode cX4_replicate 122 = .ok (.iload 5, 2) := by decide +kernel
theorem dX4_replicate_124 : decode cX4_replicate 124 = .ok (.invokevirtual 111, 3) := by decide +kernel
theorem dX4_replicate_127 : decode cX4_replicate 127 = .ok (.iconst (-1), 1) := by decide +kernel
theorem dX4_replicate_128 : decode cX4_replicate 128 = .ok (.if_icmp .ne 12, 3) := by decide +kernel
theorem dX4_replicate_131 : decode cX4_replicate 131 = .ok (.aload_n 0, 1) := by decide +kernel
theorem dX4_replicate_132 : decode cX4_replicate 132 = .ok (.getfield 35, 3) := by decide +kernel
theorem dX4_replicate_135 : decode cX4_replicate 135 = .ok (.iload_n 1, 1) := by decide +kernel
theorem dX4_replicate_136 : decode cX4_replicate 136 = .ok (.iaload, 1) := by decide +kernel
theorem dX4_replicate_137 : decode cX4_replicate 137 = .ok (.goto 5, 3) := by decide +kernel
theorem dX4_replicate_140 : decode cX4_replicate 140 = .ok (.iload 5, 2) := by decide +kernel
theorem dX4_replicate_142 : decode cX4_replicate 142 = .ok (.istore 5, 2) := by decide +kernel
theorem dX4_replicate_144 : decode cX4_replicate 144 = .ok (.aload_n 0, 1) := by decide +kernel
theorem dX4_replicate_145 : decode cX4_replicate 145 = .ok (.getfield 41, 3) := by decide +kernel
theorem dX4_replicate_148 : decode cX4_replicate 148 = .ok (.bipush 9, 2) := by decide +kernel
theorem dX4_replicate_150 : decode cX4_replicate 150 = .ok (.iload_n 1, 1) := by decide +kernel
theorem dX4_replicate_151 : decode cX4_replicate 151 = .ok (.imul, 1) := by decide +kernel
theorem dX4_replicate_152 : decode cX4_replicate 152 = .ok (.iconst 3, 1) := by decide +kernel
theorem dX4_replicate_153 : decode cX4_replicate 153 = .ok (.iload_n 1, 1) := by decide +kernel
theorem dX4_replicate_154 : decode cX4_replicate 154 = .ok (.imul, 1) := by decide +kernel
theorem dX4_replicate_155 : decode cX4_replicate 155 = .ok (.iadd, 1) := by decide +kernel
theorem dX4_replicate_156 : decode cX4_replicate 156 = .ok (.iload_n 2, 1) := by decide +kernel
theorem dX4_replicate_157 : decode cX4_replicate 157 = .ok (.iadd, 1) := by decide +kernel
theorem dX4_replicate_158 : decode cX4_replicate 158 = .ok (.iload 5, 2) := by decide +kernel
theorem dX4_replicate_160 : decode cX4_replicate 160 = .ok (.iastore, 1) := by decide +kernel
theorem dX4_replicate_161 : decode cX4_replicate 161 = .ok (.aload_n 0, 1) := by decide +kernel
theorem dX4_replicate_162 : decode cX4_replicate 162 = .ok (.getfield 41, 3) := by decide +kernel
theorem dX4_replicate_165 : decode cX4_replicate 165 = .ok (.bipush 9, 2) := by decide +kernel
theorem dX4_replicate_167 : decode cX4_replicate 167 = .ok (.iload_n 2, 1) := by decide +kernel
theorem dX4_replicate_168 : decode cX4_replicate 168 = .ok (.imul, 1) := by decide +kernel
theorem dX4_replicate_169 : decode cX4_replicate 169 = .ok (.iconst 3, 1) := by decide +kernel
theorem dX4_replicate_170 : decode cX4_replicate 170 = .ok (.iload_n 1, 1) := by decide +kernel
theorem dX4_replicate_171 : decode cX4_replicate 171 = .ok (.imul, 1) := by decide +kernel
theorem dX4_replicate_172 : decode cX4_replicate 172 = .ok (.iadd, 1) := by decide +kernel
theorem dX4_replicate_173 : decode cX4_replicate 173 = .ok (.iload_n 2, 1) := by decide +kernel
theorem dX4_replicate_174 : decode cX4_replicate 174 = .ok (.iadd, 1) := by decide +kernel
theorem dX4_replicate_175 : decode cX4_replicate 175 = .ok (.iload 5, 2) := by decide +kernel
theorem dX4_replicate_177 : decode cX4_replicate 177 = .ok (.iastore, 1) := by decide +kernel
theorem dX4_replicate_178 : decode cX4_replicate 178 = .ok (.iload 4, 2) := by decide +kernel
theorem dX4_replicate_180 : decode cX4_replicate 180 = .ok (.ireturn, 1) := by decide +kernel
set_option maxRecDepth 20000 in
theorem ggX4_pending_X4_isStore : GoodIn wsX4_pending wsX4_isStore := goodIn_r _ [5, 6, 7, 4, 8] (by decide +kernel) (by decide +kernel)
set_option maxRecDepth 20000 in
theorem gX4_pending_X4_isStore : GoodIn wsX4_pending (va_wsS RX4 87 yX4_isStore wsX4_isStore) := goodIn_app (goodIn_of _ (by decide +kernel)) ggX4_pending_X4_isStore
set_option maxRecDepth 20000 in
theorem ggX4_pending_X4_goes : GoodIn wsX4_pending wsX4_goes := goodIn_r _ [12, 13, 19, 20, 21, 22, 23, 24, 25, 26, 27, 28, 29, 30, 31] (by decide +kernel) (by decide +kernel)
set_option maxRecDepth 20000 in
theorem gX4_pending_X4_goes : GoodIn wsX4_pending (wsV RX4 100 RX4 yX4_goes wsX4_goes) := goodIn_app (goodIn_of _ (by decide +kernel)) ggX4_pending_X4_goes
set_option maxRecDepth 20000 in
theorem ggX4_pending_X4_begins : GoodIn wsX4_pending wsX4_begins := goodIn_r _ [17, 18, 19, 20, 21, 22, 23, 24, 25, 26, 27, 28, 29, 30, 31] (by decide +kernel) (by decide +kernel)
set_option maxRecDepth 20000 in
theorem gX4_pending_X4_begins : GoodIn wsX4_pending (wsV RX4 108 RX4 yX4_begins wsX4_begins) := goodIn_app (goodIn_of _ (by decide +kernel)) ggX4_pending_X4_begins
theorem dX4_pending_0 : decode cX4_pending 0 = .ok (.aload_n 0, 1) := by decide +kernel
theorem dX4_pending_1 : decode cX4_pending 1 = .ok (.iload_n 1, 1) := by decide +kernel
theorem dX4_pending_2 : decode cX4_pending 2 = .ok (.invokestatic 87, 3) := by decide +kernel
theorem dX4_pending_5 : decode cX4_pending 5 = .ok (.ifCond .eq 14, 3) := by decide +kernel
theorem dX4_pending_8 : decode cX4_pending 8 = .ok (.iload_n 2, 1) := by decide +kernel
theorem dX4_pending_9 : decode cX4_pending 9 = .ok (.invokestatic 87, 3) := by decide +kernel
theorem dX4_pending_12 : decode cX4_pending 12 = .ok (.ifCond .eq 7, 3) := by decide +kernel
theorem dX4_pending_15 : decode cX4_pending 15 = .ok (.iconst 1, 1) := by decide +kernel
theorem dX4_pending_16 : decode cX4_pending 16 = .ok (.goto 4, 3) := by decide +kernel
theorem dX4_pending_19 : decode cX4_pending 19 = .ok (.iconst 0, 1) := by decide +kernel
theorem dX4_pending_20 : decode cX4_pending 20 = .ok (.iload_n 1, 1) := by decide +kernel
theorem dX4_pending_21 : decode cX4_pending 21 = .ok (.iload_n 2, 1) := by decide +kernel
theorem dX4_pending_22 : decode cX4_pending 22 = .ok (.if_icmp .eq 7, 3) := by decide +kernel
theorem dX4_pending_25 : decode cX4_pending 25 = .ok (.iconst 1, 1) := by decide +kernel
theorem dX4_pending_26 : decode cX4_pending 26 = .ok (.goto 4, 3) := by decide +kernel
theorem dX4_pending_29 : decode cX4_pending 29 = .ok (.iconst 0, 1) := by decide +kernel
theorem dX4_pending_30 : decode cX4_pending 30 = .ok (.iconst 1, 1) := by decide +kernel
theorem dX4_pending_31 : decode cX4_pending 31 = .ok (.invokevirtual 100, 3) := by decide +kernel
theorem dX4_pending_34 : decode cX4_pending 34 = .ok (.ifCond .ne 5, 3) := by decide +kernel
theorem dX4_pending_37 : decode cX4_pending 37 = .ok (.iconst 0, 1) := by decide +kernel
theorem dX4_pending_38 : decode cX4_pending 38 = .ok (.ireturn, 1) := by decide +kernel
theorem dX4_pending_39 : decode cX4_pending 39 = .ok (.iconst 0, 1) := by decide +kernel
theorem dX4_pending_40 : decode cX4_pending 40 = .ok (.istore_n 3, 1) := by decide +kernel
theorem dX4_pending_41 : decode cX4_pending 41 = .ok (.iconst 0, 1) := by decide +kernel
theorem dX4_pending_42 : decode cX4_pending 42 = .ok (.istore 4, 2) := by decide +kernel
theorem dX4_pending_44 : decode cX4_pending 44 = .ok (.iload 4, 2) := by decide +kernel
theorem dX4_pending_46 : decode cX4_pending 46 = .ok (.iconst 4, 1) := by decide +kernel
theorem dX4_pending_47 : decode cX4_pending 47 = .ok (.if_icmp .ge 37, 3) := by decide +kernel
theorem dX4_pending_50 : decode cX4_pending 50 = .ok (.iload_n 3, 1) := by decide +kernel
theorem dX4_pending_51 : decode cX4_pending 51 = .ok (.aload_n 0, 1) := by decide +kernel
theorem dX4_pending_52 : decode cX4_pending 52 = .ok (.getfield 38, 3) := by decide +kernel
theorem dX4_pending_55 : decode cX4_pending 55 = .ok (.iconst 4, 1) := by decide +kernel
theorem dX4_pending_56 : decode cX4_pending 56 = .ok (.iload_n 1, 1) := by decide +kernel
theorem dX4_pending_57 : decode cX4_pending 57 = .ok (.imul, 1) := by decide +kernel
theorem dX4_pending_58 : decode cX4_pending 58 = .ok (.iload 4, 2) := by decide +kernel
theorem dX4_pending_60 : decode cX4_pending 60 = .ok (.iadd, 1) := by decide +kernel
theorem dX4_pending_61 : decode cX4_pending 61 = .ok (.iaload, 1) := by decide +kernel
theorem dX4_pending_62 : decode cX4_pending 62 = .ok (.aload_n 0, 1) := by decide +kernel
theorem dX4_pending_63 : decode cX4_pending 63 = .ok (.iload_n 1, 1) := by decide +kernel
theorem dX4_pending_64 : decode cX4_pending 64 = .ok (.iload_n 2, 1) := by decide +kernel
theorem dX4_pending_65 : decode cX4_pending 65 = .ok (.invokevirtual 108, 3) := by decide +kernel
theorem dX4_pending_68 : decode cX4_pending 68 = .ok (.if_icmp .le 7, 3) := by decide +kernel
theorem dX4_pending_71 : decode cX4_pending 71 = .ok (.iconst 1, 1) := by decide +kernel
theorem dX4_pending_72 : decode cX4_pending 72 = .ok (.goto 4, 3) := by decide +kernel
theorem dX4_pending_75 : decode cX4_pending 75 = .ok (.iconst 0, 1) := by decide +kernel
theorem dX4_pending_76 : decode cX4_pending 76 = .ok (.iadd, 1) := by decide +kernel
theorem dX4_pending_77 : decode cX4_pending 77 = .ok (.istore_n 3, 1) := by decide +kernel
theorem dX4_pending_78 : decode cX4_pending 78 = .ok (.iinc 4 1, 3) := by decide +kernel
theorem dX4_pending_81 : decode cX4_pending 81 = .ok (.goto (-37), 3) := by decide +kernel
theorem dX4_pending_84 : decode cX4_pending 84 = .ok (.iload_n 3, 1) := by decide +kernel
theorem dX4_pending_85 : decode cX4_pending 85 = .ok (.ireturn, 1) := by decide +kernel
set_option maxRecDepth 20000 in
theorem ggX4_checkpoint_X4_isStore : GoodIn wsX4_checkpoint wsX4_isStore := goodIn_r _ [4, 5, 6, 3, 7] (by decide +kernel) (by decide +kernel)
set_option maxRecDepth 20000 in
theorem gX4_checkpoint_X4_isStore : GoodIn wsX4_checkpoint (va_wsS RX4 87 yX4_isStore wsX4_isStore) := goodIn_app (goodIn_of _ (by decide +kernel)) ggX4_checkpoint_X4_isStore
set_option maxRecDepth 20000 in
theorem ggX4_checkpoint_X4_goes : GoodIn wsX4_checkpoint wsX4_goes := goodIn_r _ [11, 12, 18, 19, 20, 21, 22, 23, 24, 25, 26, 27, 28, 29, 30] (by decide +kernel) (by decide +kernel)
set_option maxRecDepth 20000 in
theorem gX4_checkpoint_X4_goes : GoodIn wsX4_checkpoint (wsV RX4 100 RX4 yX4_goes wsX4_goes) := goodIn_app (goodIn_of _ (by decide +kernel)) ggX4_checkpoint_X4_goes
set_option maxRecDepth 20000 in
theorem ggX4_checkpoint_X4_begins : GoodIn wsX4_checkpoint wsX4_begins := goodIn_r _ [16, 17, 18, 19, 20, 21, 22, 23, 24, 25, 26, 27, 28, 29, 30] (by decide +kernel) (by decide +kernel)
set_option maxRecDepth 20000 in
theorem gX4_checkpoint_X4_begins : GoodIn wsX4_checkpoint (wsV RX4 108 RX4 yX4_begins wsX4_begins) := goodIn_app (goodIn_of _ (by decide +kernel)) ggX4_checkpoint_X4_begins
theorem dX4_checkpoint_0 : decode cX4_checkpoint 0 = .ok (.aload_n 0, 1) := by decide +kernel
theorem dX4_checkpoint_1 : decode cX4_checkpoint 1 = .ok (.iload_n 1, 1) := by decide +kernel
theorem dX4_checkpoint_2 : decode cX4_checkpoint 2 = .ok (.invokestatic 87, 3) := by decide +kernel
theorem dX4_checkpoint_5 : decode cX4_checkpoint 5 = .ok (.ifCond .eq 14, 3) := by decide +kernel
theorem dX4_checkpoint_8 : decode cX4_checkpoint 8 = .ok (.iload_n 2, 1) := by decide +kernel
theorem dX4_checkpoint_9 : decode cX4_checkpoint 9 = .ok (.invokestatic 87, 3) := by decide +kernel
theorem dX4_checkpoint_12 : decode cX4_checkpoint 12 = .ok (.ifCond .eq 7, 3) := by decide +kernel
theorem dX4_checkpoint_15 : decode cX4_checkpoint 15 = .ok (.iconst 1, 1) := by decide +kernel
theorem dX4_checkpoint_16 : decode cX4_checkpoint 16 = .ok (.goto 4, 3) := by decide +kernel
theorem dX4_checkpoint_19 : decode cX4_checkpoint 19 = .ok (.iconst 0, 1) := by decide +kernel
theorem dX4_checkpoint_20 : decode cX4_checkpoint 20 = .ok (.iload_n 1, 1) := by decide +kernel
theorem dX4_checkpoint_21 : decode cX4_checkpoint 21 = .ok (.iload_n 2, 1) := by decide +kernel
theorem dX4_checkpoint_22 : decode cX4_checkpoint 22 = .ok (.if_icmp .eq 7, 3) := by decide +kernel
theorem dX4_checkpoint_25 : decode cX4_checkpoint 25 = .ok (.iconst 1, 1) := by decide +kernel
theorem dX4_checkpoint_26 : decode cX4_checkpoint 26 = .ok (.goto 4, 3) := by decide +kernel
theorem dX4_checkpoint_29 : decode cX4_checkpoint 29 = .ok (.iconst 0, 1) := by decide +kernel
theorem dX4_checkpoint_30 : decode cX4_checkpoint 30 = .ok (.iconst 1, 1) := by decide +kernel
theorem dX4_checkpoint_31 : decode cX4_checkpoint 31 = .ok (.invokevirtual 100, 3) := by decide +kernel
theorem dX4_checkpoint_34 : decode cX4_checkpoint 34 = .ok (.ifCond .eq 12, 3) := by decide +kernel
theorem dX4_checkpoint_37 : decode cX4_checkpoint 37 = .ok (.aload_n 0, 1) := by decide +kernel
theorem dX4_checkpoint_38 : decode cX4_checkpoint 38 = .ok (.iload_n 1, 1) := by decide +kernel
theorem dX4_checkpoint_39 : decode cX4_checkpoint 39 = .ok (.iload_n 2, 1) := by decide +kernel
theorem dX4_checkpoint_40 : decode cX4_checkpoint 40 = .ok (.invokevirtual 108, 3) := by decide +kernel
theorem dX4_checkpoint_43 : decode cX4_checkpoint 43 = .ok (.goto 4, 3) := by decide +kernel
theorem dX4_checkpoint_46 : decode cX4_checkpoint 46 = .ok (.iconst 0, 1) := by decide +kernel
theorem dX4_checkpoint_47 : decode cX4_checkpoint 47 = .ok (.ireturn, 1) := by decide +kernel
theorem dX4_revisions_0 : decode cX4_revisions 0 = .ok (.aload_n 0, 1) := by decide +kernel
theorem dX4_revisions_1 : decode cX4_revisions 1 = .ok (.iconst 0, 1) := by decide +kernel
theorem dX4_revisions_2 : decode cX4_revisions 2 = .ok (.putfield 44, 3) := by decide +kernel
theorem dX4_revisions_5 : decode cX4_revisions 5 = .ok (.aload_n 0, 1) := by decide +kernel
theorem dX4_revisions_6 : decode cX4_revisions 6 = .ok (.getfield 52, 3) := by decide +kernel
theorem dX4_revisions_9 : decode cX4_revisions 9 = .ok (.ireturn, 1) := by decide +kernel
set_option maxRecDepth 20000 in
theorem ggX4_documentOf_X4_isRevision : GoodIn wsX4_documentOf wsX4_isRevision := goodIn_r _ [6, 7, 8, 9, 5, 10, 16, 17, 18, 19, 20, 21, 22, 23, 24, 25, 26, 27, 28] (by decide +kernel) (by decide +kernel)
set_option maxRecDepth 20000 in
theorem gX4_documentOf_X4_isRevision : GoodIn wsX4_documentOf (wsV RX4 94 RX4 yX4_isRevision wsX4_isRevision) := goodIn_app (goodIn_of _ (by decide +kernel)) ggX4_documentOf_X4_isRevision
set_option maxRecDepth 20000 in
theorem ggX4_documentOf_X4_goes : GoodIn wsX4_documentOf wsX4_goes := goodIn_r _ [14, 15, 16, 17, 18, 19, 20, 21, 22, 23, 24, 25, 26, 27, 28] (by decide +kernel) (by decide +kernel)
set_option maxRecDepth 20000 in
theorem gX4_documentOf_X4_goes : GoodIn wsX4_documentOf (wsV RX4 100 RX4 yX4_goes wsX4_goes) := goodIn_app (goodIn_of _ (by decide +kernel)) ggX4_documentOf_X4_goes
theorem dX4_documentOf_0 : decode cX4_documentOf 0 = .ok (.aload_n 0, 1) := by decide +kernel
theorem dX4_documentOf_1 : decode cX4_documentOf 1 = .ok (.aload_n 0, 1) := by decide +kernel
theorem dX4_documentOf_2 : decode cX4_documentOf 2 = .ok (.iload_n 1, 1) := by decide +kernel
theorem dX4_documentOf_3 : decode cX4_documentOf 3 = .ok (.invokevirtual 94, 3) := by decide +kernel
theorem dX4_documentOf_6 : decode cX4_documentOf 6 = .ok (.iconst 1, 1) := by decide +kernel
theorem dX4_documentOf_7 : decode cX4_documentOf 7 = .ok (.iconst 1, 1) := by decide +kernel
theorem dX4_documentOf_8 : decode cX4_documentOf 8 = .ok (.invokevirtual 100, 3) := by decide +kernel
theorem dX4_documentOf_11 : decode cX4_documentOf 11 = .ok (.ifCond .eq 12, 3) := by decide +kernel
theorem dX4_documentOf_14 : decode cX4_documentOf 14 = .ok (.aload_n 0, 1) := by decide +kernel
theorem dX4_documentOf_15 : decode cX4_documentOf 15 = .ok (.getfield 7, 3) := by decide +kernel
theorem dX4_documentOf_18 : decode cX4_documentOf 18 = .ok (.iload_n 1, 1) := by decide +kernel
theorem dX4_documentOf_19 : decode cX4_documentOf 19 = .ok (.iaload, 1) := by decide +kernel
theorem dX4_documentOf_20 : decode cX4_documentOf 20 = .ok (.goto 4, 3) := by decide +kernel
theorem dX4_documentOf_23 : decode cX4_documentOf 23 = .ok (.iconst 0, 1) := by decide +kernel
theorem dX4_documentOf_24 : decode cX4_documentOf 24 = .ok (.ireturn, 1) := by decide +kernel
set_option maxRecDepth 20000 in
theorem ggX4_parentOf_X4_isRevision : GoodIn wsX4_parentOf wsX4_isRevision := goodIn_r _ [6, 7, 8, 9, 5, 10, 16, 17, 18, 19, 20, 21, 22, 23, 24, 25, 26, 27, 28] (by decide +kernel) (by decide +kernel)
set_option maxRecDepth 20000 in
theorem gX4_parentOf_X4_isRevision : GoodIn wsX4_parentOf (wsV RX4 94 RX4 yX4_isRevision wsX4_isRevision) := goodIn_app (goodIn_of _ (by decide +kernel)) ggX4_parentOf_X4_isRevision
set_option maxRecDepth 20000 in
theorem ggX4_parentOf_X4_goes : GoodIn wsX4_parentOf wsX4_goes := goodIn_r _ [14, 15, 16, 17, 18, 19, 20, 21, 22, 23, 24, 25, 26, 27, 28] (by decide +kernel) (by decide +kernel)
set_option maxRecDepth 20000 in
theorem gX4_parentOf_X4_goes : GoodIn wsX4_parentOf (wsV RX4 100 RX4 yX4_goes wsX4_goes) := goodIn_app (goodIn_of _ (by decide +kernel)) ggX4_parentOf_X4_goes
theorem dX4_parentOf_0 : decode cX4_parentOf 0 = .ok (.aload_n 0, 1) := by decide +kernel
theorem dX4_parentOf_1 : decode cX4_parentOf 1 = .ok (.aload_n 0, 1) := by decide +kernel
theorem dX4_parentOf_2 : decode cX4_parentOf 2 = .ok (.iload_n 1, 1) := by decide +kernel
theorem dX4_parentOf_3 : decode cX4_parentOf 3 = .ok (.invokevirtual 94, 3) := by decide +kernel
theorem dX4_parentOf_6 : decode cX4_parentOf 6 = .ok (.iconst 1, 1) := by decide +kernel
theorem dX4_parentOf_7 : decode cX4_parentOf 7 = .ok (.iconst 1, 1) := by decide +kernel
theorem dX4_parentOf_8 : decode cX4_parentOf 8 = .ok (.invokevirtual 100, 3) := by decide +kernel
theorem dX4_parentOf_11 : decode cX4_parentOf 11 = .ok (.ifCond .eq 12, 3) := by decide +kernel
theorem dX4_parentOf_14 : decode cX4_parentOf 14 = .ok (.aload_n 0, 1) := by decide +kernel
theorem dX4_parentOf_15 : decode cX4_parentOf 15 = .ok (.getfield 13, 3) := by decide +kernel
theorem dX4_parentOf_18 : decode cX4_parentOf 18 = .ok (.iload_n 1, 1) := by decide +kernel
theorem dX4_parentOf_19 : decode cX4_parentOf 19 = .ok (.iaload, 1) := by decide +kernel
theorem dX4_parentOf_20 : decode cX4_parentOf 20 = .ok (.goto 4, 3) := by decide +kernel
theorem dX4_parentOf_23 : decode cX4_parentOf 23 = .ok (.iconst 0, 1) := by decide +kernel
theorem dX4_parentOf_24 : decode cX4_parentOf 24 = .ok (.ireturn, 1) := by decide +kernel
set_option maxRecDepth 20000 in
theorem ggX4_generation_X4_isRevision : GoodIn wsX4_generation wsX4_isRevision := goodIn_r _ [6, 7, 8, 9, 5, 10, 16, 17, 18, 19, 20, 21, 22, 23, 24, 25, 26, 27, 28] (by decide +kernel) (by decide +kernel)
set_option maxRecDepth 20000 in
theorem gX4_generation_X4_isRevision : GoodIn wsX4_generation (wsV RX4 94 RX4 yX4_isRevision wsX4_isRevision) := goodIn_app (goodIn_of _ (by decide +kernel)) ggX4_generation_X4_isRevision
set_option maxRecDepth 20000 in
theorem ggX4_generation_X4_goes : GoodIn wsX4_generation wsX4_goes := goodIn_r _ [14, 15, 16, 17, 18, 19, 20, 21, 22, 23, 24, 25, 26, 27, 28] (by decide +kernel) (by decide +kernel)
set_option maxRecDepth 20000 in
theorem gX4_generation_X4_goes : GoodIn wsX4_generation (wsV RX4 100 RX4 yX4_goes wsX4_goes) := goodIn_app (goodIn_of _ (by decide +kernel)) ggX4_generation_X4_goes
theorem dX4_generation_0 : decode cX4_generation 0 = .ok (.aload_n 0, 1) := by decide +kernel
theorem dX4_generation_1 : decode cX4_generation 1 = .ok (.aload_n 0, 1) := by decide +kernel
theorem dX4_generation_2 : decode cX4_generation 2 = .ok (.iload_n 1, 1) := by decide +kernel
theorem dX4_generation_3 : decode cX4_generation 3 = .ok (.invokevirtual 94, 3) := by decide +kernel
theorem dX4_generation_6 : decode cX4_generation 6 = .ok (.iconst 1, 1) := by decide +kernel
theorem dX4_generation_7 : decode cX4_generation 7 = .ok (.iconst 1, 1) := by decide +kernel
theorem dX4_generation_8 : decode cX4_generation 8 = .ok (.invokevirtual 100, 3) := by decide +kernel
theorem dX4_generation_11 : decode cX4_generation 11 = .ok (.ifCond .eq 12, 3) := by decide +kernel
theorem dX4_generation_14 : decode cX4_generation 14 = .ok (.aload_n 0, 1) := by decide +kernel
theorem dX4_generation_15 : decode cX4_generation 15 = .ok (.getfield 23, 3) := by decide +kernel
theorem dX4_generation_18 : decode cX4_generation 18 = .ok (.iload_n 1, 1) := by decide +kernel
theorem dX4_generation_19 : decode cX4_generation 19 = .ok (.iaload, 1) := by decide +kernel
theorem dX4_generation_20 : decode cX4_generation 20 = .ok (.goto 4, 3) := by decide +kernel
theorem dX4_generation_23 : decode cX4_generation 23 = .ok (.iconst 0, 1) := by decide +kernel
theorem dX4_generation_24 : decode cX4_generation 24 = .ok (.ireturn, 1) := by decide +kernel
set_option maxRecDepth 20000 in
theorem ggX4_sum_X4_isRevision : GoodIn wsX4_sum wsX4_isRevision := goodIn_r _ [6, 7, 8, 9, 5, 10, 16, 17, 18, 19, 20, 21, 22, 23, 24, 25, 26, 27, 28] (by decide +kernel) (by decide +kernel)
set_option maxRecDepth 20000 in
theorem gX4_sum_X4_isRevision : GoodIn wsX4_sum (wsV RX4 94 RX4 yX4_isRevision wsX4_isRevision) := goodIn_app (goodIn_of _ (by decide +kernel)) ggX4_sum_X4_isRevision
set_option maxRecDepth 20000 in
theorem ggX4_sum_X4_goes : GoodIn wsX4_sum wsX4_goes := goodIn_r _ [14, 15, 16, 17, 18, 19, 20, 21, 22, 23, 24, 25, 26, 27, 28] (by decide +kernel) (by decide +kernel)
set_option maxRecDepth 20000 in
theorem gX4_sum_X4_goes : GoodIn wsX4_sum (wsV RX4 100 RX4 yX4_goes wsX4_goes) := goodIn_app (goodIn_of _ (by decide +kernel)) ggX4_sum_X4_goes
theorem dX4_sum_0 : decode cX4_sum 0 = .ok (.aload_n 0, 1) := by decide +kernel
theorem dX4_sum_1 : decode cX4_sum 1 = .ok (.aload_n 0, 1) := by decide +kernel
theorem dX4_sum_2 : decode cX4_sum 2 = .ok (.iload_n 1, 1) := by decide +kernel
theorem dX4_sum_3 : decode cX4_sum 3 = .ok (.invokevirtual 94, 3) := by decide +kernel
theorem dX4_sum_6 : decode cX4_sum 6 = .ok (.iconst 1, 1) := by decide +kernel
theorem dX4_sum_7 : decode cX4_sum 7 = .ok (.iconst 1, 1) := by decide +kernel
theorem dX4_sum_8 : decode cX4_sum 8 = .ok (.invokevirtual 100, 3) := by decide +kernel
theorem dX4_sum_11 : decode cX4_sum 11 = .ok (.ifCond .eq 12, 3) := by decide +kernel
theorem dX4_sum_14 : decode cX4_sum 14 = .ok (.aload_n 0, 1) := by decide +kernel
theorem dX4_sum_15 : decode cX4_sum 15 = .ok (.getfield 26, 3) := by decide +kernel
theorem dX4_sum_18 : decode cX4_sum 18 = .ok (.iload_n 1, 1) := by decide +kernel
theorem dX4_sum_19 : decode cX4_sum 19 = .ok (.iaload, 1) := by decide +kernel
theorem dX4_sum_20 : decode cX4_sum 20 = .ok (.goto 4, 3) := by decide +kernel
theorem dX4_sum_23 : decode cX4_sum 23 = .ok (.iconst 0, 1) := by decide +kernel
theorem dX4_sum_24 : decode cX4_sum 24 = .ok (.ireturn, 1) := by decide +kernel
set_option maxRecDepth 20000 in
theorem ggX4_valueOf_X4_isRevision : GoodIn wsX4_valueOf wsX4_isRevision := goodIn_r _ [7, 8, 9, 10, 6, 11, 17, 18, 19, 20, 21, 22, 23, 24, 25, 26, 27, 28, 29] (by decide +kernel) (by decide +kernel)
set_option maxRecDepth 20000 in
theorem gX4_valueOf_X4_isRevision : GoodIn wsX4_valueOf (wsV RX4 94 RX4 yX4_isRevision wsX4_isRevision) := goodIn_app (goodIn_of _ (by decide +kernel)) ggX4_valueOf_X4_isRevision
set_option maxRecDepth 20000 in
theorem ggX4_valueOf_X4_goes : GoodIn wsX4_valueOf wsX4_goes := goodIn_r _ [15, 16, 17, 18, 19, 20, 21, 22, 23, 24, 25, 26, 27, 28, 29] (by decide +kernel) (by decide +kernel)
set_option maxRecDepth 20000 in
theorem gX4_valueOf_X4_goes : GoodIn wsX4_valueOf (wsV RX4 100 RX4 yX4_goes wsX4_goes) := goodIn_app (goodIn_of _ (by decide +kernel)) ggX4_valueOf_X4_goes
theorem dX4_valueOf_0 : decode cX4_valueOf 0 = .ok (.aload_n 0, 1) := by decide +kernel
theorem dX4_valueOf_1 : decode cX4_valueOf 1 = .ok (.aload_n 0, 1) := by decide +kernel
theorem dX4_valueOf_2 : decode cX4_valueOf 2 = .ok (.iload_n 1, 1) := by decide +kernel
theorem dX4_valueOf_3 : decode cX4_valueOf 3 = .ok (.invokevirtual 94, 3) := by decide +kernel
theorem dX4_valueOf_6 : decode cX4_valueOf 6 = .ok (.iconst 1, 1) := by decide +kernel
theorem dX4_valueOf_7 : decode cX4_valueOf 7 = .ok (.iconst 1, 1) := by decide +kernel
theorem dX4_valueOf_8 : decode cX4_valueOf 8 = .ok (.invokevirtual 100, 3) := by decide +kernel
theorem dX4_valueOf_11 : decode cX4_valueOf 11 = .ok (.ifCond .eq 25, 3) := by decide +kernel
theorem dX4_valueOf_14 : decode cX4_valueOf 14 = .ok (.aload_n 0, 1) := by decide +kernel
theorem dX4_valueOf_15 : decode cX4_valueOf 15 = .ok (.getfield 19, 3) := by decide +kernel
theorem dX4_valueOf_18 : decode cX4_valueOf 18 = .ok (.iload_n 1, 1) := by decide +kernel
theorem dX4_valueOf_19 : decode cX4_valueOf 19 = .ok (.baload, 1) := by decide +kernel
theorem dX4_valueOf_20 : decode cX4_valueOf 20 = .ok (.ifCond .eq 7, 3) := by decide +kernel
theorem dX4_valueOf_23 : decode cX4_valueOf 23 = .ok (.iconst (-1), 1) := by decide +kernel
theorem dX4_valueOf_24 : decode cX4_valueOf 24 = .ok (.goto 13, 3) := by decide +kernel
theorem dX4_valueOf_27 : decode cX4_valueOf 27 = .ok (.aload_n 0, 1) := by decide +kernel
theorem dX4_valueOf_28 : decode cX4_valueOf 28 = .ok (.getfield 16, 3) := by decide +kernel
theorem dX4_valueOf_31 : decode cX4_valueOf 31 = .ok (.iload_n 1, 1) := by decide +kernel
theorem dX4_valueOf_32 : decode cX4_valueOf 32 = .ok (.iaload, 1) := by decide +kernel
theorem dX4_valueOf_33 : decode cX4_valueOf 33 = .ok (.goto 4, 3) := by decide +kernel
theorem dX4_valueOf_36 : decode cX4_valueOf 36 = .ok (.iconst 0, 1) := by decide +kernel
theorem dX4_valueOf_37 : decode cX4_valueOf 37 = .ok (.ireturn, 1) := by decide +kernel
set_option maxRecDepth 20000 in
theorem ggX4_sequence_X4_isStore : GoodIn wsX4_sequence wsX4_isStore := goodIn_r _ [5, 6, 7, 4, 8] (by decide +kernel) (by decide +kernel)
set_option maxRecDepth 20000 in
theorem gX4_sequence_X4_isStore : GoodIn wsX4_sequence (va_wsS RX4 87 yX4_isStore wsX4_isStore) := goodIn_app (goodIn_of _ (by decide +kernel)) ggX4_sequence_X4_isStore
set_option maxRecDepth 20000 in
theorem ggX4_sequence_X4_goes : GoodIn wsX4_sequence wsX4_goes := goodIn_r _ [12, 13, 14, 15, 16, 17, 18, 19, 20, 21, 22, 23, 24, 25, 26] (by decide +kernel) (by decide +kernel)
set_option maxRecDepth 20000 in
theorem gX4_sequence_X4_goes : GoodIn wsX4_sequence (wsV RX4 100 RX4 yX4_goes wsX4_goes) := goodIn_app (goodIn_of _ (by decide +kernel)) ggX4_sequence_X4_goes
theorem dX4_sequence_0 : decode cX4_sequence 0 = .ok (.aload_n 0, 1) := by decide +kernel
theorem dX4_sequence_1 : decode cX4_sequence 1 = .ok (.iload_n 1, 1) := by decide +kernel
theorem dX4_sequence_2 : decode cX4_sequence 2 = .ok (.invokestatic 87, 3) := by decide +kernel
theorem dX4_sequence_5 : decode cX4_sequence 5 = .ok (.iconst 1, 1) := by decide +kernel
theorem dX4_sequence_6 : decode cX4_sequence 6 = .ok (.iconst 1, 1) := by decide +kernel
theorem dX4_sequence_7 : decode cX4_sequence 7 = .ok (.invokevirtual 100, 3) := by decide +kernel
theorem dX4_sequence_10 : decode cX4_sequence 10 = .ok (.ifCond .eq 12, 3) := by decide +kernel
theorem dX4_sequence_13 : decode cX4_sequence 13 = .ok (.aload_n 0, 1) := by decide +kernel
theorem dX4_sequence_14 : decode cX4_sequence 14 = .ok (.getfield 35, 3) := by decide +kernel
theorem dX4_sequence_17 : decode cX4_sequence 17 = .ok (.iload_n 1, 1) := by decide +kernel
theorem dX4_sequence_18 : decode cX4_sequence 18 = .ok (.iaload, 1) := by decide +kernel
theorem dX4_sequence_19 : decode cX4_sequence 19 = .ok (.goto 4, 3) := by decide +kernel
theorem dX4_sequence_22 : decode cX4_sequence 22 = .ok (.iconst 0, 1) := by decide +kernel
theorem dX4_sequence_23 : decode cX4_sequence 23 = .ok (.ireturn, 1) := by decide +kernel
set_option maxRecDepth 20000 in
theorem ggX4_has_X4_isStore : GoodIn wsX4_has wsX4_isStore := goodIn_r _ [5, 6, 7, 4, 8] (by decide +kernel) (by decide +kernel)
set_option maxRecDepth 20000 in
theorem gX4_has_X4_isStore : GoodIn wsX4_has (va_wsS RX4 87 yX4_isStore wsX4_isStore) := goodIn_app (goodIn_of _ (by decide +kernel)) ggX4_has_X4_isStore
set_option maxRecDepth 20000 in
theorem ggX4_has_X4_isRevision : GoodIn wsX4_has wsX4_isRevision := goodIn_r _ [12, 13, 6, 7, 4, 8, 19, 20, 21, 22, 23, 24, 25, 26, 27, 28, 29, 30, 31] (by decide +kernel) (by decide +kernel)
set_option maxRecDepth 20000 in
theorem gX4_has_X4_isRevision : GoodIn wsX4_has (wsV RX4 94 RX4 yX4_isRevision wsX4_isRevision) := goodIn_app (goodIn_of _ (by decide +kernel)) ggX4_has_X4_isRevision
set_option maxRecDepth 20000 in
theorem ggX4_has_X4_goes : GoodIn wsX4_has wsX4_goes := goodIn_r _ [17, 18, 19, 20, 21, 22, 23, 24, 25, 26, 27, 28, 29, 30, 31] (by decide +kernel) (by decide +kernel)
set_option maxRecDepth 20000 in
theorem gX4_has_X4_goes : GoodIn wsX4_has (wsV RX4 100 RX4 yX4_goes wsX4_goes) := goodIn_app (goodIn_of _ (by decide +kernel)) ggX4_has_X4_goes
theorem dX4_has_0 : decode cX4_has 0 = .ok (.aload_n 0, 1) := by decide +kernel
theorem dX4_has_1 : decode cX4_has 1 = .ok (.iload_n 1, 1) := by decide +kernel
theorem dX4_has_2 : decode cX4_has 2 = .ok (.invokestatic 87, 3) := by decide +kernel
theorem dX4_has_5 : decode cX4_has 5 = .ok (.ifCond .eq 15, 3) := by decide +kernel
theorem dX4_has_8 : decode cX4_has 8 = .ok (.aload_n 0, 1) := by decide +kernel
theorem dX4_has_9 : decode cX4_has 9 = .ok (.iload_n 2, 1) := by decide +kernel
theorem dX4_has_10 : decode cX4_has 10 = .ok (.invokevirtual 94, 3) := by decide +kernel
theorem dX4_has_13 : decode cX4_has 13 = .ok (.ifCond .eq 7, 3) := by decide +kernel
theorem dX4_has_16 : decode cX4_has 16 = .ok (.iconst 1, 1) := by decide +kernel
theorem dX4_has_17 : decode cX4_has 17 = .ok (.goto 4, 3) := by decide +kernel
theorem dX4_has_20 : decode cX4_has 20 = .ok (.iconst 0, 1) := by decide +kernel
theorem dX4_has_21 : decode cX4_has 21 = .ok (.iconst 1, 1) := by decide +kernel
theorem dX4_has_22 : decode cX4_has 22 = .ok (.iconst 1, 1) := by decide +kernel
theorem dX4_has_23 : decode cX4_has 23 = .ok (.invokevirtual 100, 3) := by decide +kernel
theorem dX4_has_26 : decode cX4_has 26 = .ok (.ifCond .eq 22, 3) := by decide +kernel
theorem dX4_has_29 : decode cX4_has 29 = .ok (.aload_n 0, 1) := by decide +kernel
theorem dX4_has_30 : decode cX4_has 30 = .ok (.getfield 29, 3) := by decide +kernel
theorem dX4_has_33 : decode cX4_has 33 = .ok (.sipush 150, 3) := by decide +kernel
theorem dX4_has_36 : decode cX4_has 36 = .ok (.iload_n 1, 1) := by decide +kernel
theorem dX4_has_37 : decode cX4_has 37 = .ok (.imul, 1) := by decide +kernel
theorem dX4_has_38 : decode cX4_has 38 = .ok (.iload_n 2, 1) := by decide +kernel
theorem dX4_has_39 : decode cX4_has 39 = .ok (.iadd, 1) := by decide +kernel
theorem dX4_has_40 : decode cX4_has 40 = .ok (.baload, 1) := by decide +kernel
theorem dX4_has_41 : decode cX4_has 41 = .ok (.ifCond .eq 7, 3) := by decide +kernel
theorem dX4_has_44 : decode cX4_has 44 = .ok (.iconst 1, 1) := by decide +kernel
theorem dX4_has_45 : decode cX4_has 45 = .ok (.goto 4, 3) := by decide +kernel
theorem dX4_has_48 : decode cX4_has 48 = .ok (.iconst 0, 1) := by decide +kernel
theorem dX4_has_49 : decode cX4_has 49 = .ok (.ireturn, 1) := by decide +kernel
set_option maxRecDepth 20000 in
theorem ggX4_isLeaf_X4_isStore : GoodIn wsX4_isLeaf wsX4_isStore := goodIn_r _ [4, 5, 6, 3, 7] (by decide +kernel) (by decide +kernel)
set_option maxRecDepth 20000 in
theorem gX4_isLeaf_X4_isStore : GoodIn wsX4_isLeaf (va_wsS RX4 87 yX4_isStore wsX4_isStore) := goodIn_app (goodIn_of _ (by decide +kernel)) ggX4_isLeaf_X4_isStore
set_option maxRecDepth 20000 in
theorem ggX4_isLeaf_X4_isRevision : GoodIn wsX4_isLeaf wsX4_isRevision := goodIn_r _ [11, 12, 5, 6, 3, 7, 32, 33, 34, 35, 36, 37, 38, 39, 40, 41, 42, 43, 44] (by decide +kernel) (by decide +kernel)
set_option maxRecDepth 20000 in
theorem gX4_isLeaf_X4_isRevision : GoodIn wsX4_isLeaf (wsV RX4 94 RX4 yX4_isRevision wsX4_isRevision) := goodIn_app (goodIn_of _ (by decide +kernel)) ggX4_isLeaf_X4_isRevision
set_option maxRecDepth 20000 in
theorem ggX4_isLeaf_X4_goes : GoodIn wsX4_isLeaf wsX4_goes := goodIn_r _ [16, 17, 32, 33, 34, 35, 36, 37, 38, 39, 40, 41, 42, 43, 44] (by decide +kernel) (by decide +kernel)
set_option maxRecDepth 20000 in
theorem gX4_isLeaf_X4_goes : GoodIn wsX4_isLeaf (wsV RX4 100 RX4 yX4_goes wsX4_goes) := goodIn_app (goodIn_of _ (by decide +kernel)) ggX4_isLeaf_X4_goes
set_option maxRecDepth 20000 in
theorem ggX4_isLeaf_X4_leaf : GoodIn wsX4_isLeaf wsX4_leaf := goodIn_r _ [21, 22, 23, 24, 25, 3, 26, 12, 27, 28, 29, 30, 31, 32, 33, 34, 35, 36, 37, 38, 39, 40, 41, 42, 43, 44] (by decide +kernel) (by decide +kernel)
set_option maxRecDepth 20000 in
theorem gX4_isLeaf_X4_leaf : GoodIn wsX4_isLeaf (wsV RX4 62 RX4 yX4_leaf wsX4_leaf) := goodIn_app (goodIn_of _ (by decide +kernel)) ggX4_isLeaf_X4_leaf
theorem dX4_isLeaf_0 : decode cX4_isLeaf 0 = .ok (.aload_n 0, 1) := by decide +kernel
theorem dX4_isLeaf_1 : decode cX4_isLeaf 1 = .ok (.iload_n 1, 1) := by decide +kernel
theorem dX4_isLeaf_2 : decode cX4_isLeaf 2 = .ok (.invokestatic 87, 3) := by decide +kernel
theorem dX4_isLeaf_5 : decode cX4_isLeaf 5 = .ok (.ifCond .eq 15, 3) := by decide +kernel
theorem dX4_isLeaf_8 : decode cX4_isLeaf 8 = .ok (.aload_n 0, 1) := by decide +kernel
theorem dX4_isLeaf_9 : decode cX4_isLeaf 9 = .ok (.iload_n 2, 1) := by decide +kernel
theorem dX4_isLeaf_10 : decode cX4_isLeaf 10 = .ok (.invokevirtual 94, 3) := by decide +kernel
theorem dX4_isLeaf_13 : decode cX4_isLeaf 13 = .ok (.ifCond .eq 7, 3) := by decide +kernel
theorem dX4_isLeaf_16 : decode cX4_isLeaf 16 = .ok (.iconst 1, 1) := by decide +kernel
theorem dX4_isLeaf_17 : decode cX4_isLeaf 17 = .ok (.goto 4, 3) := by decide +kernel
theorem dX4_isLeaf_20 : decode cX4_isLeaf 20 = .ok (.iconst 0, 1) := by decide +kernel
theorem dX4_isLeaf_21 : decode cX4_isLeaf 21 = .ok (.iconst 1, 1) := by decide +kernel
theorem dX4_isLeaf_22 : decode cX4_isLeaf 22 = .ok (.iconst 1, 1) := by decide +kernel
theorem dX4_isLeaf_23 : decode cX4_isLeaf 23 = .ok (.invokevirtual 100, 3) := by decide +kernel
theorem dX4_isLeaf_26 : decode cX4_isLeaf 26 = .ok (.ifCond .eq 16, 3) := by decide +kernel
theorem dX4_isLeaf_29 : decode cX4_isLeaf 29 = .ok (.aload_n 0, 1) := by decide +kernel
theorem dX4_isLeaf_30 : decode cX4_isLeaf 30 = .ok (.iload_n 1, 1) := by decide +kernel
theorem dX4_isLeaf_31 : decode cX4_isLeaf 31 = .ok (.iload_n 2, 1) := by decide +kernel
theorem dX4_isLeaf_32 : decode cX4_isLeaf 32 = .ok (.invokevirtual 62, 3) := by decide +kernel
theorem dX4_isLeaf_35 : decode cX4_isLeaf 35 = .ok (.ifCond .eq 7, 3) := by decide +kernel
theorem dX4_isLeaf_38 : decode cX4_isLeaf 38 = .ok (.iconst 1, 1) := by decide +kernel
theorem dX4_isLeaf_39 : decode cX4_isLeaf 39 = .ok (.goto 4, 3) := by decide +kernel
theorem dX4_isLeaf_42 : decode cX4_isLeaf 42 = .ok (.iconst 0, 1) := by decide +kernel
theorem dX4_isLeaf_43 : decode cX4_isLeaf 43 = .ok (.ireturn, 1) := by decide +kernel
set_option maxRecDepth 20000 in
theorem ggX4_size_X4_isStore : GoodIn wsX4_size wsX4_isStore := goodIn_r _ [6, 7, 8, 5, 9] (by decide +kernel) (by decide +kernel)
set_option maxRecDepth 20000 in
theorem gX4_size_X4_isStore : GoodIn wsX4_size (va_wsS RX4 87 yX4_isStore wsX4_isStore) := goodIn_app (goodIn_of _ (by decide +kernel)) ggX4_size_X4_isStore
set_option maxRecDepth 20000 in
theorem ggX4_size_X4_goes : GoodIn wsX4_size wsX4_goes := goodIn_r _ [13, 14, 15, 16, 17, 18, 19, 20, 21, 22, 23, 24, 25, 26, 27] (by decide +kernel) (by decide +kernel)
set_option maxRecDepth 20000 in
theorem gX4_size_X4_goes : GoodIn wsX4_size (wsV RX4 100 RX4 yX4_goes wsX4_goes) := goodIn_app (goodIn_of _ (by decide +kernel)) ggX4_size_X4_goes
theorem dX4_size_0 : decode cX4_size 0 = .ok (.iconst 0, 1) := by decide +kernel
theorem dX4_size_1 : decode cX4_size 1 = .ok (.istore_n 2, 1) := by decide +kernel
theorem dX4_size_2 : decode cX4_size 2 = .ok (.aload_n 0, 1) := by decide +kernel
theorem dX4_size_3 : decode cX4_size 3 = .ok (.iload_n 1, 1) := by decide +kernel
theorem dX4_size_4 : decode cX4_size 4 = .ok (.invokestatic 87, 3) := by decide +kernel
theorem dX4_size_7 : decode cX4_size 7 = .ok (.iconst 1, 1) := by decide +kernel
theorem dX4_size_8 : decode cX4_size 8 = .ok (.iconst 1, 1) := by decide +kernel
theorem dX4_size_9 : decode cX4_size 9 = .ok (.invokevirtual 100, 3) := by decide +kernel
theorem dX4_size_12 : decode cX4_size 12 = .ok (.istore_n 3, 1) := by decide +kernel
theorem dX4_size_13 : decode cX4_size 13 = .ok (.iconst 0, 1) := by decide +kernel
theorem dX4_size_14 : decode cX4_size 14 = .ok (.istore 4, 2) := by decide +kernel
theorem dX4_size_16 : decode cX4_size 16 = .ok (.iload 4, 2) := by decide +kernel
theorem dX4_size_18 : decode cX4_size 18 = .ok (.aload_n 0, 1) := by decide +kernel
theorem dX4_size_19 : decode cX4_size 19 = .ok (.getfield 52, 3) := by decide +kernel
theorem dX4_size_22 : decode cX4_size 22 = .ok (.if_icmp .ge 37, 3) := by decide +kernel
theorem dX4_size_25 : decode cX4_size 25 = .ok (.iload_n 3, 1) := by decide +kernel
theorem dX4_size_26 : decode cX4_size 26 = .ok (.ifCond .eq 33, 3) := by decide +kernel
theorem dX4_size_29 : decode cX4_size 29 = .ok (.iload_n 2, 1) := by decide +kernel
theorem dX4_size_30 : decode cX4_size 30 = .ok (.aload_n 0, 1) := by decide +kernel
theorem dX4_size_31 : decode cX4_size 31 = .ok (.getfield 29, 3) := by decide +kernel
theorem dX4_size_34 : decode cX4_size 34 = .ok (.sipush 150, 3) := by decide +kernel
theorem dX4_size_37 : decode cX4_size 37 = .ok (.iload_n 1, 1) := by decide +kernel
theorem dX4_size_38 : decode cX4_size 38 = .ok (.imul, 1) := by decide +kernel
theorem dX4_size_39 : decode cX4_size 39 = .ok (.iload 4, 2) := by decide +kernel
theorem dX4_size_41 : decode cX4_size 41 = .ok (.iadd, 1) := by decide +kernel
theorem dX4_size_42 : decode cX4_size 42 = .ok (.baload, 1) := by decide +kernel
theorem dX4_size_43 : decode cX4_size 43 = .ok (.ifCond .eq 7, 3) := by decide +kernel
theorem dX4_size_46 : decode cX4_size 46 = .ok (.iconst 1, 1) := by decide +kernel
theorem dX4_size_47 : decode cX4_size 47 = .ok (.goto 4, 3) := by decide +kernel
theorem dX4_size_50 : decode cX4_size 50 = .ok (.iconst 0, 1) := by decide +kernel
theorem dX4_size_51 : decode cX4_size 51 = .ok (.iadd, 1) := by decide +kernel
theorem dX4_size_52 : decode cX4_size 52 = .ok (.istore_n 2, 1) := by decide +kernel
theorem dX4_size_53 : decode cX4_size 53 = .ok (.iinc 4 1, 3) := by decide +kernel
theorem dX4_size_56 : decode cX4_size 56 = .ok (.goto (-40), 3) := by decide +kernel
theorem dX4_size_59 : decode cX4_size 59 = .ok (.iload_n 2, 1) := by decide +kernel
theorem dX4_size_60 : decode cX4_size 60 = .ok (.ireturn, 1) := by decide +kernel
set_option maxRecDepth 20000 in
theorem ggX4_winner_X4_isStore : GoodIn wsX4_winner wsX4_isStore := goodIn_r _ [4, 5, 6, 3, 7] (by decide +kernel) (by decide +kernel)
set_option maxRecDepth 20000 in
theorem gX4_winner_X4_isStore : GoodIn wsX4_winner (va_wsS RX4 87 yX4_isStore wsX4_isStore) := goodIn_app (goodIn_of _ (by decide +kernel)) ggX4_winner_X4_isStore
set_option maxRecDepth 20000 in
theorem ggX4_winner_X4_isDocument : GoodIn wsX4_winner wsX4_isDocument := goodIn_r _ [10, 5, 6, 3, 7] (by decide +kernel) (by decide +kernel)
set_option maxRecDepth 20000 in
theorem gX4_winner_X4_isDocument : GoodIn wsX4_winner (va_wsS RX4 91 yX4_isDocument wsX4_isDocument) := goodIn_app (goodIn_of _ (by decide +kernel)) ggX4_winner_X4_isDocument
set_option maxRecDepth 20000 in
theorem ggX4_winner_X4_goes : GoodIn wsX4_winner wsX4_goes := goodIn_r _ [14, 15, 43, 44, 45, 46, 47, 48, 49, 50, 51, 52, 53, 54, 55] (by decide +kernel) (by decide +kernel)
set_option maxRecDepth 20000 in
theorem gX4_winner_X4_goes : GoodIn wsX4_winner (wsV RX4 100 RX4 yX4_goes wsX4_goes) := goodIn_app (goodIn_of _ (by decide +kernel)) ggX4_winner_X4_goes
set_option maxRecDepth 20000 in
theorem ggX4_winner_X4_best : GoodIn wsX4_winner wsX4_best := goodIn_r _ [19, 20, 21, 22, 23, 24, 3, 25, 26, 27, 28, 29, 30, 31, 32, 33, 34, 35, 36, 37, 38, 39, 40, 41, 42, 43, 44, 45, 46, 47, 48, 49, 50, 51, 52, 53, 54, 55] (by decide +kernel) (by decide +kernel)
set_option maxRecDepth 20000 in
theorem gX4_winner_X4_best : GoodIn wsX4_winner (wsV RX4 83 RX4 yX4_best wsX4_best) := goodIn_app (goodIn_of _ (by decide +kernel)) ggX4_winner_X4_best
theorem dX4_winner_0 : decode cX4_winner 0 = .ok (.aload_n 0, 1) := by decide +kernel
theorem dX4_winner_1 : decode cX4_winner 1 = .ok (.iload_n 1, 1) := by decide +kernel
theorem dX4_winner_2 : decode cX4_winner 2 = .ok (.invokestatic 87, 3) := by decide +kernel
theorem dX4_winner_5 : decode cX4_winner 5 = .ok (.ifCond .eq 14, 3) := by decide +kernel
theorem dX4_winner_8 : decode cX4_winner 8 = .ok (.iload_n 2, 1) := by decide +kernel
theorem dX4_winner_9 : decode cX4_winner 9 = .ok (.invokestatic 91, 3) := by decide +kernel
theorem dX4_winner_12 : decode cX4_winner 12 = .ok (.ifCond .eq 7, 3) := by decide +kernel
theorem dX4_winner_15 : decode cX4_winner 15 = .ok (.iconst 1, 1) := by decide +kernel
theorem dX4_winner_16 : decode cX4_winner 16 = .ok (.goto 4, 3) := by decide +kernel
theorem dX4_winner_19 : decode cX4_winner 19 = .ok (.iconst 0, 1) := by decide +kernel
theorem dX4_winner_20 : decode cX4_winner 20 = .ok (.iconst 1, 1) := by decide +kernel
theorem dX4_winner_21 : decode cX4_winner 21 = .ok (.iconst 1, 1) := by decide +kernel
theorem dX4_winner_22 : decode cX4_winner 22 = .ok (.invokevirtual 100, 3) := by decide +kernel
theorem dX4_winner_25 : decode cX4_winner 25 = .ok (.ifCond .eq 12, 3) := by decide +kernel
theorem dX4_winner_28 : decode cX4_winner 28 = .ok (.aload_n 0, 1) := by decide +kernel
theorem dX4_winner_29 : decode cX4_winner 29 = .ok (.iload_n 1, 1) := by decide +kernel
theorem dX4_winner_30 : decode cX4_winner 30 = .ok (.iload_n 2, 1) := by decide +kernel
theorem dX4_winner_31 : decode cX4_winner 31 = .ok (.invokevirtual 83, 3) := by decide +kernel
theorem dX4_winner_34 : decode cX4_winner 34 = .ok (.goto 4, 3) := by decide +kernel
theorem dX4_winner_37 : decode cX4_winner 37 = .ok (.iconst 0, 1) := by decide +kernel
theorem dX4_winner_38 : decode cX4_winner 38 = .ok (.ireturn, 1) := by decide +kernel
theorem dX4_isAnywhere_0 : decode cX4_isAnywhere 0 = .ok (.aload_n 0, 1) := by decide +kernel
theorem dX4_isAnywhere_1 : decode cX4_isAnywhere 1 = .ok (.getfield 29, 3) := by decide +kernel
theorem dX4_isAnywhere_4 : decode cX4_isAnywhere 4 = .ok (.iload_n 1, 1) := by decide +kernel
theorem dX4_isAnywhere_5 : decode cX4_isAnywhere 5 = .ok (.baload, 1) := by decide +kernel
theorem dX4_isAnywhere_6 : decode cX4_isAnywhere 6 = .ok (.ifCond .ne 29, 3) := by decide +kernel
theorem dX4_isAnywhere_9 : decode cX4_isAnywhere 9 = .ok (.aload_n 0, 1) := by decide +kernel
theorem dX4_isAnywhere_10 : decode cX4_isAnywhere 10 = .ok (.getfield 29, 3) := by decide +kernel
theorem dX4_isAnywhere_13 : decode cX4_isAnywhere 13 = .ok (.sipush 150, 3) := by decide +kernel
theorem dX4_isAnywhere_16 : decode cX4_isAnywhere 16 = .ok (.iload_n 1, 1) := by decide +kernel
theorem dX4_isAnywhere_17 : decode cX4_isAnywhere 17 = .ok (.iadd, 1) := by decide +kernel
theorem dX4_isAnywhere_18 : decode cX4_isAnywhere 18 = .ok (.baload, 1) := by decide +kernel
theorem dX4_isAnywhere_19 : decode cX4_isAnywhere 19 = .ok (.ifCond .ne 16, 3) := by decide +kernel
theorem dX4_isAnywhere_22 : decode cX4_isAnywhere 22 = .ok (.aload_n 0, 1) := by decide +kernel
theorem dX4_isAnywhere_23 : decode cX4_isAnywhere 23 = .ok (.getfield 29, 3) := by decide +kernel
theorem dX4_isAnywhere_26 : decode cX4_isAnywhere 26 = .ok (.sipush 300, 3) := by decide +kernel
theorem dX4_isAnywhere_29 : decode cX4_isAnywhere 29 = .ok (.iload_n 1, 1) := by decide +kernel
theorem dX4_isAnywhere_30 : decode cX4_isAnywhere 30 = .ok (.iadd, 1) := by decide +kernel
theorem dX4_isAnywhere_31 : decode cX4_isAnywhere 31 = .ok (.baload, 1) := by decide +kernel
theorem dX4_isAnywhere_32 : decode cX4_isAnywhere 32 = .ok (.ifCond .eq 7, 3) := by decide +kernel
theorem dX4_isAnywhere_35 : decode cX4_isAnywhere 35 = .ok (.iconst 1, 1) := by decide +kernel
theorem dX4_isAnywhere_36 : decode cX4_isAnywhere 36 = .ok (.goto 4, 3) := by decide +kernel
theorem dX4_isAnywhere_39 : decode cX4_isAnywhere 39 = .ok (.iconst 0, 1) := by decide +kernel
theorem dX4_isAnywhere_40 : decode cX4_isAnywhere 40 = .ok (.ireturn, 1) := by decide +kernel
set_option maxRecDepth 20000 in
theorem ggX4_winnerOfAll_X4_isDocument : GoodIn wsX4_winnerOfAll wsX4_isDocument := goodIn_r _ [6, 7, 8, 5, 9] (by decide +kernel) (by decide +kernel)
set_option maxRecDepth 20000 in
theorem gX4_winnerOfAll_X4_isDocument : GoodIn wsX4_winnerOfAll (va_wsS RX4 91 yX4_isDocument wsX4_isDocument) := goodIn_app (goodIn_of _ (by decide +kernel)) ggX4_winnerOfAll_X4_isDocument
set_option maxRecDepth 20000 in
theorem ggX4_winnerOfAll_X4_goes : GoodIn wsX4_winnerOfAll wsX4_goes := goodIn_r _ [13, 14, 36, 37, 38, 39, 40, 41, 42, 43, 44, 45, 46, 47, 48] (by decide +kernel) (by decide +kernel)
set_option maxRecDepth 20000 in
theorem gX4_winnerOfAll_X4_goes : GoodIn wsX4_winnerOfAll (wsV RX4 100 RX4 yX4_goes wsX4_goes) := goodIn_app (goodIn_of _ (by decide +kernel)) ggX4_winnerOfAll_X4_goes
set_option maxRecDepth 20000 in
theorem ggX4_winnerOfAll_X4_hasDescendant : GoodIn wsX4_winnerOfAll wsX4_hasDescendant := goodIn_r _ [18, 1, 19, 20, 21, 22, 5, 23, 24, 36, 37, 38, 39, 40, 41, 42, 43, 44, 45, 46, 47, 48] (by decide +kernel) (by decide +kernel)
set_option maxRecDepth 20000 in
theorem gX4_winnerOfAll_X4_hasDescendant : GoodIn wsX4_winnerOfAll (wsV RX4 59 RX4 yX4_hasDescendant wsX4_hasDescendant) := goodIn_app (goodIn_of _ (by decide +kernel)) ggX4_winnerOfAll_X4_hasDescendant
set_option maxRecDepth 20000 in
theorem ggX4_winnerOfAll_X4_isAnywhere : GoodIn wsX4_winnerOfAll wsX4_isAnywhere := goodIn_r _ [28, 19, 36, 37, 38, 39, 40, 41, 42, 43, 44, 45, 46, 47, 48] (by decide +kernel) (by decide +kernel)
set_option maxRecDepth 20000 in
theorem gX4_winnerOfAll_X4_isAnywhere : GoodIn wsX4_winnerOfAll (wsV RX4 118 RX4 yX4_isAnywhere wsX4_isAnywhere) := goodIn_app (goodIn_of _ (by decide +kernel)) ggX4_winnerOfAll_X4_isAnywhere
set_option maxRecDepth 20000 in
theorem ggX4_winnerOfAll_X4_isBetter : GoodIn wsX4_winnerOfAll wsX4_isBetter := goodIn_r _ [32, 33, 34, 35, 36, 37, 38, 39, 40, 41, 42, 43, 44, 45, 46, 47, 48] (by decide +kernel) (by decide +kernel)
set_option maxRecDepth 20000 in
theorem gX4_winnerOfAll_X4_isBetter : GoodIn wsX4_winnerOfAll (wsV RX4 65 RX4 yX4_isBetter wsX4_isBetter) := goodIn_app (goodIn_of _ (by decide +kernel)) ggX4_winnerOfAll_X4_isBetter
theorem dX4_winnerOfAll_0 : decode cX4_winnerOfAll 0 = .ok (.aload_n 0, 1) := by decide +kernel
theorem dX4_winnerOfAll_1 : decode cX4_winnerOfAll 1 = .ok (.iload_n 1, 1) := by decide +kernel
theorem dX4_winnerOfAll_2 : decode cX4_winnerOfAll 2 = .ok (.invokestatic 91, 3) := by decide +kernel
theorem dX4_winnerOfAll_5 : decode cX4_winnerOfAll 5 = .ok (.iconst 1, 1) := by decide +kernel
theorem dX4_winnerOfAll_6 : decode cX4_winnerOfAll 6 = .ok (.iconst 1, 1) := by decide +kernel
theorem dX4_winnerOfAll_7 : decode cX4_winnerOfAll 7 = .ok (.invokevirtual 100, 3) := by decide +kernel
theorem dX4_winnerOfAll_10 : decode cX4_winnerOfAll 10 = .ok (.ifCond .ne 5, 3) := by decide +kernel
theorem dX4_winnerOfAll_13 : decode cX4_winnerOfAll 13 = .ok (.iconst 0, 1) := by decide +kernel
theorem dX4_winnerOfAll_14 : decode cX4_winnerOfAll 14 = .ok (.ireturn, 1) := by decide +kernel
theorem dX4_winnerOfAll_15 : decode cX4_winnerOfAll 15 = .ok (.iconst (-1), 1) := by decide +kernel
theorem dX4_winnerOfAll_16 : decode cX4_winnerOfAll 16 = .ok (.istore_n 2, 1) := by decide +kernel
theorem dX4_winnerOfAll_17 : decode cX4_winnerOfAll 17 = .ok (.iconst 0, 1) := by decide +kernel
theorem dX4_winnerOfAll_18 : decode cX4_winnerOfAll 18 = .ok (.istore_n 3, 1) := by decide +kernel
theorem dX4_winnerOfAll_19 : decode cX4_winnerOfAll 19 = .ok (.iload_n 3, 1) := by decide +kernel
theorem dX4_winnerOfAll_20 : decode cX4_winnerOfAll 20 = .ok (.aload_n 0, 1) := by decide +kernel
theorem dX4_winnerOfAll_21 : decode cX4_winnerOfAll 21 = .ok (.getfield 52, 3) := by decide +kernel
theorem dX4_winnerOfAll_24 : decode cX4_winnerOfAll 24 = .ok (.if_icmp .ge 98, 3) := by decide +kernel
theorem dX4_winnerOfAll_27 : decode cX4_winnerOfAll 27 = .ok (.aload_n 0, 1) := by decide +kernel
theorem dX4_winnerOfAll_28 : decode cX4_winnerOfAll 28 = .ok (.iconst 0, 1) := by decide +kernel
theorem dX4_winnerOfAll_29 : decode cX4_winnerOfAll 29 = .ok (.iload_n 3, 1) := by decide +kernel
theorem dX4_winnerOfAll_30 : decode cX4_winnerOfAll 30 = .ok (.invokevirtual 59, 3) := by decide +kernel
theorem dX4_winnerOfAll_33 : decode cX4_winnerOfAll 33 = .ok (.ifCond .ne 21, 3) := by decide +kernel
theorem dX4_winnerOfAll_36 : decode cX4_winnerOfAll 36 = .ok (.aload_n 0, 1) := by decide +kernel
theorem dX4_winnerOfAll_37 : decode cX4_winnerOfAll 37 = .ok (.iconst 1, 1) := by decide +kernel
theorem dX4_winnerOfAll_38 : decode cX4_winnerOfAll 38 = .ok (.iload_n 3, 1) := by decide +kernel
theorem dX4_winnerOfAll_39 : decode cX4_winnerOfAll 39 = .ok (.invokevirtual 59, 3) := by decide +kernel
theorem dX4_winnerOfAll_42 : decode cX4_winnerOfAll 42 = .ok (.ifCond .ne 12, 3) := by decide +kernel
theorem dX4_winnerOfAll_45 : decode cX4_winnerOfAll 45 = .ok (.aload_n 0, 1) := by decide +kernel
theorem dX4_winnerOfAll_46 : decode cX4_winnerOfAll 46 = .ok (.iconst 2, 1) := by decide +kernel
theorem dX4_winnerOfAll_47 : decode cX4_winnerOfAll 47 = .ok (.iload_n 3, 1) := by decide +kernel
theorem dX4_winnerOfAll_48 : decode cX4_winnerOfAll 48 = .ok (.invokevirtual 59, 3) := by decide +kernel
theorem dX4_winnerOfAll_51 : decode cX4_winnerOfAll 51 = .ok (.ifCond .eq 7, 3) := by decide +kernel
theorem dX4_winnerOfAll_54 : decode cX4_winnerOfAll 54 = .ok (.iconst 1, 1) := by decide +kernel
theorem dX4_winnerOfAll_55 : decode cX4_winnerOfAll 55 = .ok (.goto 4, 3) := by decide +kernel
theorem dX4_winnerOfAll_58 : decode cX4_winnerOfAll 58 = .ok (.iconst 0, 1) := by decide +kernel
theorem dX4_winnerOfAll_59 : decode cX4_winnerOfAll 59 = .ok (.istore 4, 2) := by decide +kernel
theorem dX4_winnerOfAll_61 : decode cX4_winnerOfAll 61 = .ok (.aload_n 0, 1) := by decide +kernel
theorem dX4_winnerOfAll_62 : decode cX4_winnerOfAll 62 = .ok (.getfield 7, 3) := by decide +kernel
theorem dX4_winnerOfAll_65 : decode cX4_winnerOfAll 65 = .ok (.iload_n 3, 1) := by decide +kernel
theorem dX4_winnerOfAll_66 : decode cX4_winnerOfAll 66 = .ok (.iaload, 1) := by decide +kernel
theorem dX4_winnerOfAll_67 : decode cX4_winnerOfAll 67 = .ok (.iload_n 1, 1) := by decide +kernel
theorem dX4_winnerOfAll_68 : decode cX4_winnerOfAll 68 = .ok (.if_icmp .ne 20, 3) := by decide +kernel
theorem dX4_winnerOfAll_71 : decode cX4_winnerOfAll 71 = .ok (.aload_n 0, 1) := by decide +kernel
theorem dX4_winnerOfAll_72 : decode cX4_winnerOfAll 72 = .ok (.iload_n 3, 1) := by decide +kernel
theorem dX4_winnerOfAll_73 : decode cX4_winnerOfAll 73 = .ok (.invokevirtual 118, 3) := by decide +kernel
theorem dX4_winnerOfAll_76 : decode cX4_winnerOfAll 76 = .ok (.ifCond .eq 12, 3) := by decide +kernel
theorem dX4_winnerOfAll_79 : decode cX4_winnerOfAll 79 = .ok (.iload 4, 2) := by decide +kernel
theorem dX4_winnerOfAll_81 : decode cX4_winnerOfAll 81 = .ok (.ifCond .ne 7, 3) := by decide +kernel
theorem dX4_winnerOfAll_84 : decode cX4_winnerOfAll 84 = .ok (.iconst 1, 1) := by decide +kernel
theorem dX4_winnerOfAll_85 : decode cX4_winnerOfAll 85 = .ok (.goto 4, 3) := by decide +kernel
theorem dX4_winnerOfAll_88 : decode cX4_winnerOfAll 88 = .ok (.iconst 0, 1) := by decide +kernel
theorem dX4_winnerOfAll_89 : decode cX4_winnerOfAll 89 = .ok (.istore 5, 2) := by decide +kernel
theorem dX4_winnerOfAll_91 : decode cX4_winnerOfAll 91 = .ok (.iload 5, 2) := by decide +kernel
theorem dX4_winnerOfAll_93 : decode cX4_winnerOfAll 93 = .ok (.ifCond .eq 21, 3) := by decide +kernel
theorem dX4_winnerOfAll_96 : decode cX4_winnerOfAll 96 = .ok (.iload_n 2, 1) := by decide +kernel
theorem dX4_winnerOfAll_97 : decode cX4_winnerOfAll 97 = .ok (.iconst (-1), 1) := by decide +kernel
theorem dX4_winnerOfAll_98 : decode cX4_winnerOfAll 98 = .ok (.if_icmp .eq 12, 3) := by decide +kernel
theorem dX4_winnerOfAll_101 : decode cX4_winnerOfAll 101 = .ok (.aload_n 0, 1) := by decide +kernel
theorem dX4_winnerOfAll_102 : decode cX4_winnerOfAll 102 = .ok (.iload_n 3, 1) := by decide +kernel
theorem dX4_winnerOfAll_103 : decode cX4_winnerOfAll 103 = .ok (.iload_n 2, 1) := by decide +kernel
theorem dX4_winnerOfAll_104 : decode cX4_winnerOfAll 104 = .ok (.invokevirtual 65, 3) := by decide +kernel
theorem dX4_winnerOfAll_107 : decode cX4_winnerOfAll 107 = .ok (.ifCond .eq 7, 3) := by decide +kernel
theorem dX4_winnerOfAll_110 : decode cX4_winnerOfAll 110 = .ok (.iload_n 3, 1) := by decide +kernel
theorem dX4_winnerOfAll_111 : decode cX4_winnerOfAll 111 = .ok (.goto 4, 3) := by decide +kernel
theorem dX4_winnerOfAll_114 : decode cX4_winnerOfAll 114 = .ok (.iload_n 2, 1) := by decide +kernel
theorem dX4_winnerOfAll_115 : decode cX4_winnerOfAll 115 = .ok (.istore_n 2, 1) := by decide +kernel
theorem dX4_winnerOfAll_116 : decode cX4_winnerOfAll 116 = .ok (.iinc 3 1, 3) := by decide +kernel
theorem dX4_winnerOfAll_119 : decode cX4_winnerOfAll 119 = .ok (.goto (-100), 3) := by decide +kernel
theorem dX4_winnerOfAll_122 : decode cX4_winnerOfAll 122 = .ok (.iload_n 2, 1) := by decide +kernel
theorem dX4_winnerOfAll_123 : decode cX4_winnerOfAll 123 = .ok (.ireturn, 1) := by decide +kernel
set_option maxRecDepth 20000 in
theorem ggX4_conflicts_X4_isStore : GoodIn wsX4_conflicts wsX4_isStore := goodIn_r _ [7, 8, 9, 6, 10] (by decide +kernel) (by decide +kernel)
set_option maxRecDepth 20000 in
theorem gX4_conflicts_X4_isStore : GoodIn wsX4_conflicts (va_wsS RX4 87 yX4_isStore wsX4_isStore) := goodIn_app (goodIn_of _ (by decide +kernel)) ggX4_conflicts_X4_isStore
set_option maxRecDepth 20000 in
theorem ggX4_conflicts_X4_isDocument : GoodIn wsX4_conflicts wsX4_isDocument := goodIn_r _ [13, 8, 9, 6, 10] (by decide +kernel) (by decide +kernel)
set_option maxRecDepth 20000 in
theorem gX4_conflicts_X4_isDocument : GoodIn wsX4_conflicts (va_wsS RX4 91 yX4_isDocument wsX4_isDocument) := goodIn_app (goodIn_of _ (by decide +kernel)) ggX4_conflicts_X4_isDocument
set_option maxRecDepth 20000 in
theorem ggX4_conflicts_X4_goes : GoodIn wsX4_conflicts wsX4_goes := goodIn_r _ [17, 18, 33, 34, 35, 36, 37, 38, 39, 40, 41, 42, 43, 44, 45] (by decide +kernel) (by decide +kernel)
set_option maxRecDepth 20000 in
theorem gX4_conflicts_X4_goes : GoodIn wsX4_conflicts (wsV RX4 100 RX4 yX4_goes wsX4_goes) := goodIn_app (goodIn_of _ (by decide +kernel)) ggX4_conflicts_X4_goes
set_option maxRecDepth 20000 in
theorem ggX4_conflicts_X4_leaf : GoodIn wsX4_conflicts wsX4_leaf := goodIn_r _ [22, 23, 24, 25, 26, 6, 27, 1, 28, 29, 30, 31, 32, 33, 34, 35, 36, 37, 38, 39, 40, 41, 42, 43, 44, 45] (by decide +kernel) (by decide +kernel)
set_option maxRecDepth 20000 in
theorem gX4_conflicts_X4_leaf : GoodIn wsX4_conflicts (wsV RX4 62 RX4 yX4_leaf wsX4_leaf) := goodIn_app (goodIn_of _ (by decide +kernel)) ggX4_conflicts_X4_leaf
theorem dX4_conflicts_0 : decode cX4_conflicts 0 = .ok (.aload_n 0, 1) := by decide +kernel
theorem dX4_conflicts_1 : decode cX4_conflicts 1 = .ok (.iload_n 1, 1) := by decide +kernel
theorem dX4_conflicts_2 : decode cX4_conflicts 2 = .ok (.invokestatic 87, 3) := by decide +kernel
theorem dX4_conflicts_5 : decode cX4_conflicts 5 = .ok (.ifCond .eq 14, 3) := by decide +kernel
theorem dX4_conflicts_8 : decode cX4_conflicts 8 = .ok (.iload_n 2, 1) := by decide +kernel
theorem dX4_conflicts_9 : decode cX4_conflicts 9 = .ok (.invokestatic 91, 3) := by decide +kernel
theorem dX4_conflicts_12 : decode cX4_conflicts 12 = .ok (.ifCond .eq 7, 3) := by decide +kernel
theorem dX4_conflicts_15 : decode cX4_conflicts 15 = .ok (.iconst 1, 1) := by decide +kernel
theorem dX4_conflicts_16 : decode cX4_conflicts 16 = .ok (.goto 4, 3) := by decide +kernel
theorem dX4_conflicts_19 : decode cX4_conflicts 19 = .ok (.iconst 0, 1) := by decide +kernel
theorem dX4_conflicts_20 : decode cX4_conflicts 20 = .ok (.iconst 1, 1) := by decide +kernel
theorem dX4_conflicts_21 : decode cX4_conflicts 21 = .ok (.iconst 1, 1) := by decide +kernel
theorem dX4_conflicts_22 : decode cX4_conflicts 22 = .ok (.invokevirtual 100, 3) := by decide +kernel
theorem dX4_conflicts_25 : decode cX4_conflicts 25 = .ok (.ifCond .ne 5, 3) := by decide +kernel
theorem dX4_conflicts_28 : decode cX4_conflicts 28 = .ok (.iconst 0, 1) := by decide +kernel
theorem dX4_conflicts_29 : decode cX4_conflicts 29 = .ok (.ireturn, 1) := by decide +kernel
theorem dX4_conflicts_30 : decode cX4_conflicts 30 = .ok (.iconst 0, 1) := by decide +kernel
theorem dX4_conflicts_31 : decode cX4_conflicts 31 = .ok (.istore_n 3, 1) := by decide +kernel
theorem dX4_conflicts_32 : decode cX4_conflicts 32 = .ok (.iconst 0, 1) := by decide +kernel
theorem dX4_conflicts_33 : decode cX4_conflicts 33 = .ok (.istore 4, 2) := by decide +kernel
theorem dX4_conflicts_35 : decode cX4_conflicts 35 = .ok (.iload 4, 2) := by decide +kernel
theorem dX4_conflicts_37 : decode cX4_conflicts 37 = .ok (.aload_n 0, 1) := by decide +kernel
theorem dX4_conflicts_38 : decode cX4_conflicts 38 = .ok (.getfield 52, 3) := by decide +kernel
theorem dX4_conflicts_41 : decode cX4_conflicts 41 = .ok (.if_icmp .ge 48, 3) := by decide +kernel
theorem dX4_conflicts_44 : decode cX4_conflicts 44 = .ok (.iload_n 3, 1) := by decide +kernel
theorem dX4_conflicts_45 : decode cX4_conflicts 45 = .ok (.aload_n 0, 1) := by decide +kernel
theorem dX4_conflicts_46 : decode cX4_conflicts 46 = .ok (.getfield 7, 3) := by decide +kernel
theorem dX4_conflicts_49 : decode cX4_conflicts 49 = .ok (.iload 4, 2) := by decide +kernel
theorem dX4_conflicts_51 : decode cX4_conflicts 51 = .ok (.iaload, 1) := by decide +kernel
theorem dX4_conflicts_52 : decode cX4_conflicts 52 = .ok (.iload_n 2, 1) := by decide +kernel
theorem dX4_conflicts_53 : decode cX4_conflicts 53 = .ok (.if_icmp .ne 27, 3) := by decide +kernel
theorem dX4_conflicts_56 : decode cX4_conflicts 56 = .ok (.aload_n 0, 1) := by decide +kernel
theorem dX4_conflicts_57 : decode cX4_conflicts 57 = .ok (.getfield 19, 3) := by decide +kernel
theorem dX4_conflicts_60 : decode cX4_conflicts 60 = .ok (.iload 4, 2) := by decide +kernel
theorem dX4_conflicts_62 : decode cX4_conflicts 62 = .ok (.baload, 1) := by decide +kernel
theorem dX4_conflicts_63 : decode cX4_conflicts 63 = .ok (.ifCond .ne 17, 3) := by decide +kernel
theorem dX4_conflicts_66 : decode cX4_conflicts 66 = .ok (.aload_n 0, 1) := by decide +kernel
theorem dX4_conflicts_67 : decode cX4_conflicts 67 = .ok (.iload_n 1, 1) := by decide +kernel
theorem dX4_conflicts_68 : decode cX4_conflicts 68 = .ok (.iload 4, 2) := by decide +kernel
theorem dX4_conflicts_70 : decode cX4_conflicts 70 = .ok (.invokevirtual 62, 3) := by decide +kernel
theorem dX4_conflicts_73 : decode cX4_conflicts 73 = .ok (.ifCond .eq 7, 3) := by decide +kernel
theorem dX4_conflicts_76 : decode cX4_conflicts 76 = .ok (.iconst 1, 1) := by decide +kernel
theorem dX4_conflicts_77 : decode cX4_conflicts 77 = .ok (.goto 4, 3) := by decide +kernel
theorem dX4_conflicts_80 : decode cX4_conflicts 80 = .ok (.iconst 0, 1) := by decide +kernel
theorem dX4_conflicts_81 : decode cX4_conflicts 81 = .ok (.iadd, 1) := by decide +kernel
theorem dX4_conflicts_82 : decode cX4_conflicts 82 = .ok (.istore_n 3, 1) := by decide +kernel
theorem dX4_conflicts_83 : decode cX4_conflicts 83 = .ok (.iinc 4 1, 3) := by decide +kernel
theorem dX4_conflicts_86 : decode cX4_conflicts 86 = .ok (.goto (-51), 3) := by decide +kernel
theorem dX4_conflicts_89 : decode cX4_conflicts 89 = .ok (.iload_n 3, 1) := by decide +kernel
theorem dX4_conflicts_90 : decode cX4_conflicts 90 = .ok (.ifCond .ne 7, 3) := by decide +kernel
theorem dX4_conflicts_93 : decode cX4_conflicts 93 = .ok (.iconst 0, 1) := by decide +kernel
theorem dX4_conflicts_94 : decode cX4_conflicts 94 = .ok (.goto 6, 3) := by decide +kernel
theorem dX4_conflicts_97 : decode cX4_conflicts 97 = .ok (.iload_n 3, 1) := by decide +kernel
theorem dX4_conflicts_98 : decode cX4_conflicts 98 = .ok (.iconst 1, 1) := by decide +kernel
theorem dX4_conflicts_99 : decode cX4_conflicts 99 = .ok (.isub, 1) := by decide +kernel
theorem dX4_conflicts_100 : decode cX4_conflicts 100 = .ok (.ireturn, 1) := by decide +kernel
set_option maxRecDepth 20000 in
theorem ggX4_shown_X4_best : GoodIn wsX4_shown wsX4_best := goodIn_r _ [7, 8, 9, 10, 11, 12, 6, 13, 14, 15, 16, 17, 18, 19, 20, 21, 22, 23, 24, 25, 26, 27, 1, 28, 29, 30, 31, 32, 33, 34, 35, 36, 37, 38, 39, 40, 41, 42] (by decide +kernel) (by decide +kernel)
set_option maxRecDepth 20000 in
theorem gX4_shown_X4_best : GoodIn wsX4_shown (wsV RX4 83 RX4 yX4_best wsX4_best) := goodIn_app (goodIn_of _ (by decide +kernel)) ggX4_shown_X4_best
theorem dX4_shown_0 : decode cX4_shown 0 = .ok (.aload_n 0, 1) := by decide +kernel
theorem dX4_shown_1 : decode cX4_shown 1 = .ok (.iload_n 1, 1) := by decide +kernel
theorem dX4_shown_2 : decode cX4_shown 2 = .ok (.iload_n 2, 1) := by decide +kernel
theorem dX4_shown_3 : decode cX4_shown 3 = .ok (.invokevirtual 83, 3) := by decide +kernel
theorem dX4_shown_6 : decode cX4_shown 6 = .ok (.istore_n 3, 1) := by decide +kernel
theorem dX4_shown_7 : decode cX4_shown 7 = .ok (.iload_n 3, 1) := by decide +kernel
theorem dX4_shown_8 : decode cX4_shown 8 = .ok (.iconst (-1), 1) := by decide +kernel
theorem dX4_shown_9 : decode cX4_shown 9 = .ok (.if_icmp .eq 12, 3) := by decide +kernel
theorem dX4_shown_12 : decode cX4_shown 12 = .ok (.aload_n 0, 1) := by decide +kernel
theorem dX4_shown_13 : decode cX4_shown 13 = .ok (.getfield 19, 3) := by decide +kernel
theorem dX4_shown_16 : decode cX4_shown 16 = .ok (.iload_n 3, 1) := by decide +kernel
theorem dX4_shown_17 : decode cX4_shown 17 = .ok (.baload, 1) := by decide +kernel
theorem dX4_shown_18 : decode cX4_shown 18 = .ok (.ifCond .eq 7, 3) := by decide +kernel
theorem dX4_shown_21 : decode cX4_shown 21 = .ok (.iconst (-1), 1) := by decide +kernel
theorem dX4_shown_22 : decode cX4_shown 22 = .ok (.goto 9, 3) := by decide +kernel
theorem dX4_shown_25 : decode cX4_shown 25 = .ok (.aload_n 0, 1) := by decide +kernel
theorem dX4_shown_26 : decode cX4_shown 26 = .ok (.getfield 16, 3) := by decide +kernel
theorem dX4_shown_29 : decode cX4_shown 29 = .ok (.iload_n 3, 1) := by decide +kernel
theorem dX4_shown_30 : decode cX4_shown 30 = .ok (.iaload, 1) := by decide +kernel
theorem dX4_shown_31 : decode cX4_shown 31 = .ok (.ireturn, 1) := by decide +kernel
set_option maxRecDepth 20000 in
theorem ggX4_count_X4_isStore : GoodIn wsX4_count wsX4_isStore := goodIn_r _ [4, 5, 6, 3, 7] (by decide +kernel) (by decide +kernel)
set_option maxRecDepth 20000 in
theorem gX4_count_X4_isStore : GoodIn wsX4_count (va_wsS RX4 87 yX4_isStore wsX4_isStore) := goodIn_app (goodIn_of _ (by decide +kernel)) ggX4_count_X4_isStore
set_option maxRecDepth 20000 in
theorem ggX4_count_X4_goes : GoodIn wsX4_count wsX4_goes := goodIn_r _ [11, 12, 45, 46, 47, 48, 49, 50, 51, 52, 53, 54, 55, 56, 57] (by decide +kernel) (by decide +kernel)
set_option maxRecDepth 20000 in
theorem gX4_count_X4_goes : GoodIn wsX4_count (wsV RX4 100 RX4 yX4_goes wsX4_goes) := goodIn_app (goodIn_of _ (by decide +kernel)) ggX4_count_X4_goes
set_option maxRecDepth 20000 in
theorem ggX4_count_X4_shown : GoodIn wsX4_count wsX4_shown := goodIn_r _ [16, 17, 18, 19, 20, 21, 3, 22, 23, 24, 25, 26, 27, 28, 29, 30, 31, 32, 33, 34, 35, 36, 37, 38, 39, 40, 41, 42, 43, 44, 45, 46, 47, 48, 49, 50, 51, 52, 53, 54, 55, 56, 57] (by decide +kernel) (by decide +kernel)
set_option maxRecDepth 20000 in
theorem gX4_count_X4_shown : GoodIn wsX4_count (wsV RX4 121 RX4 yX4_shown wsX4_shown) := goodIn_app (goodIn_of _ (by decide +kernel)) ggX4_count_X4_shown
theorem dX4_count_0 : decode cX4_count 0 = .ok (.iconst 0, 1) := by decide +kernel
theorem dX4_count_1 : decode cX4_count 1 = .ok (.istore 4, 2) := by decide +kernel
theorem dX4_count_3 : decode cX4_count 3 = .ok (.aload_n 0, 1) := by decide +kernel
theorem dX4_count_4 : decode cX4_count 4 = .ok (.iload_n 1, 1) := by decide +kernel
theorem dX4_count_5 : decode cX4_count 5 = .ok (.invokestatic 87, 3) := by decide +kernel
theorem dX4_count_8 : decode cX4_count 8 = .ok (.iconst 1, 1) := by decide +kernel
theorem dX4_count_9 : decode cX4_count 9 = .ok (.iconst 1, 1) := by decide +kernel
theorem dX4_count_10 : decode cX4_count 10 = .ok (.invokevirtual 100, 3) := by decide +kernel
theorem dX4_count_13 : decode cX4_count 13 = .ok (.istore 5, 2) := by decide +kernel
theorem dX4_count_15 : decode cX4_count 15 = .ok (.iconst 0, 1) := by decide +kernel
theorem dX4_count_16 : decode cX4_count 16 = .ok (.istore 6, 2) := by decide +kernel
theorem dX4_count_18 : decode cX4_count 18 = .ok (.iload 6, 2) := by decide +kernel
theorem dX4_count_20 : decode cX4_count 20 = .ok (.iconst 4, 1) := by decide +kernel
theorem dX4_count_21 : decode cX4_count 21 = .ok (.if_icmp .ge 51, 3) := by decide +kernel
theorem dX4_count_24 : decode cX4_count 24 = .ok (.iload 5, 2) := by decide +kernel
theorem dX4_count_26 : decode cX4_count 26 = .ok (.ifCond .eq 46, 3) := by decide +kernel
theorem dX4_count_29 : decode cX4_count 29 = .ok (.aload_n 0, 1) := by decide +kernel
theorem dX4_count_30 : decode cX4_count 30 = .ok (.iload_n 1, 1) := by decide +kernel
theorem dX4_count_31 : decode cX4_count 31 = .ok (.iload 6, 2) := by decide +kernel
theorem dX4_count_33 : decode cX4_count 33 = .ok (.invokevirtual 121, 3) := by decide +kernel
theorem dX4_count_36 : decode cX4_count 36 = .ok (.istore 7, 2) := by decide +kernel
theorem dX4_count_38 : decode cX4_count 38 = .ok (.iload 4, 2) := by decide +kernel
theorem dX4_count_40 : decode cX4_count 40 = .ok (.iload 7, 2) := by decide +kernel
theorem dX4_count_42 : decode cX4_count 42 = .ok (.iconst (-1), 1) := by decide +kernel
theorem dX4_count_43 : decode cX4_count 43 = .ok (.if_icmp .eq 19, 3) := by decide +kernel
theorem dX4_count_46 : decode cX4_count 46 = .ok (.iload 7, 2) := by decide +kernel
theorem dX4_count_48 : decode cX4_count 48 = .ok (.iload_n 2, 1) := by decide +kernel
theorem dX4_count_49 : decode cX4_count 49 = .ok (.if_icmp .lt 13, 3) := by decide +kernel
theorem dX4_count_52 : decode cX4_count 52 = .ok (.iload 7, 2) := by decide +kernel
theorem dX4_count_54 : decode cX4_count 54 = .ok (.iload_n 3, 1) := by decide +kernel
theorem dX4_count_55 : decode cX4_count 55 = .ok (.if_icmp .gt 7, 3) := by decide +kernel
theorem dX4_count_58 : decode cX4_count 58 = .ok (.iconst 1, 1) := by decide +kernel
theorem dX4_count_59 : decode cX4_count 59 = .ok (.goto 4, 3) := by decide +kernel
theorem dX4_count_62 : decode cX4_count 62 = .ok (.iconst 0, 1) := by decide +kernel
theorem dX4_count_63 : decode cX4_count 63 = .ok (.iadd, 1) := by decide +kernel
theorem dX4_count_64 : decode cX4_count 64 = .ok (.istore 4, 2) := by decide +kernel
theorem dX4_count_66 : decode cX4_count 66 = .ok (.iinc 6 1, 3) := by decide +kernel
theorem dX4_count_69 : decode cX4_count 69 = .ok (.goto (-51), 3) := by decide +kernel
theorem dX4_count_72 : decode cX4_count 72 = .ok (.iload 4, 2) := by decide +kernel
theorem dX4_count_74 : decode cX4_count 74 = .ok (.ireturn, 1) := by decide +kernel
set_option maxRecDepth 20000 in
theorem ggX4_placed_X4_shown : GoodIn wsX4_placed wsX4_shown := goodIn_r _ [5, 6, 7, 8, 9, 10, 4, 11, 12, 13, 14, 15, 16, 17, 18, 19, 20, 21, 22, 23, 24, 25, 26, 27, 28, 29, 30, 31, 32, 33, 34, 35, 36, 37, 38, 39, 40, 41, 42, 43, 44, 45, 46] (by decide +kernel) (by decide +kernel)
set_option maxRecDepth 20000 in
theorem gX4_placed_X4_shown : GoodIn wsX4_placed (wsV RX4 121 RX4 yX4_shown wsX4_shown) := goodIn_app (goodIn_of _ (by decide +kernel)) ggX4_placed_X4_shown
theorem dX4_placed_0 : decode cX4_placed 0 = .ok (.iconst 0, 1) := by decide +kernel
theorem dX4_placed_1 : decode cX4_placed 1 = .ok (.istore_n 3, 1) := by decide +kernel
theorem dX4_placed_2 : decode cX4_placed 2 = .ok (.iload_n 3, 1) := by decide +kernel
theorem dX4_placed_3 : decode cX4_placed 3 = .ok (.iconst 4, 1) := by decide +kernel
theorem dX4_placed_4 : decode cX4_placed 4 = .ok (.if_icmp .ge 116, 3) := by decide +kernel
theorem dX4_placed_7 : decode cX4_placed 7 = .ok (.iconst 0, 1) := by decide +kernel
theorem dX4_placed_8 : decode cX4_placed 8 = .ok (.istore 4, 2) := by decide +kernel
theorem dX4_placed_10 : decode cX4_placed 10 = .ok (.iconst 0, 1) := by decide +kernel
theorem dX4_placed_11 : decode cX4_placed 11 = .ok (.istore 5, 2) := by decide +kernel
theorem dX4_placed_13 : decode cX4_placed 13 = .ok (.iload 5, 2) := by decide +kernel
theorem dX4_placed_15 : decode cX4_placed 15 = .ok (.iconst 4, 1) := by decide +kernel
theorem dX4_placed_16 : decode cX4_placed 16 = .ok (.if_icmp .ge 80, 3) := by decide +kernel
theorem dX4_placed_19 : decode cX4_placed 19 = .ok (.aload_n 0, 1) := by decide +kernel
theorem dX4_placed_20 : decode cX4_placed 20 = .ok (.iload_n 1, 1) := by decide +kernel
theorem dX4_placed_21 : decode cX4_placed 21 = .ok (.iload 5, 2) := by decide +kernel
theorem dX4_placed_23 : decode cX4_placed 23 = .ok (.invokevirtual 121, 3) := by decide +kernel
theorem dX4_placed_26 : decode cX4_placed 26 = .ok (.aload_n 0, 1) := by decide +kernel
theorem dX4_placed_27 : decode cX4_placed 27 = .ok (.iload_n 1, 1) := by decide +kernel
theorem dX4_placed_28 : decode cX4_placed 28 = .ok (.iload_n 3, 1) := by decide +kernel
theorem dX4_placed_29 : decode cX4_placed 29 = .ok (.invokevirtual 121, 3) := by decide +kernel
theorem dX4_placed_32 : decode cX4_placed 32 = .ok (.if_icmp .lt 25, 3) := by decide +kernel
theorem dX4_placed_35 : decode cX4_placed 35 = .ok (.aload_n 0, 1) := by decide +kernel
theorem dX4_placed_36 : decode cX4_placed 36 = .ok (.iload_n 1, 1) := by decide +kernel
theorem dX4_placed_37 : decode cX4_placed 37 = .ok (.iload 5, 2) := by decide +kernel
theorem dX4_placed_39 : decode cX4_placed 39 = .ok (.invokevirtual 121, 3) := by decide +kernel
theorem dX4_placed_42 : decode cX4_placed 42 = .ok (.aload_n 0, 1) := by decide +kernel
theorem dX4_placed_43 : decode cX4_placed 43 = .ok (.iload_n 1, 1) := by decide +kernel
theorem dX4_placed_44 : decode cX4_placed 44 = .ok (.iload_n 3, 1) := by decide +kernel
theorem dX4_placed_45 : decode cX4_placed 45 = .ok (.invokevirtual 121, 3) := by decide +kernel
theorem dX4_placed_48 : decode cX4_placed 48 = .ok (.if_icmp .ne 13, 3) := by decide +kernel
theorem dX4_placed_51 : decode cX4_placed 51 = .ok (.iload 5, 2) := by decide +kernel
theorem dX4_placed_53 : decode cX4_placed 53 = .ok (.iload_n 3, 1) := by decide +kernel
theorem dX4_placed_54 : decode cX4_placed 54 = .ok (.if_icmp .ge 7, 3) := by decide +kernel
theorem dX4_placed_57 : decode cX4_placed 57 = .ok (.iconst 1, 1) := by decide +kernel
theorem dX4_placed_58 : decode cX4_placed 58 = .ok (.goto 4, 3) := by decide +kernel
theorem dX4_placed_61 : decode cX4_placed 61 = .ok (.iconst 0, 1) := by decide +kernel
theorem dX4_placed_62 : decode cX4_placed 62 = .ok (.istore 6, 2) := by decide +kernel
theorem dX4_placed_64 : decode cX4_placed 64 = .ok (.iload 4, 2) := by decide +kernel
theorem dX4_placed_66 : decode cX4_placed 66 = .ok (.aload_n 0, 1) := by decide +kernel
theorem dX4_placed_67 : decode cX4_placed 67 = .ok (.iload_n 1, 1) := by decide +kernel
theorem dX4_placed_68 : decode cX4_placed 68 = .ok (.iload 5, 2) := by decide +kernel
theorem dX4_placed_70 : decode cX4_placed 70 = .ok (.invokevirtual 121, 3) := by decide +kernel
theorem dX4_placed_73 : decode cX4_placed 73 = .ok (.iconst (-1), 1) := by decide +kernel
theorem dX4_placed_74 : decode cX4_placed 74 = .ok (.if_icmp .eq 12, 3) := by decide +kernel
theorem dX4_placed_77 : decode cX4_placed 77 = .ok (.iload 6, 2) := by decide +kernel
theorem dX4_placed_79 : decode cX4_placed 79 = .ok (.ifCond .eq 7, 3) := by decide +kernel
theorem dX4_placed_82 : decode cX4_placed 82 = .ok (.iconst 1, 1) := by decide +kernel
theorem dX4_placed_83 : decode cX4_placed 83 = .ok (.goto 4, 3) := by decide +kernel
theorem dX4_placed_86 : decode cX4_placed 86 = .ok (.iconst 0, 1) := by decide +kernel
theorem dX4_placed_87 : decode cX4_placed 87 = .ok (.iadd, 1) := by decide +kernel
theorem dX4_placed_88 : decode cX4_placed 88 = .ok (.istore 4, 2) := by decide +kernel
theorem dX4_placed_90 : decode cX4_placed 90 = .ok (.iinc 5 1, 3) := by decide +kernel
theorem dX4_placed_93 : decode cX4_placed 93 = .ok (.goto (-80), 3) := by decide +kernel
theorem dX4_placed_96 : decode cX4_placed 96 = .ok (.aload_n 0, 1) := by decide +kernel
theorem dX4_placed_97 : decode cX4_placed 97 = .ok (.iload_n 1, 1) := by decide +kernel
theorem dX4_placed_98 : decode cX4_placed 98 = .ok (.iload_n 3, 1) := by decide +kernel
theorem dX4_placed_99 : decode cX4_placed 99 = .ok (.invokevirtual 121, 3) := by decide +kernel
theorem dX4_placed_102 : decode cX4_placed 102 = .ok (.iconst (-1), 1) := by decide +kernel
theorem dX4_placed_103 : decode cX4_placed 103 = .ok (.if_icmp .eq 11, 3) := by decide +kernel
theorem dX4_placed_106 : decode cX4_placed 106 = .ok (.iload 4, 2) := by decide +kernel
theorem dX4_placed_108 : decode cX4_placed 108 = .ok (.iload_n 2, 1) := by decide +kernel
theorem dX4_placed_109 : decode cX4_placed 109 = .ok (.if_icmp .ne 5, 3) := by decide +kernel
theorem dX4_placed_112 : decode cX4_placed 112 = .ok (.iload_n 3, 1) := by decide +kernel
theorem dX4_placed_113 : decode cX4_placed 113 = .ok (.ireturn, 1) := by decide +kernel
theorem dX4_placed_114 : decode cX4_placed 114 = .ok (.iinc 3 1, 3) := by decide +kernel
theorem dX4_placed_117 : decode cX4_placed 117 = .ok (.goto (-115), 3) := by decide +kernel
theorem dX4_placed_120 : decode cX4_placed 120 = .ok (.iconst (-1), 1) := by decide +kernel
theorem dX4_placed_121 : decode cX4_placed 121 = .ok (.ireturn, 1) := by decide +kernel
set_option maxRecDepth 20000 in
theorem ggX4_viewAt_X4_isStore : GoodIn wsX4_viewAt wsX4_isStore := goodIn_r _ [4, 5, 6, 3, 7] (by decide +kernel) (by decide +kernel)
set_option maxRecDepth 20000 in
theorem gX4_viewAt_X4_isStore : GoodIn wsX4_viewAt (va_wsS RX4 87 yX4_isStore wsX4_isStore) := goodIn_app (goodIn_of _ (by decide +kernel)) ggX4_viewAt_X4_isStore
set_option maxRecDepth 20000 in
theorem ggX4_viewAt_X4_placed : GoodIn wsX4_viewAt wsX4_placed := goodIn_r _ [11, 12, 13, 14, 3, 15, 16, 17, 18, 19, 20, 21, 22, 23, 24, 25, 26, 27, 28, 29, 30, 31, 32, 33, 34, 35, 36, 37, 38, 39, 40, 41, 42, 43, 49, 50, 51, 52, 53, 54, 55, 56, 57, 58, 59, 60, 61] (by decide +kernel) (by decide +kernel)
set_option maxRecDepth 20000 in
theorem gX4_viewAt_X4_placed : GoodIn wsX4_viewAt (wsV RX4 124 RX4 yX4_placed wsX4_placed) := goodIn_app (goodIn_of _ (by decide +kernel)) ggX4_viewAt_X4_placed
set_option maxRecDepth 20000 in
theorem ggX4_viewAt_X4_goes : GoodIn wsX4_viewAt wsX4_goes := goodIn_r _ [47, 48, 49, 50, 51, 52, 53, 54, 55, 56, 57, 58, 59, 60, 61] (by decide +kernel) (by decide +kernel)
set_option maxRecDepth 20000 in
theorem gX4_viewAt_X4_goes : GoodIn wsX4_viewAt (wsV RX4 100 RX4 yX4_goes wsX4_goes) := goodIn_app (goodIn_of _ (by decide +kernel)) ggX4_viewAt_X4_goes
theorem dX4_viewAt_0 : decode cX4_viewAt 0 = .ok (.iload_n 1, 1) := by decide +kernel
theorem dX4_viewAt_1 : decode cX4_viewAt 1 = .ok (.invokestatic 87, 3) := by decide +kernel
theorem dX4_viewAt_4 : decode cX4_viewAt 4 = .ok (.ifCond .eq 17, 3) := by decide +kernel
theorem dX4_viewAt_7 : decode cX4_viewAt 7 = .ok (.aload_n 0, 1) := by decide +kernel
theorem dX4_viewAt_8 : decode cX4_viewAt 8 = .ok (.iload_n 1, 1) := by decide +kernel
theorem dX4_viewAt_9 : decode cX4_viewAt 9 = .ok (.iload_n 2, 1) := by decide +kernel
theorem dX4_viewAt_10 : decode cX4_viewAt 10 = .ok (.invokevirtual 124, 3) := by decide +kernel
theorem dX4_viewAt_13 : decode cX4_viewAt 13 = .ok (.iconst (-1), 1) := by decide +kernel
theorem dX4_viewAt_14 : decode cX4_viewAt 14 = .ok (.if_icmp .eq 7, 3) := by decide +kernel
theorem dX4_viewAt_17 : decode cX4_viewAt 17 = .ok (.iconst 1, 1) := by decide +kernel
theorem dX4_viewAt_18 : decode cX4_viewAt 18 = .ok (.goto 4, 3) := by decide +kernel
theorem dX4_viewAt_21 : decode cX4_viewAt 21 = .ok (.iconst 0, 1) := by decide +kernel
theorem dX4_viewAt_22 : decode cX4_viewAt 22 = .ok (.istore_n 3, 1) := by decide +kernel
theorem dX4_viewAt_23 : decode cX4_viewAt 23 = .ok (.aload_n 0, 1) := by decide +kernel
theorem dX4_viewAt_24 : decode cX4_viewAt 24 = .ok (.iload_n 3, 1) := by decide +kernel
theorem dX4_viewAt_25 : decode cX4_viewAt 25 = .ok (.iconst 1, 1) := by decide +kernel
theorem dX4_viewAt_26 : decode cX4_viewAt 26 = .ok (.iconst 1, 1) := by decide +kernel
theorem dX4_viewAt_27 : decode cX4_viewAt 27 = .ok (.invokevirtual 100, 3) := by decide +kernel
theorem dX4_viewAt_30 : decode cX4_viewAt 30 = .ok (.ifCond .eq 12, 3) := by decide +kernel
theorem dX4_viewAt_33 : decode cX4_viewAt 33 = .ok (.aload_n 0, 1) := by decide +kernel
theorem dX4_viewAt_34 : decode cX4_viewAt 34 = .ok (.iload_n 1, 1) := by decide +kernel
theorem dX4_viewAt_35 : decode cX4_viewAt 35 = .ok (.iload_n 2, 1) := by decide +kernel
theorem dX4_viewAt_36 : decode cX4_viewAt 36 = .ok (.invokevirtual 124, 3) := by decide +kernel
theorem dX4_viewAt_39 : decode cX4_viewAt 39 = .ok (.goto 4, 3) := by decide +kernel
theorem dX4_viewAt_42 : decode cX4_viewAt 42 = .ok (.iconst 0, 1) := by decide +kernel
theorem dX4_viewAt_43 : decode cX4_viewAt 43 = .ok (.ireturn, 1) := by decide +kernel
theorem dJ9_max_7cf53_0 : decode cJ9_max_7cf53 0 = .ok (.iload_n 0, 1) := by decide +kernel
theorem dJ9_max_7cf53_1 : decode cJ9_max_7cf53 1 = .ok (.iload_n 1, 1) := by decide +kernel
theorem dJ9_max_7cf53_2 : decode cJ9_max_7cf53 2 = .ok (.if_icmp .lt 7, 3) := by decide +kernel
theorem dJ9_max_7cf53_5 : decode cJ9_max_7cf53 5 = .ok (.iload_n 0, 1) := by decide +kernel
theorem dJ9_max_7cf53_6 : decode cJ9_max_7cf53 6 = .ok (.goto 4, 3) := by decide +kernel
theorem dJ9_max_7cf53_9 : decode cJ9_max_7cf53 9 = .ok (.iload_n 1, 1) := by decide +kernel
theorem dJ9_max_7cf53_10 : decode cJ9_max_7cf53 10 = .ok (.ireturn, 1) := by decide +kernel
theorem dJ9_min_7cf53_0 : decode cJ9_min_7cf53 0 = .ok (.iload_n 0, 1) := by decide +kernel
theorem dJ9_min_7cf53_1 : decode cJ9_min_7cf53 1 = .ok (.iload_n 1, 1) := by decide +kernel
theorem dJ9_min_7cf53_2 : decode cJ9_min_7cf53 2 = .ok (.if_icmp .gt 7, 3) := by decide +kernel
theorem dJ9_min_7cf53_5 : decode cJ9_min_7cf53 5 = .ok (.iload_n 0, 1) := by decide +kernel
theorem dJ9_min_7cf53_6 : decode cJ9_min_7cf53 6 = .ok (.goto 4, 3) := by decide +kernel
theorem dJ9_min_7cf53_9 : decode cJ9_min_7cf53 9 = .ok (.iload_n 1, 1) := by decide +kernel
theorem dJ9_min_7cf53_10 : decode cJ9_min_7cf53 10 = .ok (.ireturn, 1) := by decide +kernel
theorem dJ7_fill_53178_0 : decode cJ7_fill_53178 0 = .ok (.iconst 0, 1) := by decide +kernel
theorem dJ7_fill_53178_1 : decode cJ7_fill_53178 1 = .ok (.istore_n 2, 1) := by decide +kernel
theorem dJ7_fill_53178_2 : decode cJ7_fill_53178 2 = .ok (.aload_n 0, 1) := by decide +kernel
theorem dJ7_fill_53178_3 : decode cJ7_fill_53178 3 = .ok (.arraylength, 1) := by decide +kernel
theorem dJ7_fill_53178_4 : decode cJ7_fill_53178 4 = .ok (.istore_n 3, 1) := by decide +kernel
theorem dJ7_fill_53178_5 : decode cJ7_fill_53178 5 = .ok (.iload_n 2, 1) := by decide +kernel
theorem dJ7_fill_53178_6 : decode cJ7_fill_53178 6 = .ok (.iload_n 3, 1) := by decide +kernel
theorem dJ7_fill_53178_7 : decode cJ7_fill_53178 7 = .ok (.if_icmp .ge 13, 3) := by decide +kernel
theorem dJ7_fill_53178_10 : decode cJ7_fill_53178 10 = .ok (.aload_n 0, 1) := by decide +kernel
theorem dJ7_fill_53178_11 : decode cJ7_fill_53178 11 = .ok (.iload_n 2, 1) := by decide +kernel
theorem dJ7_fill_53178_12 : decode cJ7_fill_53178 12 = .ok (.iload_n 1, 1) := by decide +kernel
theorem dJ7_fill_53178_13 : decode cJ7_fill_53178 13 = .ok (.iastore, 1) := by decide +kernel
theorem dJ7_fill_53178_14 : decode cJ7_fill_53178 14 = .ok (.iinc 2 1, 3) := by decide +kernel
theorem dJ7_fill_53178_17 : decode cJ7_fill_53178 17 = .ok (.goto (-12), 3) := by decide +kernel
theorem dJ7_fill_53178_20 : decode cJ7_fill_53178 20 = .ok (.return_, 1) := by decide +kernel
