set_option maxRecDepth 20000 in
theorem ggX0_init_J7_fill_53178 : GoodIn wsX0_init wsJ7_fill_53178 := goodIn_r _ [12] (by decide +kernel) (by decide +kernel)
set_option maxRecDepth 20000 in
theorem gX0_init_J7_fill_53178 : GoodIn wsX0_init (va_wsS RX0 22 yJ7_fill_53178 wsJ7_fill_53178) := goodIn_app (goodIn_of _ (by decide +kernel)) ggX0_init_J7_fill_53178
theorem dX0_init_0 : decode cX0_init 0 = .ok (.aload_n 0, 1) := by decide +kernel
theorem dX0_init_1 : decode cX0_init 1 = .ok (.invokespecial 3, 3) := by decide +kernel
theorem dX0_init_4 : decode cX0_init 4 = .ok (.aload_n 0, 1) := by decide +kernel
theorem dX0_init_5 : decode cX0_init 5 = .ok (.sipush 150, 3) := by decide +kernel
theorem dX0_init_8 : decode cX0_init 8 = .ok (.newarray .boolean, 2) := by decide +kernel
theorem dX0_init_10 : decode cX0_init 10 = .ok (.putfield 9, 3) := by decide +kernel
theorem dX0_init_13 : decode cX0_init 13 = .ok (.aload_n 0, 1) := by decide +kernel
theorem dX0_init_14 : decode cX0_init 14 = .ok (.sipush 150, 3) := by decide +kernel
theorem dX0_init_17 : decode cX0_init 17 = .ok (.newarray .int, 2) := by decide +kernel
theorem dX0_init_19 : decode cX0_init 19 = .ok (.putfield 15, 3) := by decide +kernel
theorem dX0_init_22 : decode cX0_init 22 = .ok (.aload_n 0, 1) := by decide +kernel
theorem dX0_init_23 : decode cX0_init 23 = .ok (.iconst 4, 1) := by decide +kernel
theorem dX0_init_24 : decode cX0_init 24 = .ok (.newarray .int, 2) := by decide +kernel
theorem dX0_init_26 : decode cX0_init 26 = .ok (.putfield 19, 3) := by decide +kernel
theorem dX0_init_29 : decode cX0_init 29 = .ok (.aload_n 0, 1) := by decide +kernel
theorem dX0_init_30 : decode cX0_init 30 = .ok (.getfield 15, 3) := by decide +kernel
theorem dX0_init_33 : decode cX0_init 33 = .ok (.sipush 151, 3) := by decide +kernel
theorem dX0_init_36 : decode cX0_init 36 = .ok (.invokestatic 22, 3) := by decide +kernel
theorem dX0_init_39 : decode cX0_init 39 = .ok (.aload_n 0, 1) := by decide +kernel
theorem dX0_init_40 : decode cX0_init 40 = .ok (.getfield 19, 3) := by decide +kernel
theorem dX0_init_43 : decode cX0_init 43 = .ok (.iconst (-1), 1) := by decide +kernel
theorem dX0_init_44 : decode cX0_init 44 = .ok (.invokestatic 22, 3) := by decide +kernel
theorem dX0_init_47 : decode cX0_init 47 = .ok (.return_, 1) := by decide +kernel
set_option maxRecDepth 20000 in
theorem ggX0_survey_X0_findLeaves : GoodIn wsX0_survey wsX0_findLeaves := goodIn_r _ [5, 6, 7, 8, 9, 10, 11, 12, 13, 14, 15, 16, 17, 4, 18, 19, 20, 21, 22, 23, 37, 38, 39, 40, 41, 42, 43, 44, 45, 46] (by decide +kernel) (by decide +kernel)
set_option maxRecDepth 20000 in
theorem gX0_survey_X0_findLeaves : GoodIn wsX0_survey (wsV RX0 28 RX0 yX0_findLeaves wsX0_findLeaves) := goodIn_app (goodIn_of _ (by decide +kernel)) ggX0_survey_X0_findLeaves
set_option maxRecDepth 20000 in
theorem ggX0_survey_X0_findWinners : GoodIn wsX0_survey wsX0_findWinners := goodIn_r _ [27, 28, 11, 12, 13, 14, 15, 16, 17, 4, 18, 19, 20, 21, 22, 23, 6, 29, 30, 31, 32, 33, 34, 35, 36, 37, 38, 39, 40, 41, 42, 43, 44, 45, 46] (by decide +kernel) (by decide +kernel)
set_option maxRecDepth 20000 in
theorem gX0_survey_X0_findWinners : GoodIn wsX0_survey (wsV RX0 32 RX0 yX0_findWinners wsX0_findWinners) := goodIn_app (goodIn_of _ (by decide +kernel)) ggX0_survey_X0_findWinners
theorem dX0_survey_0 : decode cX0_survey 0 = .ok (.aload_n 0, 1) := by decide +kernel
theorem dX0_survey_1 : decode cX0_survey 1 = .ok (.aload_n 1, 1) := by decide +kernel
theorem dX0_survey_2 : decode cX0_survey 2 = .ok (.invokevirtual 28, 3) := by decide +kernel
theorem dX0_survey_5 : decode cX0_survey 5 = .ok (.aload_n 0, 1) := by decide +kernel
theorem dX0_survey_6 : decode cX0_survey 6 = .ok (.aload_n 1, 1) := by decide +kernel
theorem dX0_survey_7 : decode cX0_survey 7 = .ok (.invokevirtual 32, 3) := by decide +kernel
theorem dX0_survey_10 : decode cX0_survey 10 = .ok (.return_, 1) := by decide +kernel
set_option maxRecDepth 20000 in
theorem ggX0_findLeaves_J7_fill_53178 : GoodIn wsX0_findLeaves wsJ7_fill_53178 := goodIn_r _ [9] (by decide +kernel) (by decide +kernel)
set_option maxRecDepth 20000 in
theorem gX0_findLeaves_J7_fill_53178 : GoodIn wsX0_findLeaves (va_wsS RX0 22 yJ7_fill_53178 wsJ7_fill_53178) := goodIn_app (goodIn_of _ (by decide +kernel)) ggX0_findLeaves_J7_fill_53178
set_option maxRecDepth 20000 in
theorem ggX0_findLeaves_X0_endsAt : GoodIn wsX0_findLeaves wsX0_endsAt := goodIn_r _ [14, 15, 16, 17, 18, 13, 19, 1, 20, 21, 22] (by decide +kernel) (by decide +kernel)
set_option maxRecDepth 20000 in
theorem gX0_findLeaves_X0_endsAt : GoodIn wsX0_findLeaves (wsV RX0 44 RX0 yX0_endsAt wsX0_endsAt) := goodIn_app (goodIn_of _ (by decide +kernel)) ggX0_findLeaves_X0_endsAt
theorem dX0_findLeaves_0 : decode cX0_findLeaves 0 = .ok (.aload_n 0, 1) := by decide +kernel
theorem dX0_findLeaves_1 : decode cX0_findLeaves 1 = .ok (.getfield 15, 3) := by decide +kernel
theorem dX0_findLeaves_4 : decode cX0_findLeaves 4 = .ok (.sipush 151, 3) := by decide +kernel
theorem dX0_findLeaves_7 : decode cX0_findLeaves 7 = .ok (.invokestatic 22, 3) := by decide +kernel
theorem dX0_findLeaves_10 : decode cX0_findLeaves 10 = .ok (.aload_n 1, 1) := by decide +kernel
theorem dX0_findLeaves_11 : decode cX0_findLeaves 11 = .ok (.getfield 35, 3) := by decide +kernel
theorem dX0_findLeaves_14 : decode cX0_findLeaves 14 = .ok (.iconst 1, 1) := by decide +kernel
theorem dX0_findLeaves_15 : decode cX0_findLeaves 15 = .ok (.isub, 1) := by decide +kernel
theorem dX0_findLeaves_16 : decode cX0_findLeaves 16 = .ok (.istore_n 2, 1) := by decide +kernel
theorem dX0_findLeaves_17 : decode cX0_findLeaves 17 = .ok (.iload_n 2, 1) := by decide +kernel
theorem dX0_findLeaves_18 : decode cX0_findLeaves 18 = .ok (.ifCond .lt 63, 3) := by decide +kernel
theorem dX0_findLeaves_21 : decode cX0_findLeaves 21 = .ok (.aload_n 1, 1) := by decide +kernel
theorem dX0_findLeaves_22 : decode cX0_findLeaves 22 = .ok (.getfield 41, 3) := by decide +kernel
theorem dX0_findLeaves_25 : decode cX0_findLeaves 25 = .ok (.iload_n 2, 1) := by decide +kernel
theorem dX0_findLeaves_26 : decode cX0_findLeaves 26 = .ok (.iaload, 1) := by decide +kernel
theorem dX0_findLeaves_27 : decode cX0_findLeaves 27 = .ok (.istore_n 3, 1) := by decide +kernel
theorem dX0_findLeaves_28 : decode cX0_findLeaves 28 = .ok (.iload_n 3, 1) := by decide +kernel
theorem dX0_findLeaves_29 : decode cX0_findLeaves 29 = .ok (.iconst (-1), 1) := by decide +kernel
theorem dX0_findLeaves_30 : decode cX0_findLeaves 30 = .ok (.if_icmp .eq 45, 3) := by decide +kernel
theorem dX0_findLeaves_33 : decode cX0_findLeaves 33 = .ok (.aload_n 0, 1) := by decide +kernel
theorem dX0_findLeaves_34 : decode cX0_findLeaves 34 = .ok (.iload_n 2, 1) := by decide +kernel
theorem dX0_findLeaves_35 : decode cX0_findLeaves 35 = .ok (.invokevirtual 44, 3) := by decide +kernel
theorem dX0_findLeaves_38 : decode cX0_findLeaves 38 = .ok (.ifCond .eq 12, 3) := by decide +kernel
theorem dX0_findLeaves_41 : decode cX0_findLeaves 41 = .ok (.aload_n 1, 1) := by decide +kernel
theorem dX0_findLeaves_42 : decode cX0_findLeaves 42 = .ok (.getfield 48, 3) := by decide +kernel
theorem dX0_findLeaves_45 : decode cX0_findLeaves 45 = .ok (.iload_n 2, 1) := by decide +kernel
theorem dX0_findLeaves_46 : decode cX0_findLeaves 46 = .ok (.iaload, 1) := by decide +kernel
theorem dX0_findLeaves_47 : decode cX0_findLeaves 47 = .ok (.goto 9, 3) := by decide +kernel
theorem dX0_findLeaves_50 : decode cX0_findLeaves 50 = .ok (.aload_n 0, 1) := by decide +kernel
theorem dX0_findLeaves_51 : decode cX0_findLeaves 51 = .ok (.getfield 15, 3) := by decide +kernel
theorem dX0_findLeaves_54 : decode cX0_findLeaves 54 = .ok (.iload_n 2, 1) := by decide +kernel
theorem dX0_findLeaves_55 : decode cX0_findLeaves 55 = .ok (.iaload, 1) := by decide +kernel
theorem dX0_findLeaves_56 : decode cX0_findLeaves 56 = .ok (.istore 4, 2) := by decide +kernel
theorem dX0_findLeaves_58 : decode cX0_findLeaves 58 = .ok (.aload_n 0, 1) := by decide +kernel
theorem dX0_findLeaves_59 : decode cX0_findLeaves 59 = .ok (.getfield 15, 3) := by decide +kernel
theorem dX0_findLeaves_62 : decode cX0_findLeaves 62 = .ok (.iload_n 3, 1) := by decide +kernel
theorem dX0_findLeaves_63 : decode cX0_findLeaves 63 = .ok (.aload_n 0, 1) := by decide +kernel
theorem dX0_findLeaves_64 : decode cX0_findLeaves 64 = .ok (.getfield 15, 3) := by decide +kernel
theorem dX0_findLeaves_67 : decode cX0_findLeaves 67 = .ok (.iload_n 3, 1) := by decide +kernel
theorem dX0_findLeaves_68 : decode cX0_findLeaves 68 = .ok (.iaload, 1) := by decide +kernel
theorem dX0_findLeaves_69 : decode cX0_findLeaves 69 = .ok (.iload 4, 2) := by decide +kernel
theorem dX0_findLeaves_71 : decode cX0_findLeaves 71 = .ok (.invokestatic 51, 3) := by decide +kernel
theorem dX0_findLeaves_74 : decode cX0_findLeaves 74 = .ok (.iastore, 1) := by decide +kernel
theorem dX0_findLeaves_75 : decode cX0_findLeaves 75 = .ok (.iinc 2 (-1), 3) := by decide +kernel
theorem dX0_findLeaves_78 : decode cX0_findLeaves 78 = .ok (.goto (-61), 3) := by decide +kernel
theorem dX0_findLeaves_81 : decode cX0_findLeaves 81 = .ok (.return_, 1) := by decide +kernel
set_option maxRecDepth 20000 in
theorem ggX0_findWinners_J7_fill_53178 : GoodIn wsX0_findWinners wsJ7_fill_53178 := goodIn_r _ [5] (by decide +kernel) (by decide +kernel)
set_option maxRecDepth 20000 in
theorem gX0_findWinners_J7_fill_53178 : GoodIn wsX0_findWinners (va_wsS RX0 22 yJ7_fill_53178 wsJ7_fill_53178) := goodIn_app (goodIn_of _ (by decide +kernel)) ggX0_findWinners_J7_fill_53178
set_option maxRecDepth 20000 in
theorem ggX0_findWinners_X0_endsAt : GoodIn wsX0_findWinners wsX0_endsAt := goodIn_r _ [10, 11, 12, 13, 14, 9, 15, 16, 25, 26, 27] (by decide +kernel) (by decide +kernel)
set_option maxRecDepth 20000 in
theorem gX0_findWinners_X0_endsAt : GoodIn wsX0_findWinners (wsV RX0 44 RX0 yX0_endsAt wsX0_endsAt) := goodIn_app (goodIn_of _ (by decide +kernel)) ggX0_findWinners_X0_endsAt
set_option maxRecDepth 20000 in
theorem ggX0_findWinners_X2_isBetter : GoodIn wsX0_findWinners wsX2_isBetter := goodIn_r _ [21, 22, 23, 24, 28, 29, 30, 31, 32, 33, 34] (by decide +kernel) (by decide +kernel)
set_option maxRecDepth 20000 in
theorem gX0_findWinners_X2_isBetter : GoodIn wsX0_findWinners (wsV RX0 60 RX2 yX2_isBetter wsX2_isBetter) := goodIn_app (goodIn_of _ (by decide +kernel)) ggX0_findWinners_X2_isBetter
theorem dX0_findWinners_0 : decode cX0_findWinners 0 = .ok (.aload_n 0, 1) := by decide +kernel
theorem dX0_findWinners_1 : decode cX0_findWinners 1 = .ok (.getfield 19, 3) := by decide +kernel
theorem dX0_findWinners_4 : decode cX0_findWinners 4 = .ok (.iconst (-1), 1) := by decide +kernel
theorem dX0_findWinners_5 : decode cX0_findWinners 5 = .ok (.invokestatic 22, 3) := by decide +kernel
theorem dX0_findWinners_8 : decode cX0_findWinners 8 = .ok (.iconst 0, 1) := by decide +kernel
theorem dX0_findWinners_9 : decode cX0_findWinners 9 = .ok (.istore_n 2, 1) := by decide +kernel
theorem dX0_findWinners_10 : decode cX0_findWinners 10 = .ok (.iload_n 2, 1) := by decide +kernel
theorem dX0_findWinners_11 : decode cX0_findWinners 11 = .ok (.aload_n 1, 1) := by decide +kernel
theorem dX0_findWinners_12 : decode cX0_findWinners 12 = .ok (.getfield 35, 3) := by decide +kernel
theorem dX0_findWinners_15 : decode cX0_findWinners 15 = .ok (.if_icmp .ge 55, 3) := by decide +kernel
theorem dX0_findWinners_18 : decode cX0_findWinners 18 = .ok (.aload_n 0, 1) := by decide +kernel
theorem dX0_findWinners_19 : decode cX0_findWinners 19 = .ok (.iload_n 2, 1) := by decide +kernel
theorem dX0_findWinners_20 : decode cX0_findWinners 20 = .ok (.invokevirtual 44, 3) := by decide +kernel
theorem dX0_findWinners_23 : decode cX0_findWinners 23 = .ok (.ifCond .eq 41, 3) := by decide +kernel
theorem dX0_findWinners_26 : decode cX0_findWinners 26 = .ok (.aload_n 1, 1) := by decide +kernel
theorem dX0_findWinners_27 : decode cX0_findWinners 27 = .ok (.getfield 57, 3) := by decide +kernel
theorem dX0_findWinners_30 : decode cX0_findWinners 30 = .ok (.iload_n 2, 1) := by decide +kernel
theorem dX0_findWinners_31 : decode cX0_findWinners 31 = .ok (.iaload, 1) := by decide +kernel
theorem dX0_findWinners_32 : decode cX0_findWinners 32 = .ok (.istore_n 3, 1) := by decide +kernel
theorem dX0_findWinners_33 : decode cX0_findWinners 33 = .ok (.aload_n 0, 1) := by decide +kernel
theorem dX0_findWinners_34 : decode cX0_findWinners 34 = .ok (.getfield 19, 3) := by decide +kernel
theorem dX0_findWinners_37 : decode cX0_findWinners 37 = .ok (.iload_n 3, 1) := by decide +kernel
theorem dX0_findWinners_38 : decode cX0_findWinners 38 = .ok (.iaload, 1) := by decide +kernel
theorem dX0_findWinners_39 : decode cX0_findWinners 39 = .ok (.istore 4, 2) := by decide +kernel
theorem dX0_findWinners_41 : decode cX0_findWinners 41 = .ok (.iload 4, 2) := by decide +kernel
theorem dX0_findWinners_43 : decode cX0_findWinners 43 = .ok (.iconst (-1), 1) := by decide +kernel
theorem dX0_findWinners_44 : decode cX0_findWinners 44 = .ok (.if_icmp .eq 13, 3) := by decide +kernel
theorem dX0_findWinners_47 : decode cX0_findWinners 47 = .ok (.aload_n 1, 1) := by decide +kernel
theorem dX0_findWinners_48 : decode cX0_findWinners 48 = .ok (.iload_n 2, 1) := by decide +kernel
theorem dX0_findWinners_49 : decode cX0_findWinners 49 = .ok (.iload 4, 2) := by decide +kernel
theorem dX0_findWinners_51 : decode cX0_findWinners 51 = .ok (.invokevirtual 60, 3) := by decide +kernel
theorem dX0_findWinners_54 : decode cX0_findWinners 54 = .ok (.ifCond .eq 10, 3) := by decide +kernel
theorem dX0_findWinners_57 : decode cX0_findWinners 57 = .ok (.aload_n 0, 1) := by decide +kernel
theorem dX0_findWinners_58 : decode cX0_findWinners 58 = .ok (.getfield 19, 3) := by decide +kernel
theorem dX0_findWinners_61 : decode cX0_findWinners 61 = .ok (.iload_n 3, 1) := by decide +kernel
theorem dX0_findWinners_62 : decode cX0_findWinners 62 = .ok (.iload_n 2, 1) := by decide +kernel
theorem dX0_findWinners_63 : decode cX0_findWinners 63 = .ok (.iastore, 1) := by decide +kernel
theorem dX0_findWinners_64 : decode cX0_findWinners 64 = .ok (.iinc 2 1, 3) := by decide +kernel
theorem dX0_findWinners_67 : decode cX0_findWinners 67 = .ok (.goto (-57), 3) := by decide +kernel
theorem dX0_findWinners_70 : decode cX0_findWinners 70 = .ok (.return_, 1) := by decide +kernel
set_option maxRecDepth 20000 in
theorem ggX0_stem_X0_hasDescendantOf : GoodIn wsX0_stem wsX0_hasDescendantOf := goodIn_r _ [7, 2, 15, 16, 17] (by decide +kernel) (by decide +kernel)
set_option maxRecDepth 20000 in
theorem gX0_stem_X0_hasDescendantOf : GoodIn wsX0_stem (wsV RX0 64 RX0 yX0_hasDescendantOf wsX0_hasDescendantOf) := goodIn_app (goodIn_of _ (by decide +kernel)) ggX0_stem_X0_hasDescendantOf
theorem dX0_stem_0 : decode cX0_stem 0 = .ok (.iconst 0, 1) := by decide +kernel
theorem dX0_stem_1 : decode cX0_stem 1 = .ok (.istore_n 3, 1) := by decide +kernel
theorem dX0_stem_2 : decode cX0_stem 2 = .ok (.iconst 0, 1) := by decide +kernel
theorem dX0_stem_3 : decode cX0_stem 3 = .ok (.istore 4, 2) := by decide +kernel
theorem dX0_stem_5 : decode cX0_stem 5 = .ok (.iload 4, 2) := by decide +kernel
theorem dX0_stem_7 : decode cX0_stem 7 = .ok (.aload_n 1, 1) := by decide +kernel
theorem dX0_stem_8 : decode cX0_stem 8 = .ok (.getfield 35, 3) := by decide +kernel
theorem dX0_stem_11 : decode cX0_stem 11 = .ok (.if_icmp .ge 58, 3) := by decide +kernel
theorem dX0_stem_14 : decode cX0_stem 14 = .ok (.aload_n 0, 1) := by decide +kernel
theorem dX0_stem_15 : decode cX0_stem 15 = .ok (.getfield 9, 3) := by decide +kernel
theorem dX0_stem_18 : decode cX0_stem 18 = .ok (.iload 4, 2) := by decide +kernel
theorem dX0_stem_20 : decode cX0_stem 20 = .ok (.baload, 1) := by decide +kernel
theorem dX0_stem_21 : decode cX0_stem 21 = .ok (.ifCond .eq 42, 3) := by decide +kernel
theorem dX0_stem_24 : decode cX0_stem 24 = .ok (.aload_n 0, 1) := by decide +kernel
theorem dX0_stem_25 : decode cX0_stem 25 = .ok (.iload 4, 2) := by decide +kernel
theorem dX0_stem_27 : decode cX0_stem 27 = .ok (.invokevirtual 64, 3) := by decide +kernel
theorem dX0_stem_30 : decode cX0_stem 30 = .ok (.ifCond .eq 33, 3) := by decide +kernel
theorem dX0_stem_33 : decode cX0_stem 33 = .ok (.aload_n 0, 1) := by decide +kernel
theorem dX0_stem_34 : decode cX0_stem 34 = .ok (.getfield 15, 3) := by decide +kernel
theorem dX0_stem_37 : decode cX0_stem 37 = .ok (.iload 4, 2) := by decide +kernel
theorem dX0_stem_39 : decode cX0_stem 39 = .ok (.iaload, 1) := by decide +kernel
theorem dX0_stem_40 : decode cX0_stem 40 = .ok (.aload_n 1, 1) := by decide +kernel
theorem dX0_stem_41 : decode cX0_stem 41 = .ok (.getfield 48, 3) := by decide +kernel
theorem dX0_stem_44 : decode cX0_stem 44 = .ok (.iload 4, 2) := by decide +kernel
theorem dX0_stem_46 : decode cX0_stem 46 = .ok (.iaload, 1) := by decide +kernel
theorem dX0_stem_47 : decode cX0_stem 47 = .ok (.isub, 1) := by decide +kernel
theorem dX0_stem_48 : decode cX0_stem 48 = .ok (.iload_n 2, 1) := by decide +kernel
theorem dX0_stem_49 : decode cX0_stem 49 = .ok (.if_icmp .lt 14, 3) := by decide +kernel
theorem dX0_stem_52 : decode cX0_stem 52 = .ok (.aload_n 0, 1) := by decide +kernel
theorem dX0_stem_53 : decode cX0_stem 53 = .ok (.getfield 9, 3) := by decide +kernel
theorem dX0_stem_56 : decode cX0_stem 56 = .ok (.iload 4, 2) := by decide +kernel
theorem dX0_stem_58 : decode cX0_stem 58 = .ok (.iconst 0, 1) := by decide +kernel
theorem dX0_stem_59 : decode cX0_stem 59 = .ok (.bastore, 1) := by decide +kernel
theorem dX0_stem_60 : decode cX0_stem 60 = .ok (.iinc 3 1, 3) := by decide +kernel
theorem dX0_stem_63 : decode cX0_stem 63 = .ok (.iinc 4 1, 3) := by decide +kernel
theorem dX0_stem_66 : decode cX0_stem 66 = .ok (.goto (-61), 3) := by decide +kernel
theorem dX0_stem_69 : decode cX0_stem 69 = .ok (.iload_n 3, 1) := by decide +kernel
theorem dX0_stem_70 : decode cX0_stem 70 = .ok (.ireturn, 1) := by decide +kernel
theorem dX0_hasDescendantOf_0 : decode cX0_hasDescendantOf 0 = .ok (.aload_n 0, 1) := by decide +kernel
theorem dX0_hasDescendantOf_1 : decode cX0_hasDescendantOf 1 = .ok (.getfield 15, 3) := by decide +kernel
theorem dX0_hasDescendantOf_4 : decode cX0_hasDescendantOf 4 = .ok (.iload_n 1, 1) := by decide +kernel
theorem dX0_hasDescendantOf_5 : decode cX0_hasDescendantOf 5 = .ok (.iaload, 1) := by decide +kernel
theorem dX0_hasDescendantOf_6 : decode cX0_hasDescendantOf 6 = .ok (.sipush 151, 3) := by decide +kernel
theorem dX0_hasDescendantOf_9 : decode cX0_hasDescendantOf 9 = .ok (.if_icmp .eq 7, 3) := by decide +kernel
theorem dX0_hasDescendantOf_12 : decode cX0_hasDescendantOf 12 = .ok (.iconst 1, 1) := by decide +kernel
theorem dX0_hasDescendantOf_13 : decode cX0_hasDescendantOf 13 = .ok (.goto 4, 3) := by decide +kernel
theorem dX0_hasDescendantOf_16 : decode cX0_hasDescendantOf 16 = .ok (.iconst 0, 1) := by decide +kernel
theorem dX0_hasDescendantOf_17 : decode cX0_hasDescendantOf 17 = .ok (.ireturn, 1) := by decide +kernel
set_option maxRecDepth 20000 in
theorem ggX0_endsAt_X0_hasDescendantOf : GoodIn wsX0_endsAt wsX0_hasDescendantOf := goodIn_r _ [6, 7, 8, 9, 10] (by decide +kernel) (by decide +kernel)
set_option maxRecDepth 20000 in
theorem gX0_endsAt_X0_hasDescendantOf : GoodIn wsX0_endsAt (wsV RX0 64 RX0 yX0_hasDescendantOf wsX0_hasDescendantOf) := goodIn_app (goodIn_of _ (by decide +kernel)) ggX0_endsAt_X0_hasDescendantOf
theorem dX0_endsAt_0 : decode cX0_endsAt 0 = .ok (.aload_n 0, 1) := by decide +kernel
theorem dX0_endsAt_1 : decode cX0_endsAt 1 = .ok (.getfield 9, 3) := by decide +kernel
theorem dX0_endsAt_4 : decode cX0_endsAt 4 = .ok (.iload_n 1, 1) := by decide +kernel
theorem dX0_endsAt_5 : decode cX0_endsAt 5 = .ok (.baload, 1) := by decide +kernel
theorem dX0_endsAt_6 : decode cX0_endsAt 6 = .ok (.ifCond .eq 15, 3) := by decide +kernel
theorem dX0_endsAt_9 : decode cX0_endsAt 9 = .ok (.aload_n 0, 1) := by decide +kernel
theorem dX0_endsAt_10 : decode cX0_endsAt 10 = .ok (.iload_n 1, 1) := by decide +kernel
theorem dX0_endsAt_11 : decode cX0_endsAt 11 = .ok (.invokevirtual 64, 3) := by decide +kernel
theorem dX0_endsAt_14 : decode cX0_endsAt 14 = .ok (.ifCond .ne 7, 3) := by decide +kernel
theorem dX0_endsAt_17 : decode cX0_endsAt 17 = .ok (.iconst 1, 1) := by decide +kernel
theorem dX0_endsAt_18 : decode cX0_endsAt 18 = .ok (.goto 4, 3) := by decide +kernel
theorem dX0_endsAt_21 : decode cX0_endsAt 21 = .ok (.iconst 0, 1) := by decide +kernel
theorem dX0_endsAt_22 : decode cX0_endsAt 22 = .ok (.ireturn, 1) := by decide +kernel
theorem dX0_removeAll_0 : decode cX0_removeAll 0 = .ok (.iconst 0, 1) := by decide +kernel
theorem dX0_removeAll_1 : decode cX0_removeAll 1 = .ok (.istore_n 1, 1) := by decide +kernel
theorem dX0_removeAll_2 : decode cX0_removeAll 2 = .ok (.iload_n 1, 1) := by decide +kernel
theorem dX0_removeAll_3 : decode cX0_removeAll 3 = .ok (.sipush 150, 3) := by decide +kernel
theorem dX0_removeAll_6 : decode cX0_removeAll 6 = .ok (.if_icmp .ge 16, 3) := by decide +kernel
theorem dX0_removeAll_9 : decode cX0_removeAll 9 = .ok (.aload_n 0, 1) := by decide +kernel
theorem dX0_removeAll_10 : decode cX0_removeAll 10 = .ok (.getfield 9, 3) := by decide +kernel
theorem dX0_removeAll_13 : decode cX0_removeAll 13 = .ok (.iload_n 1, 1) := by decide +kernel
theorem dX0_removeAll_14 : decode cX0_removeAll 14 = .ok (.iconst 0, 1) := by decide +kernel
theorem dX0_removeAll_15 : decode cX0_removeAll 15 = .ok (.bastore, 1) := by decide +kernel
theorem dX0_removeAll_16 : decode cX0_removeAll 16 = .ok (.iinc 1 1, 3) := by decide +kernel
theorem dX0_removeAll_19 : decode cX0_removeAll 19 = .ok (.goto (-17), 3) := by decide +kernel
theorem dX0_removeAll_22 : decode cX0_removeAll 22 = .ok (.return_, 1) := by decide +kernel
theorem dX0_addAll_0 : decode cX0_addAll 0 = .ok (.iconst 0, 1) := by decide +kernel
theorem dX0_addAll_1 : decode cX0_addAll 1 = .ok (.istore_n 3, 1) := by decide +kernel
theorem dX0_addAll_2 : decode cX0_addAll 2 = .ok (.iload_n 3, 1) := by decide +kernel
theorem dX0_addAll_3 : decode cX0_addAll 3 = .ok (.aload_n 1, 1) := by decide +kernel
theorem dX0_addAll_4 : decode cX0_addAll 4 = .ok (.getfield 35, 3) := by decide +kernel
theorem dX0_addAll_7 : decode cX0_addAll 7 = .ok (.if_icmp .ge 38, 3) := by decide +kernel
theorem dX0_addAll_10 : decode cX0_addAll 10 = .ok (.aload_n 0, 1) := by decide +kernel
theorem dX0_addAll_11 : decode cX0_addAll 11 = .ok (.getfield 9, 3) := by decide +kernel
theorem dX0_addAll_14 : decode cX0_addAll 14 = .ok (.iload_n 3, 1) := by decide +kernel
theorem dX0_addAll_15 : decode cX0_addAll 15 = .ok (.aload_n 0, 1) := by decide +kernel
theorem dX0_addAll_16 : decode cX0_addAll 16 = .ok (.getfield 9, 3) := by decide +kernel
theorem dX0_addAll_19 : decode cX0_addAll 19 = .ok (.iload_n 3, 1) := by decide +kernel
theorem dX0_addAll_20 : decode cX0_addAll 20 = .ok (.baload, 1) := by decide +kernel
theorem dX0_addAll_21 : decode cX0_addAll 21 = .ok (.ifCond .ne 12, 3) := by decide +kernel
theorem dX0_addAll_24 : decode cX0_addAll 24 = .ok (.aload_n 2, 1) := by decide +kernel
theorem dX0_addAll_25 : decode cX0_addAll 25 = .ok (.getfield 9, 3) := by decide +kernel
theorem dX0_addAll_28 : decode cX0_addAll 28 = .ok (.iload_n 3, 1) := by decide +kernel
theorem dX0_addAll_29 : decode cX0_addAll 29 = .ok (.baload, 1) := by decide +kernel
theorem dX0_addAll_30 : decode cX0_addAll 30 = .ok (.ifCond .eq 7, 3) := by decide +kernel
theorem dX0_addAll_33 : decode cX0_addAll 33 = .ok (.iconst 1, 1) := by decide +kernel
theorem dX0_addAll_34 : decode cX0_addAll 34 = .ok (.goto 4, 3) := by decide +kernel
theorem dX0_addAll_37 : decode cX0_addAll 37 = .ok (.iconst 0, 1) := by decide +kernel
theorem dX0_addAll_38 : decode cX0_addAll 38 = .ok (.bastore, 1) := by decide +kernel
theorem dX0_addAll_39 : decode cX0_addAll 39 = .ok (.iinc 3 1, 3) := by decide +kernel
theorem dX0_addAll_42 : decode cX0_addAll 42 = .ok (.goto (-40), 3) := by decide +kernel
theorem dX0_addAll_45 : decode cX0_addAll 45 = .ok (.return_, 1) := by decide +kernel
set_option maxRecDepth 20000 in
theorem ggX0_addBranches_X0_endsAt : GoodIn wsX0_addBranches wsX0_endsAt := goodIn_r _ [6, 1, 7, 8, 9, 5, 10, 11, 23, 24, 25] (by decide +kernel) (by decide +kernel)
set_option maxRecDepth 20000 in
theorem gX0_addBranches_X0_endsAt : GoodIn wsX0_addBranches (wsV RX0 44 RX0 yX0_endsAt wsX0_endsAt) := goodIn_app (goodIn_of _ (by decide +kernel)) ggX0_addBranches_X0_endsAt
set_option maxRecDepth 20000 in
theorem ggX0_addBranches_X0_hasDescendantOf : GoodIn wsX0_addBranches wsX0_hasDescendantOf := goodIn_r _ [10, 11, 23, 24, 25] (by decide +kernel) (by decide +kernel)
set_option maxRecDepth 20000 in
theorem gX0_addBranches_X0_hasDescendantOf : GoodIn wsX0_addBranches (wsV RX0 64 RX0 yX0_hasDescendantOf wsX0_hasDescendantOf) := goodIn_app (goodIn_of _ (by decide +kernel)) ggX0_addBranches_X0_hasDescendantOf
set_option maxRecDepth 20000 in
theorem ggX0_addBranches_X0_addLine : GoodIn wsX0_addBranches wsX0_addLine := goodIn_r _ [15, 1, 23, 24, 25, 16, 17, 18, 19, 20, 21, 22] (by decide +kernel) (by decide +kernel)
set_option maxRecDepth 20000 in
theorem gX0_addBranches_X0_addLine : GoodIn wsX0_addBranches (wsV RX0 67 RX0 yX0_addLine wsX0_addLine) := goodIn_app (goodIn_of _ (by decide +kernel)) ggX0_addBranches_X0_addLine
theorem dX0_addBranches_0 : decode cX0_addBranches 0 = .ok (.iconst 0, 1) := by decide +kernel
theorem dX0_addBranches_1 : decode cX0_addBranches 1 = .ok (.istore 4, 2) := by decide +kernel
theorem dX0_addBranches_3 : decode cX0_addBranches 3 = .ok (.iconst 0, 1) := by decide +kernel
theorem dX0_addBranches_4 : decode cX0_addBranches 4 = .ok (.istore 5, 2) := by decide +kernel
theorem dX0_addBranches_6 : decode cX0_addBranches 6 = .ok (.iload 5, 2) := by decide +kernel
theorem dX0_addBranches_8 : decode cX0_addBranches 8 = .ok (.aload_n 1, 1) := by decide +kernel
theorem dX0_addBranches_9 : decode cX0_addBranches 9 = .ok (.getfield 35, 3) := by decide +kernel
theorem dX0_addBranches_12 : decode cX0_addBranches 12 = .ok (.if_icmp .ge 61, 3) := by decide +kernel
theorem dX0_addBranches_15 : decode cX0_addBranches 15 = .ok (.aload_n 1, 1) := by decide +kernel
theorem dX0_addBranches_16 : decode cX0_addBranches 16 = .ok (.getfield 57, 3) := by decide +kernel
theorem dX0_addBranches_19 : decode cX0_addBranches 19 = .ok (.iload 5, 2) := by decide +kernel
theorem dX0_addBranches_21 : decode cX0_addBranches 21 = .ok (.iaload, 1) := by decide +kernel
theorem dX0_addBranches_22 : decode cX0_addBranches 22 = .ok (.iload_n 3, 1) := by decide +kernel
theorem dX0_addBranches_23 : decode cX0_addBranches 23 = .ok (.if_icmp .ne 44, 3) := by decide +kernel
theorem dX0_addBranches_26 : decode cX0_addBranches 26 = .ok (.aload_n 2, 1) := by decide +kernel
theorem dX0_addBranches_27 : decode cX0_addBranches 27 = .ok (.iload 5, 2) := by decide +kernel
theorem dX0_addBranches_29 : decode cX0_addBranches 29 = .ok (.invokevirtual 44, 3) := by decide +kernel
theorem dX0_addBranches_32 : decode cX0_addBranches 32 = .ok (.ifCond .eq 35, 3) := by decide +kernel
theorem dX0_addBranches_35 : decode cX0_addBranches 35 = .ok (.aload_n 0, 1) := by decide +kernel
theorem dX0_addBranches_36 : decode cX0_addBranches 36 = .ok (.getfield 9, 3) := by decide +kernel
theorem dX0_addBranches_39 : decode cX0_addBranches 39 = .ok (.iload 5, 2) := by decide +kernel
theorem dX0_addBranches_41 : decode cX0_addBranches 41 = .ok (.baload, 1) := by decide +kernel
theorem dX0_addBranches_42 : decode cX0_addBranches 42 = .ok (.ifCond .ne 25, 3) := by decide +kernel
theorem dX0_addBranches_45 : decode cX0_addBranches 45 = .ok (.aload_n 0, 1) := by decide +kernel
theorem dX0_addBranches_46 : decode cX0_addBranches 46 = .ok (.iload 5, 2) := by decide +kernel
theorem dX0_addBranches_48 : decode cX0_addBranches 48 = .ok (.invokevirtual 64, 3) := by decide +kernel
theorem dX0_addBranches_51 : decode cX0_addBranches 51 = .ok (.ifCond .ne 16, 3) := by decide +kernel
theorem dX0_addBranches_54 : decode cX0_addBranches 54 = .ok (.iload 4, 2) := by decide +kernel
theorem dX0_addBranches_56 : decode cX0_addBranches 56 = .ok (.aload_n 0, 1) := by decide +kernel
theorem dX0_addBranches_57 : decode cX0_addBranches 57 = .ok (.aload_n 1, 1) := by decide +kernel
theorem dX0_addBranches_58 : decode cX0_addBranches 58 = .ok (.aload_n 2, 1) := by decide +kernel
theorem dX0_addBranches_59 : decode cX0_addBranches 59 = .ok (.iload 5, 2) := by decide +kernel
theorem dX0_addBranches_61 : decode cX0_addBranches 61 = .ok (.invokevirtual 67, 3) := by decide +kernel
theorem dX0_addBranches_64 : decode cX0_addBranches 64 = .ok (.iadd, 1) := by decide +kernel
theorem dX0_addBranches_65 : decode cX0_addBranches 65 = .ok (.istore 4, 2) := by decide +kernel
theorem dX0_addBranches_67 : decode cX0_addBranches 67 = .ok (.iinc 5 1, 3) := by decide +kernel
theorem dX0_addBranches_70 : decode cX0_addBranches 70 = .ok (.goto (-64), 3) := by decide +kernel
theorem dX0_addBranches_73 : decode cX0_addBranches 73 = .ok (.iload 4, 2) := by decide +kernel
theorem dX0_addBranches_75 : decode cX0_addBranches 75 = .ok (.ireturn, 1) := by decide +kernel
theorem dX0_addLine_0 : decode cX0_addLine 0 = .ok (.iconst 0, 1) := by decide +kernel
theorem dX0_addLine_1 : decode cX0_addLine 1 = .ok (.istore 4, 2) := by decide +kernel
theorem dX0_addLine_3 : decode cX0_addLine 3 = .ok (.iload_n 3, 1) := by decide +kernel
theorem dX0_addLine_4 : decode cX0_addLine 4 = .ok (.istore 5, 2) := by decide +kernel
theorem dX0_addLine_6 : decode cX0_addLine 6 = .ok (.iconst 0, 1) := by decide +kernel
theorem dX0_addLine_7 : decode cX0_addLine 7 = .ok (.istore 6, 2) := by decide +kernel
theorem dX0_addLine_9 : decode cX0_addLine 9 = .ok (.iload 6, 2) := by decide +kernel
theorem dX0_addLine_11 : decode cX0_addLine 11 = .ok (.sipush 150, 3) := by decide +kernel
theorem dX0_addLine_14 : decode cX0_addLine 14 = .ok (.if_icmp .ge 55, 3) := by decide +kernel
theorem dX0_addLine_17 : decode cX0_addLine 17 = .ok (.iload 5, 2) := by decide +kernel
theorem dX0_addLine_19 : decode cX0_addLine 19 = .ok (.iconst (-1), 1) := by decide +kernel
theorem dX0_addLine_20 : decode cX0_addLine 20 = .ok (.if_icmp .eq 49, 3) := by decide +kernel
theorem dX0_addLine_23 : decode cX0_addLine 23 = .ok (.aload_n 2, 1) := by decide +kernel
theorem dX0_addLine_24 : decode cX0_addLine 24 = .ok (.getfield 9, 3) := by decide +kernel
theorem dX0_addLine_27 : decode cX0_addLine 27 = .ok (.iload 5, 2) := by decide +kernel
theorem dX0_addLine_29 : decode cX0_addLine 29 = .ok (.baload, 1) := by decide +kernel
theorem dX0_addLine_30 : decode cX0_addLine 30 = .ok (.ifCond .eq 24, 3) := by decide +kernel
theorem dX0_addLine_33 : decode cX0_addLine 33 = .ok (.aload_n 0, 1) := by decide +kernel
theorem dX0_addLine_34 : decode cX0_addLine 34 = .ok (.getfield 9, 3) := by decide +kernel
theorem dX0_addLine_37 : decode cX0_addLine 37 = .ok (.iload 5, 2) := by decide +kernel
theorem dX0_addLine_39 : decode cX0_addLine 39 = .ok (.baload, 1) := by decide +kernel
theorem dX0_addLine_40 : decode cX0_addLine 40 = .ok (.ifCond .ne 14, 3) := by decide +kernel
theorem dX0_addLine_43 : decode cX0_addLine 43 = .ok (.aload_n 0, 1) := by decide +kernel
theorem dX0_addLine_44 : decode cX0_addLine 44 = .ok (.getfield 9, 3) := by decide +kernel
theorem dX0_addLine_47 : decode cX0_addLine 47 = .ok (.iload 5, 2) := by decide +kernel
theorem dX0_addLine_49 : decode cX0_addLine 49 = .ok (.iconst 1, 1) := by decide +kernel
theorem dX0_addLine_50 : decode cX0_addLine 50 = .ok (.bastore, 1) := by decide +kernel
theorem dX0_addLine_51 : decode cX0_addLine 51 = .ok (.iinc 4 1, 3) := by decide +kernel
theorem dX0_addLine_54 : decode cX0_addLine 54 = .ok (.aload_n 1, 1) := by decide +kernel
theorem dX0_addLine_55 : decode cX0_addLine 55 = .ok (.getfield 41, 3) := by decide +kernel
theorem dX0_addLine_58 : decode cX0_addLine 58 = .ok (.iload 5, 2) := by decide +kernel
theorem dX0_addLine_60 : decode cX0_addLine 60 = .ok (.iaload, 1) := by decide +kernel
theorem dX0_addLine_61 : decode cX0_addLine 61 = .ok (.istore 5, 2) := by decide +kernel
theorem dX0_addLine_63 : decode cX0_addLine 63 = .ok (.iinc 6 1, 3) := by decide +kernel
theorem dX0_addLine_66 : decode cX0_addLine 66 = .ok (.goto (-57), 3) := by decide +kernel
theorem dX0_addLine_69 : decode cX0_addLine 69 = .ok (.iload 4, 2) := by decide +kernel
theorem dX0_addLine_71 : decode cX0_addLine 71 = .ok (.ireturn, 1) := by decide +kernel
theorem dX0_countAll_0 : decode cX0_countAll 0 = .ok (.iconst 0, 1) := by decide +kernel
theorem dX0_countAll_1 : decode cX0_countAll 1 = .ok (.istore_n 2, 1) := by decide +kernel
theorem dX0_countAll_2 : decode cX0_countAll 2 = .ok (.iconst 0, 1) := by decide +kernel
theorem dX0_countAll_3 : decode cX0_countAll 3 = .ok (.istore_n 3, 1) := by decide +kernel
theorem dX0_countAll_4 : decode cX0_countAll 4 = .ok (.iload_n 3, 1) := by decide +kernel
theorem dX0_countAll_5 : decode cX0_countAll 5 = .ok (.aload_n 1, 1) := by decide +kernel
theorem dX0_countAll_6 : decode cX0_countAll 6 = .ok (.getfield 35, 3) := by decide +kernel
theorem dX0_countAll_9 : decode cX0_countAll 9 = .ok (.if_icmp .ge 21, 3) := by decide +kernel
theorem dX0_countAll_12 : decode cX0_countAll 12 = .ok (.aload_n 0, 1) := by decide +kernel
theorem dX0_countAll_13 : decode cX0_countAll 13 = .ok (.getfield 9, 3) := by decide +kernel
theorem dX0_countAll_16 : decode cX0_countAll 16 = .ok (.iload_n 3, 1) := by decide +kernel
theorem dX0_countAll_17 : decode cX0_countAll 17 = .ok (.baload, 1) := by decide +kernel
theorem dX0_countAll_18 : decode cX0_countAll 18 = .ok (.ifCond .eq 6, 3) := by decide +kernel
theorem dX0_countAll_21 : decode cX0_countAll 21 = .ok (.iinc 2 1, 3) := by decide +kernel
theorem dX0_countAll_24 : decode cX0_countAll 24 = .ok (.iinc 3 1, 3) := by decide +kernel
theorem dX0_countAll_27 : decode cX0_countAll 27 = .ok (.goto (-23), 3) := by decide +kernel
theorem dX0_countAll_30 : decode cX0_countAll 30 = .ok (.iload_n 2, 1) := by decide +kernel
theorem dX0_countAll_31 : decode cX0_countAll 31 = .ok (.ireturn, 1) := by decide +kernel
set_option maxRecDepth 20000 in
theorem ggX0_countLiveLeaves_X0_endsAt : GoodIn wsX0_countLiveLeaves wsX0_endsAt := goodIn_r _ [5, 6, 7, 8, 9, 4, 10, 11, 19, 20, 21] (by decide +kernel) (by decide +kernel)
set_option maxRecDepth 20000 in
theorem gX0_countLiveLeaves_X0_endsAt : GoodIn wsX0_countLiveLeaves (wsV RX0 44 RX0 yX0_endsAt wsX0_endsAt) := goodIn_app (goodIn_of _ (by decide +kernel)) ggX0_countLiveLeaves_X0_endsAt
theorem dX0_countLiveLeaves_0 : decode cX0_countLiveLeaves 0 = .ok (.iconst 0, 1) := by decide +kernel
theorem dX0_countLiveLeaves_1 : decode cX0_countLiveLeaves 1 = .ok (.istore_n 3, 1) := by decide +kernel
theorem dX0_countLiveLeaves_2 : decode cX0_countLiveLeaves 2 = .ok (.iconst 0, 1) := by decide +kernel
theorem dX0_countLiveLeaves_3 : decode cX0_countLiveLeaves 3 = .ok (.istore 4, 2) := by decide +kernel
theorem dX0_countLiveLeaves_5 : decode cX0_countLiveLeaves 5 = .ok (.iload 4, 2) := by decide +kernel
theorem dX0_countLiveLeaves_7 : decode cX0_countLiveLeaves 7 = .ok (.aload_n 1, 1) := by decide +kernel
theorem dX0_countLiveLeaves_8 : decode cX0_countLiveLeaves 8 = .ok (.getfield 35, 3) := by decide +kernel
theorem dX0_countLiveLeaves_11 : decode cX0_countLiveLeaves 11 = .ok (.if_icmp .ge 42, 3) := by decide +kernel
theorem dX0_countLiveLeaves_14 : decode cX0_countLiveLeaves 14 = .ok (.aload_n 1, 1) := by decide +kernel
theorem dX0_countLiveLeaves_15 : decode cX0_countLiveLeaves 15 = .ok (.getfield 57, 3) := by decide +kernel
theorem dX0_countLiveLeaves_18 : decode cX0_countLiveLeaves 18 = .ok (.iload 4, 2) := by decide +kernel
theorem dX0_countLiveLeaves_20 : decode cX0_countLiveLeaves 20 = .ok (.iaload, 1) := by decide +kernel
theorem dX0_countLiveLeaves_21 : decode cX0_countLiveLeaves 21 = .ok (.iload_n 2, 1) := by decide +kernel
theorem dX0_countLiveLeaves_22 : decode cX0_countLiveLeaves 22 = .ok (.if_icmp .ne 25, 3) := by decide +kernel
theorem dX0_countLiveLeaves_25 : decode cX0_countLiveLeaves 25 = .ok (.aload_n 0, 1) := by decide +kernel
theorem dX0_countLiveLeaves_26 : decode cX0_countLiveLeaves 26 = .ok (.iload 4, 2) := by decide +kernel
theorem dX0_countLiveLeaves_28 : decode cX0_countLiveLeaves 28 = .ok (.invokevirtual 44, 3) := by decide +kernel
theorem dX0_countLiveLeaves_31 : decode cX0_countLiveLeaves 31 = .ok (.ifCond .eq 16, 3) := by decide +kernel
theorem dX0_countLiveLeaves_34 : decode cX0_countLiveLeaves 34 = .ok (.aload_n 1, 1) := by decide +kernel
theorem dX0_countLiveLeaves_35 : decode cX0_countLiveLeaves 35 = .ok (.getfield 71, 3) := by decide +kernel
theorem dX0_countLiveLeaves_38 : decode cX0_countLiveLeaves 38 = .ok (.iload 4, 2) := by decide +kernel
theorem dX0_countLiveLeaves_40 : decode cX0_countLiveLeaves 40 = .ok (.baload, 1) := by decide +kernel
theorem dX0_countLiveLeaves_41 : decode cX0_countLiveLeaves 41 = .ok (.ifCond .ne 6, 3) := by decide +kernel
theorem dX0_countLiveLeaves_44 : decode cX0_countLiveLeaves 44 = .ok (.iinc 3 1, 3) := by decide +kernel
theorem dX0_countLiveLeaves_47 : decode cX0_countLiveLeaves 47 = .ok (.iinc 4 1, 3) := by decide +kernel
theorem dX0_countLiveLeaves_50 : decode cX0_countLiveLeaves 50 = .ok (.goto (-45), 3) := by decide +kernel
theorem dX0_countLiveLeaves_53 : decode cX0_countLiveLeaves 53 = .ok (.iload_n 3, 1) := by decide +kernel
theorem dX0_countLiveLeaves_54 : decode cX0_countLiveLeaves 54 = .ok (.ireturn, 1) := by decide +kernel
theorem dX0_shownValue_0 : decode cX0_shownValue 0 = .ok (.aload_n 0, 1) := by decide +kernel
theorem dX0_shownValue_1 : decode cX0_shownValue 1 = .ok (.getfield 19, 3) := by decide +kernel
theorem dX0_shownValue_4 : decode cX0_shownValue 4 = .ok (.iload_n 2, 1) := by decide +kernel
theorem dX0_shownValue_5 : decode cX0_shownValue 5 = .ok (.iaload, 1) := by decide +kernel
theorem dX0_shownValue_6 : decode cX0_shownValue 6 = .ok (.istore_n 3, 1) := by decide +kernel
theorem dX0_shownValue_7 : decode cX0_shownValue 7 = .ok (.iload_n 3, 1) := by decide +kernel
theorem dX0_shownValue_8 : decode cX0_shownValue 8 = .ok (.iconst (-1), 1) := by decide +kernel
theorem dX0_shownValue_9 : decode cX0_shownValue 9 = .ok (.if_icmp .eq 12, 3) := by decide +kernel
theorem dX0_shownValue_12 : decode cX0_shownValue 12 = .ok (.aload_n 1, 1) := by decide +kernel
theorem dX0_shownValue_13 : decode cX0_shownValue 13 = .ok (.getfield 71, 3) := by decide +kernel
theorem dX0_shownValue_16 : decode cX0_shownValue 16 = .ok (.iload_n 3, 1) := by decide +kernel
theorem dX0_shownValue_17 : decode cX0_shownValue 17 = .ok (.baload, 1) := by decide +kernel
theorem dX0_shownValue_18 : decode cX0_shownValue 18 = .ok (.ifCond .eq 7, 3) := by decide +kernel
theorem dX0_shownValue_21 : decode cX0_shownValue 21 = .ok (.iconst (-1), 1) := by decide +kernel
theorem dX0_shownValue_22 : decode cX0_shownValue 22 = .ok (.goto 9, 3) := by decide +kernel
theorem dX0_shownValue_25 : decode cX0_shownValue 25 = .ok (.aload_n 1, 1) := by decide +kernel
theorem dX0_shownValue_26 : decode cX0_shownValue 26 = .ok (.getfield 74, 3) := by decide +kernel
theorem dX0_shownValue_29 : decode cX0_shownValue 29 = .ok (.iload_n 3, 1) := by decide +kernel
theorem dX0_shownValue_30 : decode cX0_shownValue 30 = .ok (.iaload, 1) := by decide +kernel
theorem dX0_shownValue_31 : decode cX0_shownValue 31 = .ok (.ireturn, 1) := by decide +kernel
set_option maxRecDepth 20000 in
theorem ggX0_countShownBefore_X0_shownValue : GoodIn wsX0_countShownBefore wsX0_shownValue := goodIn_r _ [5, 6, 7, 8, 9, 10, 11, 12, 13, 14, 15, 16] (by decide +kernel) (by decide +kernel)
set_option maxRecDepth 20000 in
theorem gX0_countShownBefore_X0_shownValue : GoodIn wsX0_countShownBefore (wsV RX0 77 RX0 yX0_shownValue wsX0_shownValue) := goodIn_app (goodIn_of _ (by decide +kernel)) ggX0_countShownBefore_X0_shownValue
theorem dX0_countShownBefore_0 : decode cX0_countShownBefore 0 = .ok (.iconst 0, 1) := by decide +kernel
theorem dX0_countShownBefore_1 : decode cX0_countShownBefore 1 = .ok (.istore 4, 2) := by decide +kernel
theorem dX0_countShownBefore_3 : decode cX0_countShownBefore 3 = .ok (.iconst 0, 1) := by decide +kernel
theorem dX0_countShownBefore_4 : decode cX0_countShownBefore 4 = .ok (.istore 5, 2) := by decide +kernel
theorem dX0_countShownBefore_6 : decode cX0_countShownBefore 6 = .ok (.iload 5, 2) := by decide +kernel
theorem dX0_countShownBefore_8 : decode cX0_countShownBefore 8 = .ok (.iconst 4, 1) := by decide +kernel
theorem dX0_countShownBefore_9 : decode cX0_countShownBefore 9 = .ok (.if_icmp .ge 45, 3) := by decide +kernel
theorem dX0_countShownBefore_12 : decode cX0_countShownBefore 12 = .ok (.aload_n 0, 1) := by decide +kernel
theorem dX0_countShownBefore_13 : decode cX0_countShownBefore 13 = .ok (.aload_n 1, 1) := by decide +kernel
theorem dX0_countShownBefore_14 : decode cX0_countShownBefore 14 = .ok (.iload 5, 2) := by decide +kernel
theorem dX0_countShownBefore_16 : decode cX0_countShownBefore 16 = .ok (.invokevirtual 77, 3) := by decide +kernel
theorem dX0_countShownBefore_19 : decode cX0_countShownBefore 19 = .ok (.istore 6, 2) := by decide +kernel
theorem dX0_countShownBefore_21 : decode cX0_countShownBefore 21 = .ok (.iload 6, 2) := by decide +kernel
theorem dX0_countShownBefore_23 : decode cX0_countShownBefore 23 = .ok (.iconst (-1), 1) := by decide +kernel
theorem dX0_countShownBefore_24 : decode cX0_countShownBefore 24 = .ok (.if_icmp .eq 24, 3) := by decide +kernel
theorem dX0_countShownBefore_27 : decode cX0_countShownBefore 27 = .ok (.iload 6, 2) := by decide +kernel
theorem dX0_countShownBefore_29 : decode cX0_countShownBefore 29 = .ok (.iload_n 2, 1) := by decide +kernel
theorem dX0_countShownBefore_30 : decode cX0_countShownBefore 30 = .ok (.if_icmp .lt 15, 3) := by decide +kernel
theorem dX0_countShownBefore_33 : decode cX0_countShownBefore 33 = .ok (.iload 6, 2) := by decide +kernel
theorem dX0_countShownBefore_35 : decode cX0_countShownBefore 35 = .ok (.iload_n 2, 1) := by decide +kernel
theorem dX0_countShownBefore_36 : decode cX0_countShownBefore 36 = .ok (.if_icmp .ne 12, 3) := by decide +kernel
theorem dX0_countShownBefore_39 : decode cX0_countShownBefore 39 = .ok (.iload 5, 2) := by decide +kernel
theorem dX0_countShownBefore_41 : decode cX0_countShownBefore 41 = .ok (.iload_n 3, 1) := by decide +kernel
theorem dX0_countShownBefore_42 : decode cX0_countShownBefore 42 = .ok (.if_icmp .ge 6, 3) := by decide +kernel
theorem dX0_countShownBefore_45 : decode cX0_countShownBefore 45 = .ok (.iinc 4 1, 3) := by decide +kernel
theorem dX0_countShownBefore_48 : decode cX0_countShownBefore 48 = .ok (.iinc 5 1, 3) := by decide +kernel
theorem dX0_countShownBefore_51 : decode cX0_countShownBefore 51 = .ok (.goto (-45), 3) := by decide +kernel
theorem dX0_countShownBefore_54 : decode cX0_countShownBefore 54 = .ok (.iload 4, 2) := by decide +kernel
theorem dX0_countShownBefore_56 : decode cX0_countShownBefore 56 = .ok (.ireturn, 1) := by decide +kernel
set_option maxRecDepth 20000 in
theorem ggX1_init_X0_init : GoodIn wsX1_init wsX0_init := goodIn_r _ [15, 16, 2, 3, 17, 18, 10, 19, 20, 21, 22, 23, 24, 25, 26, 27] (by decide +kernel) (by decide +kernel)
set_option maxRecDepth 20000 in
theorem gX1_init_X0_init : GoodIn wsX1_init (wsX0_init) := ggX1_init_X0_init
theorem dX1_init_0 : decode cX1_init 0 = .ok (.aload_n 0, 1) := by decide +kernel
theorem dX1_init_1 : decode cX1_init 1 = .ok (.invokespecial 3, 3) := by decide +kernel
theorem dX1_init_4 : decode cX1_init 4 = .ok (.aload_n 0, 1) := by decide +kernel
theorem dX1_init_5 : decode cX1_init 5 = .ok (.new 9, 3) := by decide +kernel
theorem dX1_init_8 : decode cX1_init 8 = .ok (.dup, 1) := by decide +kernel
theorem dX1_init_9 : decode cX1_init 9 = .ok (.invokespecial 11, 3) := by decide +kernel
theorem dX1_init_12 : decode cX1_init 12 = .ok (.putfield 12, 3) := by decide +kernel
theorem dX1_init_15 : decode cX1_init 15 = .ok (.aload_n 0, 1) := by decide +kernel
theorem dX1_init_16 : decode cX1_init 16 = .ok (.bipush 20, 2) := by decide +kernel
theorem dX1_init_18 : decode cX1_init 18 = .ok (.putfield 18, 3) := by decide +kernel
theorem dX1_init_21 : decode cX1_init 21 = .ok (.aload_n 0, 1) := by decide +kernel
theorem dX1_init_22 : decode cX1_init 22 = .ok (.iconst 0, 1) := by decide +kernel
theorem dX1_init_23 : decode cX1_init 23 = .ok (.putfield 22, 3) := by decide +kernel
theorem dX1_init_26 : decode cX1_init 26 = .ok (.aload_n 0, 1) := by decide +kernel
theorem dX1_init_27 : decode cX1_init 27 = .ok (.iconst 4, 1) := by decide +kernel
theorem dX1_init_28 : decode cX1_init 28 = .ok (.newarray .int, 2) := by decide +kernel
theorem dX1_init_30 : decode cX1_init 30 = .ok (.putfield 25, 3) := by decide +kernel
theorem dX1_init_33 : decode cX1_init 33 = .ok (.aload_n 0, 1) := by decide +kernel
theorem dX1_init_34 : decode cX1_init 34 = .ok (.bipush 9, 2) := by decide +kernel
theorem dX1_init_36 : decode cX1_init 36 = .ok (.newarray .int, 2) := by decide +kernel
theorem dX1_init_38 : decode cX1_init 38 = .ok (.putfield 29, 3) := by decide +kernel
theorem dX1_init_41 : decode cX1_init 41 = .ok (.return_, 1) := by decide +kernel
set_option maxRecDepth 20000 in
theorem ggX1_append_X1_noteChange : GoodIn wsX1_append wsX1_noteChange := goodIn_r _ [6, 7, 8, 1, 9, 10, 11, 12, 13, 14, 15, 16, 17, 18, 19, 20, 21, 22, 23, 24, 25, 26, 27, 28, 29, 30, 31, 32, 33, 34, 35, 36, 37, 38, 39, 40, 41, 42, 43, 44, 45, 46, 47, 48, 49, 50, 51, 52, 53, 54, 55, 56, 57, 58, 59, 60, 61, 62, 63, 64, 65, 66, 67, 68] (by decide +kernel) (by decide +kernel)
set_option maxRecDepth 20000 in
theorem gX1_append_X1_noteChange : GoodIn wsX1_append (wsV RX1 41 RX1 yX1_noteChange wsX1_noteChange) := goodIn_app (goodIn_of _ (by decide +kernel)) ggX1_append_X1_noteChange
theorem dX1_append_0 : decode cX1_append 0 = .ok (.aload_n 0, 1) := by decide +kernel
theorem dX1_append_1 : decode cX1_append 1 = .ok (.getfield 12, 3) := by decide +kernel
theorem dX1_append_4 : decode cX1_append 4 = .ok (.getfield 32, 3) := by decide +kernel
theorem dX1_append_7 : decode cX1_append 7 = .ok (.iload_n 2, 1) := by decide +kernel
theorem dX1_append_8 : decode cX1_append 8 = .ok (.iconst 1, 1) := by decide +kernel
theorem dX1_append_9 : decode cX1_append 9 = .ok (.bastore, 1) := by decide +kernel
theorem dX1_append_10 : decode cX1_append 10 = .ok (.aload_n 0, 1) := by decide +kernel
theorem dX1_append_11 : decode cX1_append 11 = .ok (.aload_n 1, 1) := by decide +kernel
theorem dX1_append_12 : decode cX1_append 12 = .ok (.aload_n 1, 1) := by decide +kernel
theorem dX1_append_13 : decode cX1_append 13 = .ok (.getfield 36, 3) := by decide +kernel
theorem dX1_append_16 : decode cX1_append 16 = .ok (.iload_n 2, 1) := by decide +kernel
theorem dX1_append_17 : decode cX1_append 17 = .ok (.iaload, 1) := by decide +kernel
theorem dX1_append_18 : decode cX1_append 18 = .ok (.invokevirtual 41, 3) := by decide +kernel
theorem dX1_append_21 : decode cX1_append 21 = .ok (.return_, 1) := by decide +kernel
set_option maxRecDepth 20000 in
theorem ggX1_receive_X0_addBranches : GoodIn wsX1_receive wsX0_addBranches := goodIn_r _ [6, 7, 8, 9, 10, 5, 11, 12, 13, 14, 15, 16, 17, 18, 19, 20, 67, 68, 69, 70, 71, 72, 73, 74, 75, 76] (by decide +kernel) (by decide +kernel)
set_option maxRecDepth 20000 in
theorem gX1_receive_X0_addBranches : GoodIn wsX1_receive (wsV RX1 45 RX0 yX0_addBranches wsX0_addBranches) := goodIn_app (goodIn_of _ (by decide +kernel)) ggX1_receive_X0_addBranches
set_option maxRecDepth 20000 in
theorem ggX1_receive_X1_noteChange : GoodIn wsX1_receive wsX1_noteChange := goodIn_r _ [25, 26, 27, 1, 28, 29, 30, 31, 5, 32, 33, 34, 35, 36, 16, 37, 38, 39, 40, 41, 42, 43, 44, 8, 9, 10, 11, 7, 12, 13, 14, 15, 45, 46, 47, 48, 49, 50, 51, 52, 53, 54, 55, 56, 57, 58, 59, 60, 61, 62, 63, 64, 65, 66, 74, 75, 76, 67, 68, 69, 70, 71, 72, 73] (by decide +kernel) (by decide +kernel)
set_option maxRecDepth 20000 in
theorem gX1_receive_X1_noteChange : GoodIn wsX1_receive (wsV RX1 41 RX1 yX1_noteChange wsX1_noteChange) := goodIn_app (goodIn_of _ (by decide +kernel)) ggX1_receive_X1_noteChange
theorem dX1_receive_0 : decode cX1_receive 0 = .ok (.aload_n 0, 1) := by decide +kernel
theorem dX1_receive_1 : decode cX1_receive 1 = .ok (.getfield 12, 3) := by decide +kernel
theorem dX1_receive_4 : decode cX1_receive 4 = .ok (.aload_n 1, 1) := by decide +kernel
theorem dX1_receive_5 : decode cX1_receive 5 = .ok (.aload_n 2, 1) := by decide +kernel
theorem dX1_receive_6 : decode cX1_receive 6 = .ok (.iload_n 3, 1) := by decide +kernel
theorem dX1_receive_7 : decode cX1_receive 7 = .ok (.invokevirtual 45, 3) := by decide +kernel
theorem dX1_receive_10 : decode cX1_receive 10 = .ok (.istore 4, 2) := by decide +kernel
theorem dX1_receive_12 : decode cX1_receive 12 = .ok (.iload 4, 2) := by decide +kernel
theorem dX1_receive_14 : decode cX1_receive 14 = .ok (.ifCond .le 9, 3) := by decide +kernel
theorem dX1_receive_17 : decode cX1_receive 17 = .ok (.aload_n 0, 1) := by decide +kernel
theorem dX1_receive_18 : decode cX1_receive 18 = .ok (.aload_n 1, 1) := by decide +kernel
theorem dX1_receive_19 : decode cX1_receive 19 = .ok (.iload_n 3, 1) := by decide +kernel
theorem dX1_receive_20 : decode cX1_receive 20 = .ok (.invokevirtual 41, 3) := by decide +kernel
theorem dX1_receive_23 : decode cX1_receive 23 = .ok (.iload 4, 2) := by decide +kernel
theorem dX1_receive_25 : decode cX1_receive 25 = .ok (.ireturn, 1) := by decide +kernel
set_option maxRecDepth 20000 in
theorem ggX1_noteChange_X0_survey : GoodIn wsX1_noteChange wsX0_survey := goodIn_r _ [9, 10, 11, 12, 8, 13, 14, 15, 16, 17, 18, 19, 20, 21, 22, 23, 24, 25, 26, 27, 28, 29, 30, 31, 32, 33, 34, 35, 36, 37, 38, 39, 40, 41, 42, 43, 44, 54, 55, 56, 57, 58, 59, 60, 61, 62, 63] (by decide +kernel) (by decide +kernel)
set_option maxRecDepth 20000 in
theorem gX1_noteChange_X0_survey : GoodIn wsX1_noteChange (wsV RX1 49 RX0 yX0_survey wsX0_survey) := goodIn_app (goodIn_of _ (by decide +kernel)) ggX1_noteChange_X0_survey
set_option maxRecDepth 20000 in
theorem ggX1_noteChange_X0_stem : GoodIn wsX1_noteChange wsX0_stem := goodIn_r _ [48, 27, 14, 28, 29, 30, 8, 31, 57, 58, 59, 60, 61, 62, 63, 54, 55, 56] (by decide +kernel) (by decide +kernel)
set_option maxRecDepth 20000 in
theorem gX1_noteChange_X0_stem : GoodIn wsX1_noteChange (wsV RX1 53 RX0 yX0_stem wsX0_stem) := goodIn_app (goodIn_of _ (by decide +kernel)) ggX1_noteChange_X0_stem
theorem dX1_noteChange_0 : decode cX1_noteChange 0 = .ok (.aload_n 0, 1) := by decide +kernel
theorem dX1_noteChange_1 : decode cX1_noteChange 1 = .ok (.dup, 1) := by decide +kernel
theorem dX1_noteChange_2 : decode cX1_noteChange 2 = .ok (.getfield 22, 3) := by decide +kernel
theorem dX1_noteChange_5 : decode cX1_noteChange 5 = .ok (.iconst 1, 1) := by decide +kernel
theorem dX1_noteChange_6 : decode cX1_noteChange 6 = .ok (.iadd, 1) := by decide +kernel
theorem dX1_noteChange_7 : decode cX1_noteChange 7 = .ok (.putfield 22, 3) := by decide +kernel
theorem dX1_noteChange_10 : decode cX1_noteChange 10 = .ok (.aload_n 0, 1) := by decide +kernel
theorem dX1_noteChange_11 : decode cX1_noteChange 11 = .ok (.getfield 25, 3) := by decide +kernel
theorem dX1_noteChange_14 : decode cX1_noteChange 14 = .ok (.iload_n 2, 1) := by decide +kernel
theorem dX1_noteChange_15 : decode cX1_noteChange 15 = .ok (.aload_n 0, 1) := by decide +kernel
theorem dX1_noteChange_16 : decode cX1_noteChange 16 = .ok (.getfield 22, 3) := by decide +kernel
theorem dX1_noteChange_19 : decode cX1_noteChange 19 = .ok (.iastore, 1) := by decide +kernel
theorem dX1_noteChange_20 : decode cX1_noteChange 20 = .ok (.aload_n 0, 1) := by decide +kernel
theorem dX1_noteChange_21 : decode cX1_noteChange 21 = .ok (.getfield 12, 3) := by decide +kernel
theorem dX1_noteChange_24 : decode cX1_noteChange 24 = .ok (.aload_n 1, 1) := by decide +kernel
theorem dX1_noteChange_25 : decode cX1_noteChange 25 = .ok (.invokevirtual 49, 3) := by decide +kernel
theorem dX1_noteChange_28 : decode cX1_noteChange 28 = .ok (.aload_n 0, 1) := by decide +kernel
theorem dX1_noteChange_29 : decode cX1_noteChange 29 = .ok (.getfield 12, 3) := by decide +kernel
theorem dX1_noteChange_32 : decode cX1_noteChange 32 = .ok (.aload_n 1, 1) := by decide +kernel
theorem dX1_noteChange_33 : decode cX1_noteChange 33 = .ok (.aload_n 0, 1) := by decide +kernel
theorem dX1_noteChange_34 : decode cX1_noteChange 34 = .ok (.getfield 18, 3) := by decide +kernel
theorem dX1_noteChange_37 : decode cX1_noteChange 37 = .ok (.invokevirtual 53, 3) := by decide +kernel
theorem dX1_noteChange_40 : decode cX1_noteChange 40 = .ok (.pop, 1) := by decide +kernel
theorem dX1_noteChange_41 : decode cX1_noteChange 41 = .ok (.return_, 1) := by decide +kernel
set_option maxRecDepth 20000 in
theorem ggX1_clear_X0_removeAll : GoodIn wsX1_clear wsX0_removeAll := goodIn_r _ [9, 10, 55, 56, 57] (by decide +kernel) (by decide +kernel)
set_option maxRecDepth 20000 in
theorem gX1_clear_X0_removeAll : GoodIn wsX1_clear (wsV RX1 57 RX0 yX0_removeAll wsX0_removeAll) := goodIn_app (goodIn_of _ (by decide +kernel)) ggX1_clear_X0_removeAll
set_option maxRecDepth 20000 in
theorem ggX1_clear_X0_survey : GoodIn wsX1_clear wsX0_survey := goodIn_r _ [14, 15, 16, 17, 8, 18, 19, 20, 21, 22, 23, 24, 25, 26, 27, 28, 29, 30, 31, 10, 32, 33, 34, 35, 36, 37, 38, 39, 40, 41, 42, 43, 44, 45, 46, 47, 48, 55, 56, 57, 58, 59, 60, 61, 62, 63, 64] (by decide +kernel) (by decide +kernel)
set_option maxRecDepth 20000 in
theorem gX1_clear_X0_survey : GoodIn wsX1_clear (wsV RX1 49 RX0 yX0_survey wsX0_survey) := goodIn_app (goodIn_of _ (by decide +kernel)) ggX1_clear_X0_survey
set_option maxRecDepth 20000 in
theorem ggX1_clear_J7_fill_53178 : GoodIn wsX1_clear wsJ7_fill_53178 := goodIn_r _ [27] (by decide +kernel) (by decide +kernel)
set_option maxRecDepth 20000 in
theorem gX1_clear_J7_fill_53178 : GoodIn wsX1_clear (va_wsS RX1 60 yJ7_fill_53178 wsJ7_fill_53178) := goodIn_app (goodIn_of _ (by decide +kernel)) ggX1_clear_J7_fill_53178
theorem dX1_clear_0 : decode cX1_clear 0 = .ok (.aload_n 0, 1) := by decide +kernel
theorem dX1_clear_1 : decode cX1_clear 1 = .ok (.getfield 12, 3) := by decide +kernel
theorem dX1_clear_4 : decode cX1_clear 4 = .ok (.invokevirtual 57, 3) := by decide +kernel
theorem dX1_clear_7 : decode cX1_clear 7 = .ok (.aload_n 0, 1) := by decide +kernel
theorem dX1_clear_8 : decode cX1_clear 8 = .ok (.getfield 12, 3) := by decide +kernel
theorem dX1_clear_11 : decode cX1_clear 11 = .ok (.aload_n 1, 1) := by decide +kernel
theorem dX1_clear_12 : decode cX1_clear 12 = .ok (.invokevirtual 49, 3) := by decide +kernel
theorem dX1_clear_15 : decode cX1_clear 15 = .ok (.aload_n 0, 1) := by decide +kernel
theorem dX1_clear_16 : decode cX1_clear 16 = .ok (.iconst 0, 1) := by decide +kernel
theorem dX1_clear_17 : decode cX1_clear 17 = .ok (.putfield 22, 3) := by decide +kernel
theorem dX1_clear_20 : decode cX1_clear 20 = .ok (.aload_n 0, 1) := by decide +kernel
theorem dX1_clear_21 : decode cX1_clear 21 = .ok (.getfield 25, 3) := by decide +kernel
theorem dX1_clear_24 : decode cX1_clear 24 = .ok (.iconst 0, 1) := by decide +kernel
theorem dX1_clear_25 : decode cX1_clear 25 = .ok (.invokestatic 60, 3) := by decide +kernel
theorem dX1_clear_28 : decode cX1_clear 28 = .ok (.aload_n 0, 1) := by decide +kernel
theorem dX1_clear_29 : decode cX1_clear 29 = .ok (.getfield 29, 3) := by decide +kernel
theorem dX1_clear_32 : decode cX1_clear 32 = .ok (.iconst 0, 1) := by decide +kernel
theorem dX1_clear_33 : decode cX1_clear 33 = .ok (.invokestatic 60, 3) := by decide +kernel
theorem dX1_clear_36 : decode cX1_clear 36 = .ok (.return_, 1) := by decide +kernel
theorem dX1_nextChanged_0 : decode cX1_nextChanged 0 = .ok (.iconst (-1), 1) := by decide +kernel
theorem dX1_nextChanged_1 : decode cX1_nextChanged 1 = .ok (.istore_n 2, 1) := by decide +kernel
theorem dX1_nextChanged_2 : decode cX1_nextChanged 2 = .ok (.iconst 0, 1) := by decide +kernel
theorem dX1_nextChanged_3 : decode cX1_nextChanged 3 = .ok (.istore_n 3, 1) := by decide +kernel
theorem dX1_nextChanged_4 : decode cX1_nextChanged 4 = .ok (.iload_n 3, 1) := by decide +kernel
theorem dX1_nextChanged_5 : decode cX1_nextChanged 5 = .ok (.iconst 4, 1) := by decide +kernel
theorem dX1_nextChanged_6 : decode cX1_nextChanged 6 = .ok (.if_icmp .ge 41, 3) := by decide +kernel
theorem dX1_nextChanged_9 : decode cX1_nextChanged 9 = .ok (.aload_n 0, 1) := by decide +kernel
theorem dX1_nextChanged_10 : decode cX1_nextChanged 10 = .ok (.getfield 25, 3) := by decide +kernel
theorem dX1_nextChanged_13 : decode cX1_nextChanged 13 = .ok (.iload_n 3, 1) := by decide +kernel
theorem dX1_nextChanged_14 : decode cX1_nextChanged 14 = .ok (.iaload, 1) := by decide +kernel
theorem dX1_nextChanged_15 : decode cX1_nextChanged 15 = .ok (.iload_n 1, 1) := by decide +kernel
theorem dX1_nextChanged_16 : decode cX1_nextChanged 16 = .ok (.if_icmp .le 25, 3) := by decide +kernel
theorem dX1_nextChanged_19 : decode cX1_nextChanged 19 = .ok (.iload_n 2, 1) := by decide +kernel
theorem dX1_nextChanged_20 : decode cX1_nextChanged 20 = .ok (.iconst (-1), 1) := by decide +kernel
theorem dX1_nextChanged_21 : decode cX1_nextChanged 21 = .ok (.if_icmp .eq 18, 3) := by decide +kernel
theorem dX1_nextChanged_24 : decode cX1_nextChanged 24 = .ok (.aload_n 0, 1) := by decide +kernel
theorem dX1_nextChanged_25 : decode cX1_nextChanged 25 = .ok (.getfield 25, 3) := by decide +kernel
theorem dX1_nextChanged_28 : decode cX1_nextChanged 28 = .ok (.iload_n 3, 1) := by decide +kernel
theorem dX1_nextChanged_29 : decode cX1_nextChanged 29 = .ok (.iaload, 1) := by decide +kernel
theorem dX1_nextChanged_30 : decode cX1_nextChanged 30 = .ok (.aload_n 0, 1) := by decide +kernel
theorem dX1_nextChanged_31 : decode cX1_nextChanged 31 = .ok (.getfield 25, 3) := by decide +kernel
theorem dX1_nextChanged_34 : decode cX1_nextChanged 34 = .ok (.iload_n 2, 1) := by decide +kernel
theorem dX1_nextChanged_35 : decode cX1_nextChanged 35 = .ok (.iaload, 1) := by decide +kernel
theorem dX1_nextChanged_36 : decode cX1_nextChanged 36 = .ok (.if_icmp .ge 5, 3) := by decide +kernel
theorem dX1_nextChanged_39 : decode cX1_nextChanged 39 = .ok (.iload_n 3, 1) := by decide +kernel
theorem dX1_nextChanged_40 : decode cX1_nextChanged 40 = .ok (.istore_n 2, 1) := by decide +kernel
theorem dX1_nextChanged_41 : decode cX1_nextChanged 41 = .ok (.iinc 3 1, 3) := by decide +kernel
theorem dX1_nextChanged_44 : decode cX1_nextChanged 44 = .ok (.goto (-40), 3) := by decide +kernel
theorem dX1_nextChanged_47 : decode cX1_nextChanged 47 = .ok (.iload_n 2, 1) := by decide +kernel
theorem dX1_nextChanged_48 : decode cX1_nextChanged 48 = .ok (.ireturn, 1) := by decide +kernel
theorem dX1_countChanged_0 : decode cX1_countChanged 0 = .ok (.iconst 0, 1) := by decide +kernel
theorem dX1_countChanged_1 : decode cX1_countChanged 1 = .ok (.istore_n 2, 1) := by decide +kernel
theorem dX1_countChanged_2 : decode cX1_countChanged 2 = .ok (.iconst 0, 1) := by decide +kernel
theorem dX1_countChanged_3 : decode cX1_countChanged 3 = .ok (.istore_n 3, 1) := by decide +kernel
theorem dX1_countChanged_4 : decode cX1_countChanged 4 = .ok (.iload_n 3, 1) := by decide +kernel
theorem dX1_countChanged_5 : decode cX1_countChanged 5 = .ok (.iconst 4, 1) := by decide +kernel
theorem dX1_countChanged_6 : decode cX1_countChanged 6 = .ok (.if_icmp .ge 22, 3) := by decide +kernel
theorem dX1_countChanged_9 : decode cX1_countChanged 9 = .ok (.aload_n 0, 1) := by decide +kernel
theorem dX1_countChanged_10 : decode cX1_countChanged 10 = .ok (.getfield 25, 3) := by decide +kernel
theorem dX1_countChanged_13 : decode cX1_countChanged 13 = .ok (.iload_n 3, 1) := by decide +kernel
theorem dX1_countChanged_14 : decode cX1_countChanged 14 = .ok (.iaload, 1) := by decide +kernel
theorem dX1_countChanged_15 : decode cX1_countChanged 15 = .ok (.iload_n 1, 1) := by decide +kernel
theorem dX1_countChanged_16 : decode cX1_countChanged 16 = .ok (.if_icmp .le 6, 3) := by decide +kernel
theorem dX1_countChanged_19 : decode cX1_countChanged 19 = .ok (.iinc 2 1, 3) := by decide +kernel
theorem dX1_countChanged_22 : decode cX1_countChanged 22 = .ok (.iinc 3 1, 3) := by decide +kernel
theorem dX1_countChanged_25 : decode cX1_countChanged 25 = .ok (.goto (-21), 3) := by decide +kernel
theorem dX1_countChanged_28 : decode cX1_countChanged 28 = .ok (.iload_n 2, 1) := by decide +kernel
theorem dX1_countChanged_29 : decode cX1_countChanged 29 = .ok (.ireturn, 1) := by decide +kernel
theorem dX2_init_0 : decode cX2_init 0 = .ok (.aload_n 0, 1) := by decide +kernel
theorem dX2_init_1 : decode cX2_init 1 = .ok (.invokespecial 3, 3) := by decide +kernel
theorem dX2_init_4 : decode cX2_init 4 = .ok (.aload_n 0, 1) := by decide +kernel
theorem dX2_init_5 : decode cX2_init 5 = .ok (.sipush 150, 3) := by decide +kernel
theorem dX2_init_8 : decode cX2_init 8 = .ok (.newarray .int, 2) := by decide +kernel
theorem dX2_init_10 : decode cX2_init 10 = .ok (.putfield 9, 3) := by decide +kernel
theorem dX2_init_13 : decode cX2_init 13 = .ok (.aload_n 0, 1) := by decide +kernel
theorem dX2_init_14 : decode cX2_init 14 = .ok (.sipush 150, 3) := by decide +kernel
theorem dX2_init_17 : decode cX2_init 17 = .ok (.newarray .int, 2) := by decide +kernel
theorem dX2_init_19 : decode cX2_init 19 = .ok (.putfield 15, 3) := by decide +kernel
theorem dX2_init_22 : decode cX2_init 22 = .ok (.aload_n 0, 1) := by decide +kernel
theorem dX2_init_23 : decode cX2_init 23 = .ok (.sipush 150, 3) := by decide +kernel
theorem dX2_init_26 : decode cX2_init 26 = .ok (.newarray .int, 2) := by decide +kernel
theorem dX2_init_28 : decode cX2_init 28 = .ok (.putfield 18, 3) := by decide +kernel
theorem dX2_init_31 : decode cX2_init 31 = .ok (.aload_n 0, 1) := by decide +kernel
theorem dX2_init_32 : decode cX2_init 32 = .ok (.sipush 150, 3) := by decide +kernel
theorem dX2_init_35 : decode cX2_init 35 = .ok (.newarray .boolean, 2) := by decide +kernel
theorem dX2_init_37 : decode cX2_init 37 = .ok (.putfield 21, 3) := by decide +kernel
theorem dX2_init_40 : decode cX2_init 40 = .ok (.aload_n 0, 1) := by decide +kernel
theorem dX2_init_41 : decode cX2_init 41 = .ok (.sipush 150, 3) := by decide +kernel
theorem dX2_init_44 : decode cX2_init 44 = .ok (.newarray .int, 2) := by decide +kernel
theorem dX2_init_46 : decode cX2_init 46 = .ok (.putfield 25, 3) := by decide +kernel
theorem dX2_init_49 : decode cX2_init 49 = .ok (.aload_n 0, 1) := by decide +kernel
theorem dX2_init_50 : decode cX2_init 50 = .ok (.sipush 150, 3) := by decide +kernel
theorem dX2_init_53 : decode cX2_init 53 = .ok (.newarray .int, 2) := by decide +kernel
theorem dX2_init_55 : decode cX2_init 55 = .ok (.putfield 28, 3) := by decide +kernel
theorem dX2_init_58 : decode cX2_init 58 = .ok (.aload_n 0, 1) := by decide +kernel
theorem dX2_init_59 : decode cX2_init 59 = .ok (.iconst 0, 1) := by decide +kernel
theorem dX2_init_60 : decode cX2_init 60 = .ok (.putfield 31, 3) := by decide +kernel
theorem dX2_init_63 : decode cX2_init 63 = .ok (.return_, 1) := by decide +kernel
theorem dX2_find_0 : decode cX2_find 0 = .ok (.iconst 0, 1) := by decide +kernel
theorem dX2_find_1 : decode cX2_find 1 = .ok (.istore 5, 2) := by decide +kernel
theorem dX2_find_3 : decode cX2_find 3 = .ok (.iload 5, 2) := by decide +kernel
theorem dX2_find_5 : decode cX2_find 5 = .ok (.aload_n 0, 1) := by decide +kernel
theorem dX2_find_6 : decode cX2_find 6 = .ok (.getfield 31, 3) := by decide +kernel
theorem dX2_find_9 : decode cX2_find 9 = .ok (.if_icmp .ge 57, 3) := by decide +kernel
theorem dX2_find_12 : decode cX2_find 12 = .ok (.aload_n 0, 1) := by decide +kernel
theorem dX2_find_13 : decode cX2_find 13 = .ok (.getfield 9, 3) := by decide +kernel
theorem dX2_find_16 : decode cX2_find 16 = .ok (.iload 5, 2) := by decide +kernel
theorem dX2_find_18 : decode cX2_find 18 = .ok (.iaload, 1) := by decide +kernel
theorem dX2_find_19 : decode cX2_find 19 = .ok (.iload_n 1, 1) := by decide +kernel
theorem dX2_find_20 : decode cX2_find 20 = .ok (.if_icmp .ne 40, 3) := by decide +kernel
theorem dX2_find_23 : decode cX2_find 23 = .ok (.aload_n 0, 1) := by decide +kernel
theorem dX2_find_24 : decode cX2_find 24 = .ok (.getfield 15, 3) := by decide +kernel
theorem dX2_find_27 : decode cX2_find 27 = .ok (.iload 5, 2) := by decide +kernel
theorem dX2_find_29 : decode cX2_find 29 = .ok (.iaload, 1) := by decide +kernel
theorem dX2_find_30 : decode cX2_find 30 = .ok (.iload_n 2, 1) := by decide +kernel
theorem dX2_find_31 : decode cX2_find 31 = .ok (.if_icmp .ne 29, 3) := by decide +kernel
theorem dX2_find_34 : decode cX2_find 34 = .ok (.aload_n 0, 1) := by decide +kernel
theorem dX2_find_35 : decode cX2_find 35 = .ok (.getfield 18, 3) := by decide +kernel
theorem dX2_find_38 : decode cX2_find 38 = .ok (.iload 5, 2) := by decide +kernel
theorem dX2_find_40 : decode cX2_find 40 = .ok (.iaload, 1) := by decide +kernel
theorem dX2_find_41 : decode cX2_find 41 = .ok (.iload_n 3, 1) := by decide +kernel
theorem dX2_find_42 : decode cX2_find 42 = .ok (.if_icmp .ne 18, 3) := by decide +kernel
theorem dX2_find_45 : decode cX2_find 45 = .ok (.aload_n 0, 1) := by decide +kernel
theorem dX2_find_46 : decode cX2_find 46 = .ok (.getfield 21, 3) := by decide +kernel
theorem dX2_find_49 : decode cX2_find 49 = .ok (.iload 5, 2) := by decide +kernel
theorem dX2_find_51 : decode cX2_find 51 = .ok (.baload, 1) := by decide +kernel
theorem dX2_find_52 : decode cX2_find 52 = .ok (.iload 4, 2) := by decide +kernel
theorem dX2_find_54 : decode cX2_find 54 = .ok (.if_icmp .ne 6, 3) := by decide +kernel
theorem dX2_find_57 : decode cX2_find 57 = .ok (.iload 5, 2) := by decide +kernel
theorem dX2_find_59 : decode cX2_find 59 = .ok (.ireturn, 1) := by decide +kernel
theorem dX2_find_60 : decode cX2_find 60 = .ok (.iinc 5 1, 3) := by decide +kernel
theorem dX2_find_63 : decode cX2_find 63 = .ok (.goto (-60), 3) := by decide +kernel
theorem dX2_find_66 : decode cX2_find 66 = .ok (.iconst (-1), 1) := by decide +kernel
theorem dX2_find_67 : decode cX2_find 67 = .ok (.ireturn, 1) := by decide +kernel
theorem dX2_make_0 : decode cX2_make 0 = .ok (.aload_n 0, 1) := by decide +kernel
theorem dX2_make_1 : decode cX2_make 1 = .ok (.getfield 31, 3) := by decide +kernel
theorem dX2_make_4 : decode cX2_make 4 = .ok (.istore 5, 2) := by decide +kernel
theorem dX2_make_6 : decode cX2_make 6 = .ok (.iload_n 2, 1) := by decide +kernel
theorem dX2_make_7 : decode cX2_make 7 = .ok (.iconst (-1), 1) := by decide +kernel
theorem dX2_make_8 : decode cX2_make 8 = .ok (.if_icmp .ne 7, 3) := by decide +kernel
theorem dX2_make_11 : decode cX2_make 11 = .ok (.iconst 1, 1) := by decide +kernel
theorem dX2_make_12 : decode cX2_make 12 = .ok (.goto 11, 3) := by decide +kernel
theorem dX2_make_15 : decode cX2_make 15 = .ok (.aload_n 0, 1) := by decide +kernel
theorem dX2_make_16 : decode cX2_make 16 = .ok (.getfield 25, 3) := by decide +kernel
theorem dX2_make_19 : decode cX2_make 19 = .ok (.iload_n 2, 1) := by decide +kernel
theorem dX2_make_20 : decode cX2_make 20 = .ok (.iaload, 1) := by decide +kernel
theorem dX2_make_21 : decode cX2_make 21 = .ok (.iconst 1, 1) := by decide +kernel
theorem dX2_make_22 : decode cX2_make 22 = .ok (.iadd, 1) := by decide +kernel
theorem dX2_make_23 : decode cX2_make 23 = .ok (.istore 6, 2) := by decide +kernel
theorem dX2_make_25 : decode cX2_make 25 = .ok (.iload_n 2, 1) := by decide +kernel
theorem dX2_make_26 : decode cX2_make 26 = .ok (.iconst (-1), 1) := by decide +kernel
theorem dX2_make_27 : decode cX2_make 27 = .ok (.if_icmp .ne 8, 3) := by decide +kernel
theorem dX2_make_30 : decode cX2_make 30 = .ok (.bipush 31, 2) := by decide +kernel
theorem dX2_make_32 : decode cX2_make 32 = .ok (.goto 12, 3) := by decide +kernel
theorem dX2_make_35 : decode cX2_make 35 = .ok (.bipush 31, 2) := by decide +kernel
theorem dX2_make_37 : decode cX2_make 37 = .ok (.aload_n 0, 1) := by decide +kernel
theorem dX2_make_38 : decode cX2_make 38 = .ok (.getfield 28, 3) := by decide +kernel
theorem dX2_make_41 : decode cX2_make 41 = .ok (.iload_n 2, 1) := by decide +kernel
theorem dX2_make_42 : decode cX2_make 42 = .ok (.iaload, 1) := by decide +kernel
theorem dX2_make_43 : decode cX2_make 43 = .ok (.imul, 1) := by decide +kernel
theorem dX2_make_44 : decode cX2_make 44 = .ok (.istore 7, 2) := by decide +kernel
theorem dX2_make_46 : decode cX2_make 46 = .ok (.aload_n 0, 1) := by decide +kernel
theorem dX2_make_47 : decode cX2_make 47 = .ok (.getfield 9, 3) := by decide +kernel
theorem dX2_make_50 : decode cX2_make 50 = .ok (.iload 5, 2) := by decide +kernel
theorem dX2_make_52 : decode cX2_make 52 = .ok (.iload_n 1, 1) := by decide +kernel
theorem dX2_make_53 : decode cX2_make 53 = .ok (.iastore, 1) := by decide +kernel
theorem dX2_make_54 : decode cX2_make 54 = .ok (.aload_n 0, 1) := by decide +kernel
theorem dX2_make_55 : decode cX2_make 55 = .ok (.getfield 15, 3) := by decide +kernel
theorem dX2_make_58 : decode cX2_make 58 = .ok (.iload 5, 2) := by decide +kernel
theorem dX2_make_60 : decode cX2_make 60 = .ok (.iload_n 2, 1) := by decide +kernel
theorem dX2_make_61 : decode cX2_make 61 = .ok (.iastore, 1) := by decide +kernel
theorem dX2_make_62 : decode cX2_make 62 = .ok (.aload_n 0, 1) := by decide +kernel
theorem dX2_make_63 : decode cX2_make 63 = .ok (.getfield 18, 3) := by decide +kernel
theorem dX2_make_66 : decode cX2_make 66 = .ok (.iload 5, 2) := by decide +kernel
theorem dX2_make_68 : decode cX2_make 68 = .ok (.iload_n 3, 1) := by decide +kernel
theorem dX2_make_69 : decode cX2_make 69 = .ok (.iastore, 1) := by decide +kernel
theorem dX2_make_70 : decode cX2_make 70 = .ok (.aload_n 0, 1) := by decide +kernel
theorem dX2_make_71 : decode cX2_make 71 = .ok (.getfield 21, 3) := by decide +kernel
theorem dX2_make_74 : decode cX2_make 74 = .ok (.iload 5, 2) := by decide +kernel
theorem dX2_make_76 : decode cX2_make 76 = .ok (.iload 4, 2) := by decide +kernel
theorem dX2_make_78 : decode cX2_make 78 = .ok (.bastore, 1) := by decide +kernel
theorem dX2_make_79 : decode cX2_make 79 = .ok (.aload_n 0, 1) := by decide +kernel
theorem dX2_make_80 : decode cX2_make 80 = .ok (.getfield 25, 3) := by decide +kernel
theorem dX2_make_83 : decode cX2_make 83 = .ok (.iload 5, 2) := by decide +kernel
theorem dX2_make_85 : decode cX2_make 85 = .ok (.iload 6, 2) := by decide +kernel
theorem dX2_make_87 : decode cX2_make 87 = .ok (.iastore, 1) := by decide +kernel
theorem dX2_make_88 : decode cX2_make 88 = .ok (.aload_n 0, 1) := by decide +kernel
theorem dX2_make_89 : decode cX2_make 89 = .ok (.getfield 28, 3) := by decide +kernel
theorem dX2_make_92 : decode cX2_make 92 = .ok (.iload 5, 2) := by decide +kernel
theorem dX2_make_94 : decode cX2_make 94 = .ok (.iload 7, 2) := by decide +kernel
theorem dX2_make_96 : decode cX2_make 96 = .ok (.bipush 7, 2) := by decide +kernel
theorem dX2_make_98 : decode cX2_make 98 = .ok (.iload_n 3, 1) := by decide +kernel
theorem dX2_make_99 : decode cX2_make 99 = .ok (.imul, 1) := by decide +kernel
theorem dX2_make_100 : decode cX2_make 100 = .ok (.iadd, 1) := by decide +kernel
theorem dX2_make_101 : decode cX2_make 101 = .ok (.iload 6, 2) := by decide +kernel
theorem dX2_make_103 : decode cX2_make 103 = .ok (.iadd, 1) := by decide +kernel
theorem dX2_make_104 : decode cX2_make 104 = .ok (.iload 4, 2) := by decide +kernel
theorem dX2_make_106 : decode cX2_make 106 = .ok (.ifCond .eq 7, 3) := by decide +kernel
theorem dX2_make_109 : decode cX2_make 109 = .ok (.iconst 3, 1) := by decide +kernel
theorem dX2_make_110 : decode cX2_make 110 = .ok (.goto 4, 3) := by decide +kernel
theorem dX2_make_113 : decode cX2_make 113 = .ok (.iconst 0, 1) := by decide +kernel
theorem dX2_make_114 : decode cX2_make 114 = .ok (.iadd, 1) := by decide +kernel
theorem dX2_make_115 : decode cX2_make 115 = .ok (.sipush 997, 3) := by decide +kernel
theorem dX2_make_118 : decode cX2_make 118 = .ok (.irem, 1) := by decide +kernel
theorem dX2_make_119 : decode cX2_make 119 = .ok (.iastore, 1) := by decide +kernel
theorem dX2_make_120 : decode cX2_make 120 = .ok (.aload_n 0, 1) := by decide +kernel
theorem dX2_make_121 : decode cX2_make 121 = .ok (.dup, 1) := by decide +kernel
theorem dX2_make_122 : decode cX2_make 122 = .ok (.getfield 31, 3) := by decide +kernel
theorem dX2_make_125 : decode cX2_make 125 = .ok (.iconst 1, 1) := by decide +kernel
theorem dX2_make_126 : decode cX2_make 126 = .ok (.iadd, 1) := by decide +kernel
theorem dX2_make_127 : decode cX2_make 127 = .ok (.putfield 31, 3) := by decide +kernel
theorem dX2_make_130 : decode cX2_make 130 = .ok (.iload 5, 2) := by decide +kernel
theorem dX2_make_132 : decode cX2_make 132 = .ok (.ireturn, 1) := by decide +kernel
theorem dX2_isBetter_0 : decode cX2_isBetter 0 = .ok (.aload_n 0, 1) := by decide +kernel
theorem dX2_isBetter_1 : decode cX2_isBetter 1 = .ok (.getfield 21, 3) := by decide +kernel
theorem dX2_isBetter_4 : decode cX2_isBetter 4 = .ok (.iload_n 1, 1) := by decide +kernel
theorem dX2_isBetter_5 : decode cX2_isBetter 5 = .ok (.baload, 1) := by decide +kernel
theorem dX2_isBetter_6 : decode cX2_isBetter 6 = .ok (.aload_n 0, 1) := by decide +kernel
theorem dX2_isBetter_7 : decode cX2_isBetter 7 = .ok (.getfield 21, 3) := by decide +kernel
theorem dX2_isBetter_10 : decode cX2_isBetter 10 = .ok (.iload_n 2, 1) := by decide +kernel
theorem dX2_isBetter_11 : decode cX2_isBetter 11 = .ok (.baload, 1) := by decide +kernel
theorem dX2_isBetter_12 : decode cX2_isBetter 12 = .ok (.if_icmp .eq 10, 3) := by decide +kernel
theorem dX2_isBetter_15 : decode cX2_isBetter 15 = .ok (.aload_n 0, 1) := by decide +kernel
theorem dX2_isBetter_16 : decode cX2_isBetter 16 = .ok (.getfield 21, 3) := by decide +kernel
theorem dX2_isBetter_19 : decode cX2_isBetter 19 = .ok (.iload_n 2, 1) := by decide +kernel
theorem dX2_isBetter_20 : decode cX2_isBetter 20 = .ok (.baload, 1) := by decide +kernel
theorem dX2_isBetter_21 : decode cX2_isBetter 21 = .ok (.ireturn, 1) := by decide +kernel
theorem dX2_isBetter_22 : decode cX2_isBetter 22 = .ok (.aload_n 0, 1) := by decide +kernel
theorem dX2_isBetter_23 : decode cX2_isBetter 23 = .ok (.getfield 25, 3) := by decide +kernel
theorem dX2_isBetter_26 : decode cX2_isBetter 26 = .ok (.iload_n 1, 1) := by decide +kernel
theorem dX2_isBetter_27 : decode cX2_isBetter 27 = .ok (.iaload, 1) := by decide +kernel
theorem dX2_isBetter_28 : decode cX2_isBetter 28 = .ok (.aload_n 0, 1) := by decide +kernel
theorem dX2_isBetter_29 : decode cX2_isBetter 29 = .ok (.getfield 25, 3) := by decide +kernel
theorem dX2_isBetter_32 : decode cX2_isBetter 32 = .ok (.iload_n 2, 1) := by decide +kernel
theorem dX2_isBetter_33 : decode cX2_isBetter 33 = .ok (.iaload, 1) := by decide +kernel
theorem dX2_isBetter_34 : decode cX2_isBetter 34 = .ok (.if_icmp .eq 24, 3) := by decide +kernel
theorem dX2_isBetter_37 : decode cX2_isBetter 37 = .ok (.aload_n 0, 1) := by decide +kernel
theorem dX2_isBetter_38 : decode cX2_isBetter 38 = .ok (.getfield 25, 3) := by decide +kernel
theorem dX2_isBetter_41 : decode cX2_isBetter 41 = .ok (.iload_n 1, 1) := by decide +kernel
theorem dX2_isBetter_42 : decode cX2_isBetter 42 = .ok (.iaload, 1) := by decide +kernel
theorem dX2_isBetter_43 : decode cX2_isBetter 43 = .ok (.aload_n 0, 1) := by decide +kernel
theorem dX2_isBetter_44 : decode cX2_isBetter 44 = .ok (.getfield 25, 3) := by decide +kernel
theorem dX2_isBetter_47 : decode cX2_isBetter 47 = .ok (.iload_n 2, 1) := by decide +kernel
theorem dX2_isBetter_48 : decode cX2_isBetter 48 = .ok (.iaload, 1) := by decide +kernel
theorem dX2_isBetter_49 : decode cX2_isBetter 49 = .ok (.if_icmp .le 7, 3) := by decide +kernel
theorem dX2_isBetter_52 : decode cX2_isBetter 52 = .ok (.iconst 1, 1) := by decide +kernel
theorem dX2_isBetter_53 : decode cX2_isBetter 53 = .ok (.goto 4, 3) := by decide +kernel
theorem dX2_isBetter_56 : decode cX2_isBetter 56 = .ok (.iconst 0, 1) := by decide +kernel
theorem dX2_isBetter_57 : decode cX2_isBetter 57 = .ok (.ireturn, 1) := by decide +kernel
theorem dX2_isBetter_58 : decode cX2_isBetter 58 = .ok (.aload_n 0, 1) := by decide +kernel
theorem dX2_isBetter_59 : decode cX2_isBetter 59 = .ok (.getfield 28, 3) := by decide +kernel
theorem dX2_isBetter_62 : decode cX2_isBetter 62 = .ok (.iload_n 1, 1) := by decide +kernel
theorem dX2_isBetter_63 : decode cX2_isBetter 63 = .ok (.iaload, 1) := by decide +kernel
theorem dX2_isBetter_64 : decode cX2_isBetter 64 = .ok (.aload_n 0, 1) := by decide +kernel
theorem dX2_isBetter_65 : decode cX2_isBetter 65 = .ok (.getfield 28, 3) := by decide +kernel
theorem dX2_isBetter_68 : decode cX2_isBetter 68 = .ok (.iload_n 2, 1) := by decide +kernel
theorem dX2_isBetter_69 : decode cX2_isBetter 69 = .ok (.iaload, 1) := by decide +kernel
theorem dX2_isBetter_70 : decode cX2_isBetter 70 = .ok (.if_icmp .eq 24, 3) := by decide +kernel
theorem dX2_isBetter_73 : decode cX2_isBetter 73 = .ok (.aload_n 0, 1) := by decide +kernel
theorem dX2_isBetter_74 : decode cX2_isBetter 74 = .ok (.getfield 28, 3) := by decide +kernel
theorem dX2_isBetter_77 : decode cX2_isBetter 77 = .ok (.iload_n 1, 1) := by decide +kernel
theorem dX2_isBetter_78 : decode cX2_isBetter 78 = .ok (.iaload, 1) := by decide +kernel
theorem dX2_isBetter_79 : decode cX2_isBetter 79 = .ok (.aload_n 0, 1) := by decide +kernel
theorem dX2_isBetter_80 : decode cX2_isBetter 80 = .ok (.getfield 28, 3) := by decide +kernel
theorem dX2_isBetter_83 : decode cX2_isBetter 83 = .ok (.iload_n 2, 1) := by decide +kernel
theorem dX2_isBetter_84 : decode cX2_isBetter 84 = .ok (.iaload, 1) := by decide +kernel
theorem dX2_isBetter_85 : decode cX2_isBetter 85 = .ok (.if_icmp .le 7, 3) := by decide +kernel
theorem dX2_isBetter_88 : decode cX2_isBetter 88 = .ok (.iconst 1, 1) := by decide +kernel
theorem dX2_isBetter_89 : decode cX2_isBetter 89 = .ok (.goto 4, 3) := by decide +kernel
theorem dX2_isBetter_92 : decode cX2_isBetter 92 = .ok (.iconst 0, 1) := by decide +kernel
theorem dX2_isBetter_93 : decode cX2_isBetter 93 = .ok (.ireturn, 1) := by decide +kernel
theorem dX2_isBetter_94 : decode cX2_isBetter 94 = .ok (.iload_n 1, 1) := by decide +kernel
theorem dX2_isBetter_95 : decode cX2_isBetter 95 = .ok (.iload_n 2, 1) := by decide +kernel
theorem dX2_isBetter_96 : decode cX2_isBetter 96 = .ok (.if_icmp .ge 7, 3) := by decide +kernel
theorem dX2_isBetter_99 : decode cX2_isBetter 99 = .ok (.iconst 1, 1) := by decide +kernel
theorem dX2_isBetter_100 : decode cX2_isBetter 100 = .ok (.goto 4, 3) := by decide +kernel
theorem dX2_isBetter_103 : decode cX2_isBetter 103 = .ok (.iconst 0, 1) := by decide +kernel
theorem dX2_isBetter_104 : decode cX2_isBetter 104 = .ok (.ireturn, 1) := by decide +kernel
