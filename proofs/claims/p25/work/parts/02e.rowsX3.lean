set_option maxRecDepth 20000 in
theorem ggX3_init_X2_init : GoodIn wsX3_init wsX2_init := goodIn_r _ [17, 18, 2, 3, 19, 20, 21, 22, 23, 24, 25, 26, 27, 49, 50, 51, 52, 53, 54, 55] (by decide +kernel) (by decide +kernel)
set_option maxRecDepth 20000 in
theorem gX3_init_X2_init_n9 : GoodIn wsX3_init (wsX2_init) := ggX3_init_X2_init
set_option maxRecDepth 20000 in
theorem ggX3_init_X0_init : GoodIn wsX3_init wsX0_init := goodIn_r _ [30, 31, 2, 3, 23, 32, 19, 33, 34, 35, 36, 37, 38, 59, 60, 61] (by decide +kernel) (by decide +kernel)
set_option maxRecDepth 20000 in
theorem gX3_init_X0_init : GoodIn wsX3_init (wsX0_init) := ggX3_init_X0_init
set_option maxRecDepth 20000 in
theorem ggX3_init_X1_init : GoodIn wsX3_init wsX1_init := goodIn_r _ [40, 41, 2, 3, 42, 11, 12, 43, 44, 45, 19, 46, 47, 48, 29, 30, 31, 23, 32, 33, 34, 35, 36, 37, 38, 59, 60, 61, 62, 63, 64, 65, 66] (by decide +kernel) (by decide +kernel)
set_option maxRecDepth 20000 in
theorem gX3_init_X1_init_n29 : GoodIn wsX3_init (wsX1_init) := ggX3_init_X1_init
theorem dX3_init_0 : decode cX3_init 0 = .ok (.aload_n 0, 1) := by decide +kernel
theorem dX3_init_1 : decode cX3_init 1 = .ok (.invokespecial 1, 3) := by decide +kernel
theorem dX3_init_4 : decode cX3_init 4 = .ok (.aload_n 0, 1) := by decide +kernel
theorem dX3_init_5 : decode cX3_init 5 = .ok (.new 7, 3) := by decide +kernel
theorem dX3_init_8 : decode cX3_init 8 = .ok (.dup, 1) := by decide +kernel
theorem dX3_init_9 : decode cX3_init 9 = .ok (.invokespecial 9, 3) := by decide +kernel
theorem dX3_init_12 : decode cX3_init 12 = .ok (.putfield 10, 3) := by decide +kernel
theorem dX3_init_15 : decode cX3_init 15 = .ok (.aload_n 0, 1) := by decide +kernel
theorem dX3_init_16 : decode cX3_init 16 = .ok (.iconst 3, 1) := by decide +kernel
theorem dX3_init_17 : decode cX3_init 17 = .ok (.anewarray 16, 3) := by decide +kernel
theorem dX3_init_20 : decode cX3_init 20 = .ok (.putfield 18, 3) := by decide +kernel
theorem dX3_init_23 : decode cX3_init 23 = .ok (.aload_n 0, 1) := by decide +kernel
theorem dX3_init_24 : decode cX3_init 24 = .ok (.new 22, 3) := by decide +kernel
theorem dX3_init_27 : decode cX3_init 27 = .ok (.dup, 1) := by decide +kernel
theorem dX3_init_28 : decode cX3_init 28 = .ok (.invokespecial 24, 3) := by decide +kernel
theorem dX3_init_31 : decode cX3_init 31 = .ok (.putfield 25, 3) := by decide +kernel
theorem dX3_init_34 : decode cX3_init 34 = .ok (.iconst 0, 1) := by decide +kernel
theorem dX3_init_35 : decode cX3_init 35 = .ok (.istore_n 1, 1) := by decide +kernel
theorem dX3_init_36 : decode cX3_init 36 = .ok (.iload_n 1, 1) := by decide +kernel
theorem dX3_init_37 : decode cX3_init 37 = .ok (.iconst 3, 1) := by decide +kernel
theorem dX3_init_38 : decode cX3_init 38 = .ok (.if_icmp .ge 22, 3) := by decide +kernel
theorem dX3_init_41 : decode cX3_init 41 = .ok (.aload_n 0, 1) := by decide +kernel
theorem dX3_init_42 : decode cX3_init 42 = .ok (.getfield 18, 3) := by decide +kernel
theorem dX3_init_45 : decode cX3_init 45 = .ok (.iload_n 1, 1) := by decide +kernel
theorem dX3_init_46 : decode cX3_init 46 = .ok (.new 16, 3) := by decide +kernel
theorem dX3_init_49 : decode cX3_init 49 = .ok (.dup, 1) := by decide +kernel
theorem dX3_init_50 : decode cX3_init 50 = .ok (.invokespecial 29, 3) := by decide +kernel
theorem dX3_init_53 : decode cX3_init 53 = .ok (.aastore, 1) := by decide +kernel
theorem dX3_init_54 : decode cX3_init 54 = .ok (.iinc 1 1, 3) := by decide +kernel
theorem dX3_init_57 : decode cX3_init 57 = .ok (.goto (-21), 3) := by decide +kernel
theorem dX3_init_60 : decode cX3_init 60 = .ok (.return_, 1) := by decide +kernel
set_option maxRecDepth 20000 in
theorem ggX3_edit_X3_storeAt : GoodIn wsX3_edit wsX3_storeAt := goodIn_ca (goodIn_r _ [7, 8, 9, 10, 108, 109, 110] (by decide +kernel) (by decide +kernel)) (goodIn_sub (fun _ h => List.mem_cons_of_mem _ (List.mem_append_left _ (List.mem_append_right _ h))) (by decide +kernel))
set_option maxRecDepth 20000 in
theorem gX3_edit_X3_storeAt : GoodIn wsX3_edit (wsV RX3 30 RX3 yX3_storeAt wsX3_storeAt) := goodIn_app (goodIn_of _ (by decide +kernel)) ggX3_edit_X3_storeAt
set_option maxRecDepth 20000 in
theorem ggX3_edit_X3_checkDocument : GoodIn wsX3_edit wsX3_checkDocument := goodIn_ca (goodIn_r _ [14, 8, 9] (by decide +kernel) (by decide +kernel)) (goodIn_sub (fun _ h => List.mem_cons_of_mem _ (List.mem_append_left _ (List.mem_append_right _ h))) (by decide +kernel))
set_option maxRecDepth 20000 in
theorem gX3_edit_X3_checkDocument : GoodIn wsX3_edit (wsV RX3 34 RX3 yX3_checkDocument wsX3_checkDocument) := goodIn_app (goodIn_of _ (by decide +kernel)) ggX3_edit_X3_checkDocument
set_option maxRecDepth 20000 in
theorem ggX3_edit_X3_checkRevision : GoodIn wsX3_edit wsX3_checkRevision := goodIn_ca (goodIn_r _ [18, 8, 9, 19, 108, 109, 110, 111, 112, 113, 114, 115, 116, 117] (by decide +kernel) (by decide +kernel)) (goodIn_sub (fun _ h => List.mem_cons_of_mem _ (List.mem_append_left _ (List.mem_append_right _ h))) (by decide +kernel))
set_option maxRecDepth 20000 in
theorem gX3_edit_X3_checkRevision : GoodIn wsX3_edit (wsV RX3 38 RX3 yX3_checkRevision wsX3_checkRevision) := goodIn_app (goodIn_of _ (by decide +kernel)) ggX3_edit_X3_checkRevision
set_option maxRecDepth 20000 in
theorem ggX3_edit_X3_checkNotBegun : GoodIn wsX3_edit wsX3_checkNotBegun := goodIn_ca (goodIn_r _ [23, 24, 25, 118, 119, 120, 121, 122, 123, 124, 125] (by decide +kernel) (by decide +kernel)) (goodIn_sub (fun _ h => List.mem_cons_of_mem _ (List.mem_append_right _ h)) (by decide +kernel))
set_option maxRecDepth 20000 in
theorem gX3_edit_X3_checkNotBegun : GoodIn wsX3_edit (wsV RX3 48 RX3 yX3_checkNotBegun wsX3_checkNotBegun) := goodIn_app (goodIn_of _ (by decide +kernel)) ggX3_edit_X3_checkNotBegun
set_option maxRecDepth 20000 in
theorem ggX3_edit_X3_checkLeaf : GoodIn wsX3_edit wsX3_checkLeaf := goodIn_ca (goodIn_r _ [29, 24, 25, 19, 30, 31, 32, 33, 34, 35, 36, 37, 38, 39, 40, 108, 109, 110, 111, 112, 113, 114, 115, 116, 117, 118, 119, 120, 121, 122, 123, 124, 125] (by decide +kernel) (by decide +kernel)) (goodIn_sub (fun _ h => List.mem_cons_of_mem _ (List.mem_append_right _ h)) (by decide +kernel))
set_option maxRecDepth 20000 in
theorem gX3_edit_X3_checkLeaf : GoodIn wsX3_edit (wsV RX3 52 RX3 yX3_checkLeaf wsX3_checkLeaf) := goodIn_app (goodIn_of _ (by decide +kernel)) ggX3_edit_X3_checkLeaf
set_option maxRecDepth 20000 in
theorem ggX3_edit_X3_checkRoom : GoodIn wsX3_edit wsX3_checkRoom := goodIn_ca (goodIn_r _ [44, 24, 25, 19, 108, 109, 110, 111, 112, 113, 114, 115, 116, 117] (by decide +kernel) (by decide +kernel)) (goodIn_sub (fun _ h => List.mem_cons_of_mem _ (List.mem_append_right _ h)) (by decide +kernel))
set_option maxRecDepth 20000 in
theorem gX3_edit_X3_checkRoom : GoodIn wsX3_edit (wsV RX3 56 RX3 yX3_checkRoom wsX3_checkRoom) := goodIn_app (goodIn_of _ (by decide +kernel)) ggX3_edit_X3_checkRoom
set_option maxRecDepth 20000 in
theorem ggX3_edit_X3_grow : GoodIn wsX3_edit wsX3_grow := goodIn_r _ [48, 19, 49, 50, 51, 52, 53, 54, 55, 56, 57, 58, 59, 60, 61, 62, 63, 64, 65, 66, 67, 68, 69, 70, 71, 72, 73, 74, 75, 76, 77, 78, 79, 80, 33, 81, 82, 83, 84, 85, 40, 86, 87, 88, 89, 90, 91, 92, 93, 94, 31, 32, 34, 35, 36, 37, 38, 39, 95, 96, 97, 98, 99, 100, 101, 102, 103, 104, 105, 106, 107, 108, 109, 110, 111, 112, 113, 114, 115, 116, 117, 118, 119, 120, 121, 122, 123, 124, 125] (by decide +kernel) (by decide +kernel)
set_option maxRecDepth 20000 in
theorem gX3_edit_X3_grow : GoodIn wsX3_edit (wsV RX3 59 RX3 yX3_grow wsX3_grow) := goodIn_app (goodIn_of _ (by decide +kernel)) ggX3_edit_X3_grow
theorem dX3_edit_0 : decode cX3_edit 0 = .ok (.aload_n 0, 1) := by decide +kernel
theorem dX3_edit_1 : decode cX3_edit 1 = .ok (.iload_n 1, 1) := by decide +kernel
theorem dX3_edit_2 : decode cX3_edit 2 = .ok (.invokevirtual 30, 3) := by decide +kernel
theorem dX3_edit_5 : decode cX3_edit 5 = .ok (.astore 5, 2) := by decide +kernel
theorem dX3_edit_7 : decode cX3_edit 7 = .ok (.aload_n 0, 1) := by decide +kernel
theorem dX3_edit_8 : decode cX3_edit 8 = .ok (.iload_n 2, 1) := by decide +kernel
theorem dX3_edit_9 : decode cX3_edit 9 = .ok (.invokevirtual 34, 3) := by decide +kernel
theorem dX3_edit_12 : decode cX3_edit 12 = .ok (.iload_n 3, 1) := by decide +kernel
theorem dX3_edit_13 : decode cX3_edit 13 = .ok (.iconst (-1), 1) := by decide +kernel
theorem dX3_edit_14 : decode cX3_edit 14 = .ok (.if_icmp .eq 8, 3) := by decide +kernel
theorem dX3_edit_17 : decode cX3_edit 17 = .ok (.aload_n 0, 1) := by decide +kernel
theorem dX3_edit_18 : decode cX3_edit 18 = .ok (.iload_n 3, 1) := by decide +kernel
theorem dX3_edit_19 : decode cX3_edit 19 = .ok (.invokevirtual 38, 3) := by decide +kernel
theorem dX3_edit_22 : decode cX3_edit 22 = .ok (.iload 4, 2) := by decide +kernel
theorem dX3_edit_24 : decode cX3_edit 24 = .ok (.ifCond .lt 10, 3) := by decide +kernel
theorem dX3_edit_27 : decode cX3_edit 27 = .ok (.iload 4, 2) := by decide +kernel
theorem dX3_edit_29 : decode cX3_edit 29 = .ok (.bipush 99, 2) := by decide +kernel
theorem dX3_edit_31 : decode cX3_edit 31 = .ok (.if_icmp .le 13, 3) := by decide +kernel
theorem dX3_edit_34 : decode cX3_edit 34 = .ok (.new 41, 3) := by decide +kernel
theorem dX3_edit_37 : decode cX3_edit 37 = .ok (.dup, 1) := by decide +kernel
theorem dX3_edit_38 : decode cX3_edit 38 = .ok (.ldc 43, 2) := by decide +kernel
theorem dX3_edit_40 : decode cX3_edit 40 = .ok (.invokespecial 45, 3) := by decide +kernel
theorem dX3_edit_43 : decode cX3_edit 43 = .ok (.athrow, 1) := by decide +kernel
theorem dX3_edit_44 : decode cX3_edit 44 = .ok (.iload_n 3, 1) := by decide +kernel
theorem dX3_edit_45 : decode cX3_edit 45 = .ok (.iconst (-1), 1) := by decide +kernel
theorem dX3_edit_46 : decode cX3_edit 46 = .ok (.if_icmp .ne 13, 3) := by decide +kernel
theorem dX3_edit_49 : decode cX3_edit 49 = .ok (.aload_n 0, 1) := by decide +kernel
theorem dX3_edit_50 : decode cX3_edit 50 = .ok (.aload 5, 2) := by decide +kernel
theorem dX3_edit_52 : decode cX3_edit 52 = .ok (.iload_n 2, 1) := by decide +kernel
theorem dX3_edit_53 : decode cX3_edit 53 = .ok (.invokevirtual 48, 3) := by decide +kernel
theorem dX3_edit_56 : decode cX3_edit 56 = .ok (.goto 11, 3) := by decide +kernel
theorem dX3_edit_59 : decode cX3_edit 59 = .ok (.aload_n 0, 1) := by decide +kernel
theorem dX3_edit_60 : decode cX3_edit 60 = .ok (.aload 5, 2) := by decide +kernel
theorem dX3_edit_62 : decode cX3_edit 62 = .ok (.iload_n 2, 1) := by decide +kernel
theorem dX3_edit_63 : decode cX3_edit 63 = .ok (.iload_n 3, 1) := by decide +kernel
theorem dX3_edit_64 : decode cX3_edit 64 = .ok (.invokevirtual 52, 3) := by decide +kernel
theorem dX3_edit_67 : decode cX3_edit 67 = .ok (.aload_n 0, 1) := by decide +kernel
theorem dX3_edit_68 : decode cX3_edit 68 = .ok (.invokevirtual 56, 3) := by decide +kernel
theorem dX3_edit_71 : decode cX3_edit 71 = .ok (.aload_n 0, 1) := by decide +kernel
theorem dX3_edit_72 : decode cX3_edit 72 = .ok (.aload 5, 2) := by decide +kernel
theorem dX3_edit_74 : decode cX3_edit 74 = .ok (.iload_n 2, 1) := by decide +kernel
theorem dX3_edit_75 : decode cX3_edit 75 = .ok (.iload_n 3, 1) := by decide +kernel
theorem dX3_edit_76 : decode cX3_edit 76 = .ok (.iload 4, 2) := by decide +kernel
theorem dX3_edit_78 : decode cX3_edit 78 = .ok (.iconst 0, 1) := by decide +kernel
theorem dX3_edit_79 : decode cX3_edit 79 = .ok (.invokevirtual 59, 3) := by decide +kernel
theorem dX3_edit_82 : decode cX3_edit 82 = .ok (.ireturn, 1) := by decide +kernel
set_option maxRecDepth 20000 in
theorem ggX3_delete_X3_storeAt : GoodIn wsX3_delete wsX3_storeAt := goodIn_ca (goodIn_r _ [8, 9, 10, 11, 102, 103, 104] (by decide +kernel) (by decide +kernel)) (goodIn_sub (fun _ h => List.mem_cons_of_mem _ (List.mem_append_right _ h)) (by decide +kernel))
set_option maxRecDepth 20000 in
theorem gX3_delete_X3_storeAt : GoodIn wsX3_delete (wsV RX3 30 RX3 yX3_storeAt wsX3_storeAt) := goodIn_app (goodIn_of _ (by decide +kernel)) ggX3_delete_X3_storeAt
set_option maxRecDepth 20000 in
theorem ggX3_delete_X3_checkDocument : GoodIn wsX3_delete wsX3_checkDocument := goodIn_ca (goodIn_r _ [15, 9, 10] (by decide +kernel) (by decide +kernel)) (goodIn_sub (fun _ h => List.mem_cons_of_mem _ (List.mem_append_right _ h)) (by decide +kernel))
set_option maxRecDepth 20000 in
theorem gX3_delete_X3_checkDocument : GoodIn wsX3_delete (wsV RX3 34 RX3 yX3_checkDocument wsX3_checkDocument) := goodIn_app (goodIn_of _ (by decide +kernel)) ggX3_delete_X3_checkDocument
set_option maxRecDepth 20000 in
theorem ggX3_delete_X3_checkRevision : GoodIn wsX3_delete wsX3_checkRevision := goodIn_ca (goodIn_r _ [19, 9, 10, 3, 102, 103, 104, 105, 106, 107, 108, 109, 110, 111] (by decide +kernel) (by decide +kernel)) (goodIn_sub (fun _ h => List.mem_cons_of_mem _ (List.mem_append_right _ h)) (by decide +kernel))
set_option maxRecDepth 20000 in
theorem gX3_delete_X3_checkRevision : GoodIn wsX3_delete (wsV RX3 38 RX3 yX3_checkRevision wsX3_checkRevision) := goodIn_app (goodIn_of _ (by decide +kernel)) ggX3_delete_X3_checkRevision
set_option maxRecDepth 20000 in
theorem ggX3_delete_X3_checkLeaf : GoodIn wsX3_delete wsX3_checkLeaf := goodIn_ca (goodIn_r _ [23, 1, 2, 3, 24, 25, 26, 27, 28, 29, 30, 31, 32, 33, 34, 102, 103, 104, 105, 106, 107, 108, 109, 110, 111, 112, 113, 114, 115, 116, 117, 118, 119] (by decide +kernel) (by decide +kernel)) (goodIn_sub (fun _ h => List.mem_cons_of_mem _ (List.mem_append_left _ (List.mem_append_right _ h))) (by decide +kernel))
set_option maxRecDepth 20000 in
theorem gX3_delete_X3_checkLeaf : GoodIn wsX3_delete (wsV RX3 52 RX3 yX3_checkLeaf wsX3_checkLeaf) := goodIn_app (goodIn_of _ (by decide +kernel)) ggX3_delete_X3_checkLeaf
set_option maxRecDepth 20000 in
theorem ggX3_delete_X3_checkRoom : GoodIn wsX3_delete wsX3_checkRoom := goodIn_ca (goodIn_r _ [38, 1, 2, 3, 102, 103, 104, 105, 106, 107, 108, 109, 110, 111] (by decide +kernel) (by decide +kernel)) (goodIn_sub (fun _ h => List.mem_cons_of_mem _ (List.mem_append_left _ (List.mem_append_right _ h))) (by decide +kernel))
set_option maxRecDepth 20000 in
theorem gX3_delete_X3_checkRoom : GoodIn wsX3_delete (wsV RX3 56 RX3 yX3_checkRoom wsX3_checkRoom) := goodIn_app (goodIn_of _ (by decide +kernel)) ggX3_delete_X3_checkRoom
set_option maxRecDepth 20000 in
theorem ggX3_delete_X3_grow : GoodIn wsX3_delete wsX3_grow := goodIn_r _ [42, 3, 43, 44, 45, 46, 47, 48, 49, 50, 51, 52, 53, 54, 55, 56, 57, 58, 59, 60, 61, 62, 63, 64, 65, 66, 67, 68, 69, 70, 71, 72, 73, 74, 27, 75, 76, 77, 78, 79, 34, 80, 81, 82, 83, 84, 85, 86, 87, 88, 25, 26, 28, 29, 30, 31, 32, 33, 89, 90, 91, 92, 93, 94, 95, 96, 97, 98, 99, 100, 101, 102, 103, 104, 105, 106, 107, 108, 109, 110, 111, 112, 113, 114, 115, 116, 117, 118, 119] (by decide +kernel) (by decide +kernel)
set_option maxRecDepth 20000 in
theorem gX3_delete_X3_grow : GoodIn wsX3_delete (wsV RX3 59 RX3 yX3_grow wsX3_grow) := goodIn_app (goodIn_of _ (by decide +kernel)) ggX3_delete_X3_grow
theorem dX3_delete_0 : decode cX3_delete 0 = .ok (.aload_n 0, 1) := by decide +kernel
theorem dX3_delete_1 : decode cX3_delete 1 = .ok (.iload_n 1, 1) := by decide +kernel
theorem dX3_delete_2 : decode cX3_delete 2 = .ok (.invokevirtual 30, 3) := by decide +kernel
theorem dX3_delete_5 : decode cX3_delete 5 = .ok (.astore 4, 2) := by decide +kernel
theorem dX3_delete_7 : decode cX3_delete 7 = .ok (.aload_n 0, 1) := by decide +kernel
theorem dX3_delete_8 : decode cX3_delete 8 = .ok (.iload_n 2, 1) := by decide +kernel
theorem dX3_delete_9 : decode cX3_delete 9 = .ok (.invokevirtual 34, 3) := by decide +kernel
theorem dX3_delete_12 : decode cX3_delete 12 = .ok (.aload_n 0, 1) := by decide +kernel
theorem dX3_delete_13 : decode cX3_delete 13 = .ok (.iload_n 3, 1) := by decide +kernel
theorem dX3_delete_14 : decode cX3_delete 14 = .ok (.invokevirtual 38, 3) := by decide +kernel
theorem dX3_delete_17 : decode cX3_delete 17 = .ok (.aload_n 0, 1) := by decide +kernel
theorem dX3_delete_18 : decode cX3_delete 18 = .ok (.aload 4, 2) := by decide +kernel
theorem dX3_delete_20 : decode cX3_delete 20 = .ok (.iload_n 2, 1) := by decide +kernel
theorem dX3_delete_21 : decode cX3_delete 21 = .ok (.iload_n 3, 1) := by decide +kernel
theorem dX3_delete_22 : decode cX3_delete 22 = .ok (.invokevirtual 52, 3) := by decide +kernel
theorem dX3_delete_25 : decode cX3_delete 25 = .ok (.aload_n 0, 1) := by decide +kernel
theorem dX3_delete_26 : decode cX3_delete 26 = .ok (.getfield 10, 3) := by decide +kernel
theorem dX3_delete_29 : decode cX3_delete 29 = .ok (.getfield 63, 3) := by decide +kernel
theorem dX3_delete_32 : decode cX3_delete 32 = .ok (.iload_n 3, 1) := by decide +kernel
theorem dX3_delete_33 : decode cX3_delete 33 = .ok (.baload, 1) := by decide +kernel
theorem dX3_delete_34 : decode cX3_delete 34 = .ok (.ifCond .eq 13, 3) := by decide +kernel
theorem dX3_delete_37 : decode cX3_delete 37 = .ok (.new 67, 3) := by decide +kernel
theorem dX3_delete_40 : decode cX3_delete 40 = .ok (.dup, 1) := by decide +kernel
theorem dX3_delete_41 : decode cX3_delete 41 = .ok (.ldc 69, 2) := by decide +kernel
theorem dX3_delete_43 : decode cX3_delete 43 = .ok (.invokespecial 71, 3) := by decide +kernel
theorem dX3_delete_46 : decode cX3_delete 46 = .ok (.athrow, 1) := by decide +kernel
theorem dX3_delete_47 : decode cX3_delete 47 = .ok (.aload_n 0, 1) := by decide +kernel
theorem dX3_delete_48 : decode cX3_delete 48 = .ok (.invokevirtual 56, 3) := by decide +kernel
theorem dX3_delete_51 : decode cX3_delete 51 = .ok (.aload_n 0, 1) := by decide +kernel
theorem dX3_delete_52 : decode cX3_delete 52 = .ok (.aload 4, 2) := by decide +kernel
theorem dX3_delete_54 : decode cX3_delete 54 = .ok (.iload_n 2, 1) := by decide +kernel
theorem dX3_delete_55 : decode cX3_delete 55 = .ok (.iload_n 3, 1) := by decide +kernel
theorem dX3_delete_56 : decode cX3_delete 56 = .ok (.iconst 0, 1) := by decide +kernel
theorem dX3_delete_57 : decode cX3_delete 57 = .ok (.iconst 1, 1) := by decide +kernel
theorem dX3_delete_58 : decode cX3_delete 58 = .ok (.invokevirtual 59, 3) := by decide +kernel
theorem dX3_delete_61 : decode cX3_delete 61 = .ok (.ireturn, 1) := by decide +kernel
set_option maxRecDepth 20000 in
theorem ggX3_setDepth_X3_storeAt : GoodIn wsX3_setDepth wsX3_storeAt := goodIn_ca (goodIn_r _ [8, 9, 10, 11, 28, 29, 30] (by decide +kernel) (by decide +kernel)) (goodIn_sub (fun _ h => List.mem_cons_of_mem _ (List.mem_append_right _ h)) (by decide +kernel))
set_option maxRecDepth 20000 in
theorem gX3_setDepth_X3_storeAt : GoodIn wsX3_setDepth (wsV RX3 30 RX3 yX3_storeAt wsX3_storeAt) := goodIn_app (goodIn_of _ (by decide +kernel)) ggX3_setDepth_X3_storeAt
set_option maxRecDepth 20000 in
theorem ggX3_setDepth_X0_stem : GoodIn wsX3_setDepth wsX0_stem := goodIn_r _ [16, 17, 18, 19, 20, 21, 15, 22, 31, 32, 33, 34, 35, 36, 37, 38, 39, 40] (by decide +kernel) (by decide +kernel)
set_option maxRecDepth 20000 in
theorem gX3_setDepth_X0_stem : GoodIn wsX3_setDepth (wsV RX3 81 RX0 yX0_stem wsX0_stem) := goodIn_app (goodIn_of _ (by decide +kernel)) ggX3_setDepth_X0_stem
theorem dX3_setDepth_0 : decode cX3_setDepth 0 = .ok (.aload_n 0, 1) := by decide +kernel
theorem dX3_setDepth_1 : decode cX3_setDepth 1 = .ok (.iload_n 1, 1) := by decide +kernel
theorem dX3_setDepth_2 : decode cX3_setDepth 2 = .ok (.invokevirtual 30, 3) := by decide +kernel
theorem dX3_setDepth_5 : decode cX3_setDepth 5 = .ok (.astore_n 3, 1) := by decide +kernel
theorem dX3_setDepth_6 : decode cX3_setDepth 6 = .ok (.iload_n 2, 1) := by decide +kernel
theorem dX3_setDepth_7 : decode cX3_setDepth 7 = .ok (.iconst 1, 1) := by decide +kernel
theorem dX3_setDepth_8 : decode cX3_setDepth 8 = .ok (.if_icmp .lt 9, 3) := by decide +kernel
theorem dX3_setDepth_11 : decode cX3_setDepth 11 = .ok (.iload_n 2, 1) := by decide +kernel
theorem dX3_setDepth_12 : decode cX3_setDepth 12 = .ok (.bipush 20, 2) := by decide +kernel
theorem dX3_setDepth_14 : decode cX3_setDepth 14 = .ok (.if_icmp .le 13, 3) := by decide +kernel
theorem dX3_setDepth_17 : decode cX3_setDepth 17 = .ok (.new 41, 3) := by decide +kernel
theorem dX3_setDepth_20 : decode cX3_setDepth 20 = .ok (.dup, 1) := by decide +kernel
theorem dX3_setDepth_21 : decode cX3_setDepth 21 = .ok (.ldc 72, 2) := by decide +kernel
theorem dX3_setDepth_23 : decode cX3_setDepth 23 = .ok (.invokespecial 45, 3) := by decide +kernel
theorem dX3_setDepth_26 : decode cX3_setDepth 26 = .ok (.athrow, 1) := by decide +kernel
theorem dX3_setDepth_27 : decode cX3_setDepth 27 = .ok (.aload_n 3, 1) := by decide +kernel
theorem dX3_setDepth_28 : decode cX3_setDepth 28 = .ok (.iload_n 2, 1) := by decide +kernel
theorem dX3_setDepth_29 : decode cX3_setDepth 29 = .ok (.putfield 74, 3) := by decide +kernel
theorem dX3_setDepth_32 : decode cX3_setDepth 32 = .ok (.aload_n 3, 1) := by decide +kernel
theorem dX3_setDepth_33 : decode cX3_setDepth 33 = .ok (.getfield 78, 3) := by decide +kernel
theorem dX3_setDepth_36 : decode cX3_setDepth 36 = .ok (.aload_n 0, 1) := by decide +kernel
theorem dX3_setDepth_37 : decode cX3_setDepth 37 = .ok (.getfield 10, 3) := by decide +kernel
theorem dX3_setDepth_40 : decode cX3_setDepth 40 = .ok (.iload_n 2, 1) := by decide +kernel
theorem dX3_setDepth_41 : decode cX3_setDepth 41 = .ok (.invokevirtual 81, 3) := by decide +kernel
theorem dX3_setDepth_44 : decode cX3_setDepth 44 = .ok (.ireturn, 1) := by decide +kernel
set_option maxRecDepth 20000 in
theorem ggX3_wipe_X3_storeAt : GoodIn wsX3_wipe wsX3_storeAt := goodIn_ca (goodIn_r _ [6, 7, 8, 9, 73, 74, 75] (by decide +kernel) (by decide +kernel)) (goodIn_sub (fun _ h => List.mem_cons_of_mem _ (List.mem_append_right _ h)) (by decide +kernel))
set_option maxRecDepth 20000 in
theorem gX3_wipe_X3_storeAt : GoodIn wsX3_wipe (wsV RX3 30 RX3 yX3_storeAt wsX3_storeAt) := goodIn_app (goodIn_of _ (by decide +kernel)) ggX3_wipe_X3_storeAt
set_option maxRecDepth 20000 in
theorem ggX3_wipe_X0_countAll : GoodIn wsX3_wipe wsX0_countAll := goodIn_r _ [14, 15, 76, 77, 78, 79, 80, 81, 82, 83, 84, 85] (by decide +kernel) (by decide +kernel)
set_option maxRecDepth 20000 in
theorem gX3_wipe_X0_countAll : GoodIn wsX3_wipe (wsV RX3 85 RX0 yX0_countAll wsX0_countAll) := goodIn_app (goodIn_of _ (by decide +kernel)) ggX3_wipe_X0_countAll
set_option maxRecDepth 20000 in
theorem ggX3_wipe_X1_clear : GoodIn wsX3_wipe wsX1_clear := goodIn_r _ [20, 21, 22, 23, 24, 25, 26, 27, 13, 28, 15, 29, 30, 31, 32, 33, 34, 35, 36, 37, 38, 39, 40, 41, 42, 43, 44, 45, 46, 47, 48, 49, 50, 51, 52, 53, 54, 55, 56, 57, 58, 59, 60, 61, 62, 63, 64, 65, 66, 67, 68, 69, 70, 71, 72, 83, 84, 85, 76, 77, 78, 79, 80, 81, 82] (by decide +kernel) (by decide +kernel)
set_option maxRecDepth 20000 in
theorem gX3_wipe_X1_clear : GoodIn wsX3_wipe (wsV RX3 89 RX1 yX1_clear wsX1_clear) := goodIn_app (goodIn_of _ (by decide +kernel)) ggX3_wipe_X1_clear
theorem dX3_wipe_0 : decode cX3_wipe 0 = .ok (.aload_n 0, 1) := by decide +kernel
theorem dX3_wipe_1 : decode cX3_wipe 1 = .ok (.iload_n 1, 1) := by decide +kernel
theorem dX3_wipe_2 : decode cX3_wipe 2 = .ok (.invokevirtual 30, 3) := by decide +kernel
theorem dX3_wipe_5 : decode cX3_wipe 5 = .ok (.astore_n 2, 1) := by decide +kernel
theorem dX3_wipe_6 : decode cX3_wipe 6 = .ok (.aload_n 2, 1) := by decide +kernel
theorem dX3_wipe_7 : decode cX3_wipe 7 = .ok (.getfield 78, 3) := by decide +kernel
theorem dX3_wipe_10 : decode cX3_wipe 10 = .ok (.aload_n 0, 1) := by decide +kernel
theorem dX3_wipe_11 : decode cX3_wipe 11 = .ok (.getfield 10, 3) := by decide +kernel
theorem dX3_wipe_14 : decode cX3_wipe 14 = .ok (.invokevirtual 85, 3) := by decide +kernel
theorem dX3_wipe_17 : decode cX3_wipe 17 = .ok (.istore_n 3, 1) := by decide +kernel
theorem dX3_wipe_18 : decode cX3_wipe 18 = .ok (.aload_n 2, 1) := by decide +kernel
theorem dX3_wipe_19 : decode cX3_wipe 19 = .ok (.aload_n 0, 1) := by decide +kernel
theorem dX3_wipe_20 : decode cX3_wipe 20 = .ok (.getfield 10, 3) := by decide +kernel
theorem dX3_wipe_23 : decode cX3_wipe 23 = .ok (.invokevirtual 89, 3) := by decide +kernel
theorem dX3_wipe_26 : decode cX3_wipe 26 = .ok (.iload_n 3, 1) := by decide +kernel
theorem dX3_wipe_27 : decode cX3_wipe 27 = .ok (.ireturn, 1) := by decide +kernel
set_option maxRecDepth 20000 in
theorem ggX3_replicate_X3_storeAt : GoodIn wsX3_replicate wsX3_storeAt := goodIn_ca (goodIn_r _ [8, 9, 10, 11, 93, 94, 95] (by decide +kernel) (by decide +kernel)) (goodIn_sub (fun _ h => List.mem_cons_of_mem _ (List.mem_append_right _ h)) (by decide +kernel))
set_option maxRecDepth 20000 in
theorem gX3_replicate_X3_storeAt : GoodIn wsX3_replicate (wsV RX3 30 RX3 yX3_storeAt wsX3_storeAt) := goodIn_app (goodIn_of _ (by decide +kernel)) ggX3_replicate_X3_storeAt
set_option maxRecDepth 20000 in
theorem ggX3_replicate_X3_checkDifferent : GoodIn wsX3_replicate wsX3_checkDifferent := goodIn_ca (goodIn_r _ [15, 1, 2] (by decide +kernel) (by decide +kernel)) (goodIn_sub (fun _ h => List.mem_cons_of_mem _ (List.mem_append_left _ (List.mem_append_right _ h))) (by decide +kernel))
set_option maxRecDepth 20000 in
theorem gX3_replicate_X3_checkDifferent : GoodIn wsX3_replicate (wsV RX3 95 RX3 yX3_checkDifferent wsX3_checkDifferent) := goodIn_app (goodIn_of _ (by decide +kernel)) ggX3_replicate_X3_checkDifferent
set_option maxRecDepth 20000 in
theorem ggX3_replicate_X3_commonCheckpoint : GoodIn wsX3_replicate wsX3_commonCheckpoint := goodIn_r _ [19, 11, 20, 21, 22, 23, 24, 25, 7, 26, 93, 94, 95, 96, 97, 98, 99, 100] (by decide +kernel) (by decide +kernel)
set_option maxRecDepth 20000 in
theorem gX3_replicate_X3_commonCheckpoint : GoodIn wsX3_replicate (wsV RX3 99 RX3 yX3_commonCheckpoint wsX3_commonCheckpoint) := goodIn_app (goodIn_of _ (by decide +kernel)) ggX3_replicate_X3_commonCheckpoint
set_option maxRecDepth 20000 in
theorem ggX3_replicate_X1_nextChanged : GoodIn wsX3_replicate wsX1_nextChanged := goodIn_r _ [31, 32, 96, 97, 98, 99, 100] (by decide +kernel) (by decide +kernel)
set_option maxRecDepth 20000 in
theorem gX3_replicate_X1_nextChanged : GoodIn wsX3_replicate (wsV RX3 103 RX1 yX1_nextChanged wsX1_nextChanged) := goodIn_app (goodIn_of _ (by decide +kernel)) ggX3_replicate_X1_nextChanged
set_option maxRecDepth 20000 in
theorem ggX3_replicate_X1_receive : GoodIn wsX3_replicate wsX1_receive := goodIn_r _ [36, 37, 38, 39, 40, 41, 42, 43, 44, 45, 46, 47, 48, 49, 50, 51, 52, 53, 54, 55, 56, 57, 58, 59, 30, 60, 61, 32, 62, 63, 64, 65, 66, 67, 68, 69, 70, 71, 21, 22, 23, 72, 73, 74, 75, 76, 77, 78, 79, 80, 81, 82, 83, 84, 85, 86, 87, 88, 89, 90, 91, 92, 96, 97, 98, 99, 100, 101, 102, 103, 104, 105, 106, 107, 108, 109, 110] (by decide +kernel) (by decide +kernel)
set_option maxRecDepth 20000 in
theorem gX3_replicate_X1_receive : GoodIn wsX3_replicate (wsV RX3 107 RX1 yX1_receive wsX1_receive) := goodIn_app (goodIn_of _ (by decide +kernel)) ggX3_replicate_X1_receive
set_option maxRecDepth 20000 in
theorem ggX3_replicate_X3_pairOf : GoodIn wsX3_replicate wsX3_pairOf := goodIn_r _ [26] (by decide +kernel) (by decide +kernel)
set_option maxRecDepth 20000 in
theorem gX3_replicate_X3_pairOf : GoodIn wsX3_replicate (va_wsS RX3 121 yX3_pairOf wsX3_pairOf) := goodIn_app (goodIn_of _ (by decide +kernel)) ggX3_replicate_X3_pairOf
theorem dX3_replicate_0 : decode cX3_replicate 0 = .ok (.aload_n 0, 1) := by decide +kernel
theorem dX3_replicate_1 : decode cX3_replicate 1 = .ok (.iload_n 1, 1) := by decide +kernel
theorem dX3_replicate_2 : decode cX3_replicate 2 = .ok (.invokevirtual 30, 3) := by decide +kernel
theorem dX3_replicate_5 : decode cX3_replicate 5 = .ok (.astore 4, 2) := by decide +kernel
theorem dX3_replicate_7 : decode cX3_replicate 7 = .ok (.aload_n 0, 1) := by decide +kernel
theorem dX3_replicate_8 : decode cX3_replicate 8 = .ok (.iload_n 2, 1) := by decide +kernel
theorem dX3_replicate_9 : decode cX3_replicate 9 = .ok (.invokevirtual 30, 3) := by decide +kernel
theorem dX3_replicate_12 : decode cX3_replicate 12 = .ok (.astore 5, 2) := by decide +kernel
theorem dX3_replicate_14 : decode cX3_replicate 14 = .ok (.iload_n 3, 1) := by decide +kernel
theorem dX3_replicate_15 : decode cX3_replicate 15 = .ok (.iconst 1, 1) := by decide +kernel
theorem dX3_replicate_16 : decode cX3_replicate 16 = .ok (.if_icmp .lt 8, 3) := by decide +kernel
theorem dX3_replicate_19 : decode cX3_replicate 19 = .ok (.iload_n 3, 1) := by decide +kernel
theorem dX3_replicate_20 : decode cX3_replicate 20 = .ok (.iconst 4, 1) := by decide +kernel
theorem dX3_replicate_21 : decode cX3_replicate 21 = .ok (.if_icmp .le 13, 3) := by decide +kernel
theorem dX3_replicate_24 : decode cX3_replicate 24 = .ok (.new 41, 3) := by decide +kernel
theorem dX3_replicate_27 : decode cX3_replicate 27 = .ok (.dup, 1) := by decide +kernel
theorem dX3_replicate_28 : decode cX3_replicate 28 = .ok (.ldc 93, 2) := by decide +kernel
theorem dX3_replicate_30 : decode cX3_replicate 30 = .ok (.invokespecial 45, 3) := by decide +kernel
theorem dX3_replicate_33 : decode cX3_replicate 33 = .ok (.athrow, 1) := by decide +kernel
theorem dX3_replicate_34 : decode cX3_replicate 34 = .ok (.aload_n 0, 1) := by decide +kernel
theorem dX3_replicate_35 : decode cX3_replicate 35 = .ok (.iload_n 1, 1) := by decide +kernel
theorem dX3_replicate_36 : decode cX3_replicate 36 = .ok (.iload_n 2, 1) := by decide +kernel
theorem dX3_replicate_37 : decode cX3_replicate 37 = .ok (.invokevirtual 95, 3) := by decide +kernel
theorem dX3_replicate_40 : decode cX3_replicate 40 = .ok (.aload_n 0, 1) := by decide +kernel
theorem dX3_replicate_41 : decode cX3_replicate 41 = .ok (.iload_n 1, 1) := by decide +kernel
theorem dX3_replicate_42 : decode cX3_replicate 42 = .ok (.iload_n 2, 1) := by decide +kernel
theorem dX3_replicate_43 : decode cX3_replicate 43 = .ok (.invokevirtual 99, 3) := by decide +kernel
theorem dX3_replicate_46 : decode cX3_replicate 46 = .ok (.istore 6, 2) := by decide +kernel
theorem dX3_replicate_48 : decode cX3_replicate 48 = .ok (.iconst 0, 1) := by decide +kernel
theorem dX3_replicate_49 : decode cX3_replicate 49 = .ok (.istore 7, 2) := by decide +kernel
theorem dX3_replicate_51 : decode cX3_replicate 51 = .ok (.iconst 0, 1) := by decide +kernel
theorem dX3_replicate_52 : decode cX3_replicate 52 = .ok (.istore 8, 2) := by decide +kernel
theorem dX3_replicate_54 : decode cX3_replicate 54 = .ok (.iload 8, 2) := by decide +kernel
theorem dX3_replicate_56 : decode cX3_replicate 56 = .ok (.iload_n 3, 1) := by decide +kernel
theorem dX3_replicate_57 : decode cX3_replicate 57 = .ok (.if_icmp .ge 55, 3) := by decide +kernel
theorem dX3_replicate_60 : decode cX3_replicate 60 = .ok (.aload 4, 2) := by decide +kernel
theorem dX3_replicate_62 : decode cX3_replicate 62 = .ok (.iload 6, 2) := by decide +kernel
theorem dX3_replicate_64 : decode cX3_replicate 64 = .ok (.invokevirtual 103, 3) := by decide +kernel
theorem dX3_replicate_67 : decode cX3_replicate 67 = .ok (.istore 9, 2) := by decide +kernel
theorem dX3_replicate_69 : decode cX3_replicate 69 = .ok (.iload 9, 2) := by decide +kernel
theorem dX3_replicate_71 : decode cX3_replicate 71 = .ok (.iconst (-1), 1) := by decide +kernel
theorem dX3_replicate_72 : decode cX3_replicate 72 = .ok (.if_icmp .eq 34, 3) := by decide +kernel
theorem dX3_replicate_75 : decode cX3_replicate 75 = .ok (.iload 7, 2) := by decide +kernel
theorem dX3_replicate_77 : decode cX3_replicate 77 = .ok (.aload 5, 2) := by decide +kernel
theorem dX3_replicate_79 : decode cX3_replicate 79 = .ok (.aload_n 0, 1) := by decide +kernel
theorem dX3_replicate_80 : decode cX3_replicate 80 = .ok (.getfield 10, 3) := by decide +kernel
theorem dX3_replicate_83 : decode cX3_replicate 83 = .ok (.aload 4, 2) := by decide +kernel
theorem dX3_replicate_85 : decode cX3_replicate 85 = .ok (.getfield 78, 3) := by decide +kernel
theorem dX3_replicate_88 : decode cX3_replicate 88 = .ok (.iload 9, 2) := by decide +kernel
theorem dX3_replicate_90 : decode cX3_replicate 90 = .ok (.invokevirtual 107, 3) := by decide +kernel
theorem dX3_replicate_93 : decode cX3_replicate 93 = .ok (.iadd, 1) := by decide +kernel
theorem dX3_replicate_94 : decode cX3_replicate 94 = .ok (.istore 7, 2) := by decide +kernel
theorem dX3_replicate_96 : decode cX3_replicate 96 = .ok (.aload 4, 2) := by decide +kernel
theorem dX3_replicate_98 : decode cX3_replicate 98 = .ok (.getfield 111, 3) := by decide +kernel
theorem dX3_replicate_101 : decode cX3_replicate 101 = .ok (.iload 9, 2) := by decide +kernel
theorem dX3_replicate_103 : decode cX3_replicate 103 = .ok (.iaload, 1) := by decide +kernel
theorem dX3_replicate_104 : decode cX3_replicate 104 = .ok (.istore 6, 2) := by decide +kernel
theorem dX3_replicate_106 : decode cX3_replicate 106 = .ok (.iinc 8 1, 3) := by decide +kernel
theorem dX3_replicate_109 : decode cX3_replicate 109 = .ok (.goto (-55), 3) := by decide +kernel
theorem dX3_replicate_112 : decode cX3_replicate 112 = .ok (.aload 4, 2) := by decide +kernel
theorem dX3_replicate_114 : decode cX3_replicate 114 = .ok (.iload 6, 2) := by decide +kernel
theorem dX3_replicate_116 : decode cX3_replicate 116 = .ok (.invokevirtual 103, 3) := by decide +kernel
theorem dX3_replicate_119 : decode cX3_replicate 119 = .ok (.iconst (-1), 1) := by decide +kernel
theorem dX3_replicate_120 : decode cX3_replicate 120 = .ok (.if_icmp .ne 10, 3) := by decide +kernel
theorem dX3_replicate_123 : decode cX3_replicate 123 = .ok (.aload 4, 2) := by decide +kernel
theorem dX3_replicate_125 : decode cX3_replicate 125 = .ok (.getfield 115, 3) := by decide +kernel
theorem dX3_replicate_128 : decode cX3_replicate 128 = .ok (.istore 6, 2) := by decide +kernel
theorem dX3_replicate_130 : decode cX3_replicate 130 = .ok (.aload 4, 2) := by decide +kernel
theorem dX3_replicate_132 : decode cX3_replicate 132 = .ok (.getfield 118, 3) := by decide +kernel
theorem dX3_replicate_135 : decode cX3_replicate 135 = .ok (.iload_n 1, 1) := by decide +kernel
theorem dX3_replicate_136 : decode cX3_replicate 136 = .ok (.iload_n 2, 1) := by decide +kernel
theorem dX3_replicate_137 : decode cX3_replicate 137 = .ok (.invokestatic 121, 3) := by decide +kernel
theorem dX3_replicate_140 : decode cX3_replicate 140 = .ok (.iload 6, 2) := by decide +kernel
theorem dX3_replicate_142 : decode cX3_replicate 142 = .ok (.iastore, 1) := by decide +kernel
theorem dX3_replicate_143 : decode cX3_replicate 143 = .ok (.aload 5, 2) := by decide +kernel
theorem dX3_replicate_145 : decode cX3_replicate 145 = .ok (.getfield 118, 3) := by decide +kernel
theorem dX3_replicate_148 : decode cX3_replicate 148 = .ok (.iload_n 1, 1) := by decide +kernel
theorem dX3_replicate_149 : decode cX3_replicate 149 = .ok (.iload_n 2, 1) := by decide +kernel
theorem dX3_replicate_150 : decode cX3_replicate 150 = .ok (.invokestatic 121, 3) := by decide +kernel
theorem dX3_replicate_153 : decode cX3_replicate 153 = .ok (.iload 6, 2) := by decide +kernel
theorem dX3_replicate_155 : decode cX3_replicate 155 = .ok (.iastore, 1) := by decide +kernel
theorem dX3_replicate_156 : decode cX3_replicate 156 = .ok (.iload 7, 2) := by decide +kernel
theorem dX3_replicate_158 : decode cX3_replicate 158 = .ok (.ireturn, 1) := by decide +kernel
set_option maxRecDepth 20000 in
theorem ggX3_pending_X3_storeAt : GoodIn wsX3_pending wsX3_storeAt := goodIn_ca (goodIn_r _ [5, 6, 7, 8, 32, 33, 34] (by decide +kernel) (by decide +kernel)) (goodIn_sub (fun _ h => List.mem_cons_of_mem _ (List.mem_append_left _ (List.mem_append_right _ h))) (by decide +kernel))
set_option maxRecDepth 20000 in
theorem gX3_pending_X3_storeAt : GoodIn wsX3_pending (wsV RX3 30 RX3 yX3_storeAt wsX3_storeAt) := goodIn_app (goodIn_of _ (by decide +kernel)) ggX3_pending_X3_storeAt
set_option maxRecDepth 20000 in
theorem ggX3_pending_X3_checkDifferent : GoodIn wsX3_pending wsX3_checkDifferent := goodIn_ca (goodIn_r _ [12, 13, 14] (by decide +kernel) (by decide +kernel)) (goodIn_sub (fun _ h => List.mem_cons_of_mem _ (List.mem_append_right _ h)) (by decide +kernel))
set_option maxRecDepth 20000 in
theorem gX3_pending_X3_checkDifferent : GoodIn wsX3_pending (wsV RX3 95 RX3 yX3_checkDifferent wsX3_checkDifferent) := goodIn_app (goodIn_of _ (by decide +kernel)) ggX3_pending_X3_checkDifferent
set_option maxRecDepth 20000 in
theorem ggX3_pending_X3_commonCheckpoint : GoodIn wsX3_pending wsX3_commonCheckpoint := goodIn_r _ [18, 8, 19, 20, 21, 22, 23, 24, 4, 25, 32, 33, 34, 35, 36, 37, 38, 39] (by decide +kernel) (by decide +kernel)
set_option maxRecDepth 20000 in
theorem gX3_pending_X3_commonCheckpoint : GoodIn wsX3_pending (wsV RX3 99 RX3 yX3_commonCheckpoint wsX3_commonCheckpoint) := goodIn_app (goodIn_of _ (by decide +kernel)) ggX3_pending_X3_commonCheckpoint
set_option maxRecDepth 20000 in
theorem ggX3_pending_X1_countChanged : GoodIn wsX3_pending wsX1_countChanged := goodIn_r _ [30, 31, 35, 36, 37, 38, 39] (by decide +kernel) (by decide +kernel)
set_option maxRecDepth 20000 in
theorem gX3_pending_X1_countChanged : GoodIn wsX3_pending (wsV RX3 124 RX1 yX1_countChanged wsX1_countChanged) := goodIn_app (goodIn_of _ (by decide +kernel)) ggX3_pending_X1_countChanged
theorem dX3_pending_0 : decode cX3_pending 0 = .ok (.aload_n 0, 1) := by decide +kernel
theorem dX3_pending_1 : decode cX3_pending 1 = .ok (.iload_n 1, 1) := by decide +kernel
theorem dX3_pending_2 : decode cX3_pending 2 = .ok (.invokevirtual 30, 3) := by decide +kernel
theorem dX3_pending_5 : decode cX3_pending 5 = .ok (.astore_n 3, 1) := by decide +kernel
theorem dX3_pending_6 : decode cX3_pending 6 = .ok (.aload_n 0, 1) := by decide +kernel
theorem dX3_pending_7 : decode cX3_pending 7 = .ok (.iload_n 2, 1) := by decide +kernel
theorem dX3_pending_8 : decode cX3_pending 8 = .ok (.invokevirtual 30, 3) := by decide +kernel
theorem dX3_pending_11 : decode cX3_pending 11 = .ok (.pop, 1) := by decide +kernel
theorem dX3_pending_12 : decode cX3_pending 12 = .ok (.aload_n 0, 1) := by decide +kernel
theorem dX3_pending_13 : decode cX3_pending 13 = .ok (.iload_n 1, 1) := by decide +kernel
theorem dX3_pending_14 : decode cX3_pending 14 = .ok (.iload_n 2, 1) := by decide +kernel
theorem dX3_pending_15 : decode cX3_pending 15 = .ok (.invokevirtual 95, 3) := by decide +kernel
theorem dX3_pending_18 : decode cX3_pending 18 = .ok (.aload_n 3, 1) := by decide +kernel
theorem dX3_pending_19 : decode cX3_pending 19 = .ok (.aload_n 0, 1) := by decide +kernel
theorem dX3_pending_20 : decode cX3_pending 20 = .ok (.iload_n 1, 1) := by decide +kernel
theorem dX3_pending_21 : decode cX3_pending 21 = .ok (.iload_n 2, 1) := by decide +kernel
theorem dX3_pending_22 : decode cX3_pending 22 = .ok (.invokevirtual 99, 3) := by decide +kernel
theorem dX3_pending_25 : decode cX3_pending 25 = .ok (.invokevirtual 124, 3) := by decide +kernel
theorem dX3_pending_28 : decode cX3_pending 28 = .ok (.ireturn, 1) := by decide +kernel
set_option maxRecDepth 20000 in
theorem ggX3_checkpoint_X3_storeAt : GoodIn wsX3_checkpoint wsX3_storeAt := goodIn_ca (goodIn_r _ [5, 6, 7, 8, 26, 27, 28] (by decide +kernel) (by decide +kernel)) (goodIn_sub (fun _ h => List.mem_cons_of_mem _ (List.mem_append_left _ (List.mem_append_right _ h))) (by decide +kernel))
set_option maxRecDepth 20000 in
theorem gX3_checkpoint_X3_storeAt : GoodIn wsX3_checkpoint (wsV RX3 30 RX3 yX3_storeAt wsX3_storeAt) := goodIn_app (goodIn_of _ (by decide +kernel)) ggX3_checkpoint_X3_storeAt
set_option maxRecDepth 20000 in
theorem ggX3_checkpoint_X3_checkDifferent : GoodIn wsX3_checkpoint wsX3_checkDifferent := goodIn_ca (goodIn_r _ [12, 13, 14] (by decide +kernel) (by decide +kernel)) (goodIn_sub (fun _ h => List.mem_cons_of_mem _ (List.mem_append_right _ h)) (by decide +kernel))
set_option maxRecDepth 20000 in
theorem gX3_checkpoint_X3_checkDifferent : GoodIn wsX3_checkpoint (wsV RX3 95 RX3 yX3_checkDifferent wsX3_checkDifferent) := goodIn_app (goodIn_of _ (by decide +kernel)) ggX3_checkpoint_X3_checkDifferent
set_option maxRecDepth 20000 in
theorem ggX3_checkpoint_X3_commonCheckpoint : GoodIn wsX3_checkpoint wsX3_commonCheckpoint := goodIn_r _ [18, 8, 19, 20, 21, 22, 23, 24, 4, 25, 26, 27, 28, 29, 30, 31, 32, 33] (by decide +kernel) (by decide +kernel)
set_option maxRecDepth 20000 in
theorem gX3_checkpoint_X3_commonCheckpoint : GoodIn wsX3_checkpoint (wsV RX3 99 RX3 yX3_commonCheckpoint wsX3_commonCheckpoint) := goodIn_app (goodIn_of _ (by decide +kernel)) ggX3_checkpoint_X3_commonCheckpoint
theorem dX3_checkpoint_0 : decode cX3_checkpoint 0 = .ok (.aload_n 0, 1) := by decide +kernel
theorem dX3_checkpoint_1 : decode cX3_checkpoint 1 = .ok (.iload_n 1, 1) := by decide +kernel
theorem dX3_checkpoint_2 : decode cX3_checkpoint 2 = .ok (.invokevirtual 30, 3) := by decide +kernel
theorem dX3_checkpoint_5 : decode cX3_checkpoint 5 = .ok (.pop, 1) := by decide +kernel
theorem dX3_checkpoint_6 : decode cX3_checkpoint 6 = .ok (.aload_n 0, 1) := by decide +kernel
theorem dX3_checkpoint_7 : decode cX3_checkpoint 7 = .ok (.iload_n 2, 1) := by decide +kernel
theorem dX3_checkpoint_8 : decode cX3_checkpoint 8 = .ok (.invokevirtual 30, 3) := by decide +kernel
theorem dX3_checkpoint_11 : decode cX3_checkpoint 11 = .ok (.pop, 1) := by decide +kernel
theorem dX3_checkpoint_12 : decode cX3_checkpoint 12 = .ok (.aload_n 0, 1) := by decide +kernel
theorem dX3_checkpoint_13 : decode cX3_checkpoint 13 = .ok (.iload_n 1, 1) := by decide +kernel
theorem dX3_checkpoint_14 : decode cX3_checkpoint 14 = .ok (.iload_n 2, 1) := by decide +kernel
theorem dX3_checkpoint_15 : decode cX3_checkpoint 15 = .ok (.invokevirtual 95, 3) := by decide +kernel
theorem dX3_checkpoint_18 : decode cX3_checkpoint 18 = .ok (.aload_n 0, 1) := by decide +kernel
theorem dX3_checkpoint_19 : decode cX3_checkpoint 19 = .ok (.iload_n 1, 1) := by decide +kernel
theorem dX3_checkpoint_20 : decode cX3_checkpoint 20 = .ok (.iload_n 2, 1) := by decide +kernel
theorem dX3_checkpoint_21 : decode cX3_checkpoint 21 = .ok (.invokevirtual 99, 3) := by decide +kernel
theorem dX3_checkpoint_24 : decode cX3_checkpoint 24 = .ok (.ireturn, 1) := by decide +kernel
theorem dX3_revisions_0 : decode cX3_revisions 0 = .ok (.aload_n 0, 1) := by decide +kernel
theorem dX3_revisions_1 : decode cX3_revisions 1 = .ok (.getfield 10, 3) := by decide +kernel
theorem dX3_revisions_4 : decode cX3_revisions 4 = .ok (.getfield 127, 3) := by decide +kernel
theorem dX3_revisions_7 : decode cX3_revisions 7 = .ok (.ireturn, 1) := by decide +kernel
set_option maxRecDepth 20000 in
theorem ggX3_documentOf_X3_checkRevision : GoodIn wsX3_documentOf wsX3_checkRevision := goodIn_ca (goodIn_r _ [6, 7, 8, 1, 9, 10, 11, 12, 13, 14, 15, 16, 17, 18] (by decide +kernel) (by decide +kernel)) (goodIn_sub (fun _ h => List.mem_cons_of_mem _ (List.mem_append_right _ h)) (by decide +kernel))
set_option maxRecDepth 20000 in
theorem gX3_documentOf_X3_checkRevision : GoodIn wsX3_documentOf (wsV RX3 38 RX3 yX3_checkRevision wsX3_checkRevision) := goodIn_app (goodIn_of _ (by decide +kernel)) ggX3_documentOf_X3_checkRevision
theorem dX3_documentOf_0 : decode cX3_documentOf 0 = .ok (.aload_n 0, 1) := by decide +kernel
theorem dX3_documentOf_1 : decode cX3_documentOf 1 = .ok (.iload_n 1, 1) := by decide +kernel
theorem dX3_documentOf_2 : decode cX3_documentOf 2 = .ok (.invokevirtual 38, 3) := by decide +kernel
theorem dX3_documentOf_5 : decode cX3_documentOf 5 = .ok (.aload_n 0, 1) := by decide +kernel
theorem dX3_documentOf_6 : decode cX3_documentOf 6 = .ok (.getfield 10, 3) := by decide +kernel
theorem dX3_documentOf_9 : decode cX3_documentOf 9 = .ok (.getfield 130, 3) := by decide +kernel
theorem dX3_documentOf_12 : decode cX3_documentOf 12 = .ok (.iload_n 1, 1) := by decide +kernel
theorem dX3_documentOf_13 : decode cX3_documentOf 13 = .ok (.iaload, 1) := by decide +kernel
theorem dX3_documentOf_14 : decode cX3_documentOf 14 = .ok (.ireturn, 1) := by decide +kernel
set_option maxRecDepth 20000 in
theorem ggX3_parentOf_X3_checkRevision : GoodIn wsX3_parentOf wsX3_checkRevision := goodIn_ca (goodIn_r _ [6, 7, 8, 1, 9, 10, 11, 12, 13, 14, 15, 16, 17, 18] (by decide +kernel) (by decide +kernel)) (goodIn_sub (fun _ h => List.mem_cons_of_mem _ (List.mem_append_right _ h)) (by decide +kernel))
set_option maxRecDepth 20000 in
theorem gX3_parentOf_X3_checkRevision : GoodIn wsX3_parentOf (wsV RX3 38 RX3 yX3_checkRevision wsX3_checkRevision) := goodIn_app (goodIn_of _ (by decide +kernel)) ggX3_parentOf_X3_checkRevision
theorem dX3_parentOf_0 : decode cX3_parentOf 0 = .ok (.aload_n 0, 1) := by decide +kernel
theorem dX3_parentOf_1 : decode cX3_parentOf 1 = .ok (.iload_n 1, 1) := by decide +kernel
theorem dX3_parentOf_2 : decode cX3_parentOf 2 = .ok (.invokevirtual 38, 3) := by decide +kernel
theorem dX3_parentOf_5 : decode cX3_parentOf 5 = .ok (.aload_n 0, 1) := by decide +kernel
theorem dX3_parentOf_6 : decode cX3_parentOf 6 = .ok (.getfield 10, 3) := by decide +kernel
theorem dX3_parentOf_9 : decode cX3_parentOf 9 = .ok (.getfield 133, 3) := by decide +kernel
theorem dX3_parentOf_12 : decode cX3_parentOf 12 = .ok (.iload_n 1, 1) := by decide +kernel
theorem dX3_parentOf_13 : decode cX3_parentOf 13 = .ok (.iaload, 1) := by decide +kernel
theorem dX3_parentOf_14 : decode cX3_parentOf 14 = .ok (.ireturn, 1) := by decide +kernel
set_option maxRecDepth 20000 in
theorem ggX3_generation_X3_checkRevision : GoodIn wsX3_generation wsX3_checkRevision := goodIn_ca (goodIn_r _ [6, 7, 8, 1, 9, 10, 11, 12, 13, 14, 15, 16, 17, 18] (by decide +kernel) (by decide +kernel)) (goodIn_sub (fun _ h => List.mem_cons_of_mem _ (List.mem_append_right _ h)) (by decide +kernel))
set_option maxRecDepth 20000 in
theorem gX3_generation_X3_checkRevision : GoodIn wsX3_generation (wsV RX3 38 RX3 yX3_checkRevision wsX3_checkRevision) := goodIn_app (goodIn_of _ (by decide +kernel)) ggX3_generation_X3_checkRevision
theorem dX3_generation_0 : decode cX3_generation 0 = .ok (.aload_n 0, 1) := by decide +kernel
theorem dX3_generation_1 : decode cX3_generation 1 = .ok (.iload_n 1, 1) := by decide +kernel
theorem dX3_generation_2 : decode cX3_generation 2 = .ok (.invokevirtual 38, 3) := by decide +kernel
theorem dX3_generation_5 : decode cX3_generation 5 = .ok (.aload_n 0, 1) := by decide +kernel
theorem dX3_generation_6 : decode cX3_generation 6 = .ok (.getfield 10, 3) := by decide +kernel
theorem dX3_generation_9 : decode cX3_generation 9 = .ok (.getfield 136, 3) := by decide +kernel
theorem dX3_generation_12 : decode cX3_generation 12 = .ok (.iload_n 1, 1) := by decide +kernel
theorem dX3_generation_13 : decode cX3_generation 13 = .ok (.iaload, 1) := by decide +kernel
theorem dX3_generation_14 : decode cX3_generation 14 = .ok (.ireturn, 1) := by decide +kernel
set_option maxRecDepth 20000 in
theorem ggX3_sum_X3_checkRevision : GoodIn wsX3_sum wsX3_checkRevision := goodIn_ca (goodIn_r _ [6, 7, 8, 1, 9, 10, 11, 12, 13, 14, 15, 16, 17, 18] (by decide +kernel) (by decide +kernel)) (goodIn_sub (fun _ h => List.mem_cons_of_mem _ (List.mem_append_right _ h)) (by decide +kernel))
set_option maxRecDepth 20000 in
theorem gX3_sum_X3_checkRevision : GoodIn wsX3_sum (wsV RX3 38 RX3 yX3_checkRevision wsX3_checkRevision) := goodIn_app (goodIn_of _ (by decide +kernel)) ggX3_sum_X3_checkRevision
theorem dX3_sum_0 : decode cX3_sum 0 = .ok (.aload_n 0, 1) := by decide +kernel
theorem dX3_sum_1 : decode cX3_sum 1 = .ok (.iload_n 1, 1) := by decide +kernel
theorem dX3_sum_2 : decode cX3_sum 2 = .ok (.invokevirtual 38, 3) := by decide +kernel
theorem dX3_sum_5 : decode cX3_sum 5 = .ok (.aload_n 0, 1) := by decide +kernel
theorem dX3_sum_6 : decode cX3_sum 6 = .ok (.getfield 10, 3) := by decide +kernel
theorem dX3_sum_9 : decode cX3_sum 9 = .ok (.getfield 139, 3) := by decide +kernel
theorem dX3_sum_12 : decode cX3_sum 12 = .ok (.iload_n 1, 1) := by decide +kernel
theorem dX3_sum_13 : decode cX3_sum 13 = .ok (.iaload, 1) := by decide +kernel
theorem dX3_sum_14 : decode cX3_sum 14 = .ok (.ireturn, 1) := by decide +kernel
set_option maxRecDepth 20000 in
theorem ggX3_valueOf_X3_checkRevision : GoodIn wsX3_valueOf wsX3_checkRevision := goodIn_ca (goodIn_r _ [6, 7, 8, 1, 9, 10, 11, 12, 13, 14, 15, 16, 17, 18] (by decide +kernel) (by decide +kernel)) (goodIn_sub (fun _ h => List.mem_cons_of_mem _ (List.mem_append_right _ h)) (by decide +kernel))
set_option maxRecDepth 20000 in
theorem gX3_valueOf_X3_checkRevision : GoodIn wsX3_valueOf (wsV RX3 38 RX3 yX3_checkRevision wsX3_checkRevision) := goodIn_app (goodIn_of _ (by decide +kernel)) ggX3_valueOf_X3_checkRevision
theorem dX3_valueOf_0 : decode cX3_valueOf 0 = .ok (.aload_n 0, 1) := by decide +kernel
theorem dX3_valueOf_1 : decode cX3_valueOf 1 = .ok (.iload_n 1, 1) := by decide +kernel
theorem dX3_valueOf_2 : decode cX3_valueOf 2 = .ok (.invokevirtual 38, 3) := by decide +kernel
theorem dX3_valueOf_5 : decode cX3_valueOf 5 = .ok (.aload_n 0, 1) := by decide +kernel
theorem dX3_valueOf_6 : decode cX3_valueOf 6 = .ok (.getfield 10, 3) := by decide +kernel
theorem dX3_valueOf_9 : decode cX3_valueOf 9 = .ok (.getfield 63, 3) := by decide +kernel
theorem dX3_valueOf_12 : decode cX3_valueOf 12 = .ok (.iload_n 1, 1) := by decide +kernel
theorem dX3_valueOf_13 : decode cX3_valueOf 13 = .ok (.baload, 1) := by decide +kernel
theorem dX3_valueOf_14 : decode cX3_valueOf 14 = .ok (.ifCond .eq 7, 3) := by decide +kernel
theorem dX3_valueOf_17 : decode cX3_valueOf 17 = .ok (.iconst (-1), 1) := by decide +kernel
theorem dX3_valueOf_18 : decode cX3_valueOf 18 = .ok (.goto 12, 3) := by decide +kernel
theorem dX3_valueOf_21 : decode cX3_valueOf 21 = .ok (.aload_n 0, 1) := by decide +kernel
theorem dX3_valueOf_22 : decode cX3_valueOf 22 = .ok (.getfield 10, 3) := by decide +kernel
theorem dX3_valueOf_25 : decode cX3_valueOf 25 = .ok (.getfield 142, 3) := by decide +kernel
theorem dX3_valueOf_28 : decode cX3_valueOf 28 = .ok (.iload_n 1, 1) := by decide +kernel
theorem dX3_valueOf_29 : decode cX3_valueOf 29 = .ok (.iaload, 1) := by decide +kernel
theorem dX3_valueOf_30 : decode cX3_valueOf 30 = .ok (.ireturn, 1) := by decide +kernel
set_option maxRecDepth 20000 in
theorem ggX3_sequence_X3_storeAt : GoodIn wsX3_sequence wsX3_storeAt := goodIn_ca (goodIn_r _ [5, 6, 7, 8, 14, 15, 16] (by decide +kernel) (by decide +kernel)) (goodIn_sub (fun _ h => List.mem_cons_of_mem _ (List.mem_append_right _ h)) (by decide +kernel))
set_option maxRecDepth 20000 in
theorem gX3_sequence_X3_storeAt : GoodIn wsX3_sequence (wsV RX3 30 RX3 yX3_storeAt wsX3_storeAt) := goodIn_app (goodIn_of _ (by decide +kernel)) ggX3_sequence_X3_storeAt
theorem dX3_sequence_0 : decode cX3_sequence 0 = .ok (.aload_n 0, 1) := by decide +kernel
theorem dX3_sequence_1 : decode cX3_sequence 1 = .ok (.iload_n 1, 1) := by decide +kernel
theorem dX3_sequence_2 : decode cX3_sequence 2 = .ok (.invokevirtual 30, 3) := by decide +kernel
theorem dX3_sequence_5 : decode cX3_sequence 5 = .ok (.getfield 115, 3) := by decide +kernel
theorem dX3_sequence_8 : decode cX3_sequence 8 = .ok (.ireturn, 1) := by decide +kernel
set_option maxRecDepth 20000 in
theorem ggX3_has_X3_storeAt : GoodIn wsX3_has wsX3_storeAt := goodIn_ca (goodIn_r _ [5, 6, 7, 8, 22, 23, 24] (by decide +kernel) (by decide +kernel)) (goodIn_sub (fun _ h => List.mem_cons_of_mem _ (List.mem_append_right _ h)) (by decide +kernel))
set_option maxRecDepth 20000 in
theorem gX3_has_X3_storeAt : GoodIn wsX3_has (wsV RX3 30 RX3 yX3_storeAt wsX3_storeAt) := goodIn_app (goodIn_of _ (by decide +kernel)) ggX3_has_X3_storeAt
set_option maxRecDepth 20000 in
theorem ggX3_has_X3_checkRevision : GoodIn wsX3_has wsX3_checkRevision := goodIn_ca (goodIn_r _ [12, 6, 7, 13, 22, 23, 24, 25, 26, 27, 28, 29, 30, 31] (by decide +kernel) (by decide +kernel)) (goodIn_sub (fun _ h => List.mem_cons_of_mem _ (List.mem_append_right _ h)) (by decide +kernel))
set_option maxRecDepth 20000 in
theorem gX3_has_X3_checkRevision : GoodIn wsX3_has (wsV RX3 38 RX3 yX3_checkRevision wsX3_checkRevision) := goodIn_app (goodIn_of _ (by decide +kernel)) ggX3_has_X3_checkRevision
theorem dX3_has_0 : decode cX3_has 0 = .ok (.aload_n 0, 1) := by decide +kernel
theorem dX3_has_1 : decode cX3_has 1 = .ok (.iload_n 1, 1) := by decide +kernel
theorem dX3_has_2 : decode cX3_has 2 = .ok (.invokevirtual 30, 3) := by decide +kernel
theorem dX3_has_5 : decode cX3_has 5 = .ok (.astore_n 3, 1) := by decide +kernel
theorem dX3_has_6 : decode cX3_has 6 = .ok (.aload_n 0, 1) := by decide +kernel
theorem dX3_has_7 : decode cX3_has 7 = .ok (.iload_n 2, 1) := by decide +kernel
theorem dX3_has_8 : decode cX3_has 8 = .ok (.invokevirtual 38, 3) := by decide +kernel
theorem dX3_has_11 : decode cX3_has 11 = .ok (.aload_n 3, 1) := by decide +kernel
theorem dX3_has_12 : decode cX3_has 12 = .ok (.getfield 78, 3) := by decide +kernel
theorem dX3_has_15 : decode cX3_has 15 = .ok (.getfield 145, 3) := by decide +kernel
theorem dX3_has_18 : decode cX3_has 18 = .ok (.iload_n 2, 1) := by decide +kernel
theorem dX3_has_19 : decode cX3_has 19 = .ok (.baload, 1) := by decide +kernel
theorem dX3_has_20 : decode cX3_has 20 = .ok (.ireturn, 1) := by decide +kernel
set_option maxRecDepth 20000 in
theorem ggX3_isLeaf_X3_storeAt : GoodIn wsX3_isLeaf wsX3_storeAt := goodIn_ca (goodIn_r _ [5, 6, 7, 8, 30, 31, 32] (by decide +kernel) (by decide +kernel)) (goodIn_sub (fun _ h => List.mem_cons_of_mem _ (List.mem_append_right _ h)) (by decide +kernel))
set_option maxRecDepth 20000 in
theorem gX3_isLeaf_X3_storeAt : GoodIn wsX3_isLeaf (wsV RX3 30 RX3 yX3_storeAt wsX3_storeAt) := goodIn_app (goodIn_of _ (by decide +kernel)) ggX3_isLeaf_X3_storeAt
set_option maxRecDepth 20000 in
theorem ggX3_isLeaf_X3_checkRevision : GoodIn wsX3_isLeaf wsX3_checkRevision := goodIn_ca (goodIn_r _ [12, 6, 7, 13, 30, 31, 32, 33, 34, 35, 36, 37, 38, 39] (by decide +kernel) (by decide +kernel)) (goodIn_sub (fun _ h => List.mem_cons_of_mem _ (List.mem_append_right _ h)) (by decide +kernel))
set_option maxRecDepth 20000 in
theorem gX3_isLeaf_X3_checkRevision : GoodIn wsX3_isLeaf (wsV RX3 38 RX3 yX3_checkRevision wsX3_checkRevision) := goodIn_app (goodIn_of _ (by decide +kernel)) ggX3_isLeaf_X3_checkRevision
set_option maxRecDepth 20000 in
theorem ggX3_isLeaf_X0_endsAt : GoodIn wsX3_isLeaf wsX0_endsAt := goodIn_r _ [18, 19, 20, 21, 22, 17, 23, 24, 40, 41, 42] (by decide +kernel) (by decide +kernel)
set_option maxRecDepth 20000 in
theorem gX3_isLeaf_X0_endsAt : GoodIn wsX3_isLeaf (wsV RX3 148 RX0 yX0_endsAt wsX0_endsAt) := goodIn_app (goodIn_of _ (by decide +kernel)) ggX3_isLeaf_X0_endsAt
theorem dX3_isLeaf_0 : decode cX3_isLeaf 0 = .ok (.aload_n 0, 1) := by decide +kernel
theorem dX3_isLeaf_1 : decode cX3_isLeaf 1 = .ok (.iload_n 1, 1) := by decide +kernel
theorem dX3_isLeaf_2 : decode cX3_isLeaf 2 = .ok (.invokevirtual 30, 3) := by decide +kernel
theorem dX3_isLeaf_5 : decode cX3_isLeaf 5 = .ok (.astore_n 3, 1) := by decide +kernel
theorem dX3_isLeaf_6 : decode cX3_isLeaf 6 = .ok (.aload_n 0, 1) := by decide +kernel
theorem dX3_isLeaf_7 : decode cX3_isLeaf 7 = .ok (.iload_n 2, 1) := by decide +kernel
theorem dX3_isLeaf_8 : decode cX3_isLeaf 8 = .ok (.invokevirtual 38, 3) := by decide +kernel
theorem dX3_isLeaf_11 : decode cX3_isLeaf 11 = .ok (.aload_n 3, 1) := by decide +kernel
theorem dX3_isLeaf_12 : decode cX3_isLeaf 12 = .ok (.getfield 78, 3) := by decide +kernel
theorem dX3_isLeaf_15 : decode cX3_isLeaf 15 = .ok (.iload_n 2, 1) := by decide +kernel
theorem dX3_isLeaf_16 : decode cX3_isLeaf 16 = .ok (.invokevirtual 148, 3) := by decide +kernel
theorem dX3_isLeaf_19 : decode cX3_isLeaf 19 = .ok (.ireturn, 1) := by decide +kernel
set_option maxRecDepth 20000 in
theorem ggX3_size_X3_storeAt : GoodIn wsX3_size wsX3_storeAt := goodIn_ca (goodIn_r _ [6, 7, 8, 9, 21, 22, 23] (by decide +kernel) (by decide +kernel)) (goodIn_sub (fun _ h => List.mem_cons_of_mem _ (List.mem_append_right _ h)) (by decide +kernel))
set_option maxRecDepth 20000 in
theorem gX3_size_X3_storeAt : GoodIn wsX3_size (wsV RX3 30 RX3 yX3_storeAt wsX3_storeAt) := goodIn_app (goodIn_of _ (by decide +kernel)) ggX3_size_X3_storeAt
set_option maxRecDepth 20000 in
theorem ggX3_size_X0_countAll : GoodIn wsX3_size wsX0_countAll := goodIn_r _ [14, 15, 24, 25, 26, 27, 28, 29, 30, 31, 32, 33] (by decide +kernel) (by decide +kernel)
set_option maxRecDepth 20000 in
theorem gX3_size_X0_countAll : GoodIn wsX3_size (wsV RX3 85 RX0 yX0_countAll wsX0_countAll) := goodIn_app (goodIn_of _ (by decide +kernel)) ggX3_size_X0_countAll
theorem dX3_size_0 : decode cX3_size 0 = .ok (.aload_n 0, 1) := by decide +kernel
theorem dX3_size_1 : decode cX3_size 1 = .ok (.iload_n 1, 1) := by decide +kernel
theorem dX3_size_2 : decode cX3_size 2 = .ok (.invokevirtual 30, 3) := by decide +kernel
theorem dX3_size_5 : decode cX3_size 5 = .ok (.getfield 78, 3) := by decide +kernel
theorem dX3_size_8 : decode cX3_size 8 = .ok (.aload_n 0, 1) := by decide +kernel
theorem dX3_size_9 : decode cX3_size 9 = .ok (.getfield 10, 3) := by decide +kernel
theorem dX3_size_12 : decode cX3_size 12 = .ok (.invokevirtual 85, 3) := by decide +kernel
theorem dX3_size_15 : decode cX3_size 15 = .ok (.ireturn, 1) := by decide +kernel
set_option maxRecDepth 20000 in
theorem ggX3_winner_X3_storeAt : GoodIn wsX3_winner wsX3_storeAt := goodIn_ca (goodIn_r _ [5, 6, 7, 8, 21, 22, 23] (by decide +kernel) (by decide +kernel)) (goodIn_sub (fun _ h => List.mem_cons_of_mem _ (List.mem_append_right _ h)) (by decide +kernel))
set_option maxRecDepth 20000 in
theorem gX3_winner_X3_storeAt : GoodIn wsX3_winner (wsV RX3 30 RX3 yX3_storeAt wsX3_storeAt) := goodIn_app (goodIn_of _ (by decide +kernel)) ggX3_winner_X3_storeAt
set_option maxRecDepth 20000 in
theorem ggX3_winner_X3_checkDocument : GoodIn wsX3_winner wsX3_checkDocument := goodIn_ca (goodIn_r _ [12, 6, 7] (by decide +kernel) (by decide +kernel)) (goodIn_sub (fun _ h => List.mem_cons_of_mem _ (List.mem_append_right _ h)) (by decide +kernel))
set_option maxRecDepth 20000 in
theorem gX3_winner_X3_checkDocument : GoodIn wsX3_winner (wsV RX3 34 RX3 yX3_checkDocument wsX3_checkDocument) := goodIn_app (goodIn_of _ (by decide +kernel)) ggX3_winner_X3_checkDocument
theorem dX3_winner_0 : decode cX3_winner 0 = .ok (.aload_n 0, 1) := by decide +kernel
theorem dX3_winner_1 : decode cX3_winner 1 = .ok (.iload_n 1, 1) := by decide +kernel
theorem dX3_winner_2 : decode cX3_winner 2 = .ok (.invokevirtual 30, 3) := by decide +kernel
theorem dX3_winner_5 : decode cX3_winner 5 = .ok (.astore_n 3, 1) := by decide +kernel
theorem dX3_winner_6 : decode cX3_winner 6 = .ok (.aload_n 0, 1) := by decide +kernel
theorem dX3_winner_7 : decode cX3_winner 7 = .ok (.iload_n 2, 1) := by decide +kernel
theorem dX3_winner_8 : decode cX3_winner 8 = .ok (.invokevirtual 34, 3) := by decide +kernel
theorem dX3_winner_11 : decode cX3_winner 11 = .ok (.aload_n 3, 1) := by decide +kernel
theorem dX3_winner_12 : decode cX3_winner 12 = .ok (.getfield 78, 3) := by decide +kernel
theorem dX3_winner_15 : decode cX3_winner 15 = .ok (.getfield 152, 3) := by decide +kernel
theorem dX3_winner_18 : decode cX3_winner 18 = .ok (.iload_n 2, 1) := by decide +kernel
theorem dX3_winner_19 : decode cX3_winner 19 = .ok (.iaload, 1) := by decide +kernel
theorem dX3_winner_20 : decode cX3_winner 20 = .ok (.ireturn, 1) := by decide +kernel
set_option maxRecDepth 20000 in
theorem ggX3_winnerOfAll_X3_checkDocument : GoodIn wsX3_winnerOfAll wsX3_checkDocument := goodIn_ca (goodIn_r _ [8, 9, 10] (by decide +kernel) (by decide +kernel)) (goodIn_sub (fun _ h => List.mem_cons_of_mem _ (List.mem_append_right _ h)) (by decide +kernel))
set_option maxRecDepth 20000 in
theorem gX3_winnerOfAll_X3_checkDocument : GoodIn wsX3_winnerOfAll (wsV RX3 34 RX3 yX3_checkDocument wsX3_checkDocument) := goodIn_app (goodIn_of _ (by decide +kernel)) ggX3_winnerOfAll_X3_checkDocument
set_option maxRecDepth 20000 in
theorem ggX3_winnerOfAll_X0_removeAll : GoodIn wsX3_winnerOfAll wsX0_removeAll := goodIn_r _ [15, 16, 67, 68, 69] (by decide +kernel) (by decide +kernel)
set_option maxRecDepth 20000 in
theorem gX3_winnerOfAll_X0_removeAll : GoodIn wsX3_winnerOfAll (wsV RX3 155 RX0 yX0_removeAll wsX0_removeAll) := goodIn_app (goodIn_of _ (by decide +kernel)) ggX3_winnerOfAll_X0_removeAll
set_option maxRecDepth 20000 in
theorem ggX3_winnerOfAll_X0_addAll : GoodIn wsX3_winnerOfAll wsX0_addAll := goodIn_r _ [20, 16, 70, 71, 72, 73, 74, 75, 76, 67, 68, 69] (by decide +kernel) (by decide +kernel)
set_option maxRecDepth 20000 in
theorem gX3_winnerOfAll_X0_addAll : GoodIn wsX3_winnerOfAll (wsV RX3 158 RX0 yX0_addAll wsX0_addAll) := goodIn_app (goodIn_of _ (by decide +kernel)) ggX3_winnerOfAll_X0_addAll
set_option maxRecDepth 20000 in
theorem ggX3_winnerOfAll_X0_survey : GoodIn wsX3_winnerOfAll wsX0_survey := goodIn_r _ [24, 25, 26, 27, 14, 28, 29, 30, 31, 32, 33, 34, 35, 36, 37, 38, 39, 40, 41, 16, 42, 43, 44, 45, 46, 47, 48, 49, 50, 51, 52, 53, 54, 55, 56, 57, 58, 67, 68, 69, 70, 71, 72, 73, 74, 75, 76] (by decide +kernel) (by decide +kernel)
set_option maxRecDepth 20000 in
theorem gX3_winnerOfAll_X0_survey : GoodIn wsX3_winnerOfAll (wsV RX3 162 RX0 yX0_survey wsX0_survey) := goodIn_app (goodIn_of _ (by decide +kernel)) ggX3_winnerOfAll_X0_survey
theorem dX3_winnerOfAll_0 : decode cX3_winnerOfAll 0 = .ok (.aload_n 0, 1) := by decide +kernel
theorem dX3_winnerOfAll_1 : decode cX3_winnerOfAll 1 = .ok (.iload_n 1, 1) := by decide +kernel
theorem dX3_winnerOfAll_2 : decode cX3_winnerOfAll 2 = .ok (.invokevirtual 34, 3) := by decide +kernel
theorem dX3_winnerOfAll_5 : decode cX3_winnerOfAll 5 = .ok (.aload_n 0, 1) := by decide +kernel
theorem dX3_winnerOfAll_6 : decode cX3_winnerOfAll 6 = .ok (.getfield 25, 3) := by decide +kernel
theorem dX3_winnerOfAll_9 : decode cX3_winnerOfAll 9 = .ok (.invokevirtual 155, 3) := by decide +kernel
theorem dX3_winnerOfAll_12 : decode cX3_winnerOfAll 12 = .ok (.iconst 0, 1) := by decide +kernel
theorem dX3_winnerOfAll_13 : decode cX3_winnerOfAll 13 = .ok (.istore_n 2, 1) := by decide +kernel
theorem dX3_winnerOfAll_14 : decode cX3_winnerOfAll 14 = .ok (.iload_n 2, 1) := by decide +kernel
theorem dX3_winnerOfAll_15 : decode cX3_winnerOfAll 15 = .ok (.iconst 3, 1) := by decide +kernel
theorem dX3_winnerOfAll_16 : decode cX3_winnerOfAll 16 = .ok (.if_icmp .ge 29, 3) := by decide +kernel
theorem dX3_winnerOfAll_19 : decode cX3_winnerOfAll 19 = .ok (.aload_n 0, 1) := by decide +kernel
theorem dX3_winnerOfAll_20 : decode cX3_winnerOfAll 20 = .ok (.getfield 25, 3) := by decide +kernel
theorem dX3_winnerOfAll_23 : decode cX3_winnerOfAll 23 = .ok (.aload_n 0, 1) := by decide +kernel
theorem dX3_winnerOfAll_24 : decode cX3_winnerOfAll 24 = .ok (.getfield 10, 3) := by decide +kernel
theorem dX3_winnerOfAll_27 : decode cX3_winnerOfAll 27 = .ok (.aload_n 0, 1) := by decide +kernel
theorem dX3_winnerOfAll_28 : decode cX3_winnerOfAll 28 = .ok (.getfield 18, 3) := by decide +kernel
theorem dX3_winnerOfAll_31 : decode cX3_winnerOfAll 31 = .ok (.iload_n 2, 1) := by decide +kernel
theorem dX3_winnerOfAll_32 : decode cX3_winnerOfAll 32 = .ok (.aaload, 1) := by decide +kernel
theorem dX3_winnerOfAll_33 : decode cX3_winnerOfAll 33 = .ok (.getfield 78, 3) := by decide +kernel
theorem dX3_winnerOfAll_36 : decode cX3_winnerOfAll 36 = .ok (.invokevirtual 158, 3) := by decide +kernel
theorem dX3_winnerOfAll_39 : decode cX3_winnerOfAll 39 = .ok (.iinc 2 1, 3) := by decide +kernel
theorem dX3_winnerOfAll_42 : decode cX3_winnerOfAll 42 = .ok (.goto (-28), 3) := by decide +kernel
theorem dX3_winnerOfAll_45 : decode cX3_winnerOfAll 45 = .ok (.aload_n 0, 1) := by decide +kernel
theorem dX3_winnerOfAll_46 : decode cX3_winnerOfAll 46 = .ok (.getfield 25, 3) := by decide +kernel
theorem dX3_winnerOfAll_49 : decode cX3_winnerOfAll 49 = .ok (.aload_n 0, 1) := by decide +kernel
theorem dX3_winnerOfAll_50 : decode cX3_winnerOfAll 50 = .ok (.getfield 10, 3) := by decide +kernel
theorem dX3_winnerOfAll_53 : decode cX3_winnerOfAll 53 = .ok (.invokevirtual 162, 3) := by decide +kernel
theorem dX3_winnerOfAll_56 : decode cX3_winnerOfAll 56 = .ok (.aload_n 0, 1) := by decide +kernel
theorem dX3_winnerOfAll_57 : decode cX3_winnerOfAll 57 = .ok (.getfield 25, 3) := by decide +kernel
theorem dX3_winnerOfAll_60 : decode cX3_winnerOfAll 60 = .ok (.getfield 152, 3) := by decide +kernel
theorem dX3_winnerOfAll_63 : decode cX3_winnerOfAll 63 = .ok (.iload_n 1, 1) := by decide +kernel
theorem dX3_winnerOfAll_64 : decode cX3_winnerOfAll 64 = .ok (.iaload, 1) := by decide +kernel
theorem dX3_winnerOfAll_65 : decode cX3_winnerOfAll 65 = .ok (.ireturn, 1) := by decide +kernel
set_option maxRecDepth 20000 in
theorem ggX3_conflicts_X3_storeAt : GoodIn wsX3_conflicts wsX3_storeAt := goodIn_ca (goodIn_r _ [10, 11, 12, 13, 38, 39, 40] (by decide +kernel) (by decide +kernel)) (goodIn_sub (fun _ h => List.mem_cons_of_mem _ (List.mem_append_right _ h)) (by decide +kernel))
set_option maxRecDepth 20000 in
theorem gX3_conflicts_X3_storeAt : GoodIn wsX3_conflicts (wsV RX3 30 RX3 yX3_storeAt wsX3_storeAt) := goodIn_app (goodIn_of _ (by decide +kernel)) ggX3_conflicts_X3_storeAt
set_option maxRecDepth 20000 in
theorem ggX3_conflicts_X3_checkDocument : GoodIn wsX3_conflicts wsX3_checkDocument := goodIn_ca (goodIn_r _ [17, 11, 12] (by decide +kernel) (by decide +kernel)) (goodIn_sub (fun _ h => List.mem_cons_of_mem _ (List.mem_append_right _ h)) (by decide +kernel))
set_option maxRecDepth 20000 in
theorem gX3_conflicts_X3_checkDocument : GoodIn wsX3_conflicts (wsV RX3 34 RX3 yX3_checkDocument wsX3_checkDocument) := goodIn_app (goodIn_of _ (by decide +kernel)) ggX3_conflicts_X3_checkDocument
set_option maxRecDepth 20000 in
theorem ggX3_conflicts_X0_countLiveLeaves : GoodIn wsX3_conflicts wsX0_countLiveLeaves := goodIn_r _ [22, 23, 24, 25, 21, 26, 27, 28, 29, 30, 31, 32, 41, 42, 43, 44, 45, 46, 47, 48, 49, 50] (by decide +kernel) (by decide +kernel)
set_option maxRecDepth 20000 in
theorem gX3_conflicts_X0_countLiveLeaves : GoodIn wsX3_conflicts (wsV RX3 165 RX0 yX0_countLiveLeaves wsX0_countLiveLeaves) := goodIn_app (goodIn_of _ (by decide +kernel)) ggX3_conflicts_X0_countLiveLeaves
theorem dX3_conflicts_0 : decode cX3_conflicts 0 = .ok (.aload_n 0, 1) := by decide +kernel
theorem dX3_conflicts_1 : decode cX3_conflicts 1 = .ok (.iload_n 1, 1) := by decide +kernel
theorem dX3_conflicts_2 : decode cX3_conflicts 2 = .ok (.invokevirtual 30, 3) := by decide +kernel
theorem dX3_conflicts_5 : decode cX3_conflicts 5 = .ok (.astore_n 3, 1) := by decide +kernel
theorem dX3_conflicts_6 : decode cX3_conflicts 6 = .ok (.aload_n 0, 1) := by decide +kernel
theorem dX3_conflicts_7 : decode cX3_conflicts 7 = .ok (.iload_n 2, 1) := by decide +kernel
theorem dX3_conflicts_8 : decode cX3_conflicts 8 = .ok (.invokevirtual 34, 3) := by decide +kernel
theorem dX3_conflicts_11 : decode cX3_conflicts 11 = .ok (.iconst 0, 1) := by decide +kernel
theorem dX3_conflicts_12 : decode cX3_conflicts 12 = .ok (.aload_n 3, 1) := by decide +kernel
theorem dX3_conflicts_13 : decode cX3_conflicts 13 = .ok (.getfield 78, 3) := by decide +kernel
theorem dX3_conflicts_16 : decode cX3_conflicts 16 = .ok (.aload_n 0, 1) := by decide +kernel
theorem dX3_conflicts_17 : decode cX3_conflicts 17 = .ok (.getfield 10, 3) := by decide +kernel
theorem dX3_conflicts_20 : decode cX3_conflicts 20 = .ok (.iload_n 2, 1) := by decide +kernel
theorem dX3_conflicts_21 : decode cX3_conflicts 21 = .ok (.invokevirtual 165, 3) := by decide +kernel
theorem dX3_conflicts_24 : decode cX3_conflicts 24 = .ok (.iconst 1, 1) := by decide +kernel
theorem dX3_conflicts_25 : decode cX3_conflicts 25 = .ok (.isub, 1) := by decide +kernel
theorem dX3_conflicts_26 : decode cX3_conflicts 26 = .ok (.invokestatic 168, 3) := by decide +kernel
theorem dX3_conflicts_29 : decode cX3_conflicts 29 = .ok (.ireturn, 1) := by decide +kernel
set_option maxRecDepth 20000 in
theorem ggX3_count_X3_storeAt : GoodIn wsX3_count wsX3_storeAt := goodIn_ca (goodIn_r _ [6, 7, 8, 9, 21, 22, 23] (by decide +kernel) (by decide +kernel)) (goodIn_sub (fun _ h => List.mem_cons_of_mem _ (List.mem_append_right _ h)) (by decide +kernel))
set_option maxRecDepth 20000 in
theorem gX3_count_X3_storeAt : GoodIn wsX3_count (wsV RX3 30 RX3 yX3_storeAt wsX3_storeAt) := goodIn_app (goodIn_of _ (by decide +kernel)) ggX3_count_X3_storeAt
set_option maxRecDepth 20000 in
theorem ggX3_count_X0_shownValue : GoodIn wsX3_count wsX0_shownValue := goodIn_r _ [14, 15, 24, 25, 26, 27, 28, 29, 30, 31, 32, 33] (by decide +kernel) (by decide +kernel)
set_option maxRecDepth 20000 in
theorem gX3_count_X0_shownValue : GoodIn wsX3_count (wsV RX3 173 RX0 yX0_shownValue wsX0_shownValue) := goodIn_app (goodIn_of _ (by decide +kernel)) ggX3_count_X0_shownValue
theorem dX3_count_0 : decode cX3_count 0 = .ok (.aload_n 0, 1) := by decide +kernel
theorem dX3_count_1 : decode cX3_count 1 = .ok (.iload_n 1, 1) := by decide +kernel
theorem dX3_count_2 : decode cX3_count 2 = .ok (.invokevirtual 30, 3) := by decide +kernel
theorem dX3_count_5 : decode cX3_count 5 = .ok (.getfield 78, 3) := by decide +kernel
theorem dX3_count_8 : decode cX3_count 8 = .ok (.astore 4, 2) := by decide +kernel
theorem dX3_count_10 : decode cX3_count 10 = .ok (.iconst 0, 1) := by decide +kernel
theorem dX3_count_11 : decode cX3_count 11 = .ok (.istore 5, 2) := by decide +kernel
theorem dX3_count_13 : decode cX3_count 13 = .ok (.iconst 0, 1) := by decide +kernel
theorem dX3_count_14 : decode cX3_count 14 = .ok (.istore 6, 2) := by decide +kernel
theorem dX3_count_16 : decode cX3_count 16 = .ok (.iload 6, 2) := by decide +kernel
theorem dX3_count_18 : decode cX3_count 18 = .ok (.iconst 4, 1) := by decide +kernel
theorem dX3_count_19 : decode cX3_count 19 = .ok (.if_icmp .ge 43, 3) := by decide +kernel
theorem dX3_count_22 : decode cX3_count 22 = .ok (.aload 4, 2) := by decide +kernel
theorem dX3_count_24 : decode cX3_count 24 = .ok (.aload_n 0, 1) := by decide +kernel
theorem dX3_count_25 : decode cX3_count 25 = .ok (.getfield 10, 3) := by decide +kernel
theorem dX3_count_28 : decode cX3_count 28 = .ok (.iload 6, 2) := by decide +kernel
theorem dX3_count_30 : decode cX3_count 30 = .ok (.invokevirtual 173, 3) := by decide +kernel
theorem dX3_count_33 : decode cX3_count 33 = .ok (.istore 7, 2) := by decide +kernel
theorem dX3_count_35 : decode cX3_count 35 = .ok (.iload 7, 2) := by decide +kernel
theorem dX3_count_37 : decode cX3_count 37 = .ok (.iconst (-1), 1) := by decide +kernel
theorem dX3_count_38 : decode cX3_count 38 = .ok (.if_icmp .eq 18, 3) := by decide +kernel
theorem dX3_count_41 : decode cX3_count 41 = .ok (.iload_n 2, 1) := by decide +kernel
theorem dX3_count_42 : decode cX3_count 42 = .ok (.iload 7, 2) := by decide +kernel
theorem dX3_count_44 : decode cX3_count 44 = .ok (.if_icmp .gt 12, 3) := by decide +kernel
theorem dX3_count_47 : decode cX3_count 47 = .ok (.iload 7, 2) := by decide +kernel
theorem dX3_count_49 : decode cX3_count 49 = .ok (.iload_n 3, 1) := by decide +kernel
theorem dX3_count_50 : decode cX3_count 50 = .ok (.if_icmp .gt 6, 3) := by decide +kernel
theorem dX3_count_53 : decode cX3_count 53 = .ok (.iinc 5 1, 3) := by decide +kernel
theorem dX3_count_56 : decode cX3_count 56 = .ok (.iinc 6 1, 3) := by decide +kernel
theorem dX3_count_59 : decode cX3_count 59 = .ok (.goto (-43), 3) := by decide +kernel
theorem dX3_count_62 : decode cX3_count 62 = .ok (.iload 5, 2) := by decide +kernel
theorem dX3_count_64 : decode cX3_count 64 = .ok (.ireturn, 1) := by decide +kernel
set_option maxRecDepth 20000 in
theorem ggX3_viewAt_X3_storeAt : GoodIn wsX3_viewAt wsX3_storeAt := goodIn_ca (goodIn_r _ [8, 1, 2, 9, 26, 27, 28] (by decide +kernel) (by decide +kernel)) (goodIn_sub (fun _ h => List.mem_cons_of_mem _ (List.mem_append_right _ h)) (by decide +kernel))
set_option maxRecDepth 20000 in
theorem gX3_viewAt_X3_storeAt : GoodIn wsX3_viewAt (wsV RX3 30 RX3 yX3_storeAt wsX3_storeAt) := goodIn_app (goodIn_of _ (by decide +kernel)) ggX3_viewAt_X3_storeAt
set_option maxRecDepth 20000 in
theorem ggX3_viewAt_X0_shownValue : GoodIn wsX3_viewAt wsX0_shownValue := goodIn_r _ [14, 15, 29, 30, 31, 32, 33, 34, 35, 36, 37, 38] (by decide +kernel) (by decide +kernel)
set_option maxRecDepth 20000 in
theorem gX3_viewAt_X0_shownValue : GoodIn wsX3_viewAt (wsV RX3 173 RX0 yX0_shownValue wsX0_shownValue) := goodIn_app (goodIn_of _ (by decide +kernel)) ggX3_viewAt_X0_shownValue
set_option maxRecDepth 20000 in
theorem ggX3_viewAt_X0_countShownBefore : GoodIn wsX3_viewAt wsX0_countShownBefore := goodIn_r _ [19, 20, 11, 12, 13, 14, 15, 29, 30, 31, 32, 33, 34, 35, 36, 37, 38] (by decide +kernel) (by decide +kernel)
set_option maxRecDepth 20000 in
theorem gX3_viewAt_X0_countShownBefore : GoodIn wsX3_viewAt (wsV RX3 176 RX0 yX0_countShownBefore wsX0_countShownBefore) := goodIn_app (goodIn_of _ (by decide +kernel)) ggX3_viewAt_X0_countShownBefore
theorem dX3_viewAt_0 : decode cX3_viewAt 0 = .ok (.aload_n 0, 1) := by decide +kernel
theorem dX3_viewAt_1 : decode cX3_viewAt 1 = .ok (.iload_n 1, 1) := by decide +kernel
theorem dX3_viewAt_2 : decode cX3_viewAt 2 = .ok (.invokevirtual 30, 3) := by decide +kernel
theorem dX3_viewAt_5 : decode cX3_viewAt 5 = .ok (.getfield 78, 3) := by decide +kernel
theorem dX3_viewAt_8 : decode cX3_viewAt 8 = .ok (.astore_n 3, 1) := by decide +kernel
theorem dX3_viewAt_9 : decode cX3_viewAt 9 = .ok (.iconst 0, 1) := by decide +kernel
theorem dX3_viewAt_10 : decode cX3_viewAt 10 = .ok (.istore 4, 2) := by decide +kernel
theorem dX3_viewAt_12 : decode cX3_viewAt 12 = .ok (.iload 4, 2) := by decide +kernel
theorem dX3_viewAt_14 : decode cX3_viewAt 14 = .ok (.iconst 4, 1) := by decide +kernel
theorem dX3_viewAt_15 : decode cX3_viewAt 15 = .ok (.if_icmp .ge 46, 3) := by decide +kernel
theorem dX3_viewAt_18 : decode cX3_viewAt 18 = .ok (.aload_n 3, 1) := by decide +kernel
theorem dX3_viewAt_19 : decode cX3_viewAt 19 = .ok (.aload_n 0, 1) := by decide +kernel
theorem dX3_viewAt_20 : decode cX3_viewAt 20 = .ok (.getfield 10, 3) := by decide +kernel
theorem dX3_viewAt_23 : decode cX3_viewAt 23 = .ok (.iload 4, 2) := by decide +kernel
theorem dX3_viewAt_25 : decode cX3_viewAt 25 = .ok (.invokevirtual 173, 3) := by decide +kernel
theorem dX3_viewAt_28 : decode cX3_viewAt 28 = .ok (.istore 5, 2) := by decide +kernel
theorem dX3_viewAt_30 : decode cX3_viewAt 30 = .ok (.iload 5, 2) := by decide +kernel
theorem dX3_viewAt_32 : decode cX3_viewAt 32 = .ok (.iconst (-1), 1) := by decide +kernel
theorem dX3_viewAt_33 : decode cX3_viewAt 33 = .ok (.if_icmp .eq 22, 3) := by decide +kernel
theorem dX3_viewAt_36 : decode cX3_viewAt 36 = .ok (.aload_n 3, 1) := by decide +kernel
theorem dX3_viewAt_37 : decode cX3_viewAt 37 = .ok (.aload_n 0, 1) := by decide +kernel
theorem dX3_viewAt_38 : decode cX3_viewAt 38 = .ok (.getfield 10, 3) := by decide +kernel
theorem dX3_viewAt_41 : decode cX3_viewAt 41 = .ok (.iload 5, 2) := by decide +kernel
theorem dX3_viewAt_43 : decode cX3_viewAt 43 = .ok (.iload 4, 2) := by decide +kernel
theorem dX3_viewAt_45 : decode cX3_viewAt 45 = .ok (.invokevirtual 176, 3) := by decide +kernel
theorem dX3_viewAt_48 : decode cX3_viewAt 48 = .ok (.iload_n 2, 1) := by decide +kernel
theorem dX3_viewAt_49 : decode cX3_viewAt 49 = .ok (.if_icmp .ne 6, 3) := by decide +kernel
theorem dX3_viewAt_52 : decode cX3_viewAt 52 = .ok (.iload 4, 2) := by decide +kernel
theorem dX3_viewAt_54 : decode cX3_viewAt 54 = .ok (.ireturn, 1) := by decide +kernel
theorem dX3_viewAt_55 : decode cX3_viewAt 55 = .ok (.iinc 4 1, 3) := by decide +kernel
theorem dX3_viewAt_58 : decode cX3_viewAt 58 = .ok (.goto (-46), 3) := by decide +kernel
theorem dX3_viewAt_61 : decode cX3_viewAt 61 = .ok (.new 180, 3) := by decide +kernel
theorem dX3_viewAt_64 : decode cX3_viewAt 64 = .ok (.dup, 1) := by decide +kernel
theorem dX3_viewAt_65 : decode cX3_viewAt 65 = .ok (.ldc 182, 2) := by decide +kernel
theorem dX3_viewAt_67 : decode cX3_viewAt 67 = .ok (.invokespecial 184, 3) := by decide +kernel
theorem dX3_viewAt_70 : decode cX3_viewAt 70 = .ok (.athrow, 1) := by decide +kernel
theorem dX3_storeAt_0 : decode cX3_storeAt 0 = .ok (.iload_n 1, 1) := by decide +kernel
theorem dX3_storeAt_1 : decode cX3_storeAt 1 = .ok (.ifCond .lt 8, 3) := by decide +kernel
theorem dX3_storeAt_4 : decode cX3_storeAt 4 = .ok (.iload_n 1, 1) := by decide +kernel
theorem dX3_storeAt_5 : decode cX3_storeAt 5 = .ok (.iconst 3, 1) := by decide +kernel
theorem dX3_storeAt_6 : decode cX3_storeAt 6 = .ok (.if_icmp .lt 13, 3) := by decide +kernel
theorem dX3_storeAt_9 : decode cX3_storeAt 9 = .ok (.new 180, 3) := by decide +kernel
theorem dX3_storeAt_12 : decode cX3_storeAt 12 = .ok (.dup, 1) := by decide +kernel
theorem dX3_storeAt_13 : decode cX3_storeAt 13 = .ok (.ldc 185, 2) := by decide +kernel
theorem dX3_storeAt_15 : decode cX3_storeAt 15 = .ok (.invokespecial 184, 3) := by decide +kernel
theorem dX3_storeAt_18 : decode cX3_storeAt 18 = .ok (.athrow, 1) := by decide +kernel
theorem dX3_storeAt_19 : decode cX3_storeAt 19 = .ok (.aload_n 0, 1) := by decide +kernel
theorem dX3_storeAt_20 : decode cX3_storeAt 20 = .ok (.getfield 18, 3) := by decide +kernel
theorem dX3_storeAt_23 : decode cX3_storeAt 23 = .ok (.iload_n 1, 1) := by decide +kernel
theorem dX3_storeAt_24 : decode cX3_storeAt 24 = .ok (.aaload, 1) := by decide +kernel
theorem dX3_storeAt_25 : decode cX3_storeAt 25 = .ok (.areturn, 1) := by decide +kernel
theorem dX3_checkDocument_0 : decode cX3_checkDocument 0 = .ok (.iload_n 1, 1) := by decide +kernel
theorem dX3_checkDocument_1 : decode cX3_checkDocument 1 = .ok (.ifCond .lt 8, 3) := by decide +kernel
theorem dX3_checkDocument_4 : decode cX3_checkDocument 4 = .ok (.iload_n 1, 1) := by decide +kernel
theorem dX3_checkDocument_5 : decode cX3_checkDocument 5 = .ok (.iconst 4, 1) := by decide +kernel
theorem dX3_checkDocument_6 : decode cX3_checkDocument 6 = .ok (.if_icmp .lt 13, 3) := by decide +kernel
theorem dX3_checkDocument_9 : decode cX3_checkDocument 9 = .ok (.new 180, 3) := by decide +kernel
theorem dX3_checkDocument_12 : decode cX3_checkDocument 12 = .ok (.dup, 1) := by decide +kernel
theorem dX3_checkDocument_13 : decode cX3_checkDocument 13 = .ok (.ldc 187, 2) := by decide +kernel
theorem dX3_checkDocument_15 : decode cX3_checkDocument 15 = .ok (.invokespecial 184, 3) := by decide +kernel
theorem dX3_checkDocument_18 : decode cX3_checkDocument 18 = .ok (.athrow, 1) := by decide +kernel
theorem dX3_checkDocument_19 : decode cX3_checkDocument 19 = .ok (.return_, 1) := by decide +kernel
theorem dX3_checkRevision_0 : decode cX3_checkRevision 0 = .ok (.iload_n 1, 1) := by decide +kernel
theorem dX3_checkRevision_1 : decode cX3_checkRevision 1 = .ok (.ifCond .lt 14, 3) := by decide +kernel
theorem dX3_checkRevision_4 : decode cX3_checkRevision 4 = .ok (.iload_n 1, 1) := by decide +kernel
theorem dX3_checkRevision_5 : decode cX3_checkRevision 5 = .ok (.aload_n 0, 1) := by decide +kernel
theorem dX3_checkRevision_6 : decode cX3_checkRevision 6 = .ok (.getfield 10, 3) := by decide +kernel
theorem dX3_checkRevision_9 : decode cX3_checkRevision 9 = .ok (.getfield 127, 3) := by decide +kernel
theorem dX3_checkRevision_12 : decode cX3_checkRevision 12 = .ok (.if_icmp .lt 13, 3) := by decide +kernel
theorem dX3_checkRevision_15 : decode cX3_checkRevision 15 = .ok (.new 180, 3) := by decide +kernel
theorem dX3_checkRevision_18 : decode cX3_checkRevision 18 = .ok (.dup, 1) := by decide +kernel
theorem dX3_checkRevision_19 : decode cX3_checkRevision 19 = .ok (.ldc 189, 2) := by decide +kernel
theorem dX3_checkRevision_21 : decode cX3_checkRevision 21 = .ok (.invokespecial 184, 3) := by decide +kernel
theorem dX3_checkRevision_24 : decode cX3_checkRevision 24 = .ok (.athrow, 1) := by decide +kernel
theorem dX3_checkRevision_25 : decode cX3_checkRevision 25 = .ok (.return_, 1) := by decide +kernel
theorem dX3_checkDifferent_0 : decode cX3_checkDifferent 0 = .ok (.iload_n 1, 1) := by decide +kernel
theorem dX3_checkDifferent_1 : decode cX3_checkDifferent 1 = .ok (.iload_n 2, 1) := by decide +kernel
theorem dX3_checkDifferent_2 : decode cX3_checkDifferent 2 = .ok (.if_icmp .ne 13, 3) := by decide +kernel
theorem dX3_checkDifferent_5 : decode cX3_checkDifferent 5 = .ok (.new 41, 3) := by decide +kernel
theorem dX3_checkDifferent_8 : decode cX3_checkDifferent 8 = .ok (.dup, 1) := by decide +kernel
theorem dX3_checkDifferent_9 : decode cX3_checkDifferent 9 = .ok (.ldc 191, 2) := by decide +kernel
theorem dX3_checkDifferent_11 : decode cX3_checkDifferent 11 = .ok (.invokespecial 45, 3) := by decide +kernel
theorem dX3_checkDifferent_14 : decode cX3_checkDifferent 14 = .ok (.athrow, 1) := by decide +kernel
theorem dX3_checkDifferent_15 : decode cX3_checkDifferent 15 = .ok (.return_, 1) := by decide +kernel
theorem dX3_checkNotBegun_0 : decode cX3_checkNotBegun 0 = .ok (.aload_n 1, 1) := by decide +kernel
theorem dX3_checkNotBegun_1 : decode cX3_checkNotBegun 1 = .ok (.getfield 78, 3) := by decide +kernel
theorem dX3_checkNotBegun_4 : decode cX3_checkNotBegun 4 = .ok (.getfield 152, 3) := by decide +kernel
theorem dX3_checkNotBegun_7 : decode cX3_checkNotBegun 7 = .ok (.iload_n 2, 1) := by decide +kernel
theorem dX3_checkNotBegun_8 : decode cX3_checkNotBegun 8 = .ok (.iaload, 1) := by decide +kernel
theorem dX3_checkNotBegun_9 : decode cX3_checkNotBegun 9 = .ok (.iconst (-1), 1) := by decide +kernel
theorem dX3_checkNotBegun_10 : decode cX3_checkNotBegun 10 = .ok (.if_icmp .eq 13, 3) := by decide +kernel
theorem dX3_checkNotBegun_13 : decode cX3_checkNotBegun 13 = .ok (.new 67, 3) := by decide +kernel
theorem dX3_checkNotBegun_16 : decode cX3_checkNotBegun 16 = .ok (.dup, 1) := by decide +kernel
theorem dX3_checkNotBegun_17 : decode cX3_checkNotBegun 17 = .ok (.ldc 193, 2) := by decide +kernel
theorem dX3_checkNotBegun_19 : decode cX3_checkNotBegun 19 = .ok (.invokespecial 71, 3) := by decide +kernel
theorem dX3_checkNotBegun_22 : decode cX3_checkNotBegun 22 = .ok (.athrow, 1) := by decide +kernel
theorem dX3_checkNotBegun_23 : decode cX3_checkNotBegun 23 = .ok (.return_, 1) := by decide +kernel
set_option maxRecDepth 20000 in
theorem ggX3_checkLeaf_X0_endsAt : GoodIn wsX3_checkLeaf wsX0_endsAt := goodIn_r _ [8, 9, 10, 11, 12, 7, 13, 14, 30, 31, 32] (by decide +kernel) (by decide +kernel)
set_option maxRecDepth 20000 in
theorem gX3_checkLeaf_X0_endsAt : GoodIn wsX3_checkLeaf (wsV RX3 148 RX0 yX0_endsAt wsX0_endsAt) := goodIn_app (goodIn_of _ (by decide +kernel)) ggX3_checkLeaf_X0_endsAt
theorem dX3_checkLeaf_0 : decode cX3_checkLeaf 0 = .ok (.aload_n 0, 1) := by decide +kernel
theorem dX3_checkLeaf_1 : decode cX3_checkLeaf 1 = .ok (.getfield 10, 3) := by decide +kernel
theorem dX3_checkLeaf_4 : decode cX3_checkLeaf 4 = .ok (.getfield 130, 3) := by decide +kernel
theorem dX3_checkLeaf_7 : decode cX3_checkLeaf 7 = .ok (.iload_n 3, 1) := by decide +kernel
theorem dX3_checkLeaf_8 : decode cX3_checkLeaf 8 = .ok (.iaload, 1) := by decide +kernel
theorem dX3_checkLeaf_9 : decode cX3_checkLeaf 9 = .ok (.iload_n 2, 1) := by decide +kernel
theorem dX3_checkLeaf_10 : decode cX3_checkLeaf 10 = .ok (.if_icmp .ne 14, 3) := by decide +kernel
theorem dX3_checkLeaf_13 : decode cX3_checkLeaf 13 = .ok (.aload_n 1, 1) := by decide +kernel
theorem dX3_checkLeaf_14 : decode cX3_checkLeaf 14 = .ok (.getfield 78, 3) := by decide +kernel
theorem dX3_checkLeaf_17 : decode cX3_checkLeaf 17 = .ok (.iload_n 3, 1) := by decide +kernel
theorem dX3_checkLeaf_18 : decode cX3_checkLeaf 18 = .ok (.invokevirtual 148, 3) := by decide +kernel
theorem dX3_checkLeaf_21 : decode cX3_checkLeaf 21 = .ok (.ifCond .ne 13, 3) := by decide +kernel
theorem dX3_checkLeaf_24 : decode cX3_checkLeaf 24 = .ok (.new 67, 3) := by decide +kernel
theorem dX3_checkLeaf_27 : decode cX3_checkLeaf 27 = .ok (.dup, 1) := by decide +kernel
theorem dX3_checkLeaf_28 : decode cX3_checkLeaf 28 = .ok (.ldc 195, 2) := by decide +kernel
theorem dX3_checkLeaf_30 : decode cX3_checkLeaf 30 = .ok (.invokespecial 71, 3) := by decide +kernel
theorem dX3_checkLeaf_33 : decode cX3_checkLeaf 33 = .ok (.athrow, 1) := by decide +kernel
theorem dX3_checkLeaf_34 : decode cX3_checkLeaf 34 = .ok (.return_, 1) := by decide +kernel
theorem dX3_checkRoom_0 : decode cX3_checkRoom 0 = .ok (.aload_n 0, 1) := by decide +kernel
theorem dX3_checkRoom_1 : decode cX3_checkRoom 1 = .ok (.getfield 10, 3) := by decide +kernel
theorem dX3_checkRoom_4 : decode cX3_checkRoom 4 = .ok (.getfield 127, 3) := by decide +kernel
theorem dX3_checkRoom_7 : decode cX3_checkRoom 7 = .ok (.sipush 150, 3) := by decide +kernel
theorem dX3_checkRoom_10 : decode cX3_checkRoom 10 = .ok (.if_icmp .lt 13, 3) := by decide +kernel
theorem dX3_checkRoom_13 : decode cX3_checkRoom 13 = .ok (.new 67, 3) := by decide +kernel
theorem dX3_checkRoom_16 : decode cX3_checkRoom 16 = .ok (.dup, 1) := by decide +kernel
theorem dX3_checkRoom_17 : decode cX3_checkRoom 17 = .ok (.ldc 197, 2) := by decide +kernel
theorem dX3_checkRoom_19 : decode cX3_checkRoom 19 = .ok (.invokespecial 71, 3) := by decide +kernel
theorem dX3_checkRoom_22 : decode cX3_checkRoom 22 = .ok (.athrow, 1) := by decide +kernel
theorem dX3_checkRoom_23 : decode cX3_checkRoom 23 = .ok (.return_, 1) := by decide +kernel
set_option maxRecDepth 20000 in
theorem ggX3_grow_X2_find : GoodIn wsX3_grow wsX2_find := goodIn_r _ [6, 7, 8, 9, 10, 11, 74, 75, 76, 77, 78, 79, 80] (by decide +kernel) (by decide +kernel)
set_option maxRecDepth 20000 in
theorem gX3_grow_X2_find : GoodIn wsX3_grow (wsV RX3 199 RX2 yX2_find wsX2_find) := goodIn_app (goodIn_of _ (by decide +kernel)) ggX3_grow_X2_find
set_option maxRecDepth 20000 in
theorem ggX3_grow_X2_make : GoodIn wsX3_grow wsX2_make := goodIn_r _ [15, 7, 16, 17, 8, 9, 10, 11, 74, 75, 76, 77, 78, 79, 80] (by decide +kernel) (by decide +kernel)
set_option maxRecDepth 20000 in
theorem gX3_grow_X2_make : GoodIn wsX3_grow (wsV RX3 203 RX2 yX2_make wsX2_make) := goodIn_app (goodIn_of _ (by decide +kernel)) ggX3_grow_X2_make
set_option maxRecDepth 20000 in
theorem ggX3_grow_X1_append : GoodIn wsX3_grow wsX1_append := goodIn_r _ [22, 23, 24, 25, 26, 21, 27, 28, 29, 30, 31, 32, 33, 34, 35, 36, 37, 38, 39, 40, 41, 42, 43, 44, 45, 46, 47, 48, 49, 50, 51, 52, 53, 54, 55, 56, 57, 58, 59, 60, 61, 62, 63, 64, 65, 5, 66, 11, 16, 17, 67, 68, 69, 70, 81, 82, 83, 84, 85, 86, 87, 88, 74, 75, 76, 77, 78, 79, 80] (by decide +kernel) (by decide +kernel)
set_option maxRecDepth 20000 in
theorem gX3_grow_X1_append : GoodIn wsX3_grow (wsV RX3 206 RX1 yX1_append wsX1_append) := goodIn_app (goodIn_of _ (by decide +kernel)) ggX3_grow_X1_append
theorem dX3_grow_0 : decode cX3_grow 0 = .ok (.aload_n 0, 1) := by decide +kernel
theorem dX3_grow_1 : decode cX3_grow 1 = .ok (.getfield 10, 3) := by decide +kernel
theorem dX3_grow_4 : decode cX3_grow 4 = .ok (.iload_n 2, 1) := by decide +kernel
theorem dX3_grow_5 : decode cX3_grow 5 = .ok (.iload_n 3, 1) := by decide +kernel
theorem dX3_grow_6 : decode cX3_grow 6 = .ok (.iload 4, 2) := by decide +kernel
theorem dX3_grow_8 : decode cX3_grow 8 = .ok (.iload 5, 2) := by decide +kernel
theorem dX3_grow_10 : decode cX3_grow 10 = .ok (.invokevirtual 199, 3) := by decide +kernel
theorem dX3_grow_13 : decode cX3_grow 13 = .ok (.istore 6, 2) := by decide +kernel
theorem dX3_grow_15 : decode cX3_grow 15 = .ok (.iload 6, 2) := by decide +kernel
theorem dX3_grow_17 : decode cX3_grow 17 = .ok (.iconst (-1), 1) := by decide +kernel
theorem dX3_grow_18 : decode cX3_grow 18 = .ok (.if_icmp .ne 18, 3) := by decide +kernel
theorem dX3_grow_21 : decode cX3_grow 21 = .ok (.aload_n 0, 1) := by decide +kernel
theorem dX3_grow_22 : decode cX3_grow 22 = .ok (.getfield 10, 3) := by decide +kernel
theorem dX3_grow_25 : decode cX3_grow 25 = .ok (.iload_n 2, 1) := by decide +kernel
theorem dX3_grow_26 : decode cX3_grow 26 = .ok (.iload_n 3, 1) := by decide +kernel
theorem dX3_grow_27 : decode cX3_grow 27 = .ok (.iload 4, 2) := by decide +kernel
theorem dX3_grow_29 : decode cX3_grow 29 = .ok (.iload 5, 2) := by decide +kernel
theorem dX3_grow_31 : decode cX3_grow 31 = .ok (.invokevirtual 203, 3) := by decide +kernel
theorem dX3_grow_34 : decode cX3_grow 34 = .ok (.istore 6, 2) := by decide +kernel
theorem dX3_grow_36 : decode cX3_grow 36 = .ok (.aload_n 1, 1) := by decide +kernel
theorem dX3_grow_37 : decode cX3_grow 37 = .ok (.aload_n 0, 1) := by decide +kernel
theorem dX3_grow_38 : decode cX3_grow 38 = .ok (.getfield 10, 3) := by decide +kernel
theorem dX3_grow_41 : decode cX3_grow 41 = .ok (.iload 6, 2) := by decide +kernel
theorem dX3_grow_43 : decode cX3_grow 43 = .ok (.invokevirtual 206, 3) := by decide +kernel
theorem dX3_grow_46 : decode cX3_grow 46 = .ok (.iload 6, 2) := by decide +kernel
theorem dX3_grow_48 : decode cX3_grow 48 = .ok (.ireturn, 1) := by decide +kernel
set_option maxRecDepth 20000 in
theorem ggX3_commonCheckpoint_X3_pairOf : GoodIn wsX3_commonCheckpoint wsX3_pairOf := goodIn_r _ [9] (by decide +kernel) (by decide +kernel)
set_option maxRecDepth 20000 in
theorem gX3_commonCheckpoint_X3_pairOf : GoodIn wsX3_commonCheckpoint (va_wsS RX3 121 yX3_pairOf wsX3_pairOf) := goodIn_app (goodIn_of _ (by decide +kernel)) ggX3_commonCheckpoint_X3_pairOf
theorem dX3_commonCheckpoint_0 : decode cX3_commonCheckpoint 0 = .ok (.iload_n 1, 1) := by decide +kernel
theorem dX3_commonCheckpoint_1 : decode cX3_commonCheckpoint 1 = .ok (.iload_n 2, 1) := by decide +kernel
theorem dX3_commonCheckpoint_2 : decode cX3_commonCheckpoint 2 = .ok (.invokestatic 121, 3) := by decide +kernel
theorem dX3_commonCheckpoint_5 : decode cX3_commonCheckpoint 5 = .ok (.istore_n 3, 1) := by decide +kernel
theorem dX3_commonCheckpoint_6 : decode cX3_commonCheckpoint 6 = .ok (.aload_n 0, 1) := by decide +kernel
theorem dX3_commonCheckpoint_7 : decode cX3_commonCheckpoint 7 = .ok (.getfield 18, 3) := by decide +kernel
theorem dX3_commonCheckpoint_10 : decode cX3_commonCheckpoint 10 = .ok (.iload_n 1, 1) := by decide +kernel
theorem dX3_commonCheckpoint_11 : decode cX3_commonCheckpoint 11 = .ok (.aaload, 1) := by decide +kernel
theorem dX3_commonCheckpoint_12 : decode cX3_commonCheckpoint 12 = .ok (.getfield 118, 3) := by decide +kernel
theorem dX3_commonCheckpoint_15 : decode cX3_commonCheckpoint 15 = .ok (.iload_n 3, 1) := by decide +kernel
theorem dX3_commonCheckpoint_16 : decode cX3_commonCheckpoint 16 = .ok (.iaload, 1) := by decide +kernel
theorem dX3_commonCheckpoint_17 : decode cX3_commonCheckpoint 17 = .ok (.aload_n 0, 1) := by decide +kernel
theorem dX3_commonCheckpoint_18 : decode cX3_commonCheckpoint 18 = .ok (.getfield 18, 3) := by decide +kernel
theorem dX3_commonCheckpoint_21 : decode cX3_commonCheckpoint 21 = .ok (.iload_n 2, 1) := by decide +kernel
theorem dX3_commonCheckpoint_22 : decode cX3_commonCheckpoint 22 = .ok (.aaload, 1) := by decide +kernel
theorem dX3_commonCheckpoint_23 : decode cX3_commonCheckpoint 23 = .ok (.getfield 118, 3) := by decide +kernel
theorem dX3_commonCheckpoint_26 : decode cX3_commonCheckpoint 26 = .ok (.iload_n 3, 1) := by decide +kernel
theorem dX3_commonCheckpoint_27 : decode cX3_commonCheckpoint 27 = .ok (.iaload, 1) := by decide +kernel
theorem dX3_commonCheckpoint_28 : decode cX3_commonCheckpoint 28 = .ok (.invokestatic 210, 3) := by decide +kernel
theorem dX3_commonCheckpoint_31 : decode cX3_commonCheckpoint 31 = .ok (.ireturn, 1) := by decide +kernel
theorem dX3_pairOf_0 : decode cX3_pairOf 0 = .ok (.iload_n 0, 1) := by decide +kernel
theorem dX3_pairOf_1 : decode cX3_pairOf 1 = .ok (.iconst 3, 1) := by decide +kernel
theorem dX3_pairOf_2 : decode cX3_pairOf 2 = .ok (.imul, 1) := by decide +kernel
theorem dX3_pairOf_3 : decode cX3_pairOf 3 = .ok (.iload_n 1, 1) := by decide +kernel
theorem dX3_pairOf_4 : decode cX3_pairOf 4 = .ok (.iadd, 1) := by decide +kernel
theorem dX3_pairOf_5 : decode cX3_pairOf 5 = .ok (.ireturn, 1) := by decide +kernel
theorem dJ9_max_7cf53_0 : decode cJ9_max_7cf53 0 = .ok (.iload_n 0, 1) := by decide +kernel
theorem dJ9_max_7cf53_1 : decode cJ9_max_7cf53 1 = .ok (.iload_n 1, 1) := by decide +kernel
theorem dJ9_max_7cf53_2 : decode cJ9_max_7cf53 2 = .ok (.if_icmp .lt 7, 3) := by decide +kernel
theorem dJ9_max_7cf53_5 : decode cJ9_max_7cf53 5 = .ok (.iload_n 0, 1) := by decide +kernel
theorem dJ9_max_7cf53_6 : decode cJ9_max_7cf53 6 = .ok (.goto 4, 3) := by decide +kernel
theorem dJ9_max_7cf53_9 : decode cJ9_max_7cf53 9 = .ok (.iload_n 1, 1) := by decide +kernel
theorem dJ9_max_7cf53_10 : decode cJ9_max_7cf53 10 = .ok (.ireturn, 1) := by decide +kernel
theorem dJ9_min_7cf53_0 : decode cJ9_min_7cf53 0 = .ok (.iload_n 0, 1) := by decide +kernel
theorem dJ9_min_7cf53_1 : decode cJ9_min_7cf53 1 = .ok (.iload_n 1, 1) := by decide +kernel
theorem dJ9_min_7cf53_2 : decode cJ9_min_7cf53 2 = .ok (.if_icmp .gt 7, 3) := by decide +kernel
theorem dJ9_min_7cf53_5 : decode cJ9_min_7cf53 5 = .ok (.iload_n 0, 1) := by decide +kernel
theorem dJ9_min_7cf53_6 : decode cJ9_min_7cf53 6 = .ok (.goto 4, 3) := by decide +kernel
theorem dJ9_min_7cf53_9 : decode cJ9_min_7cf53 9 = .ok (.iload_n 1, 1) := by decide +kernel
theorem dJ9_min_7cf53_10 : decode cJ9_min_7cf53 10 = .ok (.ireturn, 1) := by decide +kernel
theorem dJ7_fill_53178_0 : decode cJ7_fill_53178 0 = .ok (.iconst 0, 1) := by decide +kernel
theorem dJ7_fill_53178_1 : decode cJ7_fill_53178 1 = .ok (.istore_n 2, 1) := by decide +kernel
theorem dJ7_fill_53178_2 : decode cJ7_fill_53178 2 = .ok (.aload_n 0, 1) := by decide +kernel
theorem dJ7_fill_53178_3 : decode cJ7_fill_53178 3 = .ok (.arraylength, 1) := by decide +kernel
theorem dJ7_fill_53178_4 : decode cJ7_fill_53178 4 = .ok (.istore_n 3, 1) := by decide +kernel
theorem dJ7_fill_53178_5 : decode cJ7_fill_53178 5 = .ok (.iload_n 2, 1) := by decide +kernel
theorem dJ7_fill_53178_6 : decode cJ7_fill_53178 6 = .ok (.iload_n 3, 1) := by decide +kernel
theorem dJ7_fill_53178_7 : decode cJ7_fill_53178 7 = .ok (.if_icmp .ge 13, 3) := by decide +kernel
theorem dJ7_fill_53178_10 : decode cJ7_fill_53178 10 = .ok (.aload_n 0, 1) := by decide +kernel
theorem dJ7_fill_53178_11 : decode cJ7_fill_53178 11 = .ok (.iload_n 2, 1) := by decide +kernel
theorem dJ7_fill_53178_12 : decode cJ7_fill_53178 12 = .ok (.iload_n 1, 1) := by decide +kernel
theorem dJ7_fill_53178_13 : decode cJ7_fill_53178 13 = .ok (.iastore, 1) := by decide +kernel
theorem dJ7_fill_53178_14 : decode cJ7_fill_53178 14 = .ok (.iinc 2 1, 3) := by decide +kernel
theorem dJ7_fill_53178_17 : decode cJ7_fill_53178 17 = .ok (.goto (-12), 3) := by decide +kernel
theorem dJ7_fill_53178_20 : decode cJ7_fill_53178 20 = .ok (.return_, 1) := by decide +kernel
