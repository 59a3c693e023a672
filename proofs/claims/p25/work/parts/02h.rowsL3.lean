theorem dL_areRevisions_0 : decode cL_areRevisions 0 = .ok (.iconst 1, 1) := by decide +kernel
theorem dL_areRevisions_1 : decode cL_areRevisions 1 = .ok (.istore 7, 2) := by decide +kernel
theorem dL_areRevisions_3 : decode cL_areRevisions 3 = .ok (.iconst 0, 1) := by decide +kernel
theorem dL_areRevisions_4 : decode cL_areRevisions 4 = .ok (.istore 8, 2) := by decide +kernel
theorem dL_areRevisions_6 : decode cL_areRevisions 6 = .ok (.iload 8, 2) := by decide +kernel
theorem dL_areRevisions_8 : decode cL_areRevisions 8 = .ok (.aload 6, 2) := by decide +kernel
theorem dL_areRevisions_10 : decode cL_areRevisions 10 = .ok (.iconst 0, 1) := by decide +kernel
theorem dL_areRevisions_11 : decode cL_areRevisions 11 = .ok (.iaload, 1) := by decide +kernel
theorem dL_areRevisions_12 : decode cL_areRevisions 12 = .ok (.if_icmp .ge 88, 3) := by decide +kernel
theorem dL_areRevisions_15 : decode cL_areRevisions 15 = .ok (.iload 7, 2) := by decide +kernel
theorem dL_areRevisions_17 : decode cL_areRevisions 17 = .ok (.ifCond .eq 83, 3) := by decide +kernel
theorem dL_areRevisions_20 : decode cL_areRevisions 20 = .ok (.aload_n 0, 1) := by decide +kernel
theorem dL_areRevisions_21 : decode cL_areRevisions 21 = .ok (.iload 8, 2) := by decide +kernel
theorem dL_areRevisions_23 : decode cL_areRevisions 23 = .ok (.invokevirtual 88, 3) := by decide +kernel
theorem dL_areRevisions_26 : decode cL_areRevisions 26 = .ok (.aload_n 1, 1) := by decide +kernel
theorem dL_areRevisions_27 : decode cL_areRevisions 27 = .ok (.iload 8, 2) := by decide +kernel
theorem dL_areRevisions_29 : decode cL_areRevisions 29 = .ok (.iaload, 1) := by decide +kernel
theorem dL_areRevisions_30 : decode cL_areRevisions 30 = .ok (.if_icmp .ne 61, 3) := by decide +kernel
theorem dL_areRevisions_33 : decode cL_areRevisions 33 = .ok (.aload_n 0, 1) := by decide +kernel
theorem dL_areRevisions_34 : decode cL_areRevisions 34 = .ok (.iload 8, 2) := by decide +kernel
theorem dL_areRevisions_36 : decode cL_areRevisions 36 = .ok (.invokevirtual 91, 3) := by decide +kernel
theorem dL_areRevisions_39 : decode cL_areRevisions 39 = .ok (.aload_n 3, 1) := by decide +kernel
theorem dL_areRevisions_40 : decode cL_areRevisions 40 = .ok (.iload 8, 2) := by decide +kernel
theorem dL_areRevisions_42 : decode cL_areRevisions 42 = .ok (.iaload, 1) := by decide +kernel
theorem dL_areRevisions_43 : decode cL_areRevisions 43 = .ok (.if_icmp .ne 48, 3) := by decide +kernel
theorem dL_areRevisions_46 : decode cL_areRevisions 46 = .ok (.aload_n 0, 1) := by decide +kernel
theorem dL_areRevisions_47 : decode cL_areRevisions 47 = .ok (.iload 8, 2) := by decide +kernel
theorem dL_areRevisions_49 : decode cL_areRevisions 49 = .ok (.invokevirtual 94, 3) := by decide +kernel
theorem dL_areRevisions_52 : decode cL_areRevisions 52 = .ok (.aload 4, 2) := by decide +kernel
theorem dL_areRevisions_54 : decode cL_areRevisions 54 = .ok (.iload 8, 2) := by decide +kernel
theorem dL_areRevisions_56 : decode cL_areRevisions 56 = .ok (.iaload, 1) := by decide +kernel
theorem dL_areRevisions_57 : decode cL_areRevisions 57 = .ok (.if_icmp .ne 34, 3) := by decide +kernel
theorem dL_areRevisions_60 : decode cL_areRevisions 60 = .ok (.aload_n 0, 1) := by decide +kernel
theorem dL_areRevisions_61 : decode cL_areRevisions 61 = .ok (.iload 8, 2) := by decide +kernel
theorem dL_areRevisions_63 : decode cL_areRevisions 63 = .ok (.invokevirtual 97, 3) := by decide +kernel
theorem dL_areRevisions_66 : decode cL_areRevisions 66 = .ok (.aload 5, 2) := by decide +kernel
theorem dL_areRevisions_68 : decode cL_areRevisions 68 = .ok (.iload 8, 2) := by decide +kernel
theorem dL_areRevisions_70 : decode cL_areRevisions 70 = .ok (.iaload, 1) := by decide +kernel
theorem dL_areRevisions_71 : decode cL_areRevisions 71 = .ok (.if_icmp .ne 20, 3) := by decide +kernel
theorem dL_areRevisions_74 : decode cL_areRevisions 74 = .ok (.aload_n 0, 1) := by decide +kernel
theorem dL_areRevisions_75 : decode cL_areRevisions 75 = .ok (.iload 8, 2) := by decide +kernel
theorem dL_areRevisions_77 : decode cL_areRevisions 77 = .ok (.invokevirtual 100, 3) := by decide +kernel
theorem dL_areRevisions_80 : decode cL_areRevisions 80 = .ok (.aload_n 2, 1) := by decide +kernel
theorem dL_areRevisions_81 : decode cL_areRevisions 81 = .ok (.iload 8, 2) := by decide +kernel
theorem dL_areRevisions_83 : decode cL_areRevisions 83 = .ok (.iaload, 1) := by decide +kernel
theorem dL_areRevisions_84 : decode cL_areRevisions 84 = .ok (.if_icmp .ne 7, 3) := by decide +kernel
theorem dL_areRevisions_87 : decode cL_areRevisions 87 = .ok (.iconst 1, 1) := by decide +kernel
theorem dL_areRevisions_88 : decode cL_areRevisions 88 = .ok (.goto 4, 3) := by decide +kernel
theorem dL_areRevisions_91 : decode cL_areRevisions 91 = .ok (.iconst 0, 1) := by decide +kernel
theorem dL_areRevisions_92 : decode cL_areRevisions 92 = .ok (.istore 7, 2) := by decide +kernel
theorem dL_areRevisions_94 : decode cL_areRevisions 94 = .ok (.iinc 8 1, 3) := by decide +kernel
theorem dL_areRevisions_97 : decode cL_areRevisions 97 = .ok (.goto (-91), 3) := by decide +kernel
theorem dL_areRevisions_100 : decode cL_areRevisions 100 = .ok (.iload 7, 2) := by decide +kernel
theorem dL_areRevisions_102 : decode cL_areRevisions 102 = .ok (.ireturn, 1) := by decide +kernel
set_option maxRecDepth 20000 in
theorem ggL_edited_X3_edit : GoodIn wsL_edited wsX3_edit := goodIn_ca (goodIn_ca (goodIn_ca (goodIn_r _ [6, 7, 8, 9, 10, 11, 5, 12, 13, 14, 15, 16, 17, 18, 19, 20, 21, 22, 23, 24, 25, 26, 27, 28, 29, 30, 31, 32, 33, 34, 35, 36, 37, 38, 39, 40, 41, 42, 43, 44, 45, 46, 47, 48, 49, 50, 51, 52, 53, 54, 55, 56, 57, 58, 59, 60, 61, 62, 63, 64, 65, 66, 67, 68, 69, 70, 71, 72, 73, 74, 75, 76, 77, 78, 79, 80, 81, 82, 83, 84, 85, 86, 87, 88, 89, 90, 91, 92, 93, 94, 95, 96, 97, 98, 99, 100, 101, 102, 103, 104, 105, 106, 107, 108, 109, 110, 111, 112, 113, 114, 115, 116, 117, 118, 119, 120, 121, 122, 123, 124, 125, 126, 127, 128, 129, 130] (by decide +kernel) (by decide +kernel)) (goodIn_sub (fun _ h => List.mem_cons_of_mem _ (List.mem_append_left _ (List.mem_append_left _ (List.mem_append_right _ h)))) (by decide +kernel))) (goodIn_sub (fun _ h => List.mem_cons_of_mem _ (List.mem_append_left _ (List.mem_append_right _ h))) (by decide +kernel))) (goodIn_sub (fun _ h => List.mem_cons_of_mem _ (List.mem_append_right _ h)) (by decide +kernel))
set_option maxRecDepth 20000 in
theorem gL_edited_X3_edit : GoodIn wsL_edited (wsV RL 103 RX3 yX3_edit wsX3_edit) := goodIn_app (goodIn_of _ (by decide +kernel)) ggL_edited_X3_edit
theorem dL_edited_0 : decode cL_edited 0 = .ok (.aload_n 0, 1) := by decide +kernel
theorem dL_edited_1 : decode cL_edited 1 = .ok (.iload_n 1, 1) := by decide +kernel
theorem dL_edited_2 : decode cL_edited 2 = .ok (.iload_n 2, 1) := by decide +kernel
theorem dL_edited_3 : decode cL_edited 3 = .ok (.iload_n 3, 1) := by decide +kernel
theorem dL_edited_4 : decode cL_edited 4 = .ok (.iload 4, 2) := by decide +kernel
theorem dL_edited_6 : decode cL_edited 6 = .ok (.invokevirtual 103, 3) := by decide +kernel
theorem dL_edited_9 : decode cL_edited 9 = .ok (.ireturn, 1) := by decide +kernel
theorem dL_edited_10 : decode cL_edited 10 = .ok (.astore 5, 2) := by decide +kernel
theorem dL_edited_12 : decode cL_edited 12 = .ok (.bipush (-2), 2) := by decide +kernel
theorem dL_edited_14 : decode cL_edited 14 = .ok (.ireturn, 1) := by decide +kernel
set_option maxRecDepth 20000 in
theorem ggL_deleted_X3_delete : GoodIn wsL_deleted wsX3_delete := goodIn_ca (goodIn_ca (goodIn_r _ [6, 7, 8, 9, 10, 11, 12, 5, 13, 14, 15, 16, 17, 18, 19, 20, 21, 22, 23, 24, 25, 26, 27, 28, 29, 30, 31, 32, 33, 34, 35, 36, 37, 38, 39, 40, 41, 42, 43, 44, 45, 46, 47, 48, 49, 50, 51, 52, 53, 54, 55, 56, 57, 58, 59, 60, 61, 62, 63, 64, 65, 66, 67, 68, 69, 70, 71, 72, 73, 74, 75, 76, 77, 78, 79, 80, 81, 82, 83, 84, 85, 86, 87, 88, 89, 90, 91, 92, 93, 94, 95, 96, 97, 98, 99, 100, 101, 102, 103, 104, 105, 106, 107, 108, 109, 110, 111, 112, 113, 114, 115, 116, 117, 118, 119, 120, 121, 122, 123, 124] (by decide +kernel) (by decide +kernel)) (goodIn_sub (fun _ h => List.mem_cons_of_mem _ (List.mem_append_left _ (List.mem_append_right _ h))) (by decide +kernel))) (goodIn_sub (fun _ h => List.mem_cons_of_mem _ (List.mem_append_right _ h)) (by decide +kernel))
set_option maxRecDepth 20000 in
theorem gL_deleted_X3_delete : GoodIn wsL_deleted (wsV RL 109 RX3 yX3_delete wsX3_delete) := goodIn_app (goodIn_of _ (by decide +kernel)) ggL_deleted_X3_delete
theorem dL_deleted_0 : decode cL_deleted 0 = .ok (.aload_n 0, 1) := by decide +kernel
theorem dL_deleted_1 : decode cL_deleted 1 = .ok (.iload_n 1, 1) := by decide +kernel
theorem dL_deleted_2 : decode cL_deleted 2 = .ok (.iload_n 2, 1) := by decide +kernel
theorem dL_deleted_3 : decode cL_deleted 3 = .ok (.iload_n 3, 1) := by decide +kernel
theorem dL_deleted_4 : decode cL_deleted 4 = .ok (.invokevirtual 109, 3) := by decide +kernel
theorem dL_deleted_7 : decode cL_deleted 7 = .ok (.ireturn, 1) := by decide +kernel
theorem dL_deleted_8 : decode cL_deleted 8 = .ok (.astore 4, 2) := by decide +kernel
theorem dL_deleted_10 : decode cL_deleted 10 = .ok (.bipush (-2), 2) := by decide +kernel
theorem dL_deleted_12 : decode cL_deleted 12 = .ok (.ireturn, 1) := by decide +kernel
set_option maxRecDepth 20000 in
theorem ggL_acts_L_leaves : GoodIn wsL_acts wsL_leaves := goodIn_r _ [4] (by decide +kernel) (by decide +kernel)
set_option maxRecDepth 20000 in
theorem gL_acts_L_leaves : GoodIn wsL_acts (va_wsS RL 9 yL_leaves wsL_leaves) := goodIn_app (goodIn_of _ (by decide +kernel)) ggL_acts_L_leaves
set_option maxRecDepth 20000 in
theorem ggL_acts_L_deleted : GoodIn wsL_acts wsL_deleted := goodIn_ca (goodIn_ca (goodIn_r _ [7, 8, 9, 10, 11, 12, 13, 14, 15, 16, 17, 18, 19, 20, 21, 22, 23, 24, 25, 26, 27, 28, 29, 30, 31, 32, 33, 34, 35, 36, 37, 38, 39, 40, 41, 42, 43, 44, 45, 46, 47, 48, 49, 50, 51, 52, 53, 54, 55, 56, 57, 58, 59, 60, 61, 62, 63, 64, 65, 66, 67, 68, 69, 70, 71, 72, 73, 74, 75, 76, 77, 78, 79, 80, 81, 82, 83, 84, 85, 86, 87, 88, 89, 90, 91, 92, 93, 94, 95, 96, 97, 98, 99, 100, 101, 102, 103, 104, 105, 106, 107, 108, 109, 110, 111, 112, 113, 206, 207, 208, 209, 210, 211, 212, 213, 214, 215, 216, 217, 218, 219, 220, 221, 222, 223] (by decide +kernel) (by decide +kernel)) (goodIn_sub (fun _ h => List.mem_cons_of_mem _ (List.mem_append_left _ (List.mem_append_left _ (List.mem_append_right _ h)))) (by decide +kernel))) (goodIn_sub (fun _ h => List.mem_cons_of_mem _ (List.mem_append_left _ (List.mem_append_right _ h))) (by decide +kernel))
set_option maxRecDepth 20000 in
theorem gL_acts_L_deleted : GoodIn wsL_acts (va_wsS RL 112 yL_deleted wsL_deleted) := goodIn_app (goodIn_of _ (by decide +kernel)) ggL_acts_L_deleted
set_option maxRecDepth 20000 in
theorem ggL_acts_L_add : GoodIn wsL_acts wsL_add := goodIn_r _ [116, 117, 118, 3, 119, 120, 121, 122, 123, 124, 125, 1, 2, 4, 126, 127, 128] (by decide +kernel) (by decide +kernel)
set_option maxRecDepth 20000 in
theorem gL_acts_L_add : GoodIn wsL_acts (va_wsS RL 116 yL_add wsL_add) := goodIn_app (goodIn_of _ (by decide +kernel)) ggL_acts_L_add
set_option maxRecDepth 20000 in
theorem ggL_acts_L_edited : GoodIn wsL_acts wsL_edited := goodIn_ca (goodIn_ca (goodIn_ca (goodIn_r _ [131, 8, 132, 133, 134, 12, 135, 136, 137, 17, 18, 19, 20, 21, 22, 23, 24, 25, 26, 27, 28, 29, 30, 31, 16, 138, 139, 140, 141, 14, 15, 32, 33, 34, 35, 36, 37, 38, 39, 40, 41, 42, 43, 44, 45, 46, 47, 48, 49, 50, 51, 52, 53, 54, 55, 56, 57, 58, 59, 60, 61, 62, 63, 64, 65, 66, 67, 68, 69, 70, 71, 72, 73, 74, 75, 76, 77, 78, 79, 80, 81, 82, 83, 84, 85, 86, 87, 88, 89, 90, 91, 92, 93, 94, 95, 96, 97, 98, 99, 100, 101, 102, 103, 104, 105, 106, 107, 108, 109, 110, 111, 112, 113, 206, 207, 208, 209, 210, 211, 212, 213, 214, 215, 216, 217, 218, 219, 220, 221, 222, 223] (by decide +kernel) (by decide +kernel)) (goodIn_sub (fun _ h => List.mem_cons_of_mem _ (List.mem_append_right _ h)) (by decide +kernel))) (goodIn_sub (fun _ h => List.mem_cons_of_mem _ (List.mem_append_left _ (List.mem_append_right _ h))) (by decide +kernel))) (goodIn_sub (fun _ h => List.mem_cons_of_mem _ (List.mem_append_left _ (List.mem_append_left _ (List.mem_append_right _ h)))) (by decide +kernel))
set_option maxRecDepth 20000 in
theorem gL_acts_L_edited : GoodIn wsL_acts (va_wsS RL 120 yL_edited wsL_edited) := goodIn_app (goodIn_of _ (by decide +kernel)) ggL_acts_L_edited
set_option maxRecDepth 20000 in
theorem ggL_acts_X3_replicate : GoodIn wsL_acts wsX3_replicate := goodIn_ca (goodIn_ca (goodIn_r _ [145, 136, 137, 16, 17, 18, 19, 12, 20, 21, 22, 23, 146, 147, 148, 149, 150, 151, 152, 153, 154, 93, 94, 95, 155, 156, 157, 158, 159, 160, 74, 161, 82, 162, 163, 164, 165, 76, 166, 167, 168, 39, 169, 41, 100, 37, 38, 40, 42, 43, 44, 45, 46, 170, 171, 172, 173, 77, 78, 79, 80, 81, 83, 84, 85, 86, 87, 88, 89, 90, 91, 92, 96, 97, 98, 99, 101, 102, 103, 104, 105, 106, 107, 108, 58, 109, 64, 69, 70, 110, 111, 112, 113, 206, 207, 208, 216, 217, 218, 219, 220, 209, 210, 211, 212, 213, 214, 215, 221, 222, 223] (by decide +kernel) (by decide +kernel)) (goodIn_sub (fun _ h => List.mem_cons_of_mem _ (List.mem_append_right _ h)) (by decide +kernel))) (goodIn_sub (fun _ h => List.mem_cons_of_mem _ (List.mem_append_left _ (List.mem_append_right _ h))) (by decide +kernel))
set_option maxRecDepth 20000 in
theorem gL_acts_X3_replicate : GoodIn wsL_acts (wsV RL 124 RX3 yX3_replicate wsX3_replicate) := goodIn_app (goodIn_of _ (by decide +kernel)) ggL_acts_X3_replicate
set_option maxRecDepth 20000 in
theorem ggL_acts_L_replicated : GoodIn wsL_acts wsL_replicated := goodIn_r _ [176, 177, 178, 3, 179, 180, 181, 182, 1, 2, 4, 120, 121, 122, 123, 124, 125, 126, 127, 128] (by decide +kernel) (by decide +kernel)
set_option maxRecDepth 20000 in
theorem gL_acts_L_replicated : GoodIn wsL_acts (va_wsS RL 127 yL_replicated wsL_replicated) := goodIn_app (goodIn_of _ (by decide +kernel)) ggL_acts_L_replicated
set_option maxRecDepth 20000 in
theorem ggL_acts_X3_setDepth : GoodIn wsL_acts wsX3_setDepth := goodIn_ca (goodIn_ca (goodIn_r _ [186, 136, 137, 16, 17, 18, 19, 12, 20, 21, 22, 23, 187, 111, 112, 39, 113, 41, 46, 42, 43, 44, 45, 216, 217, 218, 219, 220, 206, 207, 208, 209, 210, 211, 212, 213, 214, 215, 221, 222, 223] (by decide +kernel) (by decide +kernel)) (goodIn_sub (fun _ h => List.mem_cons_of_mem _ (List.mem_append_right _ h)) (by decide +kernel))) (goodIn_sub (fun _ h => List.mem_cons_of_mem _ (List.mem_append_left _ (List.mem_append_right _ h))) (by decide +kernel))
set_option maxRecDepth 20000 in
theorem gL_acts_X3_setDepth : GoodIn wsL_acts (wsV RL 130 RX3 yX3_setDepth wsX3_setDepth) := goodIn_app (goodIn_of _ (by decide +kernel)) ggL_acts_X3_setDepth
set_option maxRecDepth 20000 in
theorem ggL_acts_L_stem : GoodIn wsL_acts wsL_stem := goodIn_r _ [122, 123, 124, 3, 125, 1, 2, 4, 126, 127, 128] (by decide +kernel) (by decide +kernel)
set_option maxRecDepth 20000 in
theorem gL_acts_L_stem : GoodIn wsL_acts (va_wsS RL 31 yL_stem wsL_stem) := goodIn_app (goodIn_of _ (by decide +kernel)) ggL_acts_L_stem
set_option maxRecDepth 20000 in
theorem ggL_acts_L_ones : GoodIn wsL_acts wsL_ones := goodIn_r _ [128] (by decide +kernel) (by decide +kernel)
set_option maxRecDepth 20000 in
theorem gL_acts_L_ones : GoodIn wsL_acts (va_wsS RL 23 yL_ones wsL_ones) := goodIn_app (goodIn_of _ (by decide +kernel)) ggL_acts_L_ones
set_option maxRecDepth 20000 in
theorem ggL_acts_X3_wipe : GoodIn wsL_acts wsX3_wipe := goodIn_ca (goodIn_r _ [191, 16, 17, 18, 19, 12, 20, 21, 22, 23, 192, 193, 194, 39, 195, 41, 196, 197, 198, 74, 199, 76, 81, 82, 200, 201, 202, 203, 204, 84, 85, 86, 87, 88, 89, 90, 91, 46, 92, 93, 94, 95, 96, 97, 98, 99, 100, 37, 38, 40, 42, 43, 44, 45, 101, 102, 103, 104, 105, 106, 107, 108, 58, 109, 64, 69, 70, 205, 216, 217, 218, 219, 220, 206, 207, 208, 209, 210, 211, 212, 213, 214, 215, 221, 222, 223] (by decide +kernel) (by decide +kernel)) (goodIn_sub (fun _ h => List.mem_cons_of_mem _ (List.mem_append_left _ (List.mem_append_right _ h))) (by decide +kernel))
set_option maxRecDepth 20000 in
theorem gL_acts_X3_wipe : GoodIn wsL_acts (wsV RL 133 RX3 yX3_wipe wsX3_wipe) := goodIn_app (goodIn_of _ (by decide +kernel)) ggL_acts_X3_wipe
theorem dL_acts_0 : decode cL_acts 0 = .ok (.iload 12, 2) := by decide +kernel
theorem dL_acts_2 : decode cL_acts 2 = .ok (.iconst 3, 1) := by decide +kernel
theorem dL_acts_3 : decode cL_acts 3 = .ok (.irem, 1) := by decide +kernel
theorem dL_acts_4 : decode cL_acts 4 = .ok (.istore 13, 2) := by decide +kernel
theorem dL_acts_6 : decode cL_acts 6 = .ok (.iload 12, 2) := by decide +kernel
theorem dL_acts_8 : decode cL_acts 8 = .ok (.iconst 3, 1) := by decide +kernel
theorem dL_acts_9 : decode cL_acts 9 = .ok (.idiv, 1) := by decide +kernel
theorem dL_acts_10 : decode cL_acts 10 = .ok (.iconst 5, 1) := by decide +kernel
theorem dL_acts_11 : decode cL_acts 11 = .ok (.irem, 1) := by decide +kernel
theorem dL_acts_12 : decode cL_acts 12 = .ok (.iconst 4, 1) := by decide +kernel
theorem dL_acts_13 : decode cL_acts 13 = .ok (.irem, 1) := by decide +kernel
theorem dL_acts_14 : decode cL_acts 14 = .ok (.istore 14, 2) := by decide +kernel
theorem dL_acts_16 : decode cL_acts 16 = .ok (.iload 13, 2) := by decide +kernel
theorem dL_acts_18 : decode cL_acts 18 = .ok (.iconst 1, 1) := by decide +kernel
theorem dL_acts_19 : decode cL_acts 19 = .ok (.iadd, 1) := by decide +kernel
theorem dL_acts_20 : decode cL_acts 20 = .ok (.iload 12, 2) := by decide +kernel
theorem dL_acts_22 : decode cL_acts 22 = .ok (.bipush 15, 2) := by decide +kernel
theorem dL_acts_24 : decode cL_acts 24 = .ok (.idiv, 1) := by decide +kernel
theorem dL_acts_25 : decode cL_acts 25 = .ok (.iconst 2, 1) := by decide +kernel
theorem dL_acts_26 : decode cL_acts 26 = .ok (.irem, 1) := by decide +kernel
theorem dL_acts_27 : decode cL_acts 27 = .ok (.iadd, 1) := by decide +kernel
theorem dL_acts_28 : decode cL_acts 28 = .ok (.iconst 3, 1) := by decide +kernel
theorem dL_acts_29 : decode cL_acts 29 = .ok (.irem, 1) := by decide +kernel
theorem dL_acts_30 : decode cL_acts 30 = .ok (.istore 15, 2) := by decide +kernel
theorem dL_acts_32 : decode cL_acts 32 = .ok (.aload_n 1, 1) := by decide +kernel
theorem dL_acts_33 : decode cL_acts 33 = .ok (.aload 6, 2) := by decide +kernel
theorem dL_acts_35 : decode cL_acts 35 = .ok (.aload 10, 2) := by decide +kernel
theorem dL_acts_37 : decode cL_acts 37 = .ok (.aload 7, 2) := by decide +kernel
theorem dL_acts_39 : decode cL_acts 39 = .ok (.iload 13, 2) := by decide +kernel
theorem dL_acts_41 : decode cL_acts 41 = .ok (.iaload, 1) := by decide +kernel
theorem dL_acts_42 : decode cL_acts 42 = .ok (.iload 14, 2) := by decide +kernel
theorem dL_acts_44 : decode cL_acts 44 = .ok (.invokestatic 9, 3) := by decide +kernel
theorem dL_acts_47 : decode cL_acts 47 = .ok (.istore 16, 2) := by decide +kernel
theorem dL_acts_49 : decode cL_acts 49 = .ok (.aload 10, 2) := by decide +kernel
theorem dL_acts_51 : decode cL_acts 51 = .ok (.iconst 0, 1) := by decide +kernel
theorem dL_acts_52 : decode cL_acts 52 = .ok (.iaload, 1) := by decide +kernel
theorem dL_acts_53 : decode cL_acts 53 = .ok (.ifCond .ne 7, 3) := by decide +kernel
theorem dL_acts_56 : decode cL_acts 56 = .ok (.iconst 0, 1) := by decide +kernel
theorem dL_acts_57 : decode cL_acts 57 = .ok (.goto 13, 3) := by decide +kernel
theorem dL_acts_60 : decode cL_acts 60 = .ok (.iload 12, 2) := by decide +kernel
theorem dL_acts_62 : decode cL_acts 62 = .ok (.bipush 30, 2) := by decide +kernel
theorem dL_acts_64 : decode cL_acts 64 = .ok (.idiv, 1) := by decide +kernel
theorem dL_acts_65 : decode cL_acts 65 = .ok (.aload 10, 2) := by decide +kernel
theorem dL_acts_67 : decode cL_acts 67 = .ok (.iconst 0, 1) := by decide +kernel
theorem dL_acts_68 : decode cL_acts 68 = .ok (.iaload, 1) := by decide +kernel
theorem dL_acts_69 : decode cL_acts 69 = .ok (.irem, 1) := by decide +kernel
theorem dL_acts_70 : decode cL_acts 70 = .ok (.istore 17, 2) := by decide +kernel
theorem dL_acts_72 : decode cL_acts 72 = .ok (.iconst 0, 1) := by decide +kernel
theorem dL_acts_73 : decode cL_acts 73 = .ok (.istore 18, 2) := by decide +kernel
theorem dL_acts_75 : decode cL_acts 75 = .ok (.iload 18, 2) := by decide +kernel
theorem dL_acts_77 : decode cL_acts 77 = .ok (.aload 10, 2) := by decide +kernel
theorem dL_acts_79 : decode cL_acts 79 = .ok (.iconst 0, 1) := by decide +kernel
theorem dL_acts_80 : decode cL_acts 80 = .ok (.iaload, 1) := by decide +kernel
theorem dL_acts_81 : decode cL_acts 81 = .ok (.if_icmp .ge 57, 3) := by decide +kernel
theorem dL_acts_84 : decode cL_acts 84 = .ok (.iload 12, 2) := by decide +kernel
theorem dL_acts_86 : decode cL_acts 86 = .ok (.iconst 5, 1) := by decide +kernel
theorem dL_acts_87 : decode cL_acts 87 = .ok (.irem, 1) := by decide +kernel
theorem dL_acts_88 : decode cL_acts 88 = .ok (.ifCond .le 50, 3) := by decide +kernel
theorem dL_acts_91 : decode cL_acts 91 = .ok (.iload 16, 2) := by decide +kernel
theorem dL_acts_93 : decode cL_acts 93 = .ok (.iload 18, 2) := by decide +kernel
theorem dL_acts_95 : decode cL_acts 95 = .ok (.ishr, 1) := by decide +kernel
theorem dL_acts_96 : decode cL_acts 96 = .ok (.iconst 1, 1) := by decide +kernel
theorem dL_acts_97 : decode cL_acts 97 = .ok (.iand, 1) := by decide +kernel
theorem dL_acts_98 : decode cL_acts 98 = .ok (.iconst 1, 1) := by decide +kernel
theorem dL_acts_99 : decode cL_acts 99 = .ok (.if_icmp .ne 29, 3) := by decide +kernel
theorem dL_acts_102 : decode cL_acts 102 = .ok (.iload 16, 2) := by decide +kernel
theorem dL_acts_104 : decode cL_acts 104 = .ok (.iload 17, 2) := by decide +kernel
theorem dL_acts_106 : decode cL_acts 106 = .ok (.ishr, 1) := by decide +kernel
theorem dL_acts_107 : decode cL_acts 107 = .ok (.iconst 1, 1) := by decide +kernel
theorem dL_acts_108 : decode cL_acts 108 = .ok (.iand, 1) := by decide +kernel
theorem dL_acts_109 : decode cL_acts 109 = .ok (.ifCond .eq 14, 3) := by decide +kernel
theorem dL_acts_112 : decode cL_acts 112 = .ok (.iload 18, 2) := by decide +kernel
theorem dL_acts_114 : decode cL_acts 114 = .ok (.iconst 3, 1) := by decide +kernel
theorem dL_acts_115 : decode cL_acts 115 = .ok (.irem, 1) := by decide +kernel
theorem dL_acts_116 : decode cL_acts 116 = .ok (.iload 12, 2) := by decide +kernel
theorem dL_acts_118 : decode cL_acts 118 = .ok (.iconst 3, 1) := by decide +kernel
theorem dL_acts_119 : decode cL_acts 119 = .ok (.irem, 1) := by decide +kernel
theorem dL_acts_120 : decode cL_acts 120 = .ok (.if_icmp .ne 8, 3) := by decide +kernel
theorem dL_acts_123 : decode cL_acts 123 = .ok (.iload 18, 2) := by decide +kernel
theorem dL_acts_125 : decode cL_acts 125 = .ok (.goto 5, 3) := by decide +kernel
theorem dL_acts_128 : decode cL_acts 128 = .ok (.iload 17, 2) := by decide +kernel
theorem dL_acts_130 : decode cL_acts 130 = .ok (.istore 17, 2) := by decide +kernel
theorem dL_acts_132 : decode cL_acts 132 = .ok (.iinc 18 1, 3) := by decide +kernel
theorem dL_acts_135 : decode cL_acts 135 = .ok (.goto (-60), 3) := by decide +kernel
theorem dL_acts_138 : decode cL_acts 138 = .ok (.iload 11, 2) := by decide +kernel
theorem dL_acts_140 : decode cL_acts 140 = .ok (.bipush 6, 2) := by decide +kernel
theorem dL_acts_142 : decode cL_acts 142 = .ok (.if_icmp .ge 271, 3) := by decide +kernel
theorem dL_acts_145 : decode cL_acts 145 = .ok (.aload 10, 2) := by decide +kernel
theorem dL_acts_147 : decode cL_acts 147 = .ok (.iconst 0, 1) := by decide +kernel
theorem dL_acts_148 : decode cL_acts 148 = .ok (.iaload, 1) := by decide +kernel
theorem dL_acts_149 : decode cL_acts 149 = .ok (.bipush 24, 2) := by decide +kernel
theorem dL_acts_151 : decode cL_acts 151 = .ok (.if_icmp .ge 262, 3) := by decide +kernel
theorem dL_acts_154 : decode cL_acts 154 = .ok (.iload 12, 2) := by decide +kernel
theorem dL_acts_156 : decode cL_acts 156 = .ok (.sipush 900, 3) := by decide +kernel
theorem dL_acts_159 : decode cL_acts 159 = .ok (.idiv, 1) := by decide +kernel
theorem dL_acts_160 : decode cL_acts 160 = .ok (.bipush 6, 2) := by decide +kernel
theorem dL_acts_162 : decode cL_acts 162 = .ok (.irem, 1) := by decide +kernel
theorem dL_acts_163 : decode cL_acts 163 = .ok (.istore 18, 2) := by decide +kernel
theorem dL_acts_165 : decode cL_acts 165 = .ok (.iload 16, 2) := by decide +kernel
theorem dL_acts_167 : decode cL_acts 167 = .ok (.ifCond .ne 15, 3) := by decide +kernel
theorem dL_acts_170 : decode cL_acts 170 = .ok (.iload 12, 2) := by decide +kernel
theorem dL_acts_172 : decode cL_acts 172 = .ok (.bipush 7, 2) := by decide +kernel
theorem dL_acts_174 : decode cL_acts 174 = .ok (.irem, 1) := by decide +kernel
theorem dL_acts_175 : decode cL_acts 175 = .ok (.ifCond .le 7, 3) := by decide +kernel
theorem dL_acts_178 : decode cL_acts 178 = .ok (.iconst 1, 1) := by decide +kernel
theorem dL_acts_179 : decode cL_acts 179 = .ok (.goto 4, 3) := by decide +kernel
theorem dL_acts_182 : decode cL_acts 182 = .ok (.iconst 0, 1) := by decide +kernel
theorem dL_acts_183 : decode cL_acts 183 = .ok (.istore 19, 2) := by decide +kernel
theorem dL_acts_185 : decode cL_acts 185 = .ok (.iload 19, 2) := by decide +kernel
theorem dL_acts_187 : decode cL_acts 187 = .ok (.ifCond .ne 21, 3) := by decide +kernel
theorem dL_acts_190 : decode cL_acts 190 = .ok (.aload 10, 2) := by decide +kernel
theorem dL_acts_192 : decode cL_acts 192 = .ok (.iconst 0, 1) := by decide +kernel
theorem dL_acts_193 : decode cL_acts 193 = .ok (.iaload, 1) := by decide +kernel
theorem dL_acts_194 : decode cL_acts 194 = .ok (.ifCond .le 18, 3) := by decide +kernel
theorem dL_acts_197 : decode cL_acts 197 = .ok (.iload 16, 2) := by decide +kernel
theorem dL_acts_199 : decode cL_acts 199 = .ok (.iload 17, 2) := by decide +kernel
theorem dL_acts_201 : decode cL_acts 201 = .ok (.ishr, 1) := by decide +kernel
theorem dL_acts_202 : decode cL_acts 202 = .ok (.iconst 1, 1) := by decide +kernel
theorem dL_acts_203 : decode cL_acts 203 = .ok (.iand, 1) := by decide +kernel
theorem dL_acts_204 : decode cL_acts 204 = .ok (.iconst 1, 1) := by decide +kernel
theorem dL_acts_205 : decode cL_acts 205 = .ok (.if_icmp .ne 7, 3) := by decide +kernel
theorem dL_acts_208 : decode cL_acts 208 = .ok (.iconst 1, 1) := by decide +kernel
theorem dL_acts_209 : decode cL_acts 209 = .ok (.goto 4, 3) := by decide +kernel
theorem dL_acts_212 : decode cL_acts 212 = .ok (.iconst 0, 1) := by decide +kernel
theorem dL_acts_213 : decode cL_acts 213 = .ok (.istore 20, 2) := by decide +kernel
theorem dL_acts_215 : decode cL_acts 215 = .ok (.aload 10, 2) := by decide +kernel
theorem dL_acts_217 : decode cL_acts 217 = .ok (.iconst 0, 1) := by decide +kernel
theorem dL_acts_218 : decode cL_acts 218 = .ok (.iaload, 1) := by decide +kernel
theorem dL_acts_219 : decode cL_acts 219 = .ok (.ifCond .ne 10, 3) := by decide +kernel
theorem dL_acts_222 : decode cL_acts 222 = .ok (.iload 19, 2) := by decide +kernel
theorem dL_acts_224 : decode cL_acts 224 = .ok (.ifCond .ne 5, 3) := by decide +kernel
theorem dL_acts_227 : decode cL_acts 227 = .ok (.iconst 1, 1) := by decide +kernel
theorem dL_acts_228 : decode cL_acts 228 = .ok (.ireturn, 1) := by decide +kernel
theorem dL_acts_229 : decode cL_acts 229 = .ok (.iload 11, 2) := by decide +kernel
theorem dL_acts_231 : decode cL_acts 231 = .ok (.iconst 5, 1) := by decide +kernel
theorem dL_acts_232 : decode cL_acts 232 = .ok (.if_icmp .ne 81, 3) := by decide +kernel
theorem dL_acts_235 : decode cL_acts 235 = .ok (.iload 19, 2) := by decide +kernel
theorem dL_acts_237 : decode cL_acts 237 = .ok (.ifCond .ne 76, 3) := by decide +kernel
theorem dL_acts_240 : decode cL_acts 240 = .ok (.iload 20, 2) := by decide +kernel
theorem dL_acts_242 : decode cL_acts 242 = .ok (.ifCond .eq 14, 3) := by decide +kernel
theorem dL_acts_245 : decode cL_acts 245 = .ok (.aload_n 2, 1) := by decide +kernel
theorem dL_acts_246 : decode cL_acts 246 = .ok (.iload 17, 2) := by decide +kernel
theorem dL_acts_248 : decode cL_acts 248 = .ok (.iaload, 1) := by decide +kernel
theorem dL_acts_249 : decode cL_acts 249 = .ok (.ifCond .lt 7, 3) := by decide +kernel
theorem dL_acts_252 : decode cL_acts 252 = .ok (.iconst 1, 1) := by decide +kernel
theorem dL_acts_253 : decode cL_acts 253 = .ok (.goto 4, 3) := by decide +kernel
theorem dL_acts_256 : decode cL_acts 256 = .ok (.iconst 0, 1) := by decide +kernel
theorem dL_acts_257 : decode cL_acts 257 = .ok (.istore 20, 2) := by decide +kernel
theorem dL_acts_259 : decode cL_acts 259 = .ok (.aload_n 0, 1) := by decide +kernel
theorem dL_acts_260 : decode cL_acts 260 = .ok (.iload 13, 2) := by decide +kernel
theorem dL_acts_262 : decode cL_acts 262 = .ok (.iload 14, 2) := by decide +kernel
theorem dL_acts_264 : decode cL_acts 264 = .ok (.iload 17, 2) := by decide +kernel
theorem dL_acts_266 : decode cL_acts 266 = .ok (.invokestatic 112, 3) := by decide +kernel
theorem dL_acts_269 : decode cL_acts 269 = .ok (.iload 20, 2) := by decide +kernel
theorem dL_acts_271 : decode cL_acts 271 = .ok (.ifCond .eq 31, 3) := by decide +kernel
theorem dL_acts_274 : decode cL_acts 274 = .ok (.aload_n 1, 1) := by decide +kernel
theorem dL_acts_275 : decode cL_acts 275 = .ok (.aload_n 2, 1) := by decide +kernel
theorem dL_acts_276 : decode cL_acts 276 = .ok (.aload_n 3, 1) := by decide +kernel
theorem dL_acts_277 : decode cL_acts 277 = .ok (.aload 4, 2) := by decide +kernel
theorem dL_acts_279 : decode cL_acts 279 = .ok (.aload 5, 2) := by decide +kernel
theorem dL_acts_281 : decode cL_acts 281 = .ok (.aload 6, 2) := by decide +kernel
theorem dL_acts_283 : decode cL_acts 283 = .ok (.aload 7, 2) := by decide +kernel
theorem dL_acts_285 : decode cL_acts 285 = .ok (.aload 8, 2) := by decide +kernel
theorem dL_acts_287 : decode cL_acts 287 = .ok (.aload 10, 2) := by decide +kernel
theorem dL_acts_289 : decode cL_acts 289 = .ok (.iload 13, 2) := by decide +kernel
theorem dL_acts_291 : decode cL_acts 291 = .ok (.iload 14, 2) := by decide +kernel
theorem dL_acts_293 : decode cL_acts 293 = .ok (.iload 17, 2) := by decide +kernel
theorem dL_acts_295 : decode cL_acts 295 = .ok (.iconst (-1), 1) := by decide +kernel
theorem dL_acts_296 : decode cL_acts 296 = .ok (.invokestatic 116, 3) := by decide +kernel
theorem dL_acts_299 : decode cL_acts 299 = .ok (.goto 5, 3) := by decide +kernel
theorem dL_acts_302 : decode cL_acts 302 = .ok (.bipush (-2), 2) := by decide +kernel
theorem dL_acts_304 : decode cL_acts 304 = .ok (.if_icmp .ne 7, 3) := by decide +kernel
theorem dL_acts_307 : decode cL_acts 307 = .ok (.iconst 1, 1) := by decide +kernel
theorem dL_acts_308 : decode cL_acts 308 = .ok (.goto 4, 3) := by decide +kernel
theorem dL_acts_311 : decode cL_acts 311 = .ok (.iconst 0, 1) := by decide +kernel
theorem dL_acts_312 : decode cL_acts 312 = .ok (.ireturn, 1) := by decide +kernel
theorem dL_acts_313 : decode cL_acts 313 = .ok (.aload_n 0, 1) := by decide +kernel
theorem dL_acts_314 : decode cL_acts 314 = .ok (.iload 13, 2) := by decide +kernel
theorem dL_acts_316 : decode cL_acts 316 = .ok (.iload 14, 2) := by decide +kernel
theorem dL_acts_318 : decode cL_acts 318 = .ok (.iload 19, 2) := by decide +kernel
theorem dL_acts_320 : decode cL_acts 320 = .ok (.ifCond .eq 7, 3) := by decide +kernel
theorem dL_acts_323 : decode cL_acts 323 = .ok (.iconst (-1), 1) := by decide +kernel
theorem dL_acts_324 : decode cL_acts 324 = .ok (.goto 5, 3) := by decide +kernel
theorem dL_acts_327 : decode cL_acts 327 = .ok (.iload 17, 2) := by decide +kernel
theorem dL_acts_329 : decode cL_acts 329 = .ok (.iload 18, 2) := by decide +kernel
theorem dL_acts_331 : decode cL_acts 331 = .ok (.invokestatic 120, 3) := by decide +kernel
theorem dL_acts_334 : decode cL_acts 334 = .ok (.istore 21, 2) := by decide +kernel
theorem dL_acts_336 : decode cL_acts 336 = .ok (.iload 21, 2) := by decide +kernel
theorem dL_acts_338 : decode cL_acts 338 = .ok (.iload 20, 2) := by decide +kernel
theorem dL_acts_340 : decode cL_acts 340 = .ok (.ifCond .eq 41, 3) := by decide +kernel
theorem dL_acts_343 : decode cL_acts 343 = .ok (.aload_n 1, 1) := by decide +kernel
theorem dL_acts_344 : decode cL_acts 344 = .ok (.aload_n 2, 1) := by decide +kernel
theorem dL_acts_345 : decode cL_acts 345 = .ok (.aload_n 3, 1) := by decide +kernel
theorem dL_acts_346 : decode cL_acts 346 = .ok (.aload 4, 2) := by decide +kernel
theorem dL_acts_348 : decode cL_acts 348 = .ok (.aload 5, 2) := by decide +kernel
theorem dL_acts_350 : decode cL_acts 350 = .ok (.aload 6, 2) := by decide +kernel
theorem dL_acts_352 : decode cL_acts 352 = .ok (.aload 7, 2) := by decide +kernel
theorem dL_acts_354 : decode cL_acts 354 = .ok (.aload 8, 2) := by decide +kernel
theorem dL_acts_356 : decode cL_acts 356 = .ok (.aload 10, 2) := by decide +kernel
theorem dL_acts_358 : decode cL_acts 358 = .ok (.iload 13, 2) := by decide +kernel
theorem dL_acts_360 : decode cL_acts 360 = .ok (.iload 14, 2) := by decide +kernel
theorem dL_acts_362 : decode cL_acts 362 = .ok (.iload 19, 2) := by decide +kernel
theorem dL_acts_364 : decode cL_acts 364 = .ok (.ifCond .eq 7, 3) := by decide +kernel
theorem dL_acts_367 : decode cL_acts 367 = .ok (.iconst (-1), 1) := by decide +kernel
theorem dL_acts_368 : decode cL_acts 368 = .ok (.goto 5, 3) := by decide +kernel
theorem dL_acts_371 : decode cL_acts 371 = .ok (.iload 17, 2) := by decide +kernel
theorem dL_acts_373 : decode cL_acts 373 = .ok (.iload 18, 2) := by decide +kernel
theorem dL_acts_375 : decode cL_acts 375 = .ok (.invokestatic 116, 3) := by decide +kernel
theorem dL_acts_378 : decode cL_acts 378 = .ok (.goto 5, 3) := by decide +kernel
theorem dL_acts_381 : decode cL_acts 381 = .ok (.bipush (-2), 2) := by decide +kernel
theorem dL_acts_383 : decode cL_acts 383 = .ok (.if_icmp .ne 28, 3) := by decide +kernel
theorem dL_acts_386 : decode cL_acts 386 = .ok (.iload 16, 2) := by decide +kernel
theorem dL_acts_388 : decode cL_acts 388 = .ok (.ifCond .eq 19, 3) := by decide +kernel
theorem dL_acts_391 : decode cL_acts 391 = .ok (.aload_n 0, 1) := by decide +kernel
theorem dL_acts_392 : decode cL_acts 392 = .ok (.iload 13, 2) := by decide +kernel
theorem dL_acts_394 : decode cL_acts 394 = .ok (.iload 14, 2) := by decide +kernel
theorem dL_acts_396 : decode cL_acts 396 = .ok (.iconst (-1), 1) := by decide +kernel
theorem dL_acts_397 : decode cL_acts 397 = .ok (.iload 18, 2) := by decide +kernel
theorem dL_acts_399 : decode cL_acts 399 = .ok (.invokestatic 120, 3) := by decide +kernel
theorem dL_acts_402 : decode cL_acts 402 = .ok (.bipush (-2), 2) := by decide +kernel
theorem dL_acts_404 : decode cL_acts 404 = .ok (.if_icmp .ne 7, 3) := by decide +kernel
theorem dL_acts_407 : decode cL_acts 407 = .ok (.iconst 1, 1) := by decide +kernel
theorem dL_acts_408 : decode cL_acts 408 = .ok (.goto 4, 3) := by decide +kernel
theorem dL_acts_411 : decode cL_acts 411 = .ok (.iconst 0, 1) := by decide +kernel
theorem dL_acts_412 : decode cL_acts 412 = .ok (.ireturn, 1) := by decide +kernel
theorem dL_acts_413 : decode cL_acts 413 = .ok (.iload 11, 2) := by decide +kernel
theorem dL_acts_415 : decode cL_acts 415 = .ok (.bipush 10, 2) := by decide +kernel
theorem dL_acts_417 : decode cL_acts 417 = .ok (.if_icmp .ge 55, 3) := by decide +kernel
theorem dL_acts_420 : decode cL_acts 420 = .ok (.iconst 1, 1) := by decide +kernel
theorem dL_acts_421 : decode cL_acts 421 = .ok (.iload 12, 2) := by decide +kernel
theorem dL_acts_423 : decode cL_acts 423 = .ok (.bipush 30, 2) := by decide +kernel
theorem dL_acts_425 : decode cL_acts 425 = .ok (.idiv, 1) := by decide +kernel
theorem dL_acts_426 : decode cL_acts 426 = .ok (.iconst 4, 1) := by decide +kernel
theorem dL_acts_427 : decode cL_acts 427 = .ok (.irem, 1) := by decide +kernel
theorem dL_acts_428 : decode cL_acts 428 = .ok (.iadd, 1) := by decide +kernel
theorem dL_acts_429 : decode cL_acts 429 = .ok (.istore 18, 2) := by decide +kernel
theorem dL_acts_431 : decode cL_acts 431 = .ok (.aload_n 0, 1) := by decide +kernel
theorem dL_acts_432 : decode cL_acts 432 = .ok (.iload 13, 2) := by decide +kernel
theorem dL_acts_434 : decode cL_acts 434 = .ok (.iload 15, 2) := by decide +kernel
theorem dL_acts_436 : decode cL_acts 436 = .ok (.iload 18, 2) := by decide +kernel
theorem dL_acts_438 : decode cL_acts 438 = .ok (.invokevirtual 124, 3) := by decide +kernel
theorem dL_acts_441 : decode cL_acts 441 = .ok (.aload_n 1, 1) := by decide +kernel
theorem dL_acts_442 : decode cL_acts 442 = .ok (.aload 4, 2) := by decide +kernel
theorem dL_acts_444 : decode cL_acts 444 = .ok (.aload 6, 2) := by decide +kernel
theorem dL_acts_446 : decode cL_acts 446 = .ok (.aload 7, 2) := by decide +kernel
theorem dL_acts_448 : decode cL_acts 448 = .ok (.aload 8, 2) := by decide +kernel
theorem dL_acts_450 : decode cL_acts 450 = .ok (.aload 9, 2) := by decide +kernel
theorem dL_acts_452 : decode cL_acts 452 = .ok (.aload 10, 2) := by decide +kernel
theorem dL_acts_454 : decode cL_acts 454 = .ok (.iload 13, 2) := by decide +kernel
theorem dL_acts_456 : decode cL_acts 456 = .ok (.iload 15, 2) := by decide +kernel
theorem dL_acts_458 : decode cL_acts 458 = .ok (.iload 18, 2) := by decide +kernel
theorem dL_acts_460 : decode cL_acts 460 = .ok (.invokestatic 127, 3) := by decide +kernel
theorem dL_acts_463 : decode cL_acts 463 = .ok (.if_icmp .ne 7, 3) := by decide +kernel
theorem dL_acts_466 : decode cL_acts 466 = .ok (.iconst 1, 1) := by decide +kernel
theorem dL_acts_467 : decode cL_acts 467 = .ok (.goto 4, 3) := by decide +kernel
theorem dL_acts_470 : decode cL_acts 470 = .ok (.iconst 0, 1) := by decide +kernel
theorem dL_acts_471 : decode cL_acts 471 = .ok (.ireturn, 1) := by decide +kernel
theorem dL_acts_472 : decode cL_acts 472 = .ok (.iload 11, 2) := by decide +kernel
theorem dL_acts_474 : decode cL_acts 474 = .ok (.bipush 10, 2) := by decide +kernel
theorem dL_acts_476 : decode cL_acts 476 = .ok (.if_icmp .ne 54, 3) := by decide +kernel
theorem dL_acts_479 : decode cL_acts 479 = .ok (.aload 7, 2) := by decide +kernel
theorem dL_acts_481 : decode cL_acts 481 = .ok (.iconst 4, 1) := by decide +kernel
theorem dL_acts_482 : decode cL_acts 482 = .ok (.iload 13, 2) := by decide +kernel
theorem dL_acts_484 : decode cL_acts 484 = .ok (.iadd, 1) := by decide +kernel
theorem dL_acts_485 : decode cL_acts 485 = .ok (.iconst 1, 1) := by decide +kernel
theorem dL_acts_486 : decode cL_acts 486 = .ok (.iload 12, 2) := by decide +kernel
theorem dL_acts_488 : decode cL_acts 488 = .ok (.iconst 3, 1) := by decide +kernel
theorem dL_acts_489 : decode cL_acts 489 = .ok (.idiv, 1) := by decide +kernel
theorem dL_acts_490 : decode cL_acts 490 = .ok (.iconst 5, 1) := by decide +kernel
theorem dL_acts_491 : decode cL_acts 491 = .ok (.irem, 1) := by decide +kernel
theorem dL_acts_492 : decode cL_acts 492 = .ok (.iadd, 1) := by decide +kernel
theorem dL_acts_493 : decode cL_acts 493 = .ok (.iastore, 1) := by decide +kernel
theorem dL_acts_494 : decode cL_acts 494 = .ok (.aload_n 0, 1) := by decide +kernel
theorem dL_acts_495 : decode cL_acts 495 = .ok (.iload 13, 2) := by decide +kernel
theorem dL_acts_497 : decode cL_acts 497 = .ok (.aload 7, 2) := by decide +kernel
theorem dL_acts_499 : decode cL_acts 499 = .ok (.iconst 4, 1) := by decide +kernel
theorem dL_acts_500 : decode cL_acts 500 = .ok (.iload 13, 2) := by decide +kernel
theorem dL_acts_502 : decode cL_acts 502 = .ok (.iadd, 1) := by decide +kernel
theorem dL_acts_503 : decode cL_acts 503 = .ok (.iaload, 1) := by decide +kernel
theorem dL_acts_504 : decode cL_acts 504 = .ok (.invokevirtual 130, 3) := by decide +kernel
theorem dL_acts_507 : decode cL_acts 507 = .ok (.aload_n 1, 1) := by decide +kernel
theorem dL_acts_508 : decode cL_acts 508 = .ok (.aload 4, 2) := by decide +kernel
theorem dL_acts_510 : decode cL_acts 510 = .ok (.aload 6, 2) := by decide +kernel
theorem dL_acts_512 : decode cL_acts 512 = .ok (.aload 7, 2) := by decide +kernel
theorem dL_acts_514 : decode cL_acts 514 = .ok (.aload 10, 2) := by decide +kernel
theorem dL_acts_516 : decode cL_acts 516 = .ok (.iload 13, 2) := by decide +kernel
theorem dL_acts_518 : decode cL_acts 518 = .ok (.invokestatic 31, 3) := by decide +kernel
theorem dL_acts_521 : decode cL_acts 521 = .ok (.if_icmp .ne 7, 3) := by decide +kernel
theorem dL_acts_524 : decode cL_acts 524 = .ok (.iconst 1, 1) := by decide +kernel
theorem dL_acts_525 : decode cL_acts 525 = .ok (.goto 4, 3) := by decide +kernel
theorem dL_acts_528 : decode cL_acts 528 = .ok (.iconst 0, 1) := by decide +kernel
theorem dL_acts_529 : decode cL_acts 529 = .ok (.ireturn, 1) := by decide +kernel
theorem dL_acts_530 : decode cL_acts 530 = .ok (.iload 11, 2) := by decide +kernel
theorem dL_acts_532 : decode cL_acts 532 = .ok (.bipush 11, 2) := by decide +kernel
theorem dL_acts_534 : decode cL_acts 534 = .ok (.if_icmp .ne 93, 3) := by decide +kernel
theorem dL_acts_537 : decode cL_acts 537 = .ok (.iload 12, 2) := by decide +kernel
theorem dL_acts_539 : decode cL_acts 539 = .ok (.iconst 4, 1) := by decide +kernel
theorem dL_acts_540 : decode cL_acts 540 = .ok (.irem, 1) := by decide +kernel
theorem dL_acts_541 : decode cL_acts 541 = .ok (.ifCond .ne 86, 3) := by decide +kernel
theorem dL_acts_544 : decode cL_acts 544 = .ok (.aload 7, 2) := by decide +kernel
theorem dL_acts_546 : decode cL_acts 546 = .ok (.iload 13, 2) := by decide +kernel
theorem dL_acts_548 : decode cL_acts 548 = .ok (.iaload, 1) := by decide +kernel
theorem dL_acts_549 : decode cL_acts 549 = .ok (.invokestatic 23, 3) := by decide +kernel
theorem dL_acts_552 : decode cL_acts 552 = .ok (.istore 18, 2) := by decide +kernel
theorem dL_acts_554 : decode cL_acts 554 = .ok (.aload 7, 2) := by decide +kernel
theorem dL_acts_556 : decode cL_acts 556 = .ok (.iload 13, 2) := by decide +kernel
theorem dL_acts_558 : decode cL_acts 558 = .ok (.iconst 0, 1) := by decide +kernel
theorem dL_acts_559 : decode cL_acts 559 = .ok (.iastore, 1) := by decide +kernel
theorem dL_acts_560 : decode cL_acts 560 = .ok (.aload 7, 2) := by decide +kernel
theorem dL_acts_562 : decode cL_acts 562 = .ok (.bipush 8, 2) := by decide +kernel
theorem dL_acts_564 : decode cL_acts 564 = .ok (.iload 13, 2) := by decide +kernel
theorem dL_acts_566 : decode cL_acts 566 = .ok (.iadd, 1) := by decide +kernel
theorem dL_acts_567 : decode cL_acts 567 = .ok (.iconst 0, 1) := by decide +kernel
theorem dL_acts_568 : decode cL_acts 568 = .ok (.iastore, 1) := by decide +kernel
theorem dL_acts_569 : decode cL_acts 569 = .ok (.iconst 0, 1) := by decide +kernel
theorem dL_acts_570 : decode cL_acts 570 = .ok (.istore 19, 2) := by decide +kernel
theorem dL_acts_572 : decode cL_acts 572 = .ok (.iload 19, 2) := by decide +kernel
theorem dL_acts_574 : decode cL_acts 574 = .ok (.bipush 9, 2) := by decide +kernel
theorem dL_acts_576 : decode cL_acts 576 = .ok (.if_icmp .ge 34, 3) := by decide +kernel
theorem dL_acts_579 : decode cL_acts 579 = .ok (.aload 9, 2) := by decide +kernel
theorem dL_acts_581 : decode cL_acts 581 = .ok (.bipush 9, 2) := by decide +kernel
theorem dL_acts_583 : decode cL_acts 583 = .ok (.iload 13, 2) := by decide +kernel
theorem dL_acts_585 : decode cL_acts 585 = .ok (.imul, 1) := by decide +kernel
theorem dL_acts_586 : decode cL_acts 586 = .ok (.iload 19, 2) := by decide +kernel
theorem dL_acts_588 : decode cL_acts 588 = .ok (.iadd, 1) := by decide +kernel
theorem dL_acts_589 : decode cL_acts 589 = .ok (.iconst 0, 1) := by decide +kernel
theorem dL_acts_590 : decode cL_acts 590 = .ok (.iastore, 1) := by decide +kernel
theorem dL_acts_591 : decode cL_acts 591 = .ok (.aload 8, 2) := by decide +kernel
theorem dL_acts_593 : decode cL_acts 593 = .ok (.iconst 4, 1) := by decide +kernel
theorem dL_acts_594 : decode cL_acts 594 = .ok (.iload 13, 2) := by decide +kernel
theorem dL_acts_596 : decode cL_acts 596 = .ok (.imul, 1) := by decide +kernel
theorem dL_acts_597 : decode cL_acts 597 = .ok (.iload 19, 2) := by decide +kernel
theorem dL_acts_599 : decode cL_acts 599 = .ok (.iconst 4, 1) := by decide +kernel
theorem dL_acts_600 : decode cL_acts 600 = .ok (.irem, 1) := by decide +kernel
theorem dL_acts_601 : decode cL_acts 601 = .ok (.iadd, 1) := by decide +kernel
theorem dL_acts_602 : decode cL_acts 602 = .ok (.iconst 0, 1) := by decide +kernel
theorem dL_acts_603 : decode cL_acts 603 = .ok (.iastore, 1) := by decide +kernel
theorem dL_acts_604 : decode cL_acts 604 = .ok (.iinc 19 1, 3) := by decide +kernel
theorem dL_acts_607 : decode cL_acts 607 = .ok (.goto (-35), 3) := by decide +kernel
theorem dL_acts_610 : decode cL_acts 610 = .ok (.aload_n 0, 1) := by decide +kernel
theorem dL_acts_611 : decode cL_acts 611 = .ok (.iload 13, 2) := by decide +kernel
theorem dL_acts_613 : decode cL_acts 613 = .ok (.invokevirtual 133, 3) := by decide +kernel
theorem dL_acts_616 : decode cL_acts 616 = .ok (.iload 18, 2) := by decide +kernel
theorem dL_acts_618 : decode cL_acts 618 = .ok (.if_icmp .ne 7, 3) := by decide +kernel
theorem dL_acts_621 : decode cL_acts 621 = .ok (.iconst 1, 1) := by decide +kernel
theorem dL_acts_622 : decode cL_acts 622 = .ok (.goto 4, 3) := by decide +kernel
theorem dL_acts_625 : decode cL_acts 625 = .ok (.iconst 0, 1) := by decide +kernel
theorem dL_acts_626 : decode cL_acts 626 = .ok (.ireturn, 1) := by decide +kernel
theorem dL_acts_627 : decode cL_acts 627 = .ok (.iconst 1, 1) := by decide +kernel
theorem dL_acts_628 : decode cL_acts 628 = .ok (.ireturn, 1) := by decide +kernel
set_option maxRecDepth 20000 in
theorem ggL_holds_X3_init : GoodIn wsL_holds wsX3_init := goodIn_r _ [8, 9, 10, 11, 12, 13, 14, 15, 16, 17, 18, 19, 20, 21, 22, 23, 24, 25, 26, 4, 27, 28, 29, 30, 31, 32, 33, 34, 35, 36, 37, 38, 39, 40, 41, 42, 43, 44, 45, 46, 47, 48, 49, 50, 51, 52, 53, 54, 55, 353, 354, 355, 356, 357, 358, 359, 350, 351, 352, 360, 361, 362, 363, 364, 365, 366, 367] (by decide +kernel) (by decide +kernel)
set_option maxRecDepth 20000 in
theorem gL_holds_X3_init : GoodIn wsL_holds (wsX3_init) := ggL_holds_X3_init
set_option maxRecDepth 20000 in
theorem ggL_holds_L_from : GoodIn wsL_holds wsL_from := goodIn_r _ [59, 60, 61] (by decide +kernel) (by decide +kernel)
set_option maxRecDepth 20000 in
theorem gL_holds_L_from : GoodIn wsL_holds (va_wsS RL 137 yL_from wsL_from) := goodIn_app (goodIn_of _ (by decide +kernel)) ggL_holds_L_from
set_option maxRecDepth 20000 in
theorem ggxL_holds_L_acts : GoodIn wsL_holds wsL_acts := goodIn_ca (goodIn_ca (goodIn_ca (goodIn_td 1 (goodIn_1 64 rfl rfl (by decide +kernel)) (goodIn_td 40 (goodIn_r _ [65, 66, 58, 67, 68, 69, 70, 71, 72, 73, 74, 3, 75, 76, 77, 15, 78, 79, 80, 81, 82, 83, 17, 84, 85, 86, 87, 88, 89, 90, 91, 92, 93, 94, 95, 96, 97, 98, 20, 99] (by decide +kernel) (by decide +kernel)) (goodIn_td 40 (goodIn_r _ [39, 100, 101, 102, 103, 40, 104, 105, 106, 107, 108, 109, 110, 111, 112, 113, 114, 14, 115, 34, 27, 28, 29, 31, 116, 117, 118, 119, 32, 33, 120, 121, 122, 23, 123, 50, 124, 125, 126, 127] (by decide +kernel) (by decide +kernel)) (goodIn_td 40 (goodIn_r _ [52, 53, 51, 128, 129, 130, 131, 132, 133, 134, 135, 136, 137, 138, 139, 42, 43, 44, 45, 140, 141, 142, 143, 144, 41, 145, 146, 147, 148, 149, 150, 151, 152, 153, 154, 155, 156, 157, 158, 159] (by decide +kernel) (by decide +kernel)) (goodIn_td 40 (goodIn_r _ [160, 161, 162, 163, 164, 165, 166, 167, 168, 169, 170, 171, 172, 173, 174, 175, 176, 177, 178, 179, 180, 181, 182, 183, 184, 185, 186, 187, 188, 189, 190, 191, 192, 193, 194, 195, 196, 197, 198, 199] (by decide +kernel) (by decide +kernel)) (goodIn_td 40 (goodIn_r _ [200, 201, 202, 203, 204, 205, 206, 207, 208, 209, 210, 211, 212, 213, 214, 215, 216, 217, 218, 219, 220, 221, 222, 223, 224, 225, 226, 227, 228, 229, 230, 231, 232, 233, 234, 235, 236, 237, 238, 54] (by decide +kernel) (by decide +kernel)) (goodIn_r _ [239, 240, 241, 242, 243, 350, 351, 352, 353, 354, 355, 356, 357, 358, 359, 363, 364, 365, 366, 367, 360, 361, 362] (by decide +kernel) (by decide +kernel)))))))) (goodIn_sub (fun _ h => List.mem_cons_of_mem _ (List.mem_append_left _ (List.mem_append_left _ (List.mem_append_right _ h)))) (by decide +kernel))) (goodIn_sub (fun _ h => List.mem_cons_of_mem _ (List.mem_append_left _ (List.mem_append_right _ h))) (by decide +kernel))) (goodIn_sub (fun _ h => List.mem_cons_of_mem _ (List.mem_append_right _ h)) (by decide +kernel))
theorem ggL_holds_L_acts : GoodIn wsL_holds wsL_acts := ggxL_holds_L_acts
set_option maxRecDepth 20000 in
theorem gL_holds_L_acts : GoodIn wsL_holds (va_wsS RL 141 yL_acts wsL_acts) := goodIn_app (goodIn_of _ (by decide +kernel)) ggL_holds_L_acts
set_option maxRecDepth 20000 in
theorem ggL_holds_L_areRevisions : GoodIn wsL_holds wsL_areRevisions := goodIn_ca (goodIn_r _ [246, 247, 248, 249, 3, 250, 15, 88, 89, 90, 91, 82, 83, 251, 252, 253, 254, 255, 256, 257, 258, 259, 260, 261, 262, 263, 264, 265, 266, 350, 351, 352, 353, 354, 355, 356, 357, 358, 359] (by decide +kernel) (by decide +kernel)) (goodIn_sub (fun _ h => List.mem_cons_of_mem _ (List.mem_append_left _ (List.mem_append_right _ h))) (by decide +kernel))
set_option maxRecDepth 20000 in
theorem gL_holds_L_areRevisions : GoodIn wsL_holds (va_wsS RL 145 yL_areRevisions wsL_areRevisions) := goodIn_app (goodIn_of _ (by decide +kernel)) ggL_holds_L_areRevisions
set_option maxRecDepth 20000 in
theorem ggxL_holds_L_areStores : GoodIn wsL_holds wsL_areStores := goodIn_ca (goodIn_ca (goodIn_td 1 (goodIn_1 269 rfl rfl (by decide +kernel)) (goodIn_td 20 (goodIn_r _ [270, 271, 272, 3, 273, 15, 274, 275, 276, 277, 78, 79, 80, 81, 82, 83, 17, 278, 279, 280] (by decide +kernel) (by decide +kernel)) (goodIn_td 1 (goodIn_1 281 rfl rfl (by decide +kernel)) (goodIn_td 40 (goodIn_r _ [231, 232, 233, 20, 234, 39, 165, 166, 58, 167, 65, 66, 67, 282, 283, 284, 285, 286, 287, 288, 289, 290, 291, 88, 89, 90, 91, 96, 97, 98, 99, 100, 101, 102, 103, 40, 292, 293, 294, 295] (by decide +kernel) (by decide +kernel)) (goodIn_td 28 (goodIn_r _ [296, 297, 298, 299, 84, 85, 86, 87, 300, 301, 302, 303, 304, 305, 138, 306, 307, 308, 309, 310, 140, 311, 312, 313, 314, 315, 316, 317] (by decide +kernel) (by decide +kernel)) (goodIn_td 1 (goodIn_1 318 rfl rfl (by decide +kernel)) (goodIn_td 40 (goodIn_r _ [41, 319, 320, 321, 322, 21, 323, 240, 241, 242, 324, 325, 326, 327, 328, 129, 130, 131, 132, 133, 134, 135, 136, 137, 139, 42, 43, 44, 45, 141, 142, 143, 144, 145, 146, 147, 14, 148, 31, 32] (by decide +kernel) (by decide +kernel)) (goodIn_td 40 (goodIn_r _ [33, 329, 330, 331, 332, 333, 334, 335, 336, 337, 216, 217, 218, 338, 339, 340, 341, 185, 186, 187, 188, 175, 176, 189, 190, 191, 192, 193, 194, 195, 196, 342, 343, 344, 345, 346, 347, 348, 23, 349] (by decide +kernel) (by decide +kernel)) (goodIn_r _ [53, 350, 351, 352, 353, 354, 355, 356, 357, 358, 359, 363, 364, 365, 366, 367, 360, 361, 362] (by decide +kernel) (by decide +kernel)))))))))) (goodIn_sub (fun _ h => List.mem_cons_of_mem _ (List.mem_append_left _ (List.mem_append_right _ h))) (by decide +kernel))) (goodIn_sub (fun _ h => List.mem_cons_of_mem _ (List.mem_append_right _ h)) (by decide +kernel))
theorem ggL_holds_L_areStores : GoodIn wsL_holds wsL_areStores := ggxL_holds_L_areStores
set_option maxRecDepth 20000 in
theorem gL_holds_L_areStores : GoodIn wsL_holds (va_wsS RL 149 yL_areStores wsL_areStores) := goodIn_app (goodIn_of _ (by decide +kernel)) ggL_holds_L_areStores
