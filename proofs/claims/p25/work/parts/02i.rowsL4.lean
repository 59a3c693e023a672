theorem dL_holds_0 : decode cL_holds 0 = .ok (.new 44, 3) := by decide +kernel
theorem dL_holds_3 : decode cL_holds 3 = .ok (.dup, 1) := by decide +kernel
theorem dL_holds_4 : decode cL_holds 4 = .ok (.invokespecial 136, 3) := by decide +kernel
theorem dL_holds_7 : decode cL_holds 7 = .ok (.astore_n 1, 1) := by decide +kernel
theorem dL_holds_8 : decode cL_holds 8 = .ok (.bipush 24, 2) := by decide +kernel
theorem dL_holds_10 : decode cL_holds 10 = .ok (.newarray .int, 2) := by decide +kernel
theorem dL_holds_12 : decode cL_holds 12 = .ok (.astore_n 2, 1) := by decide +kernel
theorem dL_holds_13 : decode cL_holds 13 = .ok (.bipush 24, 2) := by decide +kernel
theorem dL_holds_15 : decode cL_holds 15 = .ok (.newarray .int, 2) := by decide +kernel
theorem dL_holds_17 : decode cL_holds 17 = .ok (.astore_n 3, 1) := by decide +kernel
theorem dL_holds_18 : decode cL_holds 18 = .ok (.bipush 24, 2) := by decide +kernel
theorem dL_holds_20 : decode cL_holds 20 = .ok (.newarray .int, 2) := by decide +kernel
theorem dL_holds_22 : decode cL_holds 22 = .ok (.astore 4, 2) := by decide +kernel
theorem dL_holds_24 : decode cL_holds 24 = .ok (.bipush 24, 2) := by decide +kernel
theorem dL_holds_26 : decode cL_holds 26 = .ok (.newarray .int, 2) := by decide +kernel
theorem dL_holds_28 : decode cL_holds 28 = .ok (.astore 5, 2) := by decide +kernel
theorem dL_holds_30 : decode cL_holds 30 = .ok (.bipush 24, 2) := by decide +kernel
theorem dL_holds_32 : decode cL_holds 32 = .ok (.newarray .int, 2) := by decide +kernel
theorem dL_holds_34 : decode cL_holds 34 = .ok (.astore 6, 2) := by decide +kernel
theorem dL_holds_36 : decode cL_holds 36 = .ok (.bipush 24, 2) := by decide +kernel
theorem dL_holds_38 : decode cL_holds 38 = .ok (.newarray .int, 2) := by decide +kernel
theorem dL_holds_40 : decode cL_holds 40 = .ok (.astore 7, 2) := by decide +kernel
theorem dL_holds_42 : decode cL_holds 42 = .ok (.bipush 11, 2) := by decide +kernel
theorem dL_holds_44 : decode cL_holds 44 = .ok (.newarray .int, 2) := by decide +kernel
theorem dL_holds_46 : decode cL_holds 46 = .ok (.astore 8, 2) := by decide +kernel
theorem dL_holds_48 : decode cL_holds 48 = .ok (.bipush 12, 2) := by decide +kernel
theorem dL_holds_50 : decode cL_holds 50 = .ok (.newarray .int, 2) := by decide +kernel
theorem dL_holds_52 : decode cL_holds 52 = .ok (.astore 9, 2) := by decide +kernel
theorem dL_holds_54 : decode cL_holds 54 = .ok (.bipush 27, 2) := by decide +kernel
theorem dL_holds_56 : decode cL_holds 56 = .ok (.newarray .int, 2) := by decide +kernel
theorem dL_holds_58 : decode cL_holds 58 = .ok (.astore 10, 2) := by decide +kernel
theorem dL_holds_60 : decode cL_holds 60 = .ok (.iconst 1, 1) := by decide +kernel
theorem dL_holds_61 : decode cL_holds 61 = .ok (.newarray .int, 2) := by decide +kernel
theorem dL_holds_63 : decode cL_holds 63 = .ok (.astore 11, 2) := by decide +kernel
theorem dL_holds_65 : decode cL_holds 65 = .ok (.aload 8, 2) := by decide +kernel
theorem dL_holds_67 : decode cL_holds 67 = .ok (.iconst 4, 1) := by decide +kernel
theorem dL_holds_68 : decode cL_holds 68 = .ok (.bipush 20, 2) := by decide +kernel
theorem dL_holds_70 : decode cL_holds 70 = .ok (.iastore, 1) := by decide +kernel
theorem dL_holds_71 : decode cL_holds 71 = .ok (.aload 8, 2) := by decide +kernel
theorem dL_holds_73 : decode cL_holds 73 = .ok (.iconst 5, 1) := by decide +kernel
theorem dL_holds_74 : decode cL_holds 74 = .ok (.bipush 20, 2) := by decide +kernel
theorem dL_holds_76 : decode cL_holds 76 = .ok (.iastore, 1) := by decide +kernel
theorem dL_holds_77 : decode cL_holds 77 = .ok (.aload 8, 2) := by decide +kernel
theorem dL_holds_79 : decode cL_holds 79 = .ok (.bipush 6, 2) := by decide +kernel
theorem dL_holds_81 : decode cL_holds 81 = .ok (.bipush 20, 2) := by decide +kernel
theorem dL_holds_83 : decode cL_holds 83 = .ok (.iastore, 1) := by decide +kernel
theorem dL_holds_84 : decode cL_holds 84 = .ok (.iconst 1, 1) := by decide +kernel
theorem dL_holds_85 : decode cL_holds 85 = .ok (.istore 12, 2) := by decide +kernel
theorem dL_holds_87 : decode cL_holds 87 = .ok (.iconst 0, 1) := by decide +kernel
theorem dL_holds_88 : decode cL_holds 88 = .ok (.istore 13, 2) := by decide +kernel
theorem dL_holds_90 : decode cL_holds 90 = .ok (.iload 13, 2) := by decide +kernel
theorem dL_holds_92 : decode cL_holds 92 = .ok (.bipush 70, 2) := by decide +kernel
theorem dL_holds_94 : decode cL_holds 94 = .ok (.if_icmp .ge 115, 3) := by decide +kernel
theorem dL_holds_97 : decode cL_holds 97 = .ok (.iload 12, 2) := by decide +kernel
theorem dL_holds_99 : decode cL_holds 99 = .ok (.ifCond .eq 110, 3) := by decide +kernel
theorem dL_holds_102 : decode cL_holds 102 = .ok (.aload_n 1, 1) := by decide +kernel
theorem dL_holds_103 : decode cL_holds 103 = .ok (.aload_n 2, 1) := by decide +kernel
theorem dL_holds_104 : decode cL_holds 104 = .ok (.aload_n 3, 1) := by decide +kernel
theorem dL_holds_105 : decode cL_holds 105 = .ok (.aload 4, 2) := by decide +kernel
theorem dL_holds_107 : decode cL_holds 107 = .ok (.aload 5, 2) := by decide +kernel
theorem dL_holds_109 : decode cL_holds 109 = .ok (.aload 6, 2) := by decide +kernel
theorem dL_holds_111 : decode cL_holds 111 = .ok (.aload 7, 2) := by decide +kernel
theorem dL_holds_113 : decode cL_holds 113 = .ok (.aload 8, 2) := by decide +kernel
theorem dL_holds_115 : decode cL_holds 115 = .ok (.aload 9, 2) := by decide +kernel
theorem dL_holds_117 : decode cL_holds 117 = .ok (.aload 10, 2) := by decide +kernel
theorem dL_holds_119 : decode cL_holds 119 = .ok (.aload 11, 2) := by decide +kernel
theorem dL_holds_121 : decode cL_holds 121 = .ok (.aload_n 0, 1) := by decide +kernel
theorem dL_holds_122 : decode cL_holds 122 = .ok (.iconst 2, 1) := by decide +kernel
theorem dL_holds_123 : decode cL_holds 123 = .ok (.iload 13, 2) := by decide +kernel
theorem dL_holds_125 : decode cL_holds 125 = .ok (.imul, 1) := by decide +kernel
theorem dL_holds_126 : decode cL_holds 126 = .ok (.bipush 12, 2) := by decide +kernel
theorem dL_holds_128 : decode cL_holds 128 = .ok (.invokestatic 137, 3) := by decide +kernel
theorem dL_holds_131 : decode cL_holds 131 = .ok (.aload_n 0, 1) := by decide +kernel
theorem dL_holds_132 : decode cL_holds 132 = .ok (.iconst 2, 1) := by decide +kernel
theorem dL_holds_133 : decode cL_holds 133 = .ok (.iload 13, 2) := by decide +kernel
theorem dL_holds_135 : decode cL_holds 135 = .ok (.imul, 1) := by decide +kernel
theorem dL_holds_136 : decode cL_holds 136 = .ok (.iconst 1, 1) := by decide +kernel
theorem dL_holds_137 : decode cL_holds 137 = .ok (.iadd, 1) := by decide +kernel
theorem dL_holds_138 : decode cL_holds 138 = .ok (.ldc 140, 2) := by decide +kernel
theorem dL_holds_140 : decode cL_holds 140 = .ok (.invokestatic 137, 3) := by decide +kernel
theorem dL_holds_143 : decode cL_holds 143 = .ok (.invokestatic 141, 3) := by decide +kernel
theorem dL_holds_146 : decode cL_holds 146 = .ok (.ifCond .eq 54, 3) := by decide +kernel
theorem dL_holds_149 : decode cL_holds 149 = .ok (.aload_n 1, 1) := by decide +kernel
theorem dL_holds_150 : decode cL_holds 150 = .ok (.aload_n 2, 1) := by decide +kernel
theorem dL_holds_151 : decode cL_holds 151 = .ok (.aload_n 3, 1) := by decide +kernel
theorem dL_holds_152 : decode cL_holds 152 = .ok (.aload 4, 2) := by decide +kernel
theorem dL_holds_154 : decode cL_holds 154 = .ok (.aload 5, 2) := by decide +kernel
theorem dL_holds_156 : decode cL_holds 156 = .ok (.aload 6, 2) := by decide +kernel
theorem dL_holds_158 : decode cL_holds 158 = .ok (.aload 11, 2) := by decide +kernel
theorem dL_holds_160 : decode cL_holds 160 = .ok (.invokestatic 145, 3) := by decide +kernel
theorem dL_holds_163 : decode cL_holds 163 = .ok (.ifCond .eq 37, 3) := by decide +kernel
theorem dL_holds_166 : decode cL_holds 166 = .ok (.iload 13, 2) := by decide +kernel
theorem dL_holds_168 : decode cL_holds 168 = .ok (.iconst 2, 1) := by decide +kernel
theorem dL_holds_169 : decode cL_holds 169 = .ok (.irem, 1) := by decide +kernel
theorem dL_holds_170 : decode cL_holds 170 = .ok (.ifCond .eq 26, 3) := by decide +kernel
theorem dL_holds_173 : decode cL_holds 173 = .ok (.aload_n 1, 1) := by decide +kernel
theorem dL_holds_174 : decode cL_holds 174 = .ok (.aload_n 2, 1) := by decide +kernel
theorem dL_holds_175 : decode cL_holds 175 = .ok (.aload_n 3, 1) := by decide +kernel
theorem dL_holds_176 : decode cL_holds 176 = .ok (.aload 5, 2) := by decide +kernel
theorem dL_holds_178 : decode cL_holds 178 = .ok (.aload 6, 2) := by decide +kernel
theorem dL_holds_180 : decode cL_holds 180 = .ok (.aload 7, 2) := by decide +kernel
theorem dL_holds_182 : decode cL_holds 182 = .ok (.aload 8, 2) := by decide +kernel
theorem dL_holds_184 : decode cL_holds 184 = .ok (.aload 9, 2) := by decide +kernel
theorem dL_holds_186 : decode cL_holds 186 = .ok (.aload 10, 2) := by decide +kernel
theorem dL_holds_188 : decode cL_holds 188 = .ok (.aload 11, 2) := by decide +kernel
theorem dL_holds_190 : decode cL_holds 190 = .ok (.invokestatic 149, 3) := by decide +kernel
theorem dL_holds_193 : decode cL_holds 193 = .ok (.ifCond .eq 7, 3) := by decide +kernel
theorem dL_holds_196 : decode cL_holds 196 = .ok (.iconst 1, 1) := by decide +kernel
theorem dL_holds_197 : decode cL_holds 197 = .ok (.goto 4, 3) := by decide +kernel
theorem dL_holds_200 : decode cL_holds 200 = .ok (.iconst 0, 1) := by decide +kernel
theorem dL_holds_201 : decode cL_holds 201 = .ok (.istore 12, 2) := by decide +kernel
theorem dL_holds_203 : decode cL_holds 203 = .ok (.iinc 13 1, 3) := by decide +kernel
theorem dL_holds_206 : decode cL_holds 206 = .ok (.goto (-116), 3) := by decide +kernel
theorem dL_holds_209 : decode cL_holds 209 = .ok (.iload 12, 2) := by decide +kernel
theorem dL_holds_211 : decode cL_holds 211 = .ok (.ireturn, 1) := by decide +kernel
set_option maxRecDepth 20000 in
theorem ggxL_isHeld_L_holds : GoodIn wsL_isHeld wsL_holds := goodIn_ca (goodIn_ca (goodIn_ca (goodIn_td 40 (goodIn_r _ [6, 7, 8, 9, 10, 11, 12, 13, 14, 15, 16, 17, 18, 19, 20, 21, 22, 23, 24, 25, 26, 27, 28, 29, 30, 31, 32, 33, 34, 35, 36, 37, 38, 39, 40, 41, 42, 43, 44, 45] (by decide +kernel) (by decide +kernel)) (goodIn_td 24 (goodIn_r _ [46, 47, 48, 49, 50, 51, 52, 53, 54, 55, 56, 57, 58, 59, 60, 61, 62, 63, 5, 64, 65, 66, 67, 68] (by decide +kernel) (by decide +kernel)) (goodIn_td 1 (goodIn_1 69 rfl rfl (by decide +kernel)) (goodIn_td 40 (goodIn_r _ [70, 71, 72, 73, 74, 75, 76, 77, 78, 79, 80, 81, 82, 83, 84, 85, 86, 87, 88, 89, 90, 91, 92, 93, 94, 95, 96, 97, 98, 99, 100, 101, 102, 103, 104, 105, 106, 107, 108, 109] (by decide +kernel) (by decide +kernel)) (goodIn_td 40 (goodIn_r _ [110, 111, 112, 113, 114, 115, 116, 117, 118, 119, 120, 121, 122, 123, 124, 125, 126, 127, 128, 129, 130, 131, 132, 133, 134, 135, 136, 137, 138, 139, 140, 141, 142, 143, 144, 145, 146, 147, 148, 149] (by decide +kernel) (by decide +kernel)) (goodIn_td 40 (goodIn_r _ [150, 151, 152, 153, 154, 155, 156, 157, 158, 159, 160, 161, 162, 163, 164, 165, 166, 167, 168, 169, 170, 171, 172, 173, 174, 175, 176, 177, 178, 179, 180, 181, 182, 183, 184, 185, 186, 187, 188, 189] (by decide +kernel) (by decide +kernel)) (goodIn_td 40 (goodIn_r _ [190, 191, 192, 193, 194, 195, 196, 197, 198, 199, 200, 201, 202, 203, 204, 205, 206, 207, 208, 209, 210, 211, 212, 213, 214, 215, 216, 217, 218, 219, 220, 221, 222, 223, 224, 225, 226, 227, 228, 229] (by decide +kernel) (by decide +kernel)) (goodIn_td 40 (goodIn_r _ [230, 231, 232, 233, 234, 235, 236, 237, 238, 239, 240, 241, 242, 243, 244, 245, 246, 247, 248, 249, 250, 251, 252, 253, 254, 255, 256, 257, 258, 259, 260, 261, 262, 263, 264, 265, 266, 267, 268, 269] (by decide +kernel) (by decide +kernel)) (goodIn_td 1 (goodIn_r _ [270] (by decide +kernel) (by decide +kernel)) (goodIn_td 1 (goodIn_1 271 rfl rfl (by decide +kernel)) (goodIn_td 2 (goodIn_r _ [272, 273] (by decide +kernel) (by decide +kernel)) (goodIn_td 1 (goodIn_1 274 rfl rfl (by decide +kernel)) (goodIn_td 11 (goodIn_r _ [275, 276, 277, 278, 279, 280, 281, 282, 283, 284, 285] (by decide +kernel) (by decide +kernel)) (goodIn_td 1 (goodIn_1 286 rfl rfl (by decide +kernel)) (goodIn_td 36 (goodIn_r _ [287, 288, 289, 290, 291, 292, 293, 294, 295, 296, 297, 298, 299, 300, 301, 302, 303, 304, 305, 306, 307, 308, 309, 310, 311, 312, 313, 314, 315, 316, 317, 318, 319, 320, 321, 322] (by decide +kernel) (by decide +kernel)) (goodIn_td 1 (goodIn_1 323 rfl rfl (by decide +kernel)) (goodIn_td 40 (goodIn_r _ [324, 325, 326, 327, 328, 329, 330, 331, 332, 333, 334, 335, 336, 337, 338, 339, 340, 341, 342, 343, 344, 345, 346, 347, 348, 349, 350, 351, 352, 353, 354, 355, 356, 357, 358, 359, 360, 361, 362, 363] (by decide +kernel) (by decide +kernel)) (goodIn_r _ [364, 365, 366, 367, 368, 369, 370, 371, 372] (by decide +kernel) (by decide +kernel))))))))))))))))))) (goodIn_sub (fun _ h => List.mem_cons_of_mem _ (List.mem_append_left _ (List.mem_append_left _ (List.mem_append_right _ h)))) (by decide +kernel))) (goodIn_sub (fun _ h => List.mem_cons_of_mem _ (List.mem_append_left _ (List.mem_append_right _ h))) (by decide +kernel))) (goodIn_sub (fun _ h => List.mem_cons_of_mem _ (List.mem_append_right _ h)) (by decide +kernel))
theorem ggL_isHeld_L_holds : GoodIn wsL_isHeld wsL_holds := ggxL_isHeld_L_holds
set_option maxRecDepth 20000 in
theorem gL_isHeld_L_holds : GoodIn wsL_isHeld (va_wsS RL 153 yL_holds wsL_holds) := goodIn_app (goodIn_of _ (by decide +kernel)) ggL_isHeld_L_holds
theorem dL_isHeld_0 : decode cL_isHeld 0 = .ok (.aload_n 0, 1) := by decide +kernel
theorem dL_isHeld_1 : decode cL_isHeld 1 = .ok (.invokestatic 153, 3) := by decide +kernel
theorem dL_isHeld_4 : decode cL_isHeld 4 = .ok (.ireturn, 1) := by decide +kernel
theorem dL_isHeld_5 : decode cL_isHeld 5 = .ok (.astore_n 1, 1) := by decide +kernel
theorem dL_isHeld_6 : decode cL_isHeld 6 = .ok (.iconst 0, 1) := by decide +kernel
theorem dL_isHeld_7 : decode cL_isHeld 7 = .ok (.ireturn, 1) := by decide +kernel
theorem dL_isHeld_8 : decode cL_isHeld 8 = .ok (.astore_n 1, 1) := by decide +kernel
theorem dL_isHeld_9 : decode cL_isHeld 9 = .ok (.iconst 0, 1) := by decide +kernel
theorem dL_isHeld_10 : decode cL_isHeld 10 = .ok (.ireturn, 1) := by decide +kernel
theorem dL_isHeld_11 : decode cL_isHeld 11 = .ok (.astore_n 1, 1) := by decide +kernel
theorem dL_isHeld_12 : decode cL_isHeld 12 = .ok (.iconst 0, 1) := by decide +kernel
theorem dL_isHeld_13 : decode cL_isHeld 13 = .ok (.ireturn, 1) := by decide +kernel
set_option maxRecDepth 20000 in
theorem ggxL_law_L_isHeld : GoodIn wsL_law wsL_isHeld := goodIn_ca (goodIn_ca (goodIn_ca (goodIn_td 40 (goodIn_r _ [3, 4, 5, 6, 7, 2, 8, 9, 10, 11, 12, 13, 14, 15, 16, 17, 18, 19, 20, 21, 22, 23, 24, 25, 26, 27, 28, 29, 30, 31, 32, 33, 34, 35, 36, 37, 38, 39, 40, 41] (by decide +kernel) (by decide +kernel)) (goodIn_td 29 (goodIn_r _ [42, 43, 44, 45, 46, 47, 48, 49, 50, 51, 52, 53, 54, 55, 56, 57, 58, 59, 60, 61, 62, 63, 64, 65, 66, 67, 68, 69, 70] (by decide +kernel) (by decide +kernel)) (goodIn_td 1 (goodIn_1 71 rfl rfl (by decide +kernel)) (goodIn_td 40 (goodIn_r _ [72, 73, 74, 75, 76, 77, 78, 79, 80, 81, 82, 83, 84, 85, 86, 87, 88, 89, 90, 91, 92, 93, 94, 95, 96, 97, 98, 99, 100, 101, 102, 103, 104, 105, 106, 107, 108, 109, 110, 111] (by decide +kernel) (by decide +kernel)) (goodIn_td 40 (goodIn_r _ [112, 113, 114, 115, 116, 117, 118, 119, 120, 121, 122, 123, 124, 125, 126, 127, 128, 129, 130, 131, 132, 133, 134, 135, 136, 137, 138, 139, 140, 141, 142, 143, 144, 145, 146, 147, 148, 149, 150, 151] (by decide +kernel) (by decide +kernel)) (goodIn_td 40 (goodIn_r _ [152, 153, 154, 155, 156, 157, 158, 159, 160, 161, 162, 163, 164, 165, 166, 167, 168, 169, 170, 171, 172, 173, 174, 175, 176, 177, 178, 179, 180, 181, 182, 183, 184, 185, 186, 187, 188, 189, 190, 191] (by decide +kernel) (by decide +kernel)) (goodIn_td 40 (goodIn_r _ [192, 193, 194, 195, 196, 197, 198, 199, 200, 201, 202, 203, 204, 205, 206, 207, 208, 209, 210, 211, 212, 213, 214, 215, 216, 217, 218, 219, 220, 221, 222, 223, 224, 225, 226, 227, 228, 229, 230, 231] (by decide +kernel) (by decide +kernel)) (goodIn_td 40 (goodIn_r _ [232, 233, 234, 235, 236, 237, 238, 239, 240, 241, 242, 243, 244, 245, 246, 247, 248, 249, 250, 251, 252, 253, 254, 255, 256, 257, 258, 259, 260, 261, 262, 263, 264, 265, 266, 267, 268, 269, 270, 271] (by decide +kernel) (by decide +kernel)) (goodIn_td 1 (goodIn_r _ [272] (by decide +kernel) (by decide +kernel)) (goodIn_td 1 (goodIn_1 273 rfl rfl (by decide +kernel)) (goodIn_td 2 (goodIn_r _ [274, 275] (by decide +kernel) (by decide +kernel)) (goodIn_td 1 (goodIn_1 276 rfl rfl (by decide +kernel)) (goodIn_td 11 (goodIn_r _ [277, 278, 279, 280, 281, 282, 283, 284, 285, 286, 287] (by decide +kernel) (by decide +kernel)) (goodIn_td 1 (goodIn_1 288 rfl rfl (by decide +kernel)) (goodIn_td 36 (goodIn_r _ [289, 290, 291, 292, 293, 294, 295, 296, 297, 298, 299, 300, 301, 302, 303, 304, 305, 306, 307, 308, 309, 310, 311, 312, 313, 314, 315, 316, 317, 318, 319, 320, 321, 322, 323, 324] (by decide +kernel) (by decide +kernel)) (goodIn_td 1 (goodIn_1 325 rfl rfl (by decide +kernel)) (goodIn_td 40 (goodIn_r _ [326, 327, 328, 329, 330, 331, 332, 333, 334, 335, 336, 337, 338, 339, 340, 341, 342, 343, 344, 345, 346, 347, 348, 349, 350, 351, 352, 353, 354, 355, 356, 357, 358, 359, 360, 361, 362, 363, 364, 365] (by decide +kernel) (by decide +kernel)) (goodIn_r _ [366, 367, 368, 369, 370, 371, 372, 373, 374] (by decide +kernel) (by decide +kernel))))))))))))))))))) (goodIn_sub (fun _ h => List.mem_append_left _ (List.mem_append_left _ (List.mem_append_right _ h))) (by decide +kernel))) (goodIn_sub (fun _ h => List.mem_append_left _ (List.mem_append_right _ h)) (by decide +kernel))) (goodIn_sub (fun _ h => List.mem_append_right _ h) (by decide +kernel))
theorem ggL_law_L_isHeld : GoodIn wsL_law wsL_isHeld := ggxL_law_L_isHeld
set_option maxRecDepth 20000 in
theorem gL_law_L_isHeld : GoodIn wsL_law (va_wsS RL 161 yL_isHeld wsL_isHeld) := goodIn_app (goodIn_of _ (by decide +kernel)) ggL_law_L_isHeld
theorem dL_law_0 : decode cL_law 0 = .ok (.aload_n 0, 1) := by decide +kernel
theorem dL_law_1 : decode cL_law 1 = .ok (.invokestatic 161, 3) := by decide +kernel
theorem dL_law_4 : decode cL_law 4 = .ok (.ireturn, 1) := by decide +kernel
abbrev vwCl : List vw_C := [(RX0, TX0, 3), (RX1, TX1, 5), (RX2, TX2, 7), (RX3, TX3, 3)]
