theorem mem_r {big : List Cond} (ws : List Cond) (ps : List Nat) (hp : ws = ps.filterMap (fun i => big[i]?)) : ∀ w ∈ ws, w ∈ big := by
  intro w hw
  rw [hp] at hw
  obtain ⟨i, -, hi⟩ := List.mem_filterMap.mp hw
  exact List.mem_of_getElem? hi
theorem mem_app {big a b : List Cond} (ha : ∀ w ∈ a, w ∈ big) (hb : ∀ w ∈ b, w ∈ big) : ∀ w ∈ a ++ b, w ∈ big := fun w h => (List.mem_append.mp h).elim (ha w) (hb w)
theorem mem_td {big ws : List Cond} (k : Nat) (h1 : ∀ w ∈ ws.take k, w ∈ big) (h2 : ∀ w ∈ ws.drop k, w ∈ big) : ∀ w ∈ ws, w ∈ big := by
  intro w hw
  rw [← List.take_append_drop k ws] at hw
  exact (List.mem_append.mp hw).elim (h1 w) (h2 w)
set_option maxRecDepth 20000 in
theorem wsL_law0_p1 : ∀ w ∈ wsL_law0_r1, w ∈ lw_tbl := mem_r _ [27, 28, 14, 29, 30, 31, 33, 34, 35, 36, 37, 15, 86, 155, 38, 39, 40, 41, 42, 43, 44, 45, 16, 140] (by decide +kernel)
set_option maxRecDepth 20000 in
theorem wsL_law0_p2 : ∀ w ∈ wsL_law0_r2, w ∈ lw_tbl := mem_r _ [88, 141, 90, 91, 17, 142, 112, 19, 47, 48, 49, 50, 54, 57, 87, 60, 63, 66, 68, 92, 93, 94, 95, 99] (by decide +kernel)
set_option maxRecDepth 20000 in
theorem wsL_law0_p3a : ∀ w ∈ (wsL_law0_r3).take 23, w ∈ lw_tbl := mem_r _ [102, 103, 96, 97, 18, 98, 114, 115, 116, 117, 119, 121, 123, 125, 127, 118, 150, 151, 152, 153, 154, 156, 157] (by decide +kernel)
set_option maxRecDepth 100000 in
theorem wsL_law0_p3b : ∀ w ∈ ((wsL_law0_r3).drop 23).take 1, w ∈ lw_tbl := by
  show ∀ w ∈ [Cond.code yL_acts cL_acts 22 (some .boolean)], w ∈ lw_tbl
  intro w hw
  rw [List.mem_singleton.mp hw]
  exact List.mem_append_right _ (List.mem_of_getElem? (l := tables_1) (i := 144) rfl)
set_option maxRecDepth 20000 in
theorem wsL_law0_p3c : ∀ w ∈ ((wsL_law0_r3).drop 23).drop 1, w ∈ lw_tbl := mem_r _ [] (by decide +kernel)
theorem wsL_law0_p3 : ∀ w ∈ wsL_law0_r3, w ∈ lw_tbl := mem_td 23 wsL_law0_p3a (mem_td 1 wsL_law0_p3b wsL_law0_p3c)
set_option maxRecDepth 20000 in
theorem wsL_law0_p4 : ∀ w ∈ wsL_law0_r4, w ∈ lw_tbl := mem_r _ [159, 160, 161, 162, 163, 164, 32, 165, 166, 167, 168, 263, 24, 169, 171, 0, 172, 173, 23, 241, 243, 2, 244, 246] (by decide +kernel)
set_option maxRecDepth 20000 in
theorem wsL_law0_p5 : ∀ w ∈ wsL_law0_r5, w ∈ lw_tbl := mem_r _ [248, 3, 249, 251, 253, 4, 254, 255, 256, 257, 258, 259, 260, 261, 262, 280, 282, 5, 283, 285, 287, 6, 288, 289] (by decide +kernel)
set_option maxRecDepth 20000 in
theorem wsL_law0_p6 : ∀ w ∈ wsL_law0_r6, w ∈ lw_tbl := mem_r _ [290, 291, 292, 293, 294, 295, 296, 297, 298, 299, 300, 301, 303, 7, 304, 305, 306, 307, 308, 309, 311, 8, 312, 314] (by decide +kernel)
set_option maxRecDepth 20000 in
theorem wsL_law0_p7 : ∀ w ∈ wsL_law0_r7, w ∈ lw_tbl := mem_r _ [315, 25, 316, 313, 317, 319, 9, 320, 321, 322, 323, 324, 325, 326, 327, 328, 329, 330, 331, 332, 333, 334, 335, 336] (by decide +kernel)
set_option maxRecDepth 20000 in
theorem wsL_law0_p8 : ∀ w ∈ wsL_law0_r8, w ∈ lw_tbl := mem_r _ [337, 338, 339, 340, 341, 342, 343, 344, 345, 346, 347, 348, 349, 350, 351, 26, 367, 369, 10, 370, 372, 373, 374, 375] (by decide +kernel)
set_option maxRecDepth 20000 in
theorem wsL_law0_p9 : ∀ w ∈ wsL_law0_r9, w ∈ lw_tbl := mem_r _ [377, 379, 11, 380, 382, 384, 12, 385, 389, 386, 387, 388, 390, 391, 392, 393, 394, 395, 396, 397, 398, 399, 400, 401] (by decide +kernel)
set_option maxRecDepth 20000 in
theorem wsL_law0_p10 : ∀ w ∈ wsL_law0_r10, w ∈ lw_tbl := mem_r _ [402, 404, 13, 405, 406, 407, 408, 409, 410, 411, 412, 413, 414, 415, 416, 417, 418, 420, 421, 422, 423, 424, 425, 426] (by decide +kernel)
set_option maxRecDepth 20000 in
theorem wsL_law0_p11 : ∀ w ∈ wsL_law0_r11, w ∈ lw_tbl := mem_r _ [427, 428, 429, 430, 431, 432, 433, 434, 435, 436, 437, 438, 439, 440, 441, 442, 443, 444, 445, 446, 447, 448, 449, 450] (by decide +kernel)
set_option maxRecDepth 20000 in
theorem wsL_law0_p12a : ∀ w ∈ (wsL_law0_r12).take 12, w ∈ lw_tbl := mem_r _ [451, 452, 453, 454, 455, 456, 457, 458, 459, 460, 461, 462] (by decide +kernel)
set_option maxRecDepth 100000 in
theorem wsL_law0_p12b : ∀ w ∈ ((wsL_law0_r12).drop 12).take 1, w ∈ lw_tbl := by
  show ∀ w ∈ [Cond.code yL_areStores cL_areStores 18 (some .boolean)], w ∈ lw_tbl
  intro w hw
  rw [List.mem_singleton.mp hw]
  exact List.mem_append_right _ (List.mem_of_getElem? (l := tables_1) (i := 449) rfl)
set_option maxRecDepth 20000 in
theorem wsL_law0_p12c : ∀ w ∈ ((wsL_law0_r12).drop 12).drop 1, w ∈ lw_tbl := mem_r _ [464, 465, 466, 467, 468, 469, 470, 471, 472, 473, 474] (by decide +kernel)
theorem wsL_law0_p12 : ∀ w ∈ wsL_law0_r12, w ∈ lw_tbl := mem_td 12 wsL_law0_p12a (mem_td 1 wsL_law0_p12b wsL_law0_p12c)
set_option maxRecDepth 20000 in
theorem wsL_law0_p13 : ∀ w ∈ wsL_law0_r13, w ∈ lw_tbl := mem_r _ [475, 476, 477, 478, 479, 480, 481, 482, 483, 484, 485, 486, 487, 488, 489, 490, 491, 492, 493, 494, 495, 496, 497, 502] (by decide +kernel)
set_option maxRecDepth 20000 in
theorem wsL_law0_p14 : ∀ w ∈ wsL_law0_r14, w ∈ lw_tbl := mem_r _ [503, 504, 498, 499, 500, 501, 505, 506, 507, 508, 509, 510, 511, 512, 513, 514, 515, 516, 517, 518, 519, 520, 521, 522] (by decide +kernel)
set_option maxRecDepth 20000 in
theorem wsL_law0_p15 : ∀ w ∈ wsL_law0_r15, w ∈ lw_tbl := mem_r _ [523, 524, 525, 526, 527, 528, 529, 530, 531, 533, 534, 535, 536, 537, 538, 539, 540, 541, 542, 543, 544] (by decide +kernel)
theorem wsL_law0_wsX30 : ∀ w ∈ wsX30, w ∈ lw_tbl := by decide +kernel
theorem wsL_law0_wsX20 : ∀ w ∈ wsX20, w ∈ lw_tbl := by decide +kernel
theorem wsL_law0_wsX00 : ∀ w ∈ wsX00, w ∈ lw_tbl := by decide +kernel
theorem wsL_law0_wsX10 : ∀ w ∈ wsX10, w ∈ lw_tbl := by decide +kernel
theorem wsL_law_in0 : ∀ w ∈ wsL_law0, w ∈ lw_tbl := by
  unfold wsL_law0
  exact mem_app (mem_app (mem_app (mem_app (mem_app (mem_app wsL_law0_p1 (mem_app wsL_law0_p2 (mem_app wsL_law0_p3 (mem_app wsL_law0_p4 (mem_app wsL_law0_p5 (mem_app wsL_law0_p6 (mem_app wsL_law0_p7 (mem_app wsL_law0_p8 (mem_app wsL_law0_p9 (mem_app wsL_law0_p10 (mem_app wsL_law0_p11 (mem_app wsL_law0_p12 (mem_app wsL_law0_p13 (mem_app wsL_law0_p14 (wsL_law0_p15))))))))))))))) wsL_law0_wsX30) wsL_law0_wsX20) wsL_law0_wsX00) wsL_law0_wsX10) (fun _ h => absurd h List.not_mem_nil)
theorem wsL_law_x0 : ∀ w ∈ (vx_atS RX3 71 "java/lang/IllegalStateException" ["java/lang/RuntimeException", "java/lang/Exception"]).filter goodWord, w ∈ lw_tbl := by decide +kernel
theorem wsL_law_x1 : ∀ w ∈ (vx_atS RX3 184 "java/lang/IndexOutOfBoundsException" ["java/lang/RuntimeException", "java/lang/Exception"]).filter goodWord, w ∈ lw_tbl := by decide +kernel
theorem wsL_law_x2 : ∀ w ∈ (vx_atS RX3 45 "java/lang/IllegalArgumentException" ["java/lang/RuntimeException", "java/lang/Exception"]).filter goodWord, w ∈ lw_tbl := by decide +kernel
theorem wsL_law_in : ∀ w ∈ wsL_law, w ∈ lw_tbl := fun w h => (List.mem_append.mp h).elim (fun h => (List.mem_append.mp h).elim (fun h => (List.mem_append.mp h).elim (fun h => wsL_law_in0 w h) (fun h => wsL_law_x0 w h)) (fun h => wsL_law_x1 w h)) (fun h => wsL_law_x2 w h)
theorem inlX0 : ∀ w ∈ wsX00, w ∈ wsL_law := fun _ h => List.mem_append_left _ (List.mem_append_left _ (List.mem_append_left _ (List.mem_append_left _ (List.mem_append_left _ (List.mem_append_right _ h)))))
theorem inX0 : ∀ w ∈ wsX00, w ∈ lw_tbl := fun w h => wsL_law_in w (inlX0 w h)
theorem inlX1 : ∀ w ∈ wsX10, w ∈ wsL_law := fun _ h => List.mem_append_left _ (List.mem_append_left _ (List.mem_append_left _ (List.mem_append_left _ (List.mem_append_right _ h))))
theorem inX1 : ∀ w ∈ wsX10, w ∈ lw_tbl := fun w h => wsL_law_in w (inlX1 w h)
theorem inlX2 : ∀ w ∈ wsX20, w ∈ wsL_law := fun _ h => List.mem_append_left _ (List.mem_append_left _ (List.mem_append_left _ (List.mem_append_left _ (List.mem_append_left _ (List.mem_append_left _ (List.mem_append_right _ h))))))
theorem inX2 : ∀ w ∈ wsX20, w ∈ lw_tbl := fun w h => wsL_law_in w (inlX2 w h)
theorem inlX3 : ∀ w ∈ wsX30, w ∈ wsL_law := fun _ h => List.mem_append_left _ (List.mem_append_left _ (List.mem_append_left _ (List.mem_append_left _ (List.mem_append_left _ (List.mem_append_left _ (List.mem_append_left _ (List.mem_append_right _ h)))))))
theorem inX3 : ∀ w ∈ wsX30, w ∈ lw_tbl := fun w h => wsL_law_in w (inlX3 w h)
theorem inX4 : ∀ w ∈ wsX40, w ∈ lw_tbl := by decide +kernel
theorem inJx145de : ∀ w ∈ wsJx145de0, w ∈ lw_tbl := by decide +kernel
theorem inJ9 : ∀ w ∈ wsJ90, w ∈ lw_tbl := by decide +kernel
theorem inJ0 : ∀ w ∈ wsJ00, w ∈ lw_tbl := by decide +kernel
theorem inJ7 : ∀ w ∈ wsJ70, w ∈ lw_tbl := by decide +kernel
