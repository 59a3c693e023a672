theorem mem_r {big : List Cond} (ws : List Cond) (ps : List Nat) (hp : ws = ps.filterMap (fun i => big[i]?)) : ∀ w ∈ ws, w ∈ big := by
  intro w hw
  rw [hp] at hw
  obtain ⟨i, -, hi⟩ := List.mem_filterMap.mp hw
  exact List.mem_of_getElem? hi
theorem mem_app {big a b : List Cond} (ha : ∀ w ∈ a, w ∈ big) (hb : ∀ w ∈ b, w ∈ big) : ∀ w ∈ a ++ b, w ∈ big := fun w h => (List.mem_append.mp h).elim (ha w) (hb w)
set_option maxRecDepth 20000 in
theorem wsL_law0_p1 : ∀ w ∈ wsL_law0_r1, w ∈ lw_tbl := mem_r _ [47, 48, 34, 568, 569, 39, 791, 49, 50, 51, 52, 53, 54, 55, 56, 35, 151, 99, 152, 101, 102, 36, 153, 123] (by decide +kernel)
set_option maxRecDepth 20000 in
theorem wsL_law0_p2 : ∀ w ∈ wsL_law0_r2, w ∈ lw_tbl := mem_r _ [38, 58, 59, 60, 97, 61, 65, 68, 98, 71, 74, 77, 79, 103, 104, 105, 106, 110, 113, 114, 107, 108, 37, 109] (by decide +kernel)
set_option maxRecDepth 20000 in
theorem wsL_law0_p3 : ∀ w ∈ wsL_law0_r3, w ∈ lw_tbl := mem_r _ [125, 126, 127, 128, 130, 132, 134, 136, 138, 129, 570, 571, 572, 573, 574, 575, 576, 577, 578, 579, 581, 582, 583, 584] (by decide +kernel)
set_option maxRecDepth 20000 in
theorem wsL_law0_p4 : ∀ w ∈ wsL_law0_r4, w ∈ lw_tbl := mem_r _ [585, 165, 166, 33, 167, 168, 169, 170, 171, 172, 173, 174, 257, 44, 175, 177, 0, 178, 179, 43, 247, 249, 2, 250] (by decide +kernel)
set_option maxRecDepth 20000 in
theorem wsL_law0_p5 : ∀ w ∈ wsL_law0_r5, w ∈ lw_tbl := mem_r _ [252, 254, 3, 255, 273, 275, 4, 276, 277, 45, 293, 295, 5, 296, 297, 298, 299, 300, 301, 302, 303, 304, 306, 308] (by decide +kernel)
set_option maxRecDepth 20000 in
theorem wsL_law0_p6 : ∀ w ∈ wsL_law0_r6, w ∈ lw_tbl := mem_r _ [6, 309, 311, 313, 7, 314, 315, 316, 317, 318, 319, 320, 321, 322, 323, 324, 325, 326, 327, 329, 8, 330, 331, 332] (by decide +kernel)
set_option maxRecDepth 20000 in
theorem wsL_law0_p7 : ∀ w ∈ wsL_law0_r7, w ∈ lw_tbl := mem_r _ [333, 334, 335, 337, 9, 338, 340, 341, 46, 342, 339, 343, 345, 10, 346, 347, 348, 349, 350, 351, 352, 353, 354, 618] (by decide +kernel)
set_option maxRecDepth 20000 in
theorem wsL_law0_p8 : ∀ w ∈ wsL_law0_r8, w ∈ lw_tbl := mem_r _ [619, 620, 621, 622, 623, 624, 625, 626, 627, 628, 629, 630, 631, 633, 14, 634, 580, 635, 637, 15, 638, 639, 641, 16] (by decide +kernel)
set_option maxRecDepth 20000 in
theorem wsL_law0_p9 : ∀ w ∈ wsL_law0_r9, w ∈ lw_tbl := mem_r _ [642, 643, 645, 17, 646, 647, 649, 18, 650, 651, 653, 19, 654, 655, 657, 20, 658, 659, 661, 21, 662, 586, 663, 665] (by decide +kernel)
set_option maxRecDepth 20000 in
theorem wsL_law0_p10 : ∀ w ∈ wsL_law0_r10, w ∈ lw_tbl := mem_r _ [22, 666, 667, 669, 23, 670, 671, 673, 24, 674, 675, 677, 25, 678, 679, 681, 26, 682, 614, 615, 616, 617, 355, 356] (by decide +kernel)
set_option maxRecDepth 20000 in
theorem wsL_law0_p11 : ∀ w ∈ wsL_law0_r11, w ∈ lw_tbl := mem_r _ [357, 358, 359, 360, 361, 683, 684, 685, 686, 363, 364, 365, 366, 367, 368, 369, 371, 687, 688, 689, 690, 372, 373, 374] (by decide +kernel)
set_option maxRecDepth 20000 in
theorem wsL_law0_p12 : ∀ w ∈ wsL_law0_r12, w ∈ lw_tbl := mem_r _ [375, 376, 377, 378, 379, 380, 381, 382, 383, 384, 385, 386, 387, 388, 389, 390, 391, 691, 692, 693, 694, 392, 393, 394] (by decide +kernel)
set_option maxRecDepth 20000 in
theorem wsL_law0_p13 : ∀ w ∈ wsL_law0_r13, w ∈ lw_tbl := mem_r _ [395, 396, 397, 398, 400, 402, 11, 403, 405, 407, 12, 408, 412, 409, 410, 411, 413, 414, 415, 416, 417, 418, 419, 420] (by decide +kernel)
set_option maxRecDepth 20000 in
theorem wsL_law0_p14 : ∀ w ∈ wsL_law0_r14, w ∈ lw_tbl := mem_r _ [421, 422, 423, 424, 425, 427, 13, 428, 695, 696, 697, 698, 699, 701, 27, 702, 703, 705, 28, 706, 707, 709, 29, 710] (by decide +kernel)
set_option maxRecDepth 20000 in
theorem wsL_law0_p15 : ∀ w ∈ wsL_law0_r15, w ∈ lw_tbl := mem_r _ [429, 430, 431, 432, 433, 434, 435, 436, 437, 438, 439, 711, 712, 713, 714, 440, 441, 442, 443, 444, 445, 446, 715, 716] (by decide +kernel)
set_option maxRecDepth 20000 in
theorem wsL_law0_p16 : ∀ w ∈ wsL_law0_r16, w ∈ lw_tbl := mem_r _ [717, 718, 161, 162, 163, 164, 719, 720, 721, 722, 447, 448, 449, 450, 451, 452, 453, 723, 724, 725, 726, 454, 455, 456] (by decide +kernel)
set_option maxRecDepth 20000 in
theorem wsL_law0_p17 : ∀ w ∈ wsL_law0_r17, w ∈ lw_tbl := mem_r _ [457, 458, 459, 460, 727, 728, 729, 730, 461, 462, 463, 464, 465, 466, 467, 731, 732, 733, 734, 468, 469, 470, 471, 472] (by decide +kernel)
set_option maxRecDepth 20000 in
theorem wsL_law0_p18 : ∀ w ∈ wsL_law0_r18, w ∈ lw_tbl := mem_r _ [473, 474, 735, 736, 737, 738, 475, 476, 477, 478, 479, 480, 481, 739, 740, 741, 742, 482, 483, 484, 485, 486, 487, 488] (by decide +kernel)
set_option maxRecDepth 20000 in
theorem wsL_law0_p19 : ∀ w ∈ wsL_law0_r19, w ∈ lw_tbl := mem_r _ [743, 744, 745, 746, 489, 490, 491, 492, 493, 494, 495, 747, 748, 749, 750, 496, 497, 498, 499, 500, 501, 502, 751, 752] (by decide +kernel)
set_option maxRecDepth 20000 in
theorem wsL_law0_p20 : ∀ w ∈ wsL_law0_r20, w ∈ lw_tbl := mem_r _ [753, 754, 503, 504, 505, 506, 507, 508, 509, 755, 756, 757, 758, 510, 511, 512, 513, 514, 515, 516, 759, 760, 761, 762] (by decide +kernel)
set_option maxRecDepth 20000 in
theorem wsL_law0_p21 : ∀ w ∈ wsL_law0_r21, w ∈ lw_tbl := mem_r _ [517, 518, 519, 520, 521, 522, 523, 524, 525, 526, 527, 528, 529, 763, 764, 765, 766, 767, 769, 30, 770, 530, 531, 532] (by decide +kernel)
set_option maxRecDepth 20000 in
theorem wsL_law0_p22 : ∀ w ∈ wsL_law0_r22, w ∈ lw_tbl := mem_r _ [533, 534, 535, 536, 541, 542, 543, 537, 538, 539, 540, 771, 772, 773, 774, 544, 545, 546, 547, 548, 549, 550, 551, 552] (by decide +kernel)
set_option maxRecDepth 20000 in
theorem wsL_law0_p23 : ∀ w ∈ wsL_law0_r23, w ∈ lw_tbl := mem_r _ [553, 554, 775, 776, 777, 778, 779, 781, 31, 782, 555, 556, 557, 558, 559, 560, 561, 562, 563, 564, 565, 566, 783, 784] (by decide +kernel)
set_option maxRecDepth 20000 in
theorem wsL_law0_p24 : ∀ w ∈ wsL_law0_r24, w ∈ lw_tbl := mem_r _ [785, 786, 787, 789, 32, 790] (by decide +kernel)
theorem wsL_law0_wsX30 : ∀ w ∈ wsX30, w ∈ lw_tbl := by decide +kernel
theorem wsL_law0_wsX40 : ∀ w ∈ wsX40, w ∈ lw_tbl := by decide +kernel
theorem wsL_law0_wsX20 : ∀ w ∈ wsX20, w ∈ lw_tbl := by decide +kernel
theorem wsL_law0_wsX00 : ∀ w ∈ wsX00, w ∈ lw_tbl := by decide +kernel
theorem wsL_law0_wsX10 : ∀ w ∈ wsX10, w ∈ lw_tbl := by decide +kernel
theorem wsL_law_in0 : ∀ w ∈ wsL_law0, w ∈ lw_tbl := by
  unfold wsL_law0
  exact mem_app (mem_app (mem_app (mem_app (mem_app (mem_app (mem_app wsL_law0_p1 (mem_app wsL_law0_p2 (mem_app wsL_law0_p3 (mem_app wsL_law0_p4 (mem_app wsL_law0_p5 (mem_app wsL_law0_p6 (mem_app wsL_law0_p7 (mem_app wsL_law0_p8 (mem_app wsL_law0_p9 (mem_app wsL_law0_p10 (mem_app wsL_law0_p11 (mem_app wsL_law0_p12 (mem_app wsL_law0_p13 (mem_app wsL_law0_p14 (mem_app wsL_law0_p15 (mem_app wsL_law0_p16 (mem_app wsL_law0_p17 (mem_app wsL_law0_p18 (mem_app wsL_law0_p19 (mem_app wsL_law0_p20 (mem_app wsL_law0_p21 (mem_app wsL_law0_p22 (mem_app wsL_law0_p23 (wsL_law0_p24)))))))))))))))))))))))) wsL_law0_wsX30) wsL_law0_wsX40) wsL_law0_wsX20) wsL_law0_wsX00) wsL_law0_wsX10) (fun _ h => absurd h List.not_mem_nil)
theorem wsL_law_x0 : ∀ w ∈ (vx_atS RX3 45 "java/lang/IllegalArgumentException" ["java/lang/RuntimeException", "java/lang/Exception"]).filter goodWord, w ∈ lw_tbl := by decide +kernel
theorem wsL_law_x1 : ∀ w ∈ (vx_atS RX3 184 "java/lang/IndexOutOfBoundsException" ["java/lang/RuntimeException", "java/lang/Exception"]).filter goodWord, w ∈ lw_tbl := by decide +kernel
theorem wsL_law_x2 : ∀ w ∈ (vx_atS RX3 71 "java/lang/IllegalStateException" ["java/lang/RuntimeException", "java/lang/Exception"]).filter goodWord, w ∈ lw_tbl := by decide +kernel
theorem wsL_law_in : ∀ w ∈ wsL_law, w ∈ lw_tbl := fun w h => (List.mem_append.mp h).elim (fun h => (List.mem_append.mp h).elim (fun h => (List.mem_append.mp h).elim (fun h => wsL_law_in0 w h) (fun h => wsL_law_x0 w h)) (fun h => wsL_law_x1 w h)) (fun h => wsL_law_x2 w h)
theorem inlX0 : ∀ w ∈ wsX00, w ∈ wsL_law := fun _ h => List.mem_append_left _ (List.mem_append_left _ (List.mem_append_left _ (List.mem_append_left _ (List.mem_append_left _ (List.mem_append_right _ h)))))
theorem inX0 : ∀ w ∈ wsX00, w ∈ lw_tbl := fun w h => wsL_law_in w (inlX0 w h)
theorem inlX1 : ∀ w ∈ wsX10, w ∈ wsL_law := fun _ h => List.mem_append_left _ (List.mem_append_left _ (List.mem_append_left _ (List.mem_append_left _ (List.mem_append_right _ h))))
theorem inX1 : ∀ w ∈ wsX10, w ∈ lw_tbl := fun w h => wsL_law_in w (inlX1 w h)
theorem inlX2 : ∀ w ∈ wsX20, w ∈ wsL_law := fun _ h => List.mem_append_left _ (List.mem_append_left _ (List.mem_append_left _ (List.mem_append_left _ (List.mem_append_left _ (List.mem_append_left _ (List.mem_append_right _ h))))))
theorem inX2 : ∀ w ∈ wsX20, w ∈ lw_tbl := fun w h => wsL_law_in w (inlX2 w h)
theorem inlX3 : ∀ w ∈ wsX30, w ∈ wsL_law := fun _ h => List.mem_append_left _ (List.mem_append_left _ (List.mem_append_left _ (List.mem_append_left _ (List.mem_append_left _ (List.mem_append_left _ (List.mem_append_left _ (List.mem_append_left _ (List.mem_append_right _ h))))))))
theorem inX3 : ∀ w ∈ wsX30, w ∈ lw_tbl := fun w h => wsL_law_in w (inlX3 w h)
theorem inlX4 : ∀ w ∈ wsX40, w ∈ wsL_law := fun _ h => List.mem_append_left _ (List.mem_append_left _ (List.mem_append_left _ (List.mem_append_left _ (List.mem_append_left _ (List.mem_append_left _ (List.mem_append_left _ (List.mem_append_right _ h)))))))
theorem inX4 : ∀ w ∈ wsX40, w ∈ lw_tbl := fun w h => wsL_law_in w (inlX4 w h)
theorem inJx145de : ∀ w ∈ wsJx145de0, w ∈ lw_tbl := by decide +kernel
theorem inJ9 : ∀ w ∈ wsJ90, w ∈ lw_tbl := by decide +kernel
theorem inJ0 : ∀ w ∈ wsJ00, w ∈ lw_tbl := by decide +kernel
theorem inJ7 : ∀ w ∈ wsJ70, w ∈ lw_tbl := by decide +kernel
