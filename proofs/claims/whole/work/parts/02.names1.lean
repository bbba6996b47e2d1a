set_option maxRecDepth 20000 in
theorem wsL_law_r1_in : ∀ w ∈ wsL_law_r1, w ∈ lw_tbl := fun w h => (goodIn_r (big := lw_tbl) _ [72, 73, 64, 505, 506, 68, 74, 75, 76, 77, 78, 79, 80, 81, 65, 179, 180, 178, 181, 159, 160, 67, 182, 83] (by decide +kernel) (by decide +kernel) w h).1
set_option maxRecDepth 20000 in
theorem wsL_law_r2_in : ∀ w ∈ wsL_law_r2, w ∈ lw_tbl := fun w h => (goodIn_r (big := lw_tbl) _ [84, 85, 86, 136, 88, 66, 139, 141, 135, 143, 146, 90, 91, 92, 93, 96, 99, 102, 105, 107, 111, 115, 162, 163] (by decide +kernel) (by decide +kernel) w h).1
set_option maxRecDepth 20000 in
theorem wsL_law_r3_in : ∀ w ∈ wsL_law_r3, w ∈ lw_tbl := fun w h => (goodIn_r (big := lw_tbl) _ [164, 165, 167, 169, 507, 508, 509, 510, 511, 512, 513, 515, 516, 192, 193, 194, 195, 198, 0, 199, 202, 1, 203, 204] (by decide +kernel) (by decide +kernel) w h).1
set_option maxRecDepth 20000 in
theorem wsL_law_r4_in : ∀ w ∈ wsL_law_r4, w ∈ lw_tbl := fun w h => (goodIn_r (big := lw_tbl) _ [206, 2, 207, 533, 534, 535, 536, 537, 539, 38, 540, 541, 542, 543, 544, 546, 39, 547, 548, 549, 550, 208, 209, 210] (by decide +kernel) (by decide +kernel) w h).1
set_option maxRecDepth 20000 in
theorem wsL_law_r5_in : ∀ w ∈ wsL_law_r5, w ∈ lw_tbl := fun w h => (goodIn_r (big := lw_tbl) _ [211, 214, 3, 215, 216, 217, 218, 219, 220, 221, 224, 4, 225, 551, 552, 553, 554, 555, 557, 40, 558, 559, 560, 561] (by decide +kernel) (by decide +kernel) w h).1
set_option maxRecDepth 20000 in
theorem wsL_law_r6_in : ∀ w ∈ wsL_law_r6, w ∈ lw_tbl := fun w h => (goodIn_r (big := lw_tbl) _ [562, 563, 564, 565, 566, 567, 568, 570, 41, 571, 572, 574, 42, 575, 576, 577, 578, 226, 227, 228, 229, 579, 580, 581] (by decide +kernel) (by decide +kernel) w h).1
set_option maxRecDepth 20000 in
theorem wsL_law_r7_in : ∀ w ∈ wsL_law_r7, w ∈ lw_tbl := fun w h => (goodIn_r (big := lw_tbl) _ [582, 231, 232, 233, 234, 583, 584, 585, 586, 235, 236, 237, 238, 587, 588, 589, 590, 239, 240, 241, 242, 591, 592, 593] (by decide +kernel) (by decide +kernel) w h).1
set_option maxRecDepth 20000 in
theorem wsL_law_r8_in : ∀ w ∈ wsL_law_r8, w ∈ lw_tbl := fun w h => (goodIn_r (big := lw_tbl) _ [594, 243, 244, 245, 246, 595, 596, 597, 598, 247, 248, 249, 250, 251, 253, 5, 254, 599, 600, 601, 602, 603, 605, 43] (by decide +kernel) (by decide +kernel) w h).1
set_option maxRecDepth 20000 in
theorem wsL_law_r9_in : ∀ w ∈ wsL_law_r9, w ∈ lw_tbl := fun w h => (goodIn_r (big := lw_tbl) _ [606, 255, 256, 257, 258, 607, 608, 609, 610, 259, 260, 261, 262, 611, 612, 613, 614, 263, 264, 265, 266, 615, 616, 617] (by decide +kernel) (by decide +kernel) w h).1
set_option maxRecDepth 20000 in
theorem wsL_law_r10_in : ∀ w ∈ wsL_law_r10, w ∈ lw_tbl := fun w h => (goodIn_r (big := lw_tbl) _ [618, 267, 268, 269, 270, 619, 620, 621, 622, 271, 272, 273, 274, 623, 624, 625, 626, 275, 276, 277, 278, 627, 628, 629] (by decide +kernel) (by decide +kernel) w h).1
set_option maxRecDepth 20000 in
theorem wsL_law_r11_in : ∀ w ∈ wsL_law_r11, w ∈ lw_tbl := fun w h => (goodIn_r (big := lw_tbl) _ [630, 279, 280, 281, 282, 285, 6, 286, 287, 631, 632, 633, 634, 635, 288, 289, 290, 291, 292, 294, 7, 295, 298, 8] (by decide +kernel) (by decide +kernel) w h).1
set_option maxRecDepth 20000 in
theorem wsL_law_r12_in : ∀ w ∈ wsL_law_r12, w ∈ lw_tbl := fun w h => (goodIn_r (big := lw_tbl) _ [299, 304, 305, 69, 306, 300, 302, 9, 303, 307, 309, 10, 310, 636, 637, 638, 639, 640, 642, 44, 643, 644, 646, 45] (by decide +kernel) (by decide +kernel) w h).1
set_option maxRecDepth 20000 in
theorem wsL_law_r13_in : ∀ w ∈ wsL_law_r13, w ∈ lw_tbl := fun w h => (goodIn_r (big := lw_tbl) _ [647, 648, 650, 46, 651, 652, 654, 47, 655, 311, 312, 313, 314, 317, 11, 318, 319, 321, 12, 322, 323, 325, 13, 326] (by decide +kernel) (by decide +kernel) w h).1
set_option maxRecDepth 20000 in
theorem wsL_law_r14_in : ∀ w ∈ wsL_law_r14, w ∈ lw_tbl := fun w h => (goodIn_r (big := lw_tbl) _ [327, 329, 14, 330, 656, 657, 658, 659, 660, 662, 48, 663, 514, 664, 666, 49, 667, 668, 670, 50, 671, 331, 332, 333] (by decide +kernel) (by decide +kernel) w h).1
set_option maxRecDepth 20000 in
theorem wsL_law_r15_in : ∀ w ∈ wsL_law_r15, w ∈ lw_tbl := fun w h => (goodIn_r (big := lw_tbl) _ [334, 672, 673, 674, 675, 335, 336, 337, 338, 341, 15, 342, 343, 345, 16, 346, 676, 677, 678, 679, 680, 682, 51, 683] (by decide +kernel) (by decide +kernel) w h).1
set_option maxRecDepth 20000 in
theorem wsL_law_r16_in : ∀ w ∈ wsL_law_r16, w ∈ lw_tbl := fun w h => (goodIn_r (big := lw_tbl) _ [347, 348, 349, 350, 351, 353, 17, 354, 355, 356, 70, 357, 358, 359, 360, 363, 18, 364, 369, 365, 366, 367, 372, 19] (by decide +kernel) (by decide +kernel) w h).1
set_option maxRecDepth 20000 in
theorem wsL_law_r17_in : ∀ w ∈ wsL_law_r17, w ∈ lw_tbl := fun w h => (goodIn_r (big := lw_tbl) _ [373, 374, 375, 377, 20, 378, 684, 685, 686, 687, 688, 690, 52, 691, 692, 693, 694, 695, 697, 53, 698, 699, 700, 701] (by decide +kernel) (by decide +kernel) w h).1
set_option maxRecDepth 20000 in
theorem wsL_law_r18_in : ∀ w ∈ wsL_law_r18, w ∈ lw_tbl := fun w h => (goodIn_r (big := lw_tbl) _ [702, 704, 54, 705, 379, 380, 381, 382, 385, 21, 386, 387, 389, 22, 390, 391, 393, 23, 394, 706, 707, 708, 709, 710] (by decide +kernel) (by decide +kernel) w h).1
set_option maxRecDepth 20000 in
theorem wsL_law_r19_in : ∀ w ∈ wsL_law_r19, w ∈ lw_tbl := fun w h => (goodIn_r (big := lw_tbl) _ [712, 55, 713, 395, 396, 397, 398, 401, 24, 402, 403, 406, 25, 407, 410, 26, 411, 412, 415, 27, 416, 714, 715, 716] (by decide +kernel) (by decide +kernel) w h).1
set_option maxRecDepth 20000 in
theorem wsL_law_r20_in : ∀ w ∈ wsL_law_r20, w ∈ lw_tbl := fun w h => (goodIn_r (big := lw_tbl) _ [717, 718, 720, 56, 721, 722, 724, 57, 725, 726, 728, 58, 729, 730, 732, 59, 733, 417, 418, 419, 420, 421, 424, 28] (by decide +kernel) (by decide +kernel) w h).1
set_option maxRecDepth 20000 in
theorem wsL_law_r21_in : ∀ w ∈ wsL_law_r21, w ∈ lw_tbl := fun w h => (goodIn_r (big := lw_tbl) _ [425, 734, 735, 736, 737, 426, 427, 428, 429, 432, 29, 433, 437, 30, 438, 441, 31, 442, 443, 738, 739, 740, 741, 742] (by decide +kernel) (by decide +kernel) w h).1
set_option maxRecDepth 20000 in
theorem wsL_law_r22_in : ∀ w ∈ wsL_law_r22, w ∈ lw_tbl := fun w h => (goodIn_r (big := lw_tbl) _ [744, 60, 745, 444, 445, 446, 447, 746, 747, 748, 749, 448, 449, 450, 451, 750, 751, 752, 753, 452, 453, 454, 455, 458] (by decide +kernel) (by decide +kernel) w h).1
set_option maxRecDepth 20000 in
theorem wsL_law_r23_in : ∀ w ∈ wsL_law_r23, w ∈ lw_tbl := fun w h => (goodIn_r (big := lw_tbl) _ [32, 459, 460, 462, 461, 71, 463, 465, 33, 466, 467, 469, 34, 470, 471, 473, 35, 474, 754, 755, 756, 757, 517, 758] (by decide +kernel) (by decide +kernel) w h).1
set_option maxRecDepth 20000 in
theorem wsL_law_r24_in : ∀ w ∈ wsL_law_r24, w ∈ lw_tbl := fun w h => (goodIn_r (big := lw_tbl) _ [760, 61, 761, 762, 764, 62, 765, 475, 476, 477, 478, 766, 767, 768, 769, 479, 480, 481, 482, 770, 771, 772, 773, 483] (by decide +kernel) (by decide +kernel) w h).1
set_option maxRecDepth 20000 in
theorem wsL_law_r25_in : ∀ w ∈ wsL_law_r25, w ∈ lw_tbl := fun w h => (goodIn_r (big := lw_tbl) _ [484, 485, 486, 774, 775, 776, 777, 487, 488, 489, 490, 493, 36, 494, 500, 497, 37, 498, 499, 778, 779, 780, 781, 501] (by decide +kernel) (by decide +kernel) w h).1
set_option maxRecDepth 20000 in
theorem wsL_law_r26_in : ∀ w ∈ wsL_law_r26, w ∈ lw_tbl := fun w h => (goodIn_r (big := lw_tbl) _ [502, 503, 504, 782, 783, 784, 785] (by decide +kernel) (by decide +kernel) w h).1
set_option maxRecDepth 20000 in
theorem inX0 : ∀ w ∈ wsX00, w ∈ lw_tbl := fun w h => (goodIn_r (big := lw_tbl) _ [118, 120, 122, 124, 126, 128, 130, 132] (by decide +kernel) (by decide +kernel) w h).1
set_option maxRecDepth 20000 in
theorem inX1 : ∀ w ∈ wsX10, w ∈ lw_tbl := fun w h => (goodIn_r (big := lw_tbl) _ [171, 173, 175] (by decide +kernel) (by decide +kernel) w h).1
set_option maxRecDepth 20000 in
theorem inX2 : ∀ w ∈ wsX20, w ∈ lw_tbl := fun w h => (goodIn_r (big := lw_tbl) _ [147, 149, 151, 153, 155] (by decide +kernel) (by decide +kernel) w h).1
set_option maxRecDepth 20000 in
theorem inX3 : ∀ w ∈ wsX30, w ∈ lw_tbl := fun w h => (goodIn_r (big := lw_tbl) _ [183, 185, 187, 189] (by decide +kernel) (by decide +kernel) w h).1
set_option maxRecDepth 20000 in
theorem inX4 : ∀ w ∈ wsX40, w ∈ lw_tbl := fun w h => (goodIn_r (big := lw_tbl) _ [518, 520, 522, 524, 526, 528, 530] (by decide +kernel) (by decide +kernel) w h).1
theorem wsL_law_in : ∀ w ∈ wsL_law, w ∈ lw_tbl := (fun w h => (List.mem_append.mp h).elim ((fun w h => (List.mem_append.mp h).elim ((fun w h => (List.mem_append.mp h).elim ((fun w h => (List.mem_append.mp h).elim ((fun w h => (List.mem_append.mp h).elim ((fun w h => (List.mem_append.mp h).elim ((fun w h => (List.mem_append.mp h).elim (wsL_law_r1_in w) ((fun w h => (List.mem_append.mp h).elim (wsL_law_r2_in w) ((fun w h => (List.mem_append.mp h).elim (wsL_law_r3_in w) ((fun w h => (List.mem_append.mp h).elim (wsL_law_r4_in w) ((fun w h => (List.mem_append.mp h).elim (wsL_law_r5_in w) ((fun w h => (List.mem_append.mp h).elim (wsL_law_r6_in w) ((fun w h => (List.mem_append.mp h).elim (wsL_law_r7_in w) ((fun w h => (List.mem_append.mp h).elim (wsL_law_r8_in w) ((fun w h => (List.mem_append.mp h).elim (wsL_law_r9_in w) ((fun w h => (List.mem_append.mp h).elim (wsL_law_r10_in w) ((fun w h => (List.mem_append.mp h).elim (wsL_law_r11_in w) ((fun w h => (List.mem_append.mp h).elim (wsL_law_r12_in w) ((fun w h => (List.mem_append.mp h).elim (wsL_law_r13_in w) ((fun w h => (List.mem_append.mp h).elim (wsL_law_r14_in w) ((fun w h => (List.mem_append.mp h).elim (wsL_law_r15_in w) ((fun w h => (List.mem_append.mp h).elim (wsL_law_r16_in w) ((fun w h => (List.mem_append.mp h).elim (wsL_law_r17_in w) ((fun w h => (List.mem_append.mp h).elim (wsL_law_r18_in w) ((fun w h => (List.mem_append.mp h).elim (wsL_law_r19_in w) ((fun w h => (List.mem_append.mp h).elim (wsL_law_r20_in w) ((fun w h => (List.mem_append.mp h).elim (wsL_law_r21_in w) ((fun w h => (List.mem_append.mp h).elim (wsL_law_r22_in w) ((fun w h => (List.mem_append.mp h).elim (wsL_law_r23_in w) ((fun w h => (List.mem_append.mp h).elim (wsL_law_r24_in w) ((fun w h => (List.mem_append.mp h).elim (wsL_law_r25_in w) (wsL_law_r26_in w)) w)) w)) w)) w)) w)) w)) w)) w)) w)) w)) w)) w)) w)) w)) w)) w)) w)) w)) w)) w)) w)) w)) w)) w)) w) (inX3 w)) w) (inX4 w)) w) (inX2 w)) w) (inX1 w)) w) (inX0 w)) w) ((fun _ h => absurd h List.not_mem_nil) w))
theorem inlX0 : ∀ w ∈ wsX00, w ∈ wsL_law := fun _ h => List.mem_append_left _ (List.mem_append_right _ h)
theorem inlX1 : ∀ w ∈ wsX10, w ∈ wsL_law := fun _ h => List.mem_append_left _ (List.mem_append_left _ (List.mem_append_right _ h))
theorem inlX2 : ∀ w ∈ wsX20, w ∈ wsL_law := fun _ h => List.mem_append_left _ (List.mem_append_left _ (List.mem_append_left _ (List.mem_append_right _ h)))
theorem inlX3 : ∀ w ∈ wsX30, w ∈ wsL_law := fun _ h => List.mem_append_left _ (List.mem_append_left _ (List.mem_append_left _ (List.mem_append_left _ (List.mem_append_left _ (List.mem_append_right _ h)))))
theorem inlX4 : ∀ w ∈ wsX40, w ∈ wsL_law := fun _ h => List.mem_append_left _ (List.mem_append_left _ (List.mem_append_left _ (List.mem_append_left _ (List.mem_append_right _ h))))
theorem inJ6 : ∀ w ∈ wsJ60, w ∈ lw_tbl := by decide +kernel
theorem inJ9 : ∀ w ∈ wsJ90, w ∈ lw_tbl := by decide +kernel
theorem inJ10 : ∀ w ∈ wsJ100, w ∈ lw_tbl := by decide +kernel
