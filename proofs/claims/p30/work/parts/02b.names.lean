theorem mem_p {big : List Cond} (ws : List Cond) (ps : List Nat) (hp : ws = ps.filterMap (fun i => big[i]?)) : ∀ w ∈ ws, w ∈ big := by
  intro w hw
  rw [hp] at hw
  obtain ⟨i, -, hi⟩ := List.mem_filterMap.mp hw
  exact List.mem_of_getElem? hi
set_option maxRecDepth 20000 in
theorem in_wsL_law0_r1 : ∀ w ∈ wsL_law0_r1, w ∈ lw_tbl := mem_p _ [81, 82, 66, 928, 83, 84, 85, 86, 87, 88, 89, 90, 67, 212, 103, 104, 68, 213, 214, 177, 178, 70, 215, 196] rfl
set_option maxRecDepth 20000 in
theorem in_wsL_law0_r2 : ∀ w ∈ wsL_law0_r2, w ∈ lw_tbl := mem_p _ [197, 71, 216, 92, 93, 94, 102, 95, 106, 107, 108, 176, 120, 122, 124, 126, 128, 131, 133, 135, 109, 111, 0, 112] rfl
set_option maxRecDepth 20000 in
theorem in_wsL_law0_r3 : ∀ w ∈ wsL_law0_r3, w ∈ lw_tbl := mem_p _ [137, 139, 141, 143, 145, 146, 113, 114, 69, 115, 116, 118, 1, 119, 180, 181, 182, 183, 186, 199, 200, 201, 202, 204] rfl
set_option maxRecDepth 20000 in
theorem in_wsL_law0_r4 : ∀ w ∈ wsL_law0_r4, w ∈ lw_tbl := mem_p _ [211, 205, 829, 830, 65, 831, 832, 833, 228, 229, 230, 231, 232, 233, 234, 235, 332, 333, 236, 237, 238, 239, 240, 75] rfl
set_option maxRecDepth 20000 in
theorem in_wsL_law0_r5 : ∀ w ∈ wsL_law0_r5, w ∈ lw_tbl := mem_p _ [312, 76, 310, 3, 311, 96, 330, 4, 331, 334, 335, 336, 337, 338, 339, 340, 343, 5, 344, 345, 347, 6, 348, 349] rfl
set_option maxRecDepth 20000 in
theorem in_wsL_law0_r6 : ∀ w ∈ wsL_law0_r6, w ∈ lw_tbl := mem_p _ [351, 7, 352, 353, 355, 8, 356, 357, 359, 9, 360, 361, 363, 10, 364, 365, 367, 11, 368, 369, 370, 371, 372, 374] rfl
set_option maxRecDepth 20000 in
theorem in_wsL_law0_r7 : ∀ w ∈ wsL_law0_r7, w ∈ lw_tbl := mem_p _ [12, 375, 376, 378, 13, 379, 384, 14, 385, 188, 388, 15, 389, 393, 16, 394, 395, 397, 17, 398, 399, 401, 18, 402] rfl
set_option maxRecDepth 20000 in
theorem in_wsL_law0_r8 : ∀ w ∈ wsL_law0_r8, w ∈ lw_tbl := mem_p _ [405, 19, 406, 407, 409, 20, 410, 412, 413, 414, 416, 21, 417, 419, 420, 421, 423, 22, 424, 426, 427, 428, 430, 23] rfl
set_option maxRecDepth 20000 in
theorem in_wsL_law0_r9 : ∀ w ∈ wsL_law0_r9, w ∈ lw_tbl := mem_p _ [431, 434, 24, 435, 437, 438, 440, 441, 442, 444, 25, 445, 446, 448, 26, 449, 450, 452, 27, 453, 455, 456, 457, 458] rfl
set_option maxRecDepth 20000 in
theorem in_wsL_law0_r10 : ∀ w ∈ wsL_law0_r10, w ∈ lw_tbl := mem_p _ [459, 461, 28, 462, 463, 465, 29, 466, 467, 469, 30, 470, 471, 473, 31, 474, 477, 32, 478, 479, 481, 33, 482, 483] rfl
set_option maxRecDepth 20000 in
theorem in_wsL_law0_r11 : ∀ w ∈ wsL_law0_r11, w ∈ lw_tbl := mem_p _ [485, 34, 486, 489, 35, 490, 491, 493, 36, 494, 497, 37, 498, 500, 501, 502, 504, 38, 505, 508, 39, 509, 511, 512] rfl
set_option maxRecDepth 20000 in
theorem in_wsL_law0_r12 : ∀ w ∈ wsL_law0_r12, w ∈ lw_tbl := mem_p _ [513, 515, 40, 516, 517, 519, 41, 520, 521, 522, 524, 42, 525, 526, 528, 43, 529, 531, 532, 533, 534, 535, 536, 537] rfl
set_option maxRecDepth 20000 in
theorem in_wsL_law0_r13 : ∀ w ∈ wsL_law0_r13, w ∈ lw_tbl := mem_p _ [540, 44, 541, 544, 45, 545, 548, 46, 549, 553, 47, 554, 556, 557, 558, 559, 589, 560, 561, 562, 563, 564, 566, 48] rfl
set_option maxRecDepth 20000 in
theorem in_wsL_law0_r14 : ∀ w ∈ wsL_law0_r14, w ∈ lw_tbl := mem_p _ [567, 569, 77, 585, 590, 591, 592, 593, 594, 595, 596, 597, 598, 599, 600, 602, 603, 604, 605, 606, 607, 608, 611, 49] rfl
set_option maxRecDepth 20000 in
theorem in_wsL_law0_r15 : ∀ w ∈ wsL_law0_r15, w ∈ lw_tbl := mem_p _ [612, 614, 615, 616, 618, 619, 620, 621, 622, 623, 624, 627, 628, 629, 630, 631, 632, 633, 634, 635, 636, 637, 639, 645] rfl
set_option maxRecDepth 20000 in
theorem in_wsL_law0_r16 : ∀ w ∈ wsL_law0_r16, w ∈ lw_tbl := mem_p _ [50, 646, 187, 648, 649, 652, 51, 653, 655, 656, 657, 659, 658, 78, 661, 662, 663, 664, 665, 666, 667, 668, 670, 52] rfl
set_option maxRecDepth 20000 in
theorem in_wsL_law0_r17 : ∀ w ∈ wsL_law0_r17, w ∈ lw_tbl := mem_p _ [671, 674, 675, 676, 677, 678, 679, 680, 681, 682, 683, 684, 685, 686, 687, 691, 692, 693, 694, 695, 696, 697, 698, 701] rfl
set_option maxRecDepth 20000 in
theorem in_wsL_law0_r18 : ∀ w ∈ wsL_law0_r18, w ∈ lw_tbl := mem_p _ [702, 703, 704, 705, 706, 707, 708, 711, 712, 713, 714, 715, 716, 717, 720, 53, 721, 725, 54, 726, 727, 728, 729, 730] rfl
set_option maxRecDepth 20000 in
theorem in_wsL_law0_r19 : ∀ w ∈ wsL_law0_r19, w ∈ lw_tbl := mem_p _ [731, 732, 733, 734, 737, 55, 738, 739, 740, 741, 742, 743, 744, 745, 746, 748, 749, 750, 751, 752, 753, 754, 757, 56] rfl
set_option maxRecDepth 20000 in
theorem in_wsL_law0_r20 : ∀ w ∈ wsL_law0_r20, w ∈ lw_tbl := mem_p _ [758, 762, 57, 763, 764, 765, 766, 767, 768, 769, 770, 771, 772, 773, 774, 775, 776, 777, 780, 58, 781, 782, 783, 785] rfl
set_option maxRecDepth 20000 in
theorem in_wsL_law0_r21 : ∀ w ∈ wsL_law0_r21, w ∈ lw_tbl := mem_p _ [59, 786, 787, 789, 60, 790, 793, 61, 794, 795, 796, 797, 798, 799, 800, 801, 802, 803, 804, 808, 62, 809, 812, 813] rfl
set_option maxRecDepth 20000 in
theorem in_wsL_law0_r22 : ∀ w ∈ wsL_law0_r22, w ∈ lw_tbl := mem_p _ [814, 815, 816, 817, 818, 821, 63, 822, 826, 64, 827, 828, 907, 908, 909, 837, 838, 839, 840, 841, 842, 843, 834, 835] rfl
set_option maxRecDepth 20000 in
theorem in_wsL_law0_r23 : ∀ w ∈ wsL_law0_r23, w ∈ lw_tbl := mem_p _ [836, 883, 847, 848, 849, 850, 851, 852, 853, 854, 855, 856, 857, 858, 859, 860, 862, 865, 79, 866, 867, 868, 869, 870] rfl
set_option maxRecDepth 20000 in
theorem in_wsL_law0_r24 : ∀ w ∈ wsL_law0_r24, w ∈ lw_tbl := mem_p _ [884, 885, 886, 887, 888, 889, 890, 892, 894, 80, 895, 899, 900, 901, 910, 911, 912, 904, 905, 906, 913, 914, 915, 916] rfl
set_option maxRecDepth 20000 in
theorem in_wsL_law0_r25 : ∀ w ∈ wsL_law0_r25, w ∈ lw_tbl := mem_p _ [917, 918, 919, 920, 921, 922, 923, 924, 925, 926, 927] rfl
set_option maxRecDepth 20000 in
theorem in_wsX60 : ∀ w ∈ wsX60, w ∈ lw_tbl := mem_p _ [217, 219, 221, 223, 225] rfl
set_option maxRecDepth 20000 in
theorem in_wsX50 : ∀ w ∈ wsX50, w ∈ lw_tbl := mem_p _ [97, 99] rfl
set_option maxRecDepth 20000 in
theorem in_wsX40 : ∀ w ∈ wsX40, w ∈ lw_tbl := mem_p _ [147, 149, 151, 153, 155, 157, 159, 161, 163, 165, 167, 169, 171, 173] rfl
set_option maxRecDepth 20000 in
theorem in_wsX00 : ∀ w ∈ wsX00, w ∈ lw_tbl := mem_p _ [189, 191, 193] rfl
set_option maxRecDepth 20000 in
theorem in_wsX10 : ∀ w ∈ wsX10, w ∈ lw_tbl := mem_p _ [206, 208] rfl
theorem mem_ap {big a b : List Cond} (ha : ∀ w ∈ a, w ∈ big) (hb : ∀ w ∈ b, w ∈ big) : ∀ w ∈ a ++ b, w ∈ big := fun w h => (List.mem_append.mp h).elim (ha w) (hb w)
theorem wsL_law_in0 : ∀ w ∈ wsL_law0, w ∈ lw_tbl := (mem_ap (mem_ap (mem_ap (mem_ap (mem_ap (mem_ap (mem_ap in_wsL_law0_r1 (mem_ap in_wsL_law0_r2 (mem_ap in_wsL_law0_r3 (mem_ap in_wsL_law0_r4 (mem_ap in_wsL_law0_r5 (mem_ap in_wsL_law0_r6 (mem_ap in_wsL_law0_r7 (mem_ap in_wsL_law0_r8 (mem_ap in_wsL_law0_r9 (mem_ap in_wsL_law0_r10 (mem_ap in_wsL_law0_r11 (mem_ap in_wsL_law0_r12 (mem_ap in_wsL_law0_r13 (mem_ap in_wsL_law0_r14 (mem_ap in_wsL_law0_r15 (mem_ap in_wsL_law0_r16 (mem_ap in_wsL_law0_r17 (mem_ap in_wsL_law0_r18 (mem_ap in_wsL_law0_r19 (mem_ap in_wsL_law0_r20 (mem_ap in_wsL_law0_r21 (mem_ap in_wsL_law0_r22 (mem_ap in_wsL_law0_r23 (mem_ap in_wsL_law0_r24 in_wsL_law0_r25)))))))))))))))))))))))) in_wsX60) in_wsX50) in_wsX40) in_wsX00) in_wsX10) (fun _ h => absurd h List.not_mem_nil))
