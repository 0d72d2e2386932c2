theorem mem_p {big : List Cond} (ws : List Cond) (ps : List Nat) (hp : ws = ps.filterMap (fun i => big[i]?)) : ∀ w ∈ ws, w ∈ big := by
  intro w hw
  rw [hp] at hw
  obtain ⟨i, -, hi⟩ := List.mem_filterMap.mp hw
  exact List.mem_of_getElem? hi
set_option maxRecDepth 20000 in
theorem in_wsL_law0_r1 : ∀ w ∈ wsL_law0_r1, w ∈ lw_tbl := mem_p _ [94, 95, 78, 914, 915, 84, 1248, 1247, 96, 97, 98, 99, 100, 101, 102, 103, 79, 225, 116, 117, 80, 226, 227, 190] rfl
set_option maxRecDepth 20000 in
theorem in_wsL_law0_r2 : ∀ w ∈ wsL_law0_r2, w ∈ lw_tbl := mem_p _ [191, 82, 228, 209, 210, 83, 229, 105, 106, 107, 115, 108, 119, 120, 121, 189, 133, 135, 137, 139, 141, 144, 146, 148] rfl
set_option maxRecDepth 20000 in
theorem in_wsL_law0_r3 : ∀ w ∈ wsL_law0_r3, w ∈ lw_tbl := mem_p _ [122, 124, 0, 125, 150, 152, 154, 156, 158, 159, 126, 127, 81, 128, 129, 131, 1, 132, 193, 194, 195, 196, 199, 212] rfl
set_option maxRecDepth 20000 in
theorem in_wsL_law0_r4 : ∀ w ∈ wsL_law0_r4, w ∈ lw_tbl := mem_p _ [213, 214, 215, 217, 224, 218, 916, 917, 918, 919, 924, 926, 927, 928, 929, 931, 932, 920, 921, 922, 292, 293, 77, 294] rfl
set_option maxRecDepth 20000 in
theorem in_wsL_law0_r5 : ∀ w ∈ wsL_law0_r5, w ∈ lw_tbl := mem_p _ [295, 296, 297, 298, 299, 300, 301, 88, 373, 89, 371, 13, 372, 109, 391, 14, 392, 964, 965, 966, 967, 968, 925, 969] rfl
set_option maxRecDepth 20000 in
theorem in_wsL_law0_r6 : ∀ w ∈ wsL_law0_r6, w ∈ lw_tbl := mem_p _ [970, 971, 972, 974, 66, 975, 923, 960, 961, 962, 963, 241, 242, 243, 244, 247, 2, 248, 976, 977, 978, 979, 249, 250] rfl
set_option maxRecDepth 20000 in
theorem in_wsL_law0_r7 : ∀ w ∈ wsL_law0_r7, w ∈ lw_tbl := mem_p _ [251, 252, 255, 3, 256, 257, 259, 4, 260, 261, 263, 5, 264, 265, 267, 6, 268, 269, 271, 7, 272, 273, 275, 8] rfl
set_option maxRecDepth 20000 in
theorem in_wsL_law0_r8 : ∀ w ∈ wsL_law0_r8, w ∈ lw_tbl := mem_p _ [276, 277, 279, 9, 280, 281, 282, 283, 284, 286, 10, 287, 288, 290, 11, 291, 980, 981, 982, 983, 984, 986, 67, 987] rfl
set_option maxRecDepth 20000 in
theorem in_wsL_law0_r9 : ∀ w ∈ wsL_law0_r9, w ∈ lw_tbl := mem_p _ [934, 933, 988, 990, 68, 991, 992, 994, 69, 995, 996, 998, 70, 999, 1000, 1002, 71, 1003, 1004, 1005, 1006, 1007, 1008, 1009] rfl
set_option maxRecDepth 20000 in
theorem in_wsL_law0_r10 : ∀ w ∈ wsL_law0_r10, w ∈ lw_tbl := mem_p _ [1010, 1011, 1012, 1013, 1014, 1015, 1016, 1017, 1018, 1020, 72, 1021, 1022, 1023, 1024, 1025, 1026, 1027, 1028, 1029, 1030, 1031, 1032, 1033] rfl
set_option maxRecDepth 20000 in
theorem in_wsL_law0_r11 : ∀ w ∈ wsL_law0_r11, w ∈ lw_tbl := mem_p _ [1034, 1035, 1036, 1037, 1038, 1039, 1053, 1054, 1040, 1041, 1042, 1043, 1044, 1045, 1046, 1047, 1048, 1049, 1050, 1051, 1052, 1055, 1056, 1057] rfl
set_option maxRecDepth 20000 in
theorem in_wsL_law0_r12 : ∀ w ∈ wsL_law0_r12, w ∈ lw_tbl := mem_p _ [1058, 1059, 1060, 1061, 1062, 1063, 1064, 1066, 73, 1067, 1068, 1069, 1070, 1071, 1072, 1073, 1074, 1075, 1076, 1077, 1078, 1079, 1080, 1081] rfl
set_option maxRecDepth 20000 in
theorem in_wsL_law0_r13 : ∀ w ∈ wsL_law0_r13, w ∈ lw_tbl := mem_p _ [1082, 1083, 1084, 1085, 1086, 1087, 1088, 1089, 1090, 1091, 1092, 1093, 1094, 393, 394, 395, 396, 397, 398, 399, 404, 15, 405, 201] rfl
set_option maxRecDepth 20000 in
theorem in_wsL_law0_r14 : ∀ w ∈ wsL_law0_r14, w ∈ lw_tbl := mem_p _ [408, 16, 409, 413, 17, 414, 415, 417, 18, 418, 419, 421, 19, 422, 425, 20, 426, 427, 429, 21, 430, 432, 433, 434] rfl
set_option maxRecDepth 20000 in
theorem in_wsL_law0_r15 : ∀ w ∈ wsL_law0_r15, w ∈ lw_tbl := mem_p _ [436, 22, 437, 439, 440, 441, 443, 23, 444, 446, 447, 448, 450, 24, 451, 454, 25, 455, 457, 458, 460, 461, 462, 464] rfl
set_option maxRecDepth 20000 in
theorem in_wsL_law0_r16 : ∀ w ∈ wsL_law0_r16, w ∈ lw_tbl := mem_p _ [26, 465, 466, 468, 27, 469, 470, 472, 28, 473, 475, 476, 477, 478, 479, 481, 29, 482, 483, 485, 30, 486, 487, 489] rfl
set_option maxRecDepth 20000 in
theorem in_wsL_law0_r17 : ∀ w ∈ wsL_law0_r17, w ∈ lw_tbl := mem_p _ [31, 490, 491, 493, 32, 494, 497, 33, 498, 499, 501, 34, 502, 503, 505, 35, 506, 509, 36, 510, 511, 513, 37, 514] rfl
set_option maxRecDepth 20000 in
theorem in_wsL_law0_r18 : ∀ w ∈ wsL_law0_r18, w ∈ lw_tbl := mem_p _ [517, 38, 518, 520, 521, 522, 524, 39, 525, 528, 40, 529, 531, 532, 533, 535, 41, 536, 537, 539, 42, 540, 541, 542] rfl
set_option maxRecDepth 20000 in
theorem in_wsL_law0_r19 : ∀ w ∈ wsL_law0_r19, w ∈ lw_tbl := mem_p _ [544, 43, 545, 546, 548, 44, 549, 1095, 1096, 1097, 1098, 930, 1099, 1100, 1101, 551, 552, 553, 554, 555, 556, 557, 560, 45] rfl
set_option maxRecDepth 20000 in
theorem in_wsL_law0_r20 : ∀ w ∈ wsL_law0_r20, w ∈ lw_tbl := mem_p _ [561, 564, 46, 565, 568, 47, 569, 573, 48, 574, 1102, 1103, 1104, 1105, 1106, 1107, 1108, 1109, 1110, 1111, 1112, 1113, 1114, 1115] rfl
set_option maxRecDepth 20000 in
theorem in_wsL_law0_r21 : ∀ w ∈ wsL_law0_r21, w ∈ lw_tbl := mem_p _ [576, 577, 578, 579, 580, 581, 582, 583, 584, 586, 49, 587, 589, 90, 605, 1116, 1117, 1118, 1119, 1120, 609, 610, 611, 612] rfl
set_option maxRecDepth 20000 in
theorem in_wsL_law0_r22 : ∀ w ∈ wsL_law0_r22, w ∈ lw_tbl := mem_p _ [613, 614, 615, 616, 617, 618, 619, 1121, 1122, 1123, 1124, 621, 622, 623, 624, 625, 626, 627, 630, 50, 631, 633, 634, 635] rfl
set_option maxRecDepth 20000 in
theorem in_wsL_law0_r23 : ∀ w ∈ wsL_law0_r23, w ∈ lw_tbl := mem_p _ [1125, 1126, 1127, 1128, 1129, 1130, 1131, 637, 638, 639, 640, 641, 642, 643, 1132, 1133, 1134, 1135, 1136, 646, 647, 648, 649, 650] rfl
set_option maxRecDepth 20000 in
theorem in_wsL_law0_r24 : ∀ w ∈ wsL_law0_r24, w ∈ lw_tbl := mem_p _ [651, 652, 657, 51, 658, 200, 660, 661, 664, 52, 665, 667, 668, 669, 671, 670, 91, 1137, 1138, 1139, 1140, 1141, 1143, 74] rfl
set_option maxRecDepth 20000 in
theorem in_wsL_law0_r25 : ∀ w ∈ wsL_law0_r25, w ∈ lw_tbl := mem_p _ [1144, 673, 674, 675, 676, 677, 678, 679, 680, 681, 682, 683, 685, 1145, 1146, 1147, 1148, 1153, 1149, 1150, 1151, 1152, 690, 691] rfl
set_option maxRecDepth 20000 in
theorem in_wsL_law0_r26 : ∀ w ∈ wsL_law0_r26, w ∈ lw_tbl := mem_p _ [692, 693, 694, 695, 696, 697, 699, 53, 700, 1154, 1155, 1156, 1157, 703, 704, 705, 706, 707, 708, 709, 1158, 1159, 1160, 1161] rfl
set_option maxRecDepth 20000 in
theorem in_wsL_law0_r27 : ∀ w ∈ wsL_law0_r27, w ∈ lw_tbl := mem_p _ [710, 711, 712, 713, 714, 715, 716, 1162, 1163, 1164, 1165, 720, 721, 722, 723, 724, 725, 726, 727, 1166, 1167, 1168, 1169, 1170] rfl
set_option maxRecDepth 20000 in
theorem in_wsL_law0_r28 : ∀ w ∈ wsL_law0_r28, w ∈ lw_tbl := mem_p _ [730, 731, 732, 733, 734, 735, 736, 737, 1171, 1172, 1173, 1174, 1175, 1176, 1177, 1178, 1179, 740, 741, 742, 743, 744, 745, 746] rfl
set_option maxRecDepth 20000 in
theorem in_wsL_law0_r29 : ∀ w ∈ wsL_law0_r29, w ∈ lw_tbl := mem_p _ [749, 54, 750, 754, 55, 755, 756, 1180, 1181, 1182, 1183, 757, 758, 759, 760, 761, 762, 763, 766, 56, 767, 768, 1184, 1185] rfl
set_option maxRecDepth 20000 in
theorem in_wsL_law0_r30 : ∀ w ∈ wsL_law0_r30, w ∈ lw_tbl := mem_p _ [1186, 1187, 1188, 1189, 1190, 1191, 1192, 1193, 769, 770, 771, 772, 773, 774, 775, 1194, 1195, 1196, 1197, 777, 778, 779, 780, 781] rfl
set_option maxRecDepth 20000 in
theorem in_wsL_law0_r31 : ∀ w ∈ wsL_law0_r31, w ∈ lw_tbl := mem_p _ [782, 783, 786, 57, 787, 791, 58, 792, 1198, 1199, 1200, 1201, 1202, 1203, 1204, 793, 794, 795, 796, 797, 798, 799, 1205, 1206] rfl
set_option maxRecDepth 20000 in
theorem in_wsL_law0_r32 : ∀ w ∈ wsL_law0_r32, w ∈ lw_tbl := mem_p _ [1207, 1208, 800, 801, 802, 803, 804, 805, 806, 809, 59, 810, 811, 812, 814, 60, 815, 816, 818, 61, 819, 822, 62, 823] rfl
set_option maxRecDepth 20000 in
theorem in_wsL_law0_r33 : ∀ w ∈ wsL_law0_r33, w ∈ lw_tbl := mem_p _ [1209, 1210, 1211, 1212, 1213, 1215, 75, 1216, 824, 825, 826, 827, 828, 829, 830, 1217, 1218, 1219, 1220, 831, 832, 833, 834, 835] rfl
set_option maxRecDepth 20000 in
theorem in_wsL_law0_r34 : ∀ w ∈ wsL_law0_r34, w ∈ lw_tbl := mem_p _ [836, 837, 839, 842, 92, 843, 844, 845, 846, 847, 1221, 1222, 1223, 1224, 1225, 1226, 1227, 1228, 1230, 76, 1231, 860, 861, 862] rfl
set_option maxRecDepth 20000 in
theorem in_wsL_law0_r35 : ∀ w ∈ wsL_law0_r35, w ∈ lw_tbl := mem_p _ [863, 864, 865, 866, 868, 870, 93, 871, 875, 876, 877, 1232, 1233, 1234, 1235, 1236, 1237, 1238, 880, 881, 882, 883, 884, 885] rfl
set_option maxRecDepth 20000 in
theorem in_wsL_law0_r36 : ∀ w ∈ wsL_law0_r36, w ∈ lw_tbl := mem_p _ [886, 887, 888, 889, 893, 63, 894, 1239, 1240, 1241, 1242, 897, 898, 899, 900, 901, 902, 903, 906, 64, 907, 911, 65, 912] rfl
set_option maxRecDepth 20000 in
theorem in_wsL_law0_r37 : ∀ w ∈ wsL_law0_r37, w ∈ lw_tbl := mem_p _ [913, 1243, 1244, 1245, 1246] rfl
set_option maxRecDepth 20000 in
theorem in_wsX60 : ∀ w ∈ wsX60, w ∈ lw_tbl := mem_p _ [230, 232, 234, 236, 238] rfl
set_option maxRecDepth 20000 in
theorem in_wsX70 : ∀ w ∈ wsX70, w ∈ lw_tbl := mem_p _ [935, 937, 939, 941, 943, 945, 947, 949, 951, 953, 955, 957] rfl
set_option maxRecDepth 20000 in
theorem in_wsX50 : ∀ w ∈ wsX50, w ∈ lw_tbl := mem_p _ [110, 112] rfl
set_option maxRecDepth 20000 in
theorem in_wsX40 : ∀ w ∈ wsX40, w ∈ lw_tbl := mem_p _ [160, 162, 164, 166, 168, 170, 172, 174, 176, 178, 180, 182, 184, 186] rfl
set_option maxRecDepth 20000 in
theorem in_wsX00 : ∀ w ∈ wsX00, w ∈ lw_tbl := mem_p _ [202, 204, 206] rfl
set_option maxRecDepth 20000 in
theorem in_wsX10 : ∀ w ∈ wsX10, w ∈ lw_tbl := mem_p _ [219, 221] rfl
theorem mem_ap {big a b : List Cond} (ha : ∀ w ∈ a, w ∈ big) (hb : ∀ w ∈ b, w ∈ big) : ∀ w ∈ a ++ b, w ∈ big := fun w h => (List.mem_append.mp h).elim (ha w) (hb w)
theorem wsL_law_in0 : ∀ w ∈ wsL_law0, w ∈ lw_tbl := (mem_ap (mem_ap (mem_ap (mem_ap (mem_ap (mem_ap (mem_ap (mem_ap in_wsL_law0_r1 (mem_ap in_wsL_law0_r2 (mem_ap in_wsL_law0_r3 (mem_ap in_wsL_law0_r4 (mem_ap in_wsL_law0_r5 (mem_ap in_wsL_law0_r6 (mem_ap in_wsL_law0_r7 (mem_ap in_wsL_law0_r8 (mem_ap in_wsL_law0_r9 (mem_ap in_wsL_law0_r10 (mem_ap in_wsL_law0_r11 (mem_ap in_wsL_law0_r12 (mem_ap in_wsL_law0_r13 (mem_ap in_wsL_law0_r14 (mem_ap in_wsL_law0_r15 (mem_ap in_wsL_law0_r16 (mem_ap in_wsL_law0_r17 (mem_ap in_wsL_law0_r18 (mem_ap in_wsL_law0_r19 (mem_ap in_wsL_law0_r20 (mem_ap in_wsL_law0_r21 (mem_ap in_wsL_law0_r22 (mem_ap in_wsL_law0_r23 (mem_ap in_wsL_law0_r24 (mem_ap in_wsL_law0_r25 (mem_ap in_wsL_law0_r26 (mem_ap in_wsL_law0_r27 (mem_ap in_wsL_law0_r28 (mem_ap in_wsL_law0_r29 (mem_ap in_wsL_law0_r30 (mem_ap in_wsL_law0_r31 (mem_ap in_wsL_law0_r32 (mem_ap in_wsL_law0_r33 (mem_ap in_wsL_law0_r34 (mem_ap in_wsL_law0_r35 (mem_ap in_wsL_law0_r36 in_wsL_law0_r37)))))))))))))))))))))))))))))))))))) in_wsX60) in_wsX70) in_wsX50) in_wsX40) in_wsX00) in_wsX10) (fun _ h => absurd h List.not_mem_nil))
