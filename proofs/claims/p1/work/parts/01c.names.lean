theorem dk_memr {big : List Cond} (ws : List Cond) (ps : List Nat) (hp : ws = ps.filterMap (fun i => big[i]?)) : ∀ w ∈ ws, w ∈ big := by
  intro w hw
  rw [hp] at hw
  obtain ⟨i, -, hi⟩ := List.mem_filterMap.mp hw
  exact List.mem_of_getElem? hi
set_option maxRecDepth 20000 in
theorem dkin_wsL_law_r1 : ∀ w ∈ wsL_law_r1, w ∈ lw_tbl := dk_memr _ [81, 82, 71, 835, 836, 77, 83, 84, 85, 86, 87, 88, 89, 193, 277, 278, 279, 91, 92, 72, 281, 217, 98, 73] (by decide +kernel)
set_option maxRecDepth 20000 in
theorem dkin_wsL_law_r2 : ∀ w ∈ wsL_law_r2, w ∈ lw_tbl := dk_memr _ [282, 283, 220, 221, 74, 284, 239, 240, 75, 285, 261, 262, 76, 286, 94, 95, 96, 194, 97, 198, 100, 101, 102, 119] (by decide +kernel)
set_option maxRecDepth 20000 in
theorem dkin_wsL_law_r3 : ∀ w ∈ wsL_law_r3, w ∈ lw_tbl := dk_memr _ [121, 123, 126, 129, 131, 137, 140, 143, 153, 222, 223, 224, 225, 226, 228, 241, 242, 243, 244, 245, 248, 251, 247, 263] (by decide +kernel)
set_option maxRecDepth 20000 in
theorem dkin_wsL_law_r4 : ∀ w ∈ wsL_law_r4, w ∈ lw_tbl := dk_memr _ [264, 265, 266, 268, 267, 837, 838, 839, 840, 842, 843, 844, 845, 847, 855, 856, 857, 858, 860, 921, 861, 865, 866, 841] (by decide +kernel)
set_option maxRecDepth 20000 in
theorem dkin_wsL_law_r5 : ∀ w ∈ wsL_law_r5, w ∈ lw_tbl := dk_memr _ [308, 309, 310, 311, 318, 312, 313, 314, 315, 316, 317, 319, 321, 0, 322, 280, 323, 324, 326, 1, 327, 922, 923, 924] (by decide +kernel)
set_option maxRecDepth 20000 in
theorem dkin_wsL_law_r6 : ∀ w ∈ wsL_law_r6, w ∈ lw_tbl := dk_memr _ [925, 932, 926, 927, 928, 929, 930, 931, 933, 935, 37, 936, 846, 937, 938, 940, 38, 941, 328, 329, 330, 331, 332, 334] (by decide +kernel)
set_option maxRecDepth 20000 in
theorem dkin_wsL_law_r7 : ∀ w ∈ wsL_law_r7, w ∈ lw_tbl := dk_memr _ [2, 335, 336, 337, 338, 942, 943, 944, 945, 946, 948, 39, 949, 950, 951, 952, 339, 340, 341, 342, 347, 349, 348, 78] (by decide +kernel)
set_option maxRecDepth 20000 in
theorem dkin_wsL_law_r8 : ∀ w ∈ wsL_law_r8, w ∈ lw_tbl := dk_memr _ [343, 345, 3, 346, 953, 954, 955, 956, 957, 959, 40, 960, 350, 351, 352, 353, 961, 962, 963, 964, 354, 355, 356, 357] (by decide +kernel)
set_option maxRecDepth 20000 in
theorem dkin_wsL_law_r9 : ∀ w ∈ wsL_law_r9, w ∈ lw_tbl := dk_memr _ [362, 358, 359, 360, 361, 195, 363, 364, 365, 366, 367, 965, 966, 967, 968, 848, 969, 368, 369, 370, 371, 430, 200, 199] (by decide +kernel)
set_option maxRecDepth 20000 in
theorem dkin_wsL_law_r10 : ∀ w ∈ wsL_law_r10, w ∈ lw_tbl := dk_memr _ [134, 372, 373, 374, 375, 197, 376, 378, 4, 379, 388, 380, 382, 5, 383, 384, 386, 6, 387, 389, 391, 7, 392, 201] (by decide +kernel)
set_option maxRecDepth 20000 in
theorem dkin_wsL_law_r11 : ∀ w ∈ wsL_law_r11, w ∈ lw_tbl := dk_memr _ [203, 393, 395, 8, 396, 397, 398, 399, 400, 401, 402, 403, 103, 107, 110, 112, 115, 133, 147, 149, 151, 404, 406, 9] (by decide +kernel)
set_option maxRecDepth 20000 in
theorem dkin_wsL_law_r12 : ∀ w ∈ wsL_law_r12, w ∈ lw_tbl := dk_memr _ [407, 116, 408, 410, 10, 411, 104, 412, 413, 414, 415, 416, 418, 11, 419, 135, 420, 421, 422, 423, 424, 425, 426, 428] (by decide +kernel)
set_option maxRecDepth 20000 in
theorem dkin_wsL_law_r13 : ∀ w ∈ wsL_law_r13, w ∈ lw_tbl := dk_memr _ [429, 431, 432, 433, 434, 435, 436, 437, 438, 230, 970, 971, 972, 973, 851, 850, 853, 854, 1013, 859, 974, 976, 41, 977] (by decide +kernel)
set_option maxRecDepth 20000 in
theorem dkin_wsL_law_r14 : ∀ w ∈ wsL_law_r14, w ∈ lw_tbl := dk_memr _ [852, 978, 980, 42, 981, 982, 984, 43, 985, 849, 986, 988, 44, 989, 990, 992, 45, 993, 994, 996, 46, 997, 998, 1000] (by decide +kernel)
set_option maxRecDepth 20000 in
theorem dkin_wsL_law_r15 : ∀ w ∈ wsL_law_r15, w ∈ lw_tbl := dk_memr _ [47, 1001, 1002, 1004, 48, 1005, 1006, 1007, 1008, 1009, 1011, 49, 1012, 1014, 1015, 1016, 439, 440, 441, 442, 202, 1017, 1018, 1019] (by decide +kernel)
set_option maxRecDepth 20000 in
theorem dkin_wsL_law_r16 : ∀ w ∈ wsL_law_r16, w ∈ lw_tbl := dk_memr _ [1020, 443, 444, 445, 446, 451, 111, 447, 448, 449, 450, 452, 453, 454, 455, 229, 457, 458, 79, 459, 456, 460, 461, 462] (by decide +kernel)
set_option maxRecDepth 20000 in
theorem dkin_wsL_law_r17 : ∀ w ∈ wsL_law_r17, w ∈ lw_tbl := dk_memr _ [463, 494, 464, 465, 466, 467, 468, 470, 12, 471, 473, 474, 475, 476, 477, 478, 480, 481, 482, 484, 13, 485, 486, 488] (by decide +kernel)
set_option maxRecDepth 20000 in
theorem dkin_wsL_law_r18 : ∀ w ∈ wsL_law_r18, w ∈ lw_tbl := dk_memr _ [14, 489, 490, 492, 15, 493, 495, 496, 497, 498, 499, 501, 16, 502, 503, 505, 17, 506, 507, 508, 509, 510, 511, 512] (by decide +kernel)
set_option maxRecDepth 20000 in
theorem dkin_wsL_law_r19 : ∀ w ∈ wsL_law_r19, w ∈ lw_tbl := dk_memr _ [513, 514, 515, 516, 517, 518, 519, 520, 521, 522, 523, 524, 80, 525, 526, 527, 528, 1021, 1022, 1023, 1024, 1029, 1025, 1027] (by decide +kernel)
set_option maxRecDepth 20000 in
theorem dkin_wsL_law_r20 : ∀ w ∈ wsL_law_r20, w ∈ lw_tbl := dk_memr _ [50, 1028, 1030, 1032, 51, 1033, 1034, 1035, 1036, 1037, 1038, 1039, 1040, 1041, 1042, 1043, 1044, 1045, 1046, 1047, 1048, 1049, 1050, 1051] (by decide +kernel)
set_option maxRecDepth 20000 in
theorem dkin_wsL_law_r21 : ∀ w ∈ wsL_law_r21, w ∈ lw_tbl := dk_memr _ [1052, 1053, 1054, 1055, 1056, 1057, 1058, 1059, 1060, 1061, 1062, 1063, 1064, 1065, 1066, 529, 530, 531, 532, 127, 533, 535, 18, 536] (by decide +kernel)
set_option maxRecDepth 20000 in
theorem dkin_wsL_law_r22 : ∀ w ∈ wsL_law_r22, w ∈ lw_tbl := dk_memr _ [118, 1067, 1068, 1069, 1070, 1071, 1073, 52, 1074, 537, 538, 539, 540, 130, 1075, 1076, 1077, 1078, 541, 542, 543, 544, 146, 545] (by decide +kernel)
set_option maxRecDepth 20000 in
theorem dkin_wsL_law_r23 : ∀ w ∈ wsL_law_r23, w ∈ lw_tbl := dk_memr _ [547, 19, 548, 549, 551, 20, 552, 106, 1079, 1080, 1081, 1082, 1083, 1085, 53, 1086, 1087, 1089, 54, 1090, 553, 554, 555, 556] (by decide +kernel)
set_option maxRecDepth 20000 in
theorem dkin_wsL_law_r24 : ∀ w ∈ wsL_law_r24, w ∈ lw_tbl := dk_memr _ [231, 557, 558, 559, 560, 1091, 1092, 1093, 1094, 561, 562, 563, 564, 142, 565, 566, 1095, 1096, 1097, 1098, 567, 568, 569, 570] (by decide +kernel)
set_option maxRecDepth 20000 in
theorem dkin_wsL_law_r25 : ∀ w ∈ wsL_law_r25, w ∈ lw_tbl := dk_memr _ [125, 120, 122, 132, 571, 1099, 1100, 1101, 1102, 1103, 1105, 55, 1106, 572, 573, 574, 575, 576, 577, 578, 579, 144, 580, 582] (by decide +kernel)
set_option maxRecDepth 20000 in
theorem dkin_wsL_law_r26 : ∀ w ∈ wsL_law_r26, w ∈ lw_tbl := dk_memr _ [21, 583, 584, 585, 1107, 1108, 1109, 1110, 1111, 1113, 56, 1114, 586, 587, 588, 589, 590, 591, 592, 593, 124, 1115, 1116, 1117] (by decide +kernel)
set_option maxRecDepth 20000 in
theorem dkin_wsL_law_r27 : ∀ w ∈ wsL_law_r27, w ∈ lw_tbl := dk_memr _ [1118, 594, 595, 596, 597, 598, 599, 600, 601, 602, 603, 604, 605, 606, 607, 1119, 1120, 1121, 1122, 1123, 1125, 57, 1126, 862] (by decide +kernel)
set_option maxRecDepth 20000 in
theorem dkin_wsL_law_r28 : ∀ w ∈ wsL_law_r28, w ∈ lw_tbl := dk_memr _ [863, 864, 1127, 1129, 58, 1130, 608, 609, 610, 611, 612, 613, 614, 615, 1131, 1132, 1133, 1134, 616, 617, 618, 619, 620, 621] (by decide +kernel)
set_option maxRecDepth 20000 in
theorem dkin_wsL_law_r29 : ∀ w ∈ wsL_law_r29, w ∈ lw_tbl := dk_memr _ [622, 623, 624, 626, 22, 627, 628, 629, 630, 631, 632, 1135, 1136, 1137, 1138, 1139, 1141, 59, 1142, 633, 634, 635, 636, 637] (by decide +kernel)
set_option maxRecDepth 20000 in
theorem dkin_wsL_law_r30 : ∀ w ∈ wsL_law_r30, w ∈ lw_tbl := dk_memr _ [638, 639, 640, 1143, 1144, 1145, 1146, 641, 642, 643, 644, 657, 645, 646, 647, 648, 105, 650, 652, 654, 23, 655, 152, 656] (by decide +kernel)
set_option maxRecDepth 20000 in
theorem dkin_wsL_law_r31 : ∀ w ∈ wsL_law_r31, w ∈ lw_tbl := dk_memr _ [658, 1147, 1148, 1149, 1150, 1151, 1152, 1153, 659, 660, 661, 662, 665, 24, 666, 672, 673, 674, 675, 667, 669, 25, 670, 128] (by decide +kernel)
set_option maxRecDepth 20000 in
theorem dkin_wsL_law_r32 : ∀ w ∈ wsL_law_r32, w ∈ lw_tbl := dk_memr _ [671, 1154, 1155, 1156, 1157, 1158, 1160, 60, 1161, 676, 677, 678, 679, 680, 681, 682, 683, 136, 684, 686, 26, 687, 148, 1162] (by decide +kernel)
set_option maxRecDepth 20000 in
theorem dkin_wsL_law_r33 : ∀ w ∈ wsL_law_r33, w ∈ lw_tbl := dk_memr _ [1163, 1164, 1165, 688, 689, 690, 691, 692, 693, 694, 695, 1166, 1167, 1168, 1169, 696, 697, 698, 699, 700, 702, 27, 703, 704] (by decide +kernel)
set_option maxRecDepth 20000 in
theorem dkin_wsL_law_r34 : ∀ w ∈ wsL_law_r34, w ∈ lw_tbl := dk_memr _ [705, 706, 707, 708, 709, 710, 711, 713, 28, 714, 715, 717, 29, 718, 1170, 1171, 1172, 1173, 1174, 1176, 61, 1177, 1178, 1180] (by decide +kernel)
set_option maxRecDepth 20000 in
theorem dkin_wsL_law_r35 : ∀ w ∈ wsL_law_r35, w ∈ lw_tbl := dk_memr _ [62, 1181, 719, 720, 721, 722, 1182, 1183, 1184, 1185, 723, 724, 725, 726, 742, 727, 728, 729, 730, 732, 733, 734, 736, 30] (by decide +kernel)
set_option maxRecDepth 20000 in
theorem dkin_wsL_law_r36 : ∀ w ∈ wsL_law_r36, w ∈ lw_tbl := dk_memr _ [737, 150, 738, 739, 740, 741, 1186, 1187, 1188, 1189, 743, 744, 745, 746, 747, 250, 748, 749, 750, 751, 249, 752, 754, 31] (by decide +kernel)
set_option maxRecDepth 20000 in
theorem dkin_wsL_law_r37 : ∀ w ∈ wsL_law_r37, w ∈ lw_tbl := dk_memr _ [755, 108, 113, 117, 756, 757, 758, 759, 760, 761, 762, 763, 1190, 1191, 1192, 1193, 1194, 1195, 1196, 1197, 764, 765, 766, 767] (by decide +kernel)
set_option maxRecDepth 20000 in
theorem dkin_wsL_law_r38 : ∀ w ∈ wsL_law_r38, w ∈ lw_tbl := dk_memr _ [1198, 1199, 1200, 1201, 768, 769, 770, 771, 1202, 1203, 1204, 1205, 772, 773, 774, 775, 139, 1206, 1207, 1208, 1209, 1210, 1212, 63] (by decide +kernel)
set_option maxRecDepth 20000 in
theorem dkin_wsL_law_r39 : ∀ w ∈ wsL_law_r39, w ∈ lw_tbl := dk_memr _ [1213, 776, 777, 778, 779, 780, 1214, 1215, 1216, 1217, 781, 782, 783, 784, 785, 786, 787, 788, 269, 789, 791, 32, 792, 138] (by decide +kernel)
set_option maxRecDepth 20000 in
theorem dkin_wsL_law_r40 : ∀ w ∈ wsL_law_r40, w ∈ lw_tbl := dk_memr _ [793, 795, 797, 33, 798, 799, 801, 803, 34, 804, 805, 141, 145, 806, 808, 35, 809, 1218, 1219, 1220, 1221, 867, 1222, 1224] (by decide +kernel)
set_option maxRecDepth 20000 in
theorem dkin_wsL_law_r41 : ∀ w ∈ wsL_law_r41, w ∈ lw_tbl := dk_memr _ [64, 1225, 1226, 1228, 65, 1229, 1230, 1232, 66, 1233, 1234, 1236, 67, 1237, 1238, 1240, 68, 1241, 810, 811, 812, 813, 814, 815] (by decide +kernel)
set_option maxRecDepth 20000 in
theorem dkin_wsL_law_r42 : ∀ w ∈ wsL_law_r42, w ∈ lw_tbl := dk_memr _ [816, 817, 818, 1242, 1243, 1244, 1245, 819, 820, 821, 822, 114, 109, 196, 823, 825, 36, 826, 827, 828, 829, 830, 1246, 1247] (by decide +kernel)
set_option maxRecDepth 20000 in
theorem dkin_wsL_law_r43 : ∀ w ∈ wsL_law_r43, w ∈ lw_tbl := dk_memr _ [1248, 1249, 1250, 1252, 69, 1253, 831, 832, 833, 834, 1254, 1255, 1256, 1257] (by decide +kernel)
set_option maxRecDepth 20000 in
theorem dkin_wsX50 : ∀ w ∈ wsX50, w ∈ lw_tbl := dk_memr _ [287, 289, 291, 293, 295, 297, 299, 301, 303, 305] (by decide +kernel)
set_option maxRecDepth 20000 in
theorem dkin_wsX60 : ∀ w ∈ wsX60, w ∈ lw_tbl := dk_memr _ [868, 870, 872, 874, 876, 878, 880, 882, 884, 886, 888, 890, 892, 894, 896, 898, 900, 902, 904, 906, 908, 910, 912, 914, 916, 918] (by decide +kernel)
set_option maxRecDepth 20000 in
theorem dkin_wsX20 : ∀ w ∈ wsX20, w ∈ lw_tbl := dk_memr _ [204, 206, 208, 210, 212, 214] (by decide +kernel)
set_option maxRecDepth 20000 in
theorem dkin_wsX40 : ∀ w ∈ wsX40, w ∈ lw_tbl := dk_memr _ [154, 156, 158, 160, 162, 164, 166, 168, 170, 172, 174, 176, 178, 180, 182, 184, 186, 188, 190] (by decide +kernel)
set_option maxRecDepth 20000 in
theorem dkin_wsX00 : ∀ w ∈ wsX00, w ∈ lw_tbl := dk_memr _ [232, 234, 236] (by decide +kernel)
set_option maxRecDepth 20000 in
theorem dkin_wsX30 : ∀ w ∈ wsX30, w ∈ lw_tbl := dk_memr _ [252, 254, 256, 258] (by decide +kernel)
set_option maxRecDepth 20000 in
theorem dkin_wsX10 : ∀ w ∈ wsX10, w ∈ lw_tbl := dk_memr _ [270, 272, 274] (by decide +kernel)
theorem wsL_law_in : ∀ w ∈ wsL_law, w ∈ lw_tbl := (List.forall_mem_append.mpr ⟨(List.forall_mem_append.mpr ⟨(List.forall_mem_append.mpr ⟨(List.forall_mem_append.mpr ⟨(List.forall_mem_append.mpr ⟨(List.forall_mem_append.mpr ⟨(List.forall_mem_append.mpr ⟨(List.forall_mem_append.mpr ⟨(List.forall_mem_append.mpr ⟨dkin_wsL_law_r1, (List.forall_mem_append.mpr ⟨dkin_wsL_law_r2, (List.forall_mem_append.mpr ⟨dkin_wsL_law_r3, (List.forall_mem_append.mpr ⟨dkin_wsL_law_r4, (List.forall_mem_append.mpr ⟨dkin_wsL_law_r5, (List.forall_mem_append.mpr ⟨dkin_wsL_law_r6, (List.forall_mem_append.mpr ⟨dkin_wsL_law_r7, (List.forall_mem_append.mpr ⟨dkin_wsL_law_r8, (List.forall_mem_append.mpr ⟨dkin_wsL_law_r9, (List.forall_mem_append.mpr ⟨dkin_wsL_law_r10, (List.forall_mem_append.mpr ⟨dkin_wsL_law_r11, (List.forall_mem_append.mpr ⟨dkin_wsL_law_r12, (List.forall_mem_append.mpr ⟨dkin_wsL_law_r13, (List.forall_mem_append.mpr ⟨dkin_wsL_law_r14, (List.forall_mem_append.mpr ⟨dkin_wsL_law_r15, (List.forall_mem_append.mpr ⟨dkin_wsL_law_r16, (List.forall_mem_append.mpr ⟨dkin_wsL_law_r17, (List.forall_mem_append.mpr ⟨dkin_wsL_law_r18, (List.forall_mem_append.mpr ⟨dkin_wsL_law_r19, (List.forall_mem_append.mpr ⟨dkin_wsL_law_r20, (List.forall_mem_append.mpr ⟨dkin_wsL_law_r21, (List.forall_mem_append.mpr ⟨dkin_wsL_law_r22, (List.forall_mem_append.mpr ⟨dkin_wsL_law_r23, (List.forall_mem_append.mpr ⟨dkin_wsL_law_r24, (List.forall_mem_append.mpr ⟨dkin_wsL_law_r25, (List.forall_mem_append.mpr ⟨dkin_wsL_law_r26, (List.forall_mem_append.mpr ⟨dkin_wsL_law_r27, (List.forall_mem_append.mpr ⟨dkin_wsL_law_r28, (List.forall_mem_append.mpr ⟨dkin_wsL_law_r29, (List.forall_mem_append.mpr ⟨dkin_wsL_law_r30, (List.forall_mem_append.mpr ⟨dkin_wsL_law_r31, (List.forall_mem_append.mpr ⟨dkin_wsL_law_r32, (List.forall_mem_append.mpr ⟨dkin_wsL_law_r33, (List.forall_mem_append.mpr ⟨dkin_wsL_law_r34, (List.forall_mem_append.mpr ⟨dkin_wsL_law_r35, (List.forall_mem_append.mpr ⟨dkin_wsL_law_r36, (List.forall_mem_append.mpr ⟨dkin_wsL_law_r37, (List.forall_mem_append.mpr ⟨dkin_wsL_law_r38, (List.forall_mem_append.mpr ⟨dkin_wsL_law_r39, (List.forall_mem_append.mpr ⟨dkin_wsL_law_r40, (List.forall_mem_append.mpr ⟨dkin_wsL_law_r41, (List.forall_mem_append.mpr ⟨dkin_wsL_law_r42, dkin_wsL_law_r43⟩)⟩)⟩)⟩)⟩)⟩)⟩)⟩)⟩)⟩)⟩)⟩)⟩)⟩)⟩)⟩)⟩)⟩)⟩)⟩)⟩)⟩)⟩)⟩)⟩)⟩)⟩)⟩)⟩)⟩)⟩)⟩)⟩)⟩)⟩)⟩)⟩)⟩)⟩)⟩)⟩)⟩), dkin_wsX50⟩), dkin_wsX60⟩), dkin_wsX20⟩), dkin_wsX40⟩), dkin_wsX00⟩), dkin_wsX30⟩), dkin_wsX10⟩), (fun _ h => absurd h List.not_mem_nil)⟩)
theorem inlX0 : ∀ w ∈ wsX00, w ∈ wsL_law := fun _ h => List.mem_append_left _ (List.mem_append_left _ (List.mem_append_left _ (List.mem_append_right _ h)))
theorem inX0 : ∀ w ∈ wsX00, w ∈ lw_tbl := fun w h => wsL_law_in w (inlX0 w h)
theorem inlX1 : ∀ w ∈ wsX10, w ∈ wsL_law := fun _ h => List.mem_append_left _ (List.mem_append_right _ h)
theorem inX1 : ∀ w ∈ wsX10, w ∈ lw_tbl := fun w h => wsL_law_in w (inlX1 w h)
theorem inlX2 : ∀ w ∈ wsX20, w ∈ wsL_law := fun _ h => List.mem_append_left _ (List.mem_append_left _ (List.mem_append_left _ (List.mem_append_left _ (List.mem_append_left _ (List.mem_append_right _ h)))))
theorem inX2 : ∀ w ∈ wsX20, w ∈ lw_tbl := fun w h => wsL_law_in w (inlX2 w h)
theorem inlX3 : ∀ w ∈ wsX30, w ∈ wsL_law := fun _ h => List.mem_append_left _ (List.mem_append_left _ (List.mem_append_right _ h))
theorem inX3 : ∀ w ∈ wsX30, w ∈ lw_tbl := fun w h => wsL_law_in w (inlX3 w h)
theorem inlX4 : ∀ w ∈ wsX40, w ∈ wsL_law := fun _ h => List.mem_append_left _ (List.mem_append_left _ (List.mem_append_left _ (List.mem_append_left _ (List.mem_append_right _ h))))
theorem inX4 : ∀ w ∈ wsX40, w ∈ lw_tbl := fun w h => wsL_law_in w (inlX4 w h)
theorem inlX5 : ∀ w ∈ wsX50, w ∈ wsL_law := fun _ h => List.mem_append_left _ (List.mem_append_left _ (List.mem_append_left _ (List.mem_append_left _ (List.mem_append_left _ (List.mem_append_left _ (List.mem_append_left _ (List.mem_append_right _ h)))))))
theorem inX5 : ∀ w ∈ wsX50, w ∈ lw_tbl := fun w h => wsL_law_in w (inlX5 w h)
theorem inlX6 : ∀ w ∈ wsX60, w ∈ wsL_law := fun _ h => List.mem_append_left _ (List.mem_append_left _ (List.mem_append_left _ (List.mem_append_left _ (List.mem_append_left _ (List.mem_append_left _ (List.mem_append_right _ h))))))
theorem inX6 : ∀ w ∈ wsX60, w ∈ lw_tbl := fun w h => wsL_law_in w (inlX6 w h)
theorem inJ6 : ∀ w ∈ wsJ60, w ∈ lw_tbl := by decide +kernel
theorem inJ9 : ∀ w ∈ wsJ90, w ∈ lw_tbl := by decide +kernel
theorem inJ10 : ∀ w ∈ wsJ100, w ∈ lw_tbl := by decide +kernel
