theorem goodIn_r {big : List Cond} (ws : List Cond) (ps : List Nat) (hp : ws = ps.filterMap (fun i => big[i]?)) (h : ws.all goodWord = true) : GoodIn big ws := by
  intro w hw
  have h1 := List.all_eq_true.mp h w hw
  rw [hp] at hw
  obtain ⟨i, -, hi⟩ := List.mem_filterMap.mp hw
  have hm : w ∈ big := by first | exact List.mem_of_getElem? hi | exact List.getElem?_mem hi
  exact ⟨hm, good_of_word h1⟩
def mn_Wc (M : Nat) : Cond := .code (mY M) (mC M) (mL M) (mR M)
set_option maxRecDepth 100000 in
theorem mn_Gc : GoodIn lw_tbl ((List.range 193).map mn_Wc) := goodIn_r _ [836, 841, 852, 845, 535, 914, 561, 736, 744, 765, 352, 549, 348, 361, 377, 381, 490, 498, 511, 519, 389, 478, 482, 373, 385, 649, 565, 539, 864, 872, 876, 881, 885, 893, 897, 557, 502, 369, 506, 594, 598, 365, 486, 494, 515, 523, 527, 531, 581, 645, 620, 590, 604, 612, 831, 668, 781, 577, 808, 585, 616, 608, 705, 626, 343, 357, 545, 553, 636, 653, 661, 672, 677, 687, 693, 713, 732, 740, 748, 753, 757, 761, 773, 793, 804, 812, 823, 827, 856, 860, 868, 889, 902, 906, 910, 921, 640, 657, 681, 664, 796, 716, 573, 701, 697, 569, 777, 800, 728, 719, 725, 709, 818, 623, 1008, 1112, 1121, 1128, 1207, 1005, 1026, 1022, 1049, 1045, 1041, 1038, 1034, 1053, 1057, 1061, 1030, 1018, 1014, 1065, 1077, 1081, 1069, 1108, 1117, 1085, 1125, 1073, 1096, 1093, 1104, 1100, 1089, 1152, 1132, 1140, 1136, 1144, 1148, 1160, 1156, 1164, 1168, 1172, 1177, 1185, 1181, 1193, 1189, 1204, 1200, 1211, 1215, 1219, 1223, 1231, 1227, 1235, 1239, 1243, 1254, 1251, 1247, 1258, 1263, 1267, 1271, 1275, 394, 398, 402, 408, 412, 418, 415, 425, 786, 629, 240] (by rfl) (by decide +kernel)
def mn_cn (o : Nat) : String := mn_cN.getD o ""
set_option maxRecDepth 100000 in
theorem mn_Gm : GoodIn lw_tbl (mn_MLT.map (fun e => Cond.methodLink (mn_cn e.1) e.2.1 (mY e.2.2))) := goodIn_r _ [837, 842, 846, 847, 362, 370, 374, 378, 487, 495, 508, 516, 382, 386, 475, 479, 483, 491, 499, 503, 512, 520, 524, 391, 540, 873, 894, 507, 238, 366, 782, 578, 582, 591, 587, 595, 586, 609, 613, 617, 624, 706, 345, 349, 358, 528, 532, 536, 546, 554, 558, 562, 566, 627, 637, 642, 646, 654, 662, 665, 673, 678, 683, 570, 601, 688, 689, 694, 707, 714, 717, 723, 733, 741, 702, 762, 774, 784, 794, 797, 574, 698, 805, 726, 816, 828, 833, 838, 849, 861, 869, 878, 882, 890, 911, 682, 605, 778, 1006, 1023, 1019, 1046, 1035, 1039, 1042, 1031, 1050, 1054, 1058, 1027, 1015, 1082, 1070, 1074, 1078, 1086, 1109, 1118, 1126, 1094, 1101, 1090, 1097, 1137, 1149, 1157, 1182, 1190, 1201, 1205, 1228, 1236, 1252, 1248, 1259, 409, 399, 405, 395, 413, 416, 423] (by decide +kernel) (by decide +kernel)
set_option maxRecDepth 100000 in
theorem mn_Gn : mn_NLT.map (fun e => Cond.methodLinkNest (mn_cn e.1) e.2.1 (mY e.2.2) "TomorrowBells") = ([848, 877, 621, 832] : List Nat).filterMap (fun i => lw_tbl[i]?) := by decide +kernel
def mn_mn (k : Nat) : MethodName := if k = 0 then Lib.Math.max.name else if k = 1 then Lib.Math.min.name else Lib.Math.abs.name
set_option maxRecDepth 100000 in
theorem mn_Gh : GoodIn lw_tbl (mn_MAT.map (fun e => Cond.methodLink (mn_cn e.1) e.2.1 (mn_mn e.2.2))) := goodIn_r _ [898, 222, 599, 783, 600, 813, 819, 420, 419] (by decide +kernel) (by decide +kernel)
set_option maxRecDepth 100000 in
theorem mn_Gj : GoodIn lw_tbl [.code Lib.Math.max.name Lib.Math.max.code 2 (some .int), .static Lib.Math.max.name, .code Lib.Math.min.name Lib.Math.min.code 2 (some .int), .static Lib.Math.min.name, .code Lib.Math.abs.name Lib.Math.abs.code 1 (some .int), .static Lib.Math.abs.name] := goodIn_r _ [224, 223, 422, 421, 815, 814] (by decide +kernel) (by decide +kernel)
def mn_virtL : List Nat := (List.range 193).filter (fun M => !mSt M)
def mn_statL : List Nat := (List.range 193).filter (fun M => mSt M)
set_option maxRecDepth 100000 in
theorem mn_Gi : GoodIn lw_tbl (mn_virtL.map (fun M => Cond.instanceMethod (mY M))) := goodIn_r _ [834, 839, 850, 844, 533, 912, 559, 734, 742, 763, 350, 547, 346, 359, 376, 380, 489, 497, 510, 518, 388, 477, 481, 372, 384, 647, 563, 537, 862, 870, 875, 879, 883, 891, 896, 555, 500, 367, 504, 592, 596, 363, 484, 492, 513, 521, 525, 529, 579, 643, 618, 588, 602, 610, 829, 666, 779, 575, 806, 583, 614, 606, 703, 341, 355, 543, 551, 634, 651, 659, 670, 675, 685, 691, 711, 730, 738, 746, 751, 755, 759, 771, 791, 802, 810, 821, 825, 854, 858, 866, 887, 900, 904, 908, 919, 639, 656, 680, 572, 700, 696, 568, 776, 799, 1111, 1120, 1003, 1025, 1021, 1048, 1044, 1037, 1033, 1052, 1056, 1060, 1029, 1017, 1012, 1063, 1076, 1080, 1067, 1106, 1115, 1084, 1123, 1072, 1092, 1103, 1099, 1088, 1151, 1130, 1139, 1134, 1142, 1146, 1159, 1154, 1162, 1166, 1170, 1175, 1184, 1179, 1192, 1187, 1203, 1198, 1209, 1213, 1217, 1221, 1230, 1225, 1233, 1238, 1241, 1250, 1245, 1256, 1261, 1265, 1269, 1273, 392, 396, 400, 406, 410] (by decide +kernel) (by decide +kernel)
set_option maxRecDepth 100000 in
theorem mn_Gs : GoodIn lw_tbl (mn_virtL.map (fun M => Cond.selects (mn_cn (mO M)) (mY M) (mY M))) := goodIn_r _ [835, 840, 851, 20, 534, 913, 560, 735, 743, 764, 351, 548, 347, 360, 1, 2, 7, 8, 9, 10, 4, 5, 6, 0, 3, 648, 564, 538, 863, 871, 21, 880, 884, 892, 22, 556, 501, 368, 505, 593, 597, 364, 485, 493, 514, 522, 526, 530, 580, 644, 619, 589, 603, 611, 830, 667, 780, 576, 807, 584, 615, 607, 704, 342, 356, 544, 552, 635, 652, 660, 671, 676, 686, 692, 712, 731, 739, 747, 752, 756, 760, 772, 792, 803, 811, 822, 826, 855, 859, 867, 888, 901, 905, 909, 920, 13, 14, 15, 12, 17, 16, 11, 18, 19, 42, 43, 1004, 25, 24, 30, 29, 28, 27, 31, 32, 33, 26, 23, 1013, 1064, 35, 36, 1068, 1107, 1116, 37, 1124, 34, 39, 41, 40, 38, 45, 1131, 44, 1135, 1143, 1147, 46, 1155, 1163, 1167, 1171, 1176, 47, 1180, 48, 1188, 49, 1199, 1210, 1214, 1218, 1222, 50, 1226, 1234, 51, 1242, 52, 1246, 1257, 1262, 1266, 1270, 1274, 393, 397, 401, 407, 411] (by decide +kernel) (by decide +kernel)
set_option maxRecDepth 100000 in
theorem mn_Gt : GoodIn lw_tbl (mn_statL.map (fun M => Cond.static (mY M))) := goodIn_r _ [625, 663, 795, 715, 727, 718, 724, 708, 817, 622, 1007, 1127, 1206, 1040, 1095, 1253, 417, 414, 424, 785, 628, 239] (by decide +kernel) (by decide +kernel)
set_option maxRecDepth 100000 in
theorem mn_Gz : GoodIn lw_tbl ((List.range 15).map (fun o => Cond.initialized (mn_cn o))) := goodIn_r _ [59, 56, 55, 57, 61, 60, 58, 54, 64, 65, 66, 71, 70, 62, 63] (by decide +kernel) (by decide +kernel)
def mn_fT (ci k : Nat) : String × String × String × Bool := if ci = 9 then (if k = 0 then ("java/lang/String", "value", "[B", true) else ("java/lang/String", "coder", "B", true)) else match vwCl[ci]? with
  | some q => q.2.1 k
  | none => ("", "", "", false)
set_option maxRecDepth 100000 in
theorem mn_Gf : GoodIn lw_tbl (mn_FLT.map (fun e => Cond.fieldLink (mn_cn e.1) e.2.1 (mn_cn e.2.2.1) (mn_fT e.2.2.1 e.2.2.2).2.1 (mn_fT e.2.2.1 e.2.2.2).2.2.1)) := goodIn_r _ [197, 198, 200, 199, 115, 113, 116, 118, 120, 122, 124, 87, 92, 88, 89, 91, 266, 270, 243, 253, 273, 90, 151, 152, 153, 154, 155, 156, 225, 226, 227, 228, 244, 246, 248, 254, 257, 259, 261, 263, 267, 274, 275, 276, 277, 241, 250, 271, 279, 177, 179, 180, 181, 264, 268, 251, 255, 315, 316, 317, 318, 319, 320, 321, 322, 126, 242, 252, 265, 269, 272, 117, 119, 121, 123, 245, 247, 249, 256, 258, 260, 262, 178, 114, 278, 125, 929, 931, 932, 933, 934, 935, 936, 937, 938, 950, 952, 930, 939, 941, 940, 942, 943, 944, 945, 946, 948, 949, 947, 951, 1277, 1276] (by decide +kernel) (by decide +kernel)
set_option maxRecDepth 100000 in
theorem mn_Gl : GoodIn lw_tbl (vwCl.flatMap (fun q => u_ws q.1 q.2.1 q.2.2)) := goodIn_r _ [201, 203, 205, 207, 127, 129, 131, 133, 135, 137, 139, 141, 93, 95, 97, 99, 101, 103, 157, 159, 161, 163, 165, 167, 229, 231, 233, 235, 280, 282, 284, 286, 288, 290, 292, 294, 296, 298, 300, 302, 304, 306, 308, 310, 312, 182, 184, 186, 188, 323, 325, 327, 329, 331, 333, 335, 337, 953, 955, 957, 959, 961, 963, 965, 967, 969, 971, 973, 975, 977, 979, 981, 983, 985, 987, 989, 991, 993, 995, 997, 999] (by decide +kernel) (by decide +kernel)
set_option maxRecDepth 100000 in
theorem mn_Gk : GoodIn lw_tbl (mn_CT.map (fun e => Cond.constant (mn_cn e.1) e.2.1 e.2.2)) := goodIn_r _ [344, 353, 641, 749, 769, 928, 1009, 1010, 1113, 1173, 1194, 1195, 1196, 787, 788, 789] (by decide +kernel) (by decide +kernel)
set_option maxRecDepth 100000 in
theorem mn_GK : GoodIn lw_tbl (mn_CLT.map (fun e => Cond.constantLong (mn_cn e.1) e.2.1 e.2.2)) := goodIn_r _ [722, 766, 767, 768, 630, 631, 632] (by decide +kernel) (by decide +kernel)
def mn_Wr : List Cond := [.fieldLink "TomorrowBells" 330 "TomorrowBells" "DAYS_WITH" "[J", .fieldLink "java/lang/String" 38 "java/lang/String" "COMPACT_STRINGS" "Z", .methodLink "TomorrowBells$Course" 31 arraycopyName, .native arraycopyName, .static arraycopyName, .initialized "java/lang/System"]
set_option maxRecDepth 100000 in
theorem mn_Gr : GoodIn lw_tbl mn_Wr := goodIn_r _ [720, 403, 915, 917, 916, 72] (by decide +kernel) (by decide +kernel)
set_option maxRecDepth 100000 in
theorem mn_ycls : ∀ M, M < 193 → (mY M).cls = mn_cn (mO M) ∧ (mY M).cls ≠ "java/lang/invoke/MethodHandle" ∧ (mY M).cls ≠ "java/lang/invoke/VarHandle" ∧ (parseMethodDescriptor (mY M).desc).map (fun d => d.parameters.length) = some (mP M) ∧ plainName (mY M).cls = true ∧ mO M < 15 := by decide +kernel
set_option maxRecDepth 100000 in
theorem mn_mlv : ∀ e ∈ mn_MLT, e.2.2 < 193 := by decide +kernel
