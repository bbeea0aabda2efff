set_option maxRecDepth 100000 in
theorem glp_X10_digest_a : GoodIn lw_tbl ([.methodLink RL 178 yX10_digest, .instanceMethod yX10_digest, .selects RX10 yX10_digest yX10_digest, .initialized RX10]) := goodIn_r _ [847, 848, 849, 53] (by decide +kernel) (by decide +kernel)
set_option maxRecDepth 100000 in
theorem glp_X10_digest_b : GoodIn lw_tbl ([.code yX10_digest cX10_digest 6 (some .long)]) := goodIn_r _ [850] (by decide +kernel) (by decide +kernel)
set_option maxRecDepth 100000 in
theorem glp_X10_digest_1 : GoodIn lw_tbl (wsX10_digest_r1) := goodIn_r _ [851, 852, 836, 837, 53, 838, 228, 227, 230, 232, 233, 234, 235, 310, 311, 312, 55, 313, 314, 315, 316, 317, 103, 318] (by decide +kernel) (by decide +kernel)
set_option maxRecDepth 100000 in
theorem glp_X10_digest_2 : GoodIn lw_tbl (wsX10_digest_r2) := goodIn_r _ [319, 65, 320, 321, 322, 323, 839, 840, 841, 54, 842, 84, 454, 455, 456, 57, 457, 141, 490, 491, 492, 493, 482, 484] (by decide +kernel) (by decide +kernel)
set_option maxRecDepth 100000 in
theorem glp_X10_digest_3 : GoodIn lw_tbl (wsX10_digest_r3) := goodIn_r _ [10, 485, 139, 143, 140, 576, 577, 578, 59, 579, 176, 652, 653, 654, 60, 655, 656, 658, 14, 659, 190, 660, 661, 67] (by decide +kernel) (by decide +kernel)
set_option maxRecDepth 100000 in
theorem glp_X10_digest_4 : GoodIn lw_tbl (wsX10_digest_r4) := goodIn_r _ [662, 663, 664, 665, 762, 747, 748, 61, 749, 201, 200, 843, 844, 845, 62, 846, 217, 853, 854, 855, 856, 857, 275, 276] (by decide +kernel) (by decide +kernel)
set_option maxRecDepth 100000 in
theorem glp_X10_digest_5 : GoodIn lw_tbl (wsX10_digest_r5) := goodIn_r _ [277, 278, 279, 280, 281, 85, 86, 282, 284, 0, 285, 286, 288, 1, 289, 295, 296, 64, 297, 290, 292, 2, 293, 83] (by decide +kernel) (by decide +kernel)
set_option maxRecDepth 100000 in
theorem glp_X10_digest_6 : GoodIn lw_tbl (wsX10_digest_r6) := goodIn_r _ [260, 261, 858, 349, 350, 351, 259, 352, 353, 66, 354, 355, 356, 357, 358, 359, 332, 333, 334, 343, 345, 3, 346, 347] (by decide +kernel) (by decide +kernel)
set_option maxRecDepth 100000 in
theorem glp_X10_digest_7 : GoodIn lw_tbl (wsX10_digest_r7) := goodIn_r _ [329, 330, 331, 360, 361, 362, 363, 364, 365, 366, 367, 368, 369, 370, 371, 372, 859, 374, 375, 376, 229, 377, 378, 379] (by decide +kernel) (by decide +kernel)
set_option maxRecDepth 100000 in
theorem glp_X10_digest_8 : GoodIn lw_tbl (wsX10_digest_r8) := goodIn_r _ [380, 56, 381, 120, 387, 382, 384, 4, 385, 119, 116, 386, 388, 390, 5, 391, 118, 392, 394, 6, 395, 401, 402, 403] (by decide +kernel) (by decide +kernel)
set_option maxRecDepth 100000 in
theorem glp_X10_digest_9 : GoodIn lw_tbl (wsX10_digest_r9) := goodIn_r _ [396, 397, 399, 7, 400, 404, 406, 8, 407, 117, 408, 410, 9, 411, 412, 413, 414, 415, 860, 505, 506, 507, 512, 508] (by decide +kernel) (by decide +kernel)
set_option maxRecDepth 100000 in
theorem glp_X10_digest_10 : GoodIn lw_tbl (wsX10_digest_r10) := goodIn_r _ [509, 510, 511, 498, 479, 480, 481, 138, 499, 500, 501, 502, 503, 495, 496, 497, 861, 547, 548, 549, 231, 550, 551, 552] (by decide +kernel) (by decide +kernel)
set_option maxRecDepth 100000 in
theorem glp_X10_digest_11 : GoodIn lw_tbl (wsX10_digest_r11) := goodIn_r _ [58, 553, 554, 526, 527, 528, 529, 531, 11, 532, 164, 533, 555, 535, 536, 537, 538, 539, 540, 541, 556, 543, 544, 545] (by decide +kernel) (by decide +kernel)
set_option maxRecDepth 100000 in
theorem glp_X10_digest_12 : GoodIn lw_tbl (wsX10_digest_r12) := goodIn_r _ [557, 558, 559, 862, 589, 590, 591, 592, 593, 594, 595, 596, 597, 598, 599, 601, 12, 602, 175, 174, 603, 604, 605, 863] (by decide +kernel) (by decide +kernel)
set_option maxRecDepth 100000 in
theorem glp_X10_digest_13 : GoodIn lw_tbl (wsX10_digest_r13) := goodIn_r _ [607, 608, 609, 610, 611, 612, 613, 614, 615, 616, 617, 618, 864, 620, 621, 622, 623, 624, 625, 626, 627, 629, 13, 630] (by decide +kernel) (by decide +kernel)
set_option maxRecDepth 100000 in
theorem glp_X10_digest_14 : GoodIn lw_tbl (wsX10_digest_r14) := goodIn_r _ [631, 632, 633, 634, 635, 636, 637, 638, 639, 865, 649, 650, 651, 666, 687, 667, 668, 669, 670, 671, 673, 15, 674, 675] (by decide +kernel) (by decide +kernel)
set_option maxRecDepth 100000 in
theorem glp_X10_digest_15 : GoodIn lw_tbl (wsX10_digest_r15) := goodIn_r _ [677, 16, 678, 679, 680, 681, 682, 683, 684, 685, 686, 866, 689, 690, 691, 692, 693, 694, 695, 867, 702, 703, 704, 705] (by decide +kernel) (by decide +kernel)
set_option maxRecDepth 100000 in
theorem glp_X10_digest_16 : GoodIn lw_tbl (wsX10_digest_r16) := goodIn_r _ [706, 707, 708, 709, 710, 711, 712, 713, 868, 755, 756, 757, 758, 759, 760, 761, 763, 764, 765, 766, 767, 739, 740, 741] (by decide +kernel) (by decide +kernel)
set_option maxRecDepth 100000 in
theorem glp_X10_digest_17 : GoodIn lw_tbl (wsX10_digest_r17) := goodIn_r _ [742, 743, 744, 745, 746, 750, 751, 752, 753, 768, 769, 770, 771, 772, 774, 17, 775, 776] (by decide +kernel) (by decide +kernel)
set_option maxRecDepth 100000 in
theorem glp_X10_digest_18 : GoodIn lw_tbl (wsX100) := goodIn_r _ [236, 238, 240, 242, 244, 246, 248, 250, 252] (by decide +kernel) (by decide +kernel)
set_option maxRecDepth 100000 in
theorem glp_X10_digest_19 : GoodIn lw_tbl (wsX60) := goodIn_r _ [104] (by decide +kernel) (by decide +kernel)
set_option maxRecDepth 100000 in
theorem glp_X10_digest_20 : GoodIn lw_tbl (wsX80) := goodIn_r _ [87, 89, 91, 93] (by decide +kernel) (by decide +kernel)
set_option maxRecDepth 100000 in
theorem glp_X10_digest_21 : GoodIn lw_tbl (wsX70) := goodIn_r _ [144, 146, 148, 150, 152, 154] (by decide +kernel) (by decide +kernel)
set_option maxRecDepth 100000 in
theorem glp_X10_digest_22 : GoodIn lw_tbl (wsX90) := goodIn_r _ [177, 179, 181] (by decide +kernel) (by decide +kernel)
set_option maxRecDepth 100000 in
theorem glp_X10_digest_23 : GoodIn lw_tbl (wsX00) := goodIn_r _ [191] (by decide +kernel) (by decide +kernel)
set_option maxRecDepth 100000 in
theorem glp_X10_digest_24 : GoodIn lw_tbl (wsX40) := goodIn_r _ [202, 204] (by decide +kernel) (by decide +kernel)
set_option maxRecDepth 100000 in
theorem glp_X10_digest_25 : GoodIn lw_tbl (wsX50) := goodIn_r _ [218, 220, 222, 224] (by decide +kernel) (by decide +kernel)
set_option maxRecDepth 100000 in
theorem glp_X10_digest_26 : GoodIn lw_tbl (wsX30) := goodIn_r _ [121, 123, 125, 127, 129] (by decide +kernel) (by decide +kernel)
set_option maxRecDepth 100000 in
theorem glp_X10_digest_27 : GoodIn lw_tbl (wsX10) := goodIn_r _ [165] (by decide +kernel) (by decide +kernel)
set_option maxRecDepth 100000 in
theorem gl_X10_digest : GoodIn lw_tbl (wsV RL 178 RX10 yX10_digest wsX10_digest) := goodIn_app glp_X10_digest_a (goodIn_app glp_X10_digest_b (goodIn_app (goodIn_app (goodIn_app (goodIn_app (goodIn_app (goodIn_app (goodIn_app (goodIn_app (goodIn_app (goodIn_app (goodIn_app glp_X10_digest_1 (goodIn_app glp_X10_digest_2 (goodIn_app glp_X10_digest_3 (goodIn_app glp_X10_digest_4 (goodIn_app glp_X10_digest_5 (goodIn_app glp_X10_digest_6 (goodIn_app glp_X10_digest_7 (goodIn_app glp_X10_digest_8 (goodIn_app glp_X10_digest_9 (goodIn_app glp_X10_digest_10 (goodIn_app glp_X10_digest_11 (goodIn_app glp_X10_digest_12 (goodIn_app glp_X10_digest_13 (goodIn_app glp_X10_digest_14 (goodIn_app glp_X10_digest_15 (goodIn_app glp_X10_digest_16 glp_X10_digest_17)))))))))))))))) glp_X10_digest_18) glp_X10_digest_19) glp_X10_digest_20) glp_X10_digest_21) glp_X10_digest_22) glp_X10_digest_23) glp_X10_digest_24) glp_X10_digest_25) glp_X10_digest_26) glp_X10_digest_27))
set_option maxRecDepth 100000 in
theorem glp_X11_digest_a : GoodIn lw_tbl ([.methodLink RL 182 yX11_digest, .instanceMethod yX11_digest, .selects RX11 yX11_digest yX11_digest, .initialized RX11]) := goodIn_r _ [1290, 1291, 1292, 63] (by decide +kernel) (by decide +kernel)
set_option maxRecDepth 100000 in
theorem glp_X11_digest_b : GoodIn lw_tbl ([.code yX11_digest cX11_digest 5 (some .long)]) := goodIn_r _ [1293] (by decide +kernel) (by decide +kernel)
set_option maxRecDepth 100000 in
theorem glp_X11_digest_1 : GoodIn lw_tbl (wsX11_digest_r1) := goodIn_r _ [1294, 1295, 1296, 1283, 1284, 63, 1285, 875, 883, 890, 901, 989, 991, 21, 992, 993, 995, 22, 996, 878, 1076, 1078, 30, 1079] (by decide +kernel) (by decide +kernel)
set_option maxRecDepth 100000 in
theorem glp_X11_digest_2 : GoodIn lw_tbl (wsX11_digest_r2) := goodIn_r _ [885, 888, 886, 884, 1286, 1288, 51, 1289, 893, 1190, 1191, 1192, 1234, 1236, 47, 1237, 894, 895, 973, 975, 18, 976, 877, 879] (by decide +kernel) (by decide +kernel)
set_option maxRecDepth 100000 in
theorem glp_X11_digest_3 : GoodIn lw_tbl (wsX11_digest_r3) := goodIn_r _ [977, 979, 19, 980, 981, 983, 20, 984, 876, 962, 963, 964, 1017, 1019, 25, 1020, 1025, 1021, 1022, 1023, 1024, 1009, 1011, 24] (by decide +kernel) (by decide +kernel)
set_option maxRecDepth 100000 in
theorem glp_X11_digest_4 : GoodIn lw_tbl (wsX11_digest_r4) := goodIn_r _ [1012, 1001, 1003, 23, 1004, 1026, 1027, 1028, 1033, 1035, 26, 1036, 880, 1037, 882, 881, 1038, 1040, 27, 1041, 1042, 1043, 1044, 1092] (by decide +kernel) (by decide +kernel)
set_option maxRecDepth 100000 in
theorem glp_X11_digest_5 : GoodIn lw_tbl (wsX11_digest_r5) := goodIn_r _ [1094, 32, 1095, 1084, 1086, 31, 1087, 1119, 1121, 35, 1122, 1104, 1106, 33, 1107, 889, 1112, 1113, 1114, 1108, 1110, 34, 1111, 1123] (by decide +kernel) (by decide +kernel)
set_option maxRecDepth 100000 in
theorem glp_X11_digest_6 : GoodIn lw_tbl (wsX11_digest_r6) := goodIn_r _ [1124, 1125, 1141, 1143, 36, 1144, 1145, 1147, 37, 1148, 891, 1157, 1149, 1151, 38, 1152, 892, 1153, 1155, 39, 1156, 1162, 1164, 40] (by decide +kernel) (by decide +kernel)
set_option maxRecDepth 100000 in
theorem glp_X11_digest_7 : GoodIn lw_tbl (wsX11_digest_r7) := goodIn_r _ [1165, 1170, 1172, 41, 1173, 1174, 1176, 42, 1177, 1186, 1188, 43, 1189, 1200, 1201, 1193, 1195, 44, 1196, 1197, 1198, 1199, 1206, 1208] (by decide +kernel) (by decide +kernel)
set_option maxRecDepth 100000 in
theorem glp_X11_digest_8 : GoodIn lw_tbl (wsX11_digest_r8) := goodIn_r _ [45, 1209, 1218, 1220, 46, 1221, 1245, 1247, 48, 1248, 1238, 1239, 1240] (by decide +kernel) (by decide +kernel)
set_option maxRecDepth 100000 in
theorem glp_X11_digest_9 : GoodIn lw_tbl (wsX110) := goodIn_r _ [902, 904, 906, 908, 910, 912, 914, 916, 918, 920, 922, 924, 926, 928, 930, 932, 934, 936, 938, 940, 942, 944, 946, 948, 950, 952, 954] (by decide +kernel) (by decide +kernel)
set_option maxRecDepth 100000 in
theorem gl_X11_digest : GoodIn lw_tbl (wsV RL 182 RX11 yX11_digest wsX11_digest) := goodIn_app glp_X11_digest_a (goodIn_app glp_X11_digest_b (goodIn_app (goodIn_app glp_X11_digest_1 (goodIn_app glp_X11_digest_2 (goodIn_app glp_X11_digest_3 (goodIn_app glp_X11_digest_4 (goodIn_app glp_X11_digest_5 (goodIn_app glp_X11_digest_6 (goodIn_app glp_X11_digest_7 glp_X11_digest_8))))))) glp_X11_digest_9))
