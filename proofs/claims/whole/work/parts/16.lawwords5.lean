set_option maxRecDepth 100000 in
theorem gl_X10_best : GoodIn lw_tbl (wsV RL 128 RX10 yX10_best wsX10_best) := goodIn_r _ [701, 702, 703, 53, 704, 233, 259, 260, 53, 261, 705, 706, 707, 60, 708, 660, 661, 67, 662, 663, 664, 665, 709, 710, 711, 712, 190, 656, 658, 14, 659, 713, 236, 238, 240, 242, 244, 246, 248, 250, 252, 191] (by decide +kernel) (by decide +kernel)
set_option maxRecDepth 100000 in
theorem gl_X11_best : GoodIn lw_tbl (wsV RL 131 RX11 yX11_best wsX11_best) := goodIn_r _ [1214, 1215, 1216, 63, 1217, 962, 963, 63, 964, 1218, 1220, 46, 1221, 893, 1197, 1198, 1199, 1190, 1191, 1192, 902, 904, 906, 908, 910, 912, 914, 916, 918, 920, 922, 924, 926, 928, 930, 932, 934, 936, 938, 940, 942, 944, 946, 948, 950, 952, 954] (by decide +kernel) (by decide +kernel)
set_option maxRecDepth 100000 in
theorem gl_X10_piece : GoodIn lw_tbl (wsV RL 132 RX10 yX10_piece wsX10_piece) := goodIn_r _ [714, 715, 716, 53, 717, 234, 259, 260, 53, 261, 718, 719, 720, 61, 721, 201, 200, 236, 238, 240, 242, 244, 246, 248, 250, 252, 202, 204] (by decide +kernel) (by decide +kernel)
set_option maxRecDepth 100000 in
theorem gl_X11_piece : GoodIn lw_tbl (wsV RL 135 RX11 yX11_piece wsX11_piece) := goodIn_r _ [1222, 1223, 1224, 63, 1225, 894, 895, 962, 963, 63, 964, 902, 904, 906, 908, 910, 912, 914, 916, 918, 920, 922, 924, 926, 928, 930, 932, 934, 936, 938, 940, 942, 944, 946, 948, 950, 952, 954] (by decide +kernel) (by decide +kernel)
set_option maxRecDepth 100000 in
theorem gl_X10_snap : GoodIn lw_tbl (wsV RL 136 RX10 yX10_snap wsX10_snap) := goodIn_r _ [722, 723, 724, 53, 725, 234, 726, 727, 728, 61, 729, 201, 236, 238, 240, 242, 244, 246, 248, 250, 252, 202, 204] (by decide +kernel) (by decide +kernel)
set_option maxRecDepth 100000 in
theorem gl_X11_snap : GoodIn lw_tbl (wsV RL 139 RX11 yX11_snap wsX11_snap) := goodIn_r _ [1226, 1227, 1228, 63, 1229, 894, 902, 904, 906, 908, 910, 912, 914, 916, 918, 920, 922, 924, 926, 928, 930, 932, 934, 936, 938, 940, 942, 944, 946, 948, 950, 952, 954] (by decide +kernel) (by decide +kernel)
set_option maxRecDepth 100000 in
theorem gl_X10_hit : GoodIn lw_tbl (wsV RL 140 RX10 yX10_hit wsX10_hit) := goodIn_r _ [730, 731, 732, 53, 733, 234, 734, 735, 736, 61, 737, 201, 259, 260, 53, 261, 352, 353, 66, 354, 355, 738, 739, 740, 741, 200, 742, 743, 744, 745, 746, 747, 748, 749, 750, 751, 752, 753, 366, 367, 368, 369, 370, 371, 372, 236, 238, 240, 242, 244, 246, 248, 250, 252, 202, 204] (by decide +kernel) (by decide +kernel)
set_option maxRecDepth 100000 in
theorem gl_X11_hit : GoodIn lw_tbl (wsV RL 143 RX11 yX11_hit wsX11_hit) := goodIn_r _ [1230, 1231, 1232, 63, 1233, 894, 895, 962, 963, 63, 964, 1021, 1022, 1023, 1024, 1234, 1236, 47, 1237, 1238, 1239, 1240, 1026, 1027, 1028, 902, 904, 906, 908, 910, 912, 914, 916, 918, 920, 922, 924, 926, 928, 930, 932, 934, 936, 938, 940, 942, 944, 946, 948, 950, 952, 954] (by decide +kernel) (by decide +kernel)
set_option maxRecDepth 100000 in
theorem gl_X10_stick : GoodIn lw_tbl (wsV RL 144 RX10 yX10_stick wsX10_stick) := goodIn_r _ [754, 755, 756, 53, 757, 234, 259, 260, 53, 261, 352, 353, 66, 354, 355, 758, 759, 760, 61, 761, 201, 200, 762, 747, 748, 749, 366, 367, 368, 369, 370, 371, 372, 763, 764, 765, 766, 767, 739, 740, 741, 742, 743, 744, 745, 746, 750, 751, 752, 753, 768, 769, 770, 771, 772, 774, 17, 775, 776, 661, 67, 662, 663, 664, 665, 236, 238, 240, 242, 244, 246, 248, 250, 252, 202, 204] (by decide +kernel) (by decide +kernel)
set_option maxRecDepth 100000 in
theorem gl_X11_stick : GoodIn lw_tbl (wsV RL 147 RX11 yX11_stick wsX11_stick) := goodIn_r _ [1241, 1242, 1243, 63, 1244, 962, 963, 63, 964, 1245, 1247, 48, 1248, 894, 895, 1021, 1022, 1023, 1024, 1234, 1236, 47, 1237, 1026, 1027, 1028, 1238, 1239, 1240, 1197, 1198, 1199, 1190, 1191, 1192, 902, 904, 906, 908, 910, 912, 914, 916, 918, 920, 922, 924, 926, 928, 930, 932, 934, 936, 938, 940, 942, 944, 946, 948, 950, 952, 954] (by decide +kernel) (by decide +kernel)
set_option maxRecDepth 100000 in
theorem gl_X10_sheet : GoodIn lw_tbl (wsV RL 148 RX10 yX10_sheet wsX10_sheet) := goodIn_r _ [777, 778, 779, 53, 780, 235, 259, 260, 53, 261, 437, 438, 439, 62, 440, 217, 781, 782, 783, 784, 215, 216, 214, 236, 238, 240, 242, 244, 246, 248, 250, 252, 218, 220, 222, 224] (by decide +kernel) (by decide +kernel)
set_option maxRecDepth 100000 in
theorem gl_X11_sheet : GoodIn lw_tbl (wsV RL 151 RX11 yX11_sheet wsX11_sheet) := goodIn_r _ [1249, 1250, 1251, 63, 1252, 896, 897, 898, 899, 1057, 1058, 63, 1059, 962, 963, 964, 1060, 1062, 29, 1063, 901, 902, 904, 906, 908, 910, 912, 914, 916, 918, 920, 922, 924, 926, 928, 930, 932, 934, 936, 938, 940, 942, 944, 946, 948, 950, 952, 954] (by decide +kernel) (by decide +kernel)
set_option maxRecDepth 100000 in
theorem gl_X10_lose : GoodIn lw_tbl (wsV RL 152 RX10 yX10_lose wsX10_lose) := goodIn_r _ [785, 786, 787, 53, 788, 235, 259, 260, 53, 261, 433, 434, 435, 62, 436, 216, 437, 438, 439, 440, 217, 789, 790, 791, 792, 236, 238, 240, 242, 244, 246, 248, 250, 252, 218, 220, 222, 224] (by decide +kernel) (by decide +kernel)
set_option maxRecDepth 100000 in
theorem gl_X11_lose : GoodIn lw_tbl (wsV RL 155 RX11 yX11_lose wsX11_lose) := goodIn_r _ [1253, 1254, 1255, 63, 1256, 896, 898, 1057, 1058, 63, 1059, 962, 963, 964, 1060, 1062, 29, 1063, 901, 902, 904, 906, 908, 910, 912, 914, 916, 918, 920, 922, 924, 926, 928, 930, 932, 934, 936, 938, 940, 942, 944, 946, 948, 950, 952, 954] (by decide +kernel) (by decide +kernel)
