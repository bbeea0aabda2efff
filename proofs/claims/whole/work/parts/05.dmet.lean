set_option maxRecDepth 20000 in
theorem ggX10_init_X8_init : GoodIn wsX10_init wsX8_init := goodIn_r _ [41, 42, 2, 3, 43, 44, 45, 46, 47, 100, 101, 102, 103] (by decide +kernel) (by decide +kernel)
set_option maxRecDepth 20000 in
theorem gX10_init_X8_init_n9 : GoodIn wsX10_init (wsX8_init) := ggX10_init_X8_init
set_option maxRecDepth 20000 in
theorem ggX10_init_X6_init : GoodIn wsX10_init wsX6_init := goodIn_r _ [49, 50, 2, 3, 51, 52, 113] (by decide +kernel) (by decide +kernel)
set_option maxRecDepth 20000 in
theorem gX10_init_X6_init_n18 : GoodIn wsX10_init (wsX6_init) := ggX10_init_X6_init
set_option maxRecDepth 20000 in
theorem ggX10_init_X3_init : GoodIn wsX10_init wsX3_init := goodIn_r _ [54, 55, 2, 3, 43, 56, 57, 58, 59, 60, 61, 114, 115, 116, 117, 118] (by decide +kernel) (by decide +kernel)
set_option maxRecDepth 20000 in
theorem gX10_init_X3_init_n25 : GoodIn wsX10_init (wsX3_init) := ggX10_init_X3_init
set_option maxRecDepth 20000 in
theorem ggX10_init_X7_init : GoodIn wsX10_init wsX7_init := goodIn_r _ [63, 64, 2, 3, 43, 65, 66, 67, 68, 69, 70, 119, 120, 121, 122, 123, 124] (by decide +kernel) (by decide +kernel)
set_option maxRecDepth 20000 in
theorem gX10_init_X7_init_n32 : GoodIn wsX10_init (wsX7_init) := ggX10_init_X7_init
set_option maxRecDepth 20000 in
theorem ggX10_init_X1_init : GoodIn wsX10_init wsX1_init := goodIn_r _ [72, 73, 2, 3, 74, 43, 75, 125] (by decide +kernel) (by decide +kernel)
set_option maxRecDepth 20000 in
theorem gX10_init_X1_init_n39 : GoodIn wsX10_init (wsX1_init) := ggX10_init_X1_init
set_option maxRecDepth 20000 in
theorem ggX10_init_X9_init : GoodIn wsX10_init wsX9_init := goodIn_r _ [77, 78, 2, 3, 43, 79, 80, 81, 126, 127, 128] (by decide +kernel) (by decide +kernel)
set_option maxRecDepth 20000 in
theorem gX10_init_X9_init_n46 : GoodIn wsX10_init (wsX9_init) := ggX10_init_X9_init
set_option maxRecDepth 20000 in
theorem ggX10_init_X0_init : GoodIn wsX10_init wsX0_init := goodIn_r _ [83, 84, 2, 3, 43, 85, 129] (by decide +kernel) (by decide +kernel)
set_option maxRecDepth 20000 in
theorem gX10_init_X0_init_n53 : GoodIn wsX10_init (wsX0_init) := ggX10_init_X0_init
set_option maxRecDepth 20000 in
theorem ggX10_init_X4_init : GoodIn wsX10_init wsX4_init := goodIn_r _ [87, 88, 2, 3, 43, 89, 90, 130, 131] (by decide +kernel) (by decide +kernel)
set_option maxRecDepth 20000 in
theorem gX10_init_X4_init_n60 : GoodIn wsX10_init (wsX4_init) := ggX10_init_X4_init
set_option maxRecDepth 20000 in
theorem ggX10_init_X5_init : GoodIn wsX10_init wsX5_init := goodIn_r _ [93, 94, 2, 3, 95, 43, 96, 97, 98, 99, 132, 133, 134, 135] (by decide +kernel) (by decide +kernel)
set_option maxRecDepth 20000 in
theorem gX10_init_X5_init : GoodIn wsX10_init (wsX5_init) := ggX10_init_X5_init
theorem dX10_init_0 : decode cX10_init 0 = .ok (.aload_n 0, 1) := by decide +kernel
theorem dX10_init_1 : decode cX10_init 1 = .ok (.invokespecial 1, 3) := by decide +kernel
theorem dX10_init_4 : decode cX10_init 4 = .ok (.aload_n 0, 1) := by decide +kernel
theorem dX10_init_5 : decode cX10_init 5 = .ok (.new 7, 3) := by decide +kernel
theorem dX10_init_8 : decode cX10_init 8 = .ok (.dup, 1) := by decide +kernel
theorem dX10_init_9 : decode cX10_init 9 = .ok (.invokespecial 9, 3) := by decide +kernel
theorem dX10_init_12 : decode cX10_init 12 = .ok (.putfield 10, 3) := by decide +kernel
theorem dX10_init_15 : decode cX10_init 15 = .ok (.aload_n 0, 1) := by decide +kernel
theorem dX10_init_16 : decode cX10_init 16 = .ok (.new 16, 3) := by decide +kernel
theorem dX10_init_19 : decode cX10_init 19 = .ok (.dup, 1) := by decide +kernel
theorem dX10_init_20 : decode cX10_init 20 = .ok (.invokespecial 18, 3) := by decide +kernel
theorem dX10_init_23 : decode cX10_init 23 = .ok (.putfield 19, 3) := by decide +kernel
theorem dX10_init_26 : decode cX10_init 26 = .ok (.aload_n 0, 1) := by decide +kernel
theorem dX10_init_27 : decode cX10_init 27 = .ok (.new 23, 3) := by decide +kernel
theorem dX10_init_30 : decode cX10_init 30 = .ok (.dup, 1) := by decide +kernel
theorem dX10_init_31 : decode cX10_init 31 = .ok (.invokespecial 25, 3) := by decide +kernel
theorem dX10_init_34 : decode cX10_init 34 = .ok (.putfield 26, 3) := by decide +kernel
theorem dX10_init_37 : decode cX10_init 37 = .ok (.aload_n 0, 1) := by decide +kernel
theorem dX10_init_38 : decode cX10_init 38 = .ok (.new 30, 3) := by decide +kernel
theorem dX10_init_41 : decode cX10_init 41 = .ok (.dup, 1) := by decide +kernel
theorem dX10_init_42 : decode cX10_init 42 = .ok (.invokespecial 32, 3) := by decide +kernel
theorem dX10_init_45 : decode cX10_init 45 = .ok (.putfield 33, 3) := by decide +kernel
theorem dX10_init_48 : decode cX10_init 48 = .ok (.aload_n 0, 1) := by decide +kernel
theorem dX10_init_49 : decode cX10_init 49 = .ok (.new 37, 3) := by decide +kernel
theorem dX10_init_52 : decode cX10_init 52 = .ok (.dup, 1) := by decide +kernel
theorem dX10_init_53 : decode cX10_init 53 = .ok (.invokespecial 39, 3) := by decide +kernel
theorem dX10_init_56 : decode cX10_init 56 = .ok (.putfield 40, 3) := by decide +kernel
theorem dX10_init_59 : decode cX10_init 59 = .ok (.aload_n 0, 1) := by decide +kernel
theorem dX10_init_60 : decode cX10_init 60 = .ok (.new 44, 3) := by decide +kernel
theorem dX10_init_63 : decode cX10_init 63 = .ok (.dup, 1) := by decide +kernel
theorem dX10_init_64 : decode cX10_init 64 = .ok (.invokespecial 46, 3) := by decide +kernel
theorem dX10_init_67 : decode cX10_init 67 = .ok (.putfield 47, 3) := by decide +kernel
theorem dX10_init_70 : decode cX10_init 70 = .ok (.aload_n 0, 1) := by decide +kernel
theorem dX10_init_71 : decode cX10_init 71 = .ok (.new 51, 3) := by decide +kernel
theorem dX10_init_74 : decode cX10_init 74 = .ok (.dup, 1) := by decide +kernel
theorem dX10_init_75 : decode cX10_init 75 = .ok (.invokespecial 53, 3) := by decide +kernel
theorem dX10_init_78 : decode cX10_init 78 = .ok (.putfield 54, 3) := by decide +kernel
theorem dX10_init_81 : decode cX10_init 81 = .ok (.aload_n 0, 1) := by decide +kernel
theorem dX10_init_82 : decode cX10_init 82 = .ok (.new 58, 3) := by decide +kernel
theorem dX10_init_85 : decode cX10_init 85 = .ok (.dup, 1) := by decide +kernel
theorem dX10_init_86 : decode cX10_init 86 = .ok (.invokespecial 60, 3) := by decide +kernel
theorem dX10_init_89 : decode cX10_init 89 = .ok (.putfield 61, 3) := by decide +kernel
theorem dX10_init_92 : decode cX10_init 92 = .ok (.aload_n 0, 1) := by decide +kernel
theorem dX10_init_93 : decode cX10_init 93 = .ok (.new 65, 3) := by decide +kernel
theorem dX10_init_96 : decode cX10_init 96 = .ok (.dup, 1) := by decide +kernel
theorem dX10_init_97 : decode cX10_init 97 = .ok (.invokespecial 67, 3) := by decide +kernel
theorem dX10_init_100 : decode cX10_init 100 = .ok (.putfield 68, 3) := by decide +kernel
theorem dX10_init_103 : decode cX10_init 103 = .ok (.return_, 1) := by decide +kernel
set_option maxRecDepth 20000 in
theorem ggX10_type_X10_outside : GoodIn wsX10_type wsX10_outside := goodIn_r _ [5] (by decide +kernel) (by decide +kernel)
set_option maxRecDepth 20000 in
theorem gX10_type_X10_outside : GoodIn wsX10_type (va_wsS RX10 72 yX10_outside wsX10_outside) := goodIn_app (goodIn_of _ (by decide +kernel)) ggX10_type_X10_outside
set_option maxRecDepth 20000 in
theorem ggX10_type_X8_append : GoodIn wsX10_type wsX8_append := goodIn_r _ [10, 11, 12, 22, 23, 24, 25] (by decide +kernel) (by decide +kernel)
set_option maxRecDepth 20000 in
theorem gX10_type_X8_append : GoodIn wsX10_type (wsV RX10 76 RX8 yX8_append wsX8_append) := goodIn_app (goodIn_of _ (by decide +kernel)) ggX10_type_X8_append
theorem dX10_type_0 : decode cX10_type 0 = .ok (.iload_n 1, 1) := by decide +kernel
theorem dX10_type_1 : decode cX10_type 1 = .ok (.iconst 0, 1) := by decide +kernel
theorem dX10_type_2 : decode cX10_type 2 = .ok (.sipush 255, 3) := by decide +kernel
theorem dX10_type_5 : decode cX10_type 5 = .ok (.invokestatic 72, 3) := by decide +kernel
theorem dX10_type_8 : decode cX10_type 8 = .ok (.ifCond .eq 6, 3) := by decide +kernel
theorem dX10_type_11 : decode cX10_type 11 = .ok (.bipush (-2), 2) := by decide +kernel
theorem dX10_type_13 : decode cX10_type 13 = .ok (.ireturn, 1) := by decide +kernel
theorem dX10_type_14 : decode cX10_type 14 = .ok (.aload_n 0, 1) := by decide +kernel
theorem dX10_type_15 : decode cX10_type 15 = .ok (.getfield 10, 3) := by decide +kernel
theorem dX10_type_18 : decode cX10_type 18 = .ok (.iload_n 1, 1) := by decide +kernel
theorem dX10_type_19 : decode cX10_type 19 = .ok (.invokevirtual 76, 3) := by decide +kernel
theorem dX10_type_22 : decode cX10_type 22 = .ok (.ireturn, 1) := by decide +kernel
set_option maxRecDepth 20000 in
theorem ggX10_wipe_X8_empty : GoodIn wsX10_wipe wsX8_empty := goodIn_r _ [6, 7, 17, 18, 19, 20] (by decide +kernel) (by decide +kernel)
set_option maxRecDepth 20000 in
theorem gX10_wipe_X8_empty : GoodIn wsX10_wipe (wsV RX10 80 RX8 yX8_empty wsX8_empty) := goodIn_app (goodIn_of _ (by decide +kernel)) ggX10_wipe_X8_empty
theorem dX10_wipe_0 : decode cX10_wipe 0 = .ok (.aload_n 0, 1) := by decide +kernel
theorem dX10_wipe_1 : decode cX10_wipe 1 = .ok (.getfield 10, 3) := by decide +kernel
theorem dX10_wipe_4 : decode cX10_wipe 4 = .ok (.invokevirtual 80, 3) := by decide +kernel
theorem dX10_wipe_7 : decode cX10_wipe 7 = .ok (.ireturn, 1) := by decide +kernel
set_option maxRecDepth 20000 in
theorem ggX10_fault_X8_scan : GoodIn wsX10_fault wsX8_scan := goodIn_r _ [6, 7, 8, 9, 10, 11, 5, 12, 13, 14, 15, 16, 17, 18, 19, 20, 21, 22, 23, 24, 25, 26, 27, 28, 29, 39, 40, 41, 42] (by decide +kernel) (by decide +kernel)
set_option maxRecDepth 20000 in
theorem gX10_fault_X8_scan : GoodIn wsX10_fault (wsV RX10 84 RX8 yX8_scan wsX8_scan) := goodIn_app (goodIn_of _ (by decide +kernel)) ggX10_fault_X8_scan
theorem dX10_fault_0 : decode cX10_fault 0 = .ok (.aload_n 0, 1) := by decide +kernel
theorem dX10_fault_1 : decode cX10_fault 1 = .ok (.getfield 10, 3) := by decide +kernel
theorem dX10_fault_4 : decode cX10_fault 4 = .ok (.invokevirtual 84, 3) := by decide +kernel
theorem dX10_fault_7 : decode cX10_fault 7 = .ok (.ireturn, 1) := by decide +kernel
set_option maxRecDepth 20000 in
theorem ggX10_line_X10_outside : GoodIn wsX10_line wsX10_outside := goodIn_r _ [6] (by decide +kernel) (by decide +kernel)
set_option maxRecDepth 20000 in
theorem gX10_line_X10_outside : GoodIn wsX10_line (va_wsS RX10 72 yX10_outside wsX10_outside) := goodIn_app (goodIn_of _ (by decide +kernel)) ggX10_line_X10_outside
set_option maxRecDepth 20000 in
theorem ggX10_line_X8_scan : GoodIn wsX10_line wsX8_scan := goodIn_r _ [11, 12, 13, 14, 15, 16, 10, 17, 18, 19, 20, 21, 22, 23, 24, 25, 26, 27, 28, 29, 30, 31, 4, 5, 6, 70, 71, 72, 73] (by decide +kernel) (by decide +kernel)
set_option maxRecDepth 20000 in
theorem gX10_line_X8_scan : GoodIn wsX10_line (wsV RX10 84 RX8 yX8_scan wsX8_scan) := goodIn_app (goodIn_of _ (by decide +kernel)) ggX10_line_X8_scan
set_option maxRecDepth 20000 in
theorem ggX10_line_X8_minutesScanned : GoodIn wsX10_line wsX8_minutesScanned := goodIn_r _ [35, 13, 70, 71, 72, 73] (by decide +kernel) (by decide +kernel)
set_option maxRecDepth 20000 in
theorem gX10_line_X8_minutesScanned : GoodIn wsX10_line (wsV RX10 87 RX8 yX8_minutesScanned wsX8_minutesScanned) := goodIn_app (goodIn_of _ (by decide +kernel)) ggX10_line_X8_minutesScanned
set_option maxRecDepth 20000 in
theorem ggX10_line_X6_setLine : GoodIn wsX10_line wsX6_setLine := goodIn_r _ [40, 41, 74] (by decide +kernel) (by decide +kernel)
set_option maxRecDepth 20000 in
theorem gX10_line_X6_setLine : GoodIn wsX10_line (wsV RX10 91 RX6 yX6_setLine wsX6_setLine) := goodIn_app (goodIn_of _ (by decide +kernel)) ggX10_line_X6_setLine
set_option maxRecDepth 20000 in
theorem ggX10_line_X8_empty : GoodIn wsX10_line wsX8_empty := goodIn_r _ [45, 30, 70, 71, 72, 73] (by decide +kernel) (by decide +kernel)
set_option maxRecDepth 20000 in
theorem gX10_line_X8_empty : GoodIn wsX10_line (wsV RX10 80 RX8 yX8_empty wsX8_empty) := goodIn_app (goodIn_of _ (by decide +kernel)) ggX10_line_X8_empty
set_option maxRecDepth 20000 in
theorem ggX10_line_X6_busesOf : GoodIn wsX10_line wsX6_busesOf := goodIn_r _ [49, 50, 51, 52, 39, 53, 41, 54, 55, 56, 57, 58, 59, 60, 74] (by decide +kernel) (by decide +kernel)
set_option maxRecDepth 20000 in
theorem gX10_line_X6_busesOf : GoodIn wsX10_line (wsV RX10 95 RX6 yX6_busesOf wsX6_busesOf) := goodIn_app (goodIn_of _ (by decide +kernel)) ggX10_line_X6_busesOf
theorem dX10_line_0 : decode cX10_line 0 = .ok (.iload_n 1, 1) := by decide +kernel
theorem dX10_line_1 : decode cX10_line 1 = .ok (.iconst 0, 1) := by decide +kernel
theorem dX10_line_2 : decode cX10_line 2 = .ok (.iconst 1, 1) := by decide +kernel
theorem dX10_line_3 : decode cX10_line 3 = .ok (.invokestatic 72, 3) := by decide +kernel
theorem dX10_line_6 : decode cX10_line 6 = .ok (.ifCond .eq 6, 3) := by decide +kernel
theorem dX10_line_9 : decode cX10_line 9 = .ok (.bipush (-2), 2) := by decide +kernel
theorem dX10_line_11 : decode cX10_line 11 = .ok (.ireturn, 1) := by decide +kernel
theorem dX10_line_12 : decode cX10_line 12 = .ok (.aload_n 0, 1) := by decide +kernel
theorem dX10_line_13 : decode cX10_line 13 = .ok (.getfield 10, 3) := by decide +kernel
theorem dX10_line_16 : decode cX10_line 16 = .ok (.invokevirtual 84, 3) := by decide +kernel
theorem dX10_line_19 : decode cX10_line 19 = .ok (.iconst (-1), 1) := by decide +kernel
theorem dX10_line_20 : decode cX10_line 20 = .ok (.if_icmp .eq 6, 3) := by decide +kernel
theorem dX10_line_23 : decode cX10_line 23 = .ok (.bipush (-3), 2) := by decide +kernel
theorem dX10_line_25 : decode cX10_line 25 = .ok (.ireturn, 1) := by decide +kernel
theorem dX10_line_26 : decode cX10_line 26 = .ok (.aload_n 0, 1) := by decide +kernel
theorem dX10_line_27 : decode cX10_line 27 = .ok (.getfield 19, 3) := by decide +kernel
theorem dX10_line_30 : decode cX10_line 30 = .ok (.iload_n 1, 1) := by decide +kernel
theorem dX10_line_31 : decode cX10_line 31 = .ok (.aload_n 0, 1) := by decide +kernel
theorem dX10_line_32 : decode cX10_line 32 = .ok (.getfield 10, 3) := by decide +kernel
theorem dX10_line_35 : decode cX10_line 35 = .ok (.invokevirtual 87, 3) := by decide +kernel
theorem dX10_line_38 : decode cX10_line 38 = .ok (.invokevirtual 91, 3) := by decide +kernel
theorem dX10_line_41 : decode cX10_line 41 = .ok (.aload_n 0, 1) := by decide +kernel
theorem dX10_line_42 : decode cX10_line 42 = .ok (.getfield 10, 3) := by decide +kernel
theorem dX10_line_45 : decode cX10_line 45 = .ok (.invokevirtual 80, 3) := by decide +kernel
theorem dX10_line_48 : decode cX10_line 48 = .ok (.pop, 1) := by decide +kernel
theorem dX10_line_49 : decode cX10_line 49 = .ok (.aload_n 0, 1) := by decide +kernel
theorem dX10_line_50 : decode cX10_line 50 = .ok (.getfield 19, 3) := by decide +kernel
theorem dX10_line_53 : decode cX10_line 53 = .ok (.iload_n 1, 1) := by decide +kernel
theorem dX10_line_54 : decode cX10_line 54 = .ok (.invokevirtual 95, 3) := by decide +kernel
theorem dX10_line_57 : decode cX10_line 57 = .ok (.ireturn, 1) := by decide +kernel
set_option maxRecDepth 20000 in
theorem ggX10_waits_X10_outside : GoodIn wsX10_waits wsX10_outside := goodIn_r _ [5] (by decide +kernel) (by decide +kernel)
set_option maxRecDepth 20000 in
theorem gX10_waits_X10_outside : GoodIn wsX10_waits (va_wsS RX10 72 yX10_outside wsX10_outside) := goodIn_app (goodIn_of _ (by decide +kernel)) ggX10_waits_X10_outside
set_option maxRecDepth 20000 in
theorem ggX10_waits_X6_busesOf : GoodIn wsX10_waits wsX6_busesOf := goodIn_r _ [10, 11, 12, 13, 9, 14, 15, 16, 17, 18, 19, 20, 21, 22, 39] (by decide +kernel) (by decide +kernel)
set_option maxRecDepth 20000 in
theorem gX10_waits_X6_busesOf : GoodIn wsX10_waits (wsV RX10 95 RX6 yX6_busesOf wsX6_busesOf) := goodIn_app (goodIn_of _ (by decide +kernel)) ggX10_waits_X6_busesOf
set_option maxRecDepth 20000 in
theorem ggX10_waits_X6_waitAt : GoodIn wsX10_waits wsX6_waitAt := goodIn_r _ [26, 11, 12, 13, 9, 14, 15, 27, 28, 29, 39] (by decide +kernel) (by decide +kernel)
set_option maxRecDepth 20000 in
theorem gX10_waits_X6_waitAt : GoodIn wsX10_waits (wsV RX10 98 RX6 yX6_waitAt wsX6_waitAt) := goodIn_app (goodIn_of _ (by decide +kernel)) ggX10_waits_X6_waitAt
theorem dX10_waits_0 : decode cX10_waits 0 = .ok (.iload_n 1, 1) := by decide +kernel
theorem dX10_waits_1 : decode cX10_waits 1 = .ok (.iconst 0, 1) := by decide +kernel
theorem dX10_waits_2 : decode cX10_waits 2 = .ok (.iconst 2, 1) := by decide +kernel
theorem dX10_waits_3 : decode cX10_waits 3 = .ok (.invokestatic 72, 3) := by decide +kernel
theorem dX10_waits_6 : decode cX10_waits 6 = .ok (.ifCond .ne 13, 3) := by decide +kernel
theorem dX10_waits_9 : decode cX10_waits 9 = .ok (.iload_n 2, 1) := by decide +kernel
theorem dX10_waits_10 : decode cX10_waits 10 = .ok (.iconst 0, 1) := by decide +kernel
theorem dX10_waits_11 : decode cX10_waits 11 = .ok (.bipush 59, 2) := by decide +kernel
theorem dX10_waits_13 : decode cX10_waits 13 = .ok (.invokestatic 72, 3) := by decide +kernel
theorem dX10_waits_16 : decode cX10_waits 16 = .ok (.ifCond .eq 6, 3) := by decide +kernel
theorem dX10_waits_19 : decode cX10_waits 19 = .ok (.bipush (-2), 2) := by decide +kernel
theorem dX10_waits_21 : decode cX10_waits 21 = .ok (.ireturn, 1) := by decide +kernel
theorem dX10_waits_22 : decode cX10_waits 22 = .ok (.aload_n 0, 1) := by decide +kernel
theorem dX10_waits_23 : decode cX10_waits 23 = .ok (.getfield 19, 3) := by decide +kernel
theorem dX10_waits_26 : decode cX10_waits 26 = .ok (.iload_n 1, 1) := by decide +kernel
theorem dX10_waits_27 : decode cX10_waits 27 = .ok (.invokevirtual 95, 3) := by decide +kernel
theorem dX10_waits_30 : decode cX10_waits 30 = .ok (.ifCond .ne 6, 3) := by decide +kernel
theorem dX10_waits_33 : decode cX10_waits 33 = .ok (.bipush (-3), 2) := by decide +kernel
theorem dX10_waits_35 : decode cX10_waits 35 = .ok (.ireturn, 1) := by decide +kernel
theorem dX10_waits_36 : decode cX10_waits 36 = .ok (.aload_n 0, 1) := by decide +kernel
theorem dX10_waits_37 : decode cX10_waits 37 = .ok (.getfield 19, 3) := by decide +kernel
theorem dX10_waits_40 : decode cX10_waits 40 = .ok (.iload_n 1, 1) := by decide +kernel
theorem dX10_waits_41 : decode cX10_waits 41 = .ok (.iload_n 2, 1) := by decide +kernel
theorem dX10_waits_42 : decode cX10_waits 42 = .ok (.invokevirtual 98, 3) := by decide +kernel
theorem dX10_waits_45 : decode cX10_waits 45 = .ok (.ireturn, 1) := by decide +kernel
set_option maxRecDepth 20000 in
theorem ggX10_met_X10_outside : GoodIn wsX10_met wsX10_outside := goodIn_r _ [5] (by decide +kernel) (by decide +kernel)
set_option maxRecDepth 20000 in
theorem gX10_met_X10_outside : GoodIn wsX10_met (va_wsS RX10 72 yX10_outside wsX10_outside) := goodIn_app (goodIn_of _ (by decide +kernel)) ggX10_met_X10_outside
set_option maxRecDepth 20000 in
theorem ggX10_met_X6_metBy : GoodIn wsX10_met wsX6_metBy := goodIn_r _ [10, 11, 12, 13, 9, 14, 15, 16, 17, 18, 19, 20, 21, 22, 23, 24, 25, 26, 36] (by decide +kernel) (by decide +kernel)
set_option maxRecDepth 20000 in
theorem gX10_met_X6_metBy : GoodIn wsX10_met (wsV RX10 102 RX6 yX6_metBy wsX6_metBy) := goodIn_app (goodIn_of _ (by decide +kernel)) ggX10_met_X6_metBy
theorem dX10_met_0 : decode cX10_met 0 = .ok (.iload_n 1, 1) := by decide +kernel
theorem dX10_met_1 : decode cX10_met 1 = .ok (.iconst 0, 1) := by decide +kernel
theorem dX10_met_2 : decode cX10_met 2 = .ok (.iconst 2, 1) := by decide +kernel
theorem dX10_met_3 : decode cX10_met 3 = .ok (.invokestatic 72, 3) := by decide +kernel
theorem dX10_met_6 : decode cX10_met 6 = .ok (.ifCond .ne 13, 3) := by decide +kernel
theorem dX10_met_9 : decode cX10_met 9 = .ok (.iload_n 2, 1) := by decide +kernel
theorem dX10_met_10 : decode cX10_met 10 = .ok (.iconst 1, 1) := by decide +kernel
theorem dX10_met_11 : decode cX10_met 11 = .ok (.bipush 60, 2) := by decide +kernel
theorem dX10_met_13 : decode cX10_met 13 = .ok (.invokestatic 72, 3) := by decide +kernel
theorem dX10_met_16 : decode cX10_met 16 = .ok (.ifCond .eq 6, 3) := by decide +kernel
theorem dX10_met_19 : decode cX10_met 19 = .ok (.bipush (-2), 2) := by decide +kernel
theorem dX10_met_21 : decode cX10_met 21 = .ok (.ireturn, 1) := by decide +kernel
theorem dX10_met_22 : decode cX10_met 22 = .ok (.aload_n 0, 1) := by decide +kernel
theorem dX10_met_23 : decode cX10_met 23 = .ok (.getfield 19, 3) := by decide +kernel
theorem dX10_met_26 : decode cX10_met 26 = .ok (.iload_n 1, 1) := by decide +kernel
theorem dX10_met_27 : decode cX10_met 27 = .ok (.iload_n 2, 1) := by decide +kernel
theorem dX10_met_28 : decode cX10_met 28 = .ok (.invokevirtual 102, 3) := by decide +kernel
theorem dX10_met_31 : decode cX10_met 31 = .ok (.ireturn, 1) := by decide +kernel
set_option maxRecDepth 20000 in
theorem ggX10_gaps_X10_outside : GoodIn wsX10_gaps wsX10_outside := goodIn_r _ [5] (by decide +kernel) (by decide +kernel)
set_option maxRecDepth 20000 in
theorem gX10_gaps_X10_outside : GoodIn wsX10_gaps (va_wsS RX10 72 yX10_outside wsX10_outside) := goodIn_app (goodIn_of _ (by decide +kernel)) ggX10_gaps_X10_outside
set_option maxRecDepth 20000 in
theorem ggX10_gaps_X2_refused : GoodIn wsX10_gaps wsX2_refused := goodIn_r _ [9, 10] (by decide +kernel) (by decide +kernel)
set_option maxRecDepth 20000 in
theorem gX10_gaps_X2_refused : GoodIn wsX10_gaps (va_wsS RX10 105 yX2_refused wsX2_refused) := goodIn_app (goodIn_of _ (by decide +kernel)) ggX10_gaps_X2_refused
set_option maxRecDepth 20000 in
theorem ggX10_gaps_X6_busesOf : GoodIn wsX10_gaps wsX6_busesOf := goodIn_r _ [15, 16, 17, 18, 14, 19, 20, 21, 22, 23, 24, 25, 26, 27, 65] (by decide +kernel) (by decide +kernel)
set_option maxRecDepth 20000 in
theorem gX10_gaps_X6_busesOf : GoodIn wsX10_gaps (wsV RX10 95 RX6 yX6_busesOf wsX6_busesOf) := goodIn_app (goodIn_of _ (by decide +kernel)) ggX10_gaps_X6_busesOf
set_option maxRecDepth 20000 in
theorem ggX10_gaps_X6_sumOfGaps : GoodIn wsX10_gaps wsX6_sumOfGaps := goodIn_r _ [31, 16, 17, 18, 14, 19, 20, 32, 33, 34, 35, 36, 37, 38, 39, 40, 41, 42, 43, 44, 45, 46, 47, 48, 65] (by decide +kernel) (by decide +kernel)
set_option maxRecDepth 20000 in
theorem gX10_gaps_X6_sumOfGaps : GoodIn wsX10_gaps (wsV RX10 111 RX6 yX6_sumOfGaps wsX6_sumOfGaps) := goodIn_app (goodIn_of _ (by decide +kernel)) ggX10_gaps_X6_sumOfGaps
set_option maxRecDepth 20000 in
theorem ggX10_gaps_X2_told : GoodIn wsX10_gaps wsX2_told := goodIn_r _ [51, 52, 53, 8, 54, 55, 7, 9, 10] (by decide +kernel) (by decide +kernel)
set_option maxRecDepth 20000 in
theorem gX10_gaps_X2_told : GoodIn wsX10_gaps (va_wsS RX10 114 yX2_told wsX2_told) := goodIn_app (goodIn_of _ (by decide +kernel)) ggX10_gaps_X2_told
theorem dX10_gaps_0 : decode cX10_gaps 0 = .ok (.iload_n 1, 1) := by decide +kernel
theorem dX10_gaps_1 : decode cX10_gaps 1 = .ok (.iconst 0, 1) := by decide +kernel
theorem dX10_gaps_2 : decode cX10_gaps 2 = .ok (.iconst 2, 1) := by decide +kernel
theorem dX10_gaps_3 : decode cX10_gaps 3 = .ok (.invokestatic 72, 3) := by decide +kernel
theorem dX10_gaps_6 : decode cX10_gaps 6 = .ok (.ifCond .ne 21, 3) := by decide +kernel
theorem dX10_gaps_9 : decode cX10_gaps 9 = .ok (.iload_n 2, 1) := by decide +kernel
theorem dX10_gaps_10 : decode cX10_gaps 10 = .ok (.iconst 0, 1) := by decide +kernel
theorem dX10_gaps_11 : decode cX10_gaps 11 = .ok (.iconst 2, 1) := by decide +kernel
theorem dX10_gaps_12 : decode cX10_gaps 12 = .ok (.invokestatic 72, 3) := by decide +kernel
theorem dX10_gaps_15 : decode cX10_gaps 15 = .ok (.ifCond .ne 12, 3) := by decide +kernel
theorem dX10_gaps_18 : decode cX10_gaps 18 = .ok (.iload_n 3, 1) := by decide +kernel
theorem dX10_gaps_19 : decode cX10_gaps 19 = .ok (.iconst 0, 1) := by decide +kernel
theorem dX10_gaps_20 : decode cX10_gaps 20 = .ok (.iconst 1, 1) := by decide +kernel
theorem dX10_gaps_21 : decode cX10_gaps 21 = .ok (.invokestatic 72, 3) := by decide +kernel
theorem dX10_gaps_24 : decode cX10_gaps 24 = .ok (.ifCond .eq 9, 3) := by decide +kernel
theorem dX10_gaps_27 : decode cX10_gaps 27 = .ok (.bipush (-2), 2) := by decide +kernel
theorem dX10_gaps_29 : decode cX10_gaps 29 = .ok (.invokestatic 105, 3) := by decide +kernel
theorem dX10_gaps_32 : decode cX10_gaps 32 = .ok (.lreturn, 1) := by decide +kernel
theorem dX10_gaps_33 : decode cX10_gaps 33 = .ok (.aload_n 0, 1) := by decide +kernel
theorem dX10_gaps_34 : decode cX10_gaps 34 = .ok (.getfield 19, 3) := by decide +kernel
theorem dX10_gaps_37 : decode cX10_gaps 37 = .ok (.iload_n 1, 1) := by decide +kernel
theorem dX10_gaps_38 : decode cX10_gaps 38 = .ok (.invokevirtual 95, 3) := by decide +kernel
theorem dX10_gaps_41 : decode cX10_gaps 41 = .ok (.ifCond .ne 9, 3) := by decide +kernel
theorem dX10_gaps_44 : decode cX10_gaps 44 = .ok (.bipush (-3), 2) := by decide +kernel
theorem dX10_gaps_46 : decode cX10_gaps 46 = .ok (.invokestatic 105, 3) := by decide +kernel
theorem dX10_gaps_49 : decode cX10_gaps 49 = .ok (.lreturn, 1) := by decide +kernel
theorem dX10_gaps_50 : decode cX10_gaps 50 = .ok (.iload_n 2, 1) := by decide +kernel
theorem dX10_gaps_51 : decode cX10_gaps 51 = .ok (.ifCond .ne 14, 3) := by decide +kernel
theorem dX10_gaps_54 : decode cX10_gaps 54 = .ok (.aload_n 0, 1) := by decide +kernel
theorem dX10_gaps_55 : decode cX10_gaps 55 = .ok (.getfield 19, 3) := by decide +kernel
theorem dX10_gaps_58 : decode cX10_gaps 58 = .ok (.iload_n 1, 1) := by decide +kernel
theorem dX10_gaps_59 : decode cX10_gaps 59 = .ok (.invokevirtual 95, 3) := by decide +kernel
theorem dX10_gaps_62 : decode cX10_gaps 62 = .ok (.goto 5, 3) := by decide +kernel
theorem dX10_gaps_65 : decode cX10_gaps 65 = .ok (.bipush 60, 2) := by decide +kernel
theorem dX10_gaps_67 : decode cX10_gaps 67 = .ok (.istore 4, 2) := by decide +kernel
theorem dX10_gaps_69 : decode cX10_gaps 69 = .ok (.aload_n 0, 1) := by decide +kernel
theorem dX10_gaps_70 : decode cX10_gaps 70 = .ok (.getfield 19, 3) := by decide +kernel
theorem dX10_gaps_73 : decode cX10_gaps 73 = .ok (.iload_n 1, 1) := by decide +kernel
theorem dX10_gaps_74 : decode cX10_gaps 74 = .ok (.iload_n 2, 1) := by decide +kernel
theorem dX10_gaps_75 : decode cX10_gaps 75 = .ok (.invokevirtual 111, 3) := by decide +kernel
theorem dX10_gaps_78 : decode cX10_gaps 78 = .ok (.i2l, 1) := by decide +kernel
theorem dX10_gaps_79 : decode cX10_gaps 79 = .ok (.iload 4, 2) := by decide +kernel
theorem dX10_gaps_81 : decode cX10_gaps 81 = .ok (.i2l, 1) := by decide +kernel
theorem dX10_gaps_82 : decode cX10_gaps 82 = .ok (.iload_n 3, 1) := by decide +kernel
theorem dX10_gaps_83 : decode cX10_gaps 83 = .ok (.invokestatic 114, 3) := by decide +kernel
theorem dX10_gaps_86 : decode cX10_gaps 86 = .ok (.lreturn, 1) := by decide +kernel
set_option maxRecDepth 20000 in
theorem ggX10_held_X10_outside : GoodIn wsX10_held wsX10_outside := goodIn_r _ [6] (by decide +kernel) (by decide +kernel)
set_option maxRecDepth 20000 in
theorem gX10_held_X10_outside : GoodIn wsX10_held (va_wsS RX10 72 yX10_outside wsX10_outside) := goodIn_app (goodIn_of _ (by decide +kernel)) ggX10_held_X10_outside
set_option maxRecDepth 20000 in
theorem ggX10_held_X6_busesOf : GoodIn wsX10_held wsX6_busesOf := goodIn_r _ [11, 12, 13, 14, 10, 15, 16, 17, 18, 19, 20, 21, 22, 23, 83] (by decide +kernel) (by decide +kernel)
set_option maxRecDepth 20000 in
theorem gX10_held_X6_busesOf : GoodIn wsX10_held (wsV RX10 95 RX6 yX6_busesOf wsX6_busesOf) := goodIn_app (goodIn_of _ (by decide +kernel)) ggX10_held_X6_busesOf
set_option maxRecDepth 20000 in
theorem ggX10_held_X6_minutesOf : GoodIn wsX10_held wsX6_minutesOf := goodIn_r _ [15, 16, 83] (by decide +kernel) (by decide +kernel)
set_option maxRecDepth 20000 in
theorem gX10_held_X6_minutesOf : GoodIn wsX10_held (wsV RX10 118 RX6 yX6_minutesOf wsX6_minutesOf) := goodIn_app (goodIn_of _ (by decide +kernel)) ggX10_held_X6_minutesOf
set_option maxRecDepth 20000 in
theorem ggX10_held_X3_settle : GoodIn wsX10_held wsX3_settle := goodIn_r _ [29, 30, 31, 32, 33, 34, 28, 35, 36, 37, 38, 39, 10, 40, 41, 42, 43, 44, 45, 46, 47, 48, 49, 50, 51, 52, 53, 54, 55, 56, 57, 58, 59, 60, 61, 62, 63, 64, 65, 66, 67, 68, 69, 84, 85, 86, 87, 88] (by decide +kernel) (by decide +kernel)
set_option maxRecDepth 20000 in
theorem gX10_held_X3_settle : GoodIn wsX10_held (wsV RX10 121 RX3 yX3_settle wsX3_settle) := goodIn_app (goodIn_of _ (by decide +kernel)) ggX10_held_X3_settle
set_option maxRecDepth 20000 in
theorem ggX10_held_X3_laterOf : GoodIn wsX10_held wsX3_laterOf := goodIn_r _ [73, 65, 84, 85, 86, 87, 88] (by decide +kernel) (by decide +kernel)
set_option maxRecDepth 20000 in
theorem gX10_held_X3_laterOf : GoodIn wsX10_held (wsV RX10 125 RX3 yX3_laterOf wsX3_laterOf) := goodIn_app (goodIn_of _ (by decide +kernel)) ggX10_held_X3_laterOf
theorem dX10_held_0 : decode cX10_held 0 = .ok (.iload_n 1, 1) := by decide +kernel
theorem dX10_held_1 : decode cX10_held 1 = .ok (.iconst 0, 1) := by decide +kernel
theorem dX10_held_2 : decode cX10_held 2 = .ok (.iconst 1, 1) := by decide +kernel
theorem dX10_held_3 : decode cX10_held 3 = .ok (.invokestatic 72, 3) := by decide +kernel
theorem dX10_held_6 : decode cX10_held 6 = .ok (.ifCond .ne 22, 3) := by decide +kernel
theorem dX10_held_9 : decode cX10_held 9 = .ok (.iload_n 2, 1) := by decide +kernel
theorem dX10_held_10 : decode cX10_held 10 = .ok (.iconst 0, 1) := by decide +kernel
theorem dX10_held_11 : decode cX10_held 11 = .ok (.iconst 5, 1) := by decide +kernel
theorem dX10_held_12 : decode cX10_held 12 = .ok (.invokestatic 72, 3) := by decide +kernel
theorem dX10_held_15 : decode cX10_held 15 = .ok (.ifCond .ne 13, 3) := by decide +kernel
theorem dX10_held_18 : decode cX10_held 18 = .ok (.iload_n 3, 1) := by decide +kernel
theorem dX10_held_19 : decode cX10_held 19 = .ok (.iconst (-1), 1) := by decide +kernel
theorem dX10_held_20 : decode cX10_held 20 = .ok (.bipush 59, 2) := by decide +kernel
theorem dX10_held_22 : decode cX10_held 22 = .ok (.invokestatic 72, 3) := by decide +kernel
theorem dX10_held_25 : decode cX10_held 25 = .ok (.ifCond .eq 6, 3) := by decide +kernel
theorem dX10_held_28 : decode cX10_held 28 = .ok (.bipush (-2), 2) := by decide +kernel
theorem dX10_held_30 : decode cX10_held 30 = .ok (.ireturn, 1) := by decide +kernel
theorem dX10_held_31 : decode cX10_held 31 = .ok (.aload_n 0, 1) := by decide +kernel
theorem dX10_held_32 : decode cX10_held 32 = .ok (.getfield 19, 3) := by decide +kernel
theorem dX10_held_35 : decode cX10_held 35 = .ok (.iload_n 1, 1) := by decide +kernel
theorem dX10_held_36 : decode cX10_held 36 = .ok (.invokevirtual 95, 3) := by decide +kernel
theorem dX10_held_39 : decode cX10_held 39 = .ok (.istore 4, 2) := by decide +kernel
theorem dX10_held_41 : decode cX10_held 41 = .ok (.iload 4, 2) := by decide +kernel
theorem dX10_held_43 : decode cX10_held 43 = .ok (.ifCond .ne 6, 3) := by decide +kernel
theorem dX10_held_46 : decode cX10_held 46 = .ok (.bipush (-3), 2) := by decide +kernel
theorem dX10_held_48 : decode cX10_held 48 = .ok (.ireturn, 1) := by decide +kernel
theorem dX10_held_49 : decode cX10_held 49 = .ok (.iload 4, 2) := by decide +kernel
theorem dX10_held_51 : decode cX10_held 51 = .ok (.bipush 12, 2) := by decide +kernel
theorem dX10_held_53 : decode cX10_held 53 = .ok (.if_icmp .le 6, 3) := by decide +kernel
theorem dX10_held_56 : decode cX10_held 56 = .ok (.bipush (-4), 2) := by decide +kernel
theorem dX10_held_58 : decode cX10_held 58 = .ok (.ireturn, 1) := by decide +kernel
theorem dX10_held_59 : decode cX10_held 59 = .ok (.iload_n 3, 1) := by decide +kernel
theorem dX10_held_60 : decode cX10_held 60 = .ok (.iload 4, 2) := by decide +kernel
theorem dX10_held_62 : decode cX10_held 62 = .ok (.if_icmp .lt 6, 3) := by decide +kernel
theorem dX10_held_65 : decode cX10_held 65 = .ok (.bipush (-3), 2) := by decide +kernel
theorem dX10_held_67 : decode cX10_held 67 = .ok (.ireturn, 1) := by decide +kernel
theorem dX10_held_68 : decode cX10_held 68 = .ok (.aload_n 0, 1) := by decide +kernel
theorem dX10_held_69 : decode cX10_held 69 = .ok (.getfield 26, 3) := by decide +kernel
theorem dX10_held_72 : decode cX10_held 72 = .ok (.aload_n 0, 1) := by decide +kernel
theorem dX10_held_73 : decode cX10_held 73 = .ok (.getfield 19, 3) := by decide +kernel
theorem dX10_held_76 : decode cX10_held 76 = .ok (.iload_n 1, 1) := by decide +kernel
theorem dX10_held_77 : decode cX10_held 77 = .ok (.invokevirtual 118, 3) := by decide +kernel
theorem dX10_held_80 : decode cX10_held 80 = .ok (.iload_n 2, 1) := by decide +kernel
theorem dX10_held_81 : decode cX10_held 81 = .ok (.invokevirtual 121, 3) := by decide +kernel
theorem dX10_held_84 : decode cX10_held 84 = .ok (.istore 5, 2) := by decide +kernel
theorem dX10_held_86 : decode cX10_held 86 = .ok (.iload_n 3, 1) := by decide +kernel
theorem dX10_held_87 : decode cX10_held 87 = .ok (.iconst (-1), 1) := by decide +kernel
theorem dX10_held_88 : decode cX10_held 88 = .ok (.if_icmp .ne 8, 3) := by decide +kernel
theorem dX10_held_91 : decode cX10_held 91 = .ok (.iload 5, 2) := by decide +kernel
theorem dX10_held_93 : decode cX10_held 93 = .ok (.goto 11, 3) := by decide +kernel
theorem dX10_held_96 : decode cX10_held 96 = .ok (.aload_n 0, 1) := by decide +kernel
theorem dX10_held_97 : decode cX10_held 97 = .ok (.getfield 26, 3) := by decide +kernel
theorem dX10_held_100 : decode cX10_held 100 = .ok (.iload_n 3, 1) := by decide +kernel
theorem dX10_held_101 : decode cX10_held 101 = .ok (.invokevirtual 125, 3) := by decide +kernel
theorem dX10_held_104 : decode cX10_held 104 = .ok (.ireturn, 1) := by decide +kernel
set_option maxRecDepth 20000 in
theorem ggX10_asked_X10_outside : GoodIn wsX10_asked wsX10_outside := goodIn_r _ [5] (by decide +kernel) (by decide +kernel)
set_option maxRecDepth 20000 in
theorem gX10_asked_X10_outside : GoodIn wsX10_asked (va_wsS RX10 72 yX10_outside wsX10_outside) := goodIn_app (goodIn_of _ (by decide +kernel)) ggX10_asked_X10_outside
set_option maxRecDepth 20000 in
theorem ggX10_asked_X7_cannotBeNow : GoodIn wsX10_asked wsX7_cannotBeNow := goodIn_r _ [10, 11, 3, 4, 5, 29, 30, 31, 32, 33, 34] (by decide +kernel) (by decide +kernel)
set_option maxRecDepth 20000 in
theorem gX10_asked_X7_cannotBeNow : GoodIn wsX10_asked (wsV RX10 128 RX7 yX7_cannotBeNow wsX7_cannotBeNow) := goodIn_app (goodIn_of _ (by decide +kernel)) ggX10_asked_X7_cannotBeNow
set_option maxRecDepth 20000 in
theorem ggX10_asked_X7_answer : GoodIn wsX10_asked wsX7_answer := goodIn_r _ [15, 16, 17, 18, 19, 11, 29, 30, 31, 32, 33, 34] (by decide +kernel) (by decide +kernel)
set_option maxRecDepth 20000 in
theorem gX10_asked_X7_answer : GoodIn wsX10_asked (wsV RX10 132 RX7 yX7_answer wsX7_answer) := goodIn_app (goodIn_of _ (by decide +kernel)) ggX10_asked_X7_answer
theorem dX10_asked_0 : decode cX10_asked 0 = .ok (.iload_n 1, 1) := by decide +kernel
theorem dX10_asked_1 : decode cX10_asked 1 = .ok (.iconst 1, 1) := by decide +kernel
theorem dX10_asked_2 : decode cX10_asked 2 = .ok (.bipush 8, 2) := by decide +kernel
theorem dX10_asked_4 : decode cX10_asked 4 = .ok (.invokestatic 72, 3) := by decide +kernel
theorem dX10_asked_7 : decode cX10_asked 7 = .ok (.ifCond .ne 14, 3) := by decide +kernel
theorem dX10_asked_10 : decode cX10_asked 10 = .ok (.aload_n 0, 1) := by decide +kernel
theorem dX10_asked_11 : decode cX10_asked 11 = .ok (.getfield 33, 3) := by decide +kernel
theorem dX10_asked_14 : decode cX10_asked 14 = .ok (.iload_n 2, 1) := by decide +kernel
theorem dX10_asked_15 : decode cX10_asked 15 = .ok (.invokevirtual 128, 3) := by decide +kernel
theorem dX10_asked_18 : decode cX10_asked 18 = .ok (.ifCond .eq 6, 3) := by decide +kernel
theorem dX10_asked_21 : decode cX10_asked 21 = .ok (.bipush (-2), 2) := by decide +kernel
theorem dX10_asked_23 : decode cX10_asked 23 = .ok (.ireturn, 1) := by decide +kernel
theorem dX10_asked_24 : decode cX10_asked 24 = .ok (.aload_n 0, 1) := by decide +kernel
theorem dX10_asked_25 : decode cX10_asked 25 = .ok (.getfield 33, 3) := by decide +kernel
theorem dX10_asked_28 : decode cX10_asked 28 = .ok (.iload_n 1, 1) := by decide +kernel
theorem dX10_asked_29 : decode cX10_asked 29 = .ok (.iload_n 2, 1) := by decide +kernel
theorem dX10_asked_30 : decode cX10_asked 30 = .ok (.invokevirtual 132, 3) := by decide +kernel
theorem dX10_asked_33 : decode cX10_asked 33 = .ok (.ireturn, 1) := by decide +kernel
set_option maxRecDepth 20000 in
theorem ggX10_read_X10_outside : GoodIn wsX10_read wsX10_outside := goodIn_r _ [6] (by decide +kernel) (by decide +kernel)
set_option maxRecDepth 20000 in
theorem gX10_read_X10_outside : GoodIn wsX10_read (va_wsS RX10 72 yX10_outside wsX10_outside) := goodIn_app (goodIn_of _ (by decide +kernel)) ggX10_read_X10_outside
set_option maxRecDepth 20000 in
theorem ggX10_read_X7_cannotBeNow : GoodIn wsX10_read wsX7_cannotBeNow := goodIn_r _ [11, 12, 4, 5, 6, 54, 55, 56, 57, 58, 59] (by decide +kernel) (by decide +kernel)
set_option maxRecDepth 20000 in
theorem gX10_read_X7_cannotBeNow : GoodIn wsX10_read (wsV RX10 128 RX7 yX7_cannotBeNow wsX7_cannotBeNow) := goodIn_app (goodIn_of _ (by decide +kernel)) ggX10_read_X7_cannotBeNow
set_option maxRecDepth 20000 in
theorem ggX10_read_X5_isLost : GoodIn wsX10_read wsX5_isLost := goodIn_r _ [17, 18, 60, 61, 62, 63] (by decide +kernel) (by decide +kernel)
set_option maxRecDepth 20000 in
theorem gX10_read_X5_isLost : GoodIn wsX10_read (wsV RX10 135 RX5 yX5_isLost wsX5_isLost) := goodIn_app (goodIn_of _ (by decide +kernel)) ggX10_read_X5_isLost
set_option maxRecDepth 20000 in
theorem ggX10_read_X5_finding : GoodIn wsX10_read wsX5_finding := goodIn_r _ [22, 23, 60, 61, 62, 63] (by decide +kernel) (by decide +kernel)
set_option maxRecDepth 20000 in
theorem gX10_read_X5_finding : GoodIn wsX10_read (wsV RX10 138 RX5 yX5_finding wsX5_finding) := goodIn_app (goodIn_of _ (by decide +kernel)) ggX10_read_X5_finding
set_option maxRecDepth 20000 in
theorem ggX10_read_X5_itemsOf : GoodIn wsX10_read wsX5_itemsOf := goodIn_r _ [27, 18, 60, 61, 62, 63] (by decide +kernel) (by decide +kernel)
set_option maxRecDepth 20000 in
theorem gX10_read_X5_itemsOf : GoodIn wsX10_read (wsV RX10 141 RX5 yX5_itemsOf wsX5_itemsOf) := goodIn_app (goodIn_of _ (by decide +kernel)) ggX10_read_X5_itemsOf
set_option maxRecDepth 20000 in
theorem ggX10_read_X5_itemAt : GoodIn wsX10_read wsX5_itemAt := goodIn_r _ [31, 32, 60, 61, 62, 63] (by decide +kernel) (by decide +kernel)
set_option maxRecDepth 20000 in
theorem gX10_read_X5_itemAt : GoodIn wsX10_read (wsV RX10 144 RX5 yX5_itemAt wsX5_itemAt) := goodIn_app (goodIn_of _ (by decide +kernel)) ggX10_read_X5_itemAt
set_option maxRecDepth 20000 in
theorem ggX10_read_X10_asked : GoodIn wsX10_read wsX10_asked := goodIn_r _ [36, 1, 3, 4, 5, 6, 7, 8, 9, 10, 11, 12, 37, 38, 39, 40, 41, 42, 43, 44, 45, 46, 47, 48, 49, 50, 51, 52, 53, 54, 55, 56, 57, 58, 59] (by decide +kernel) (by decide +kernel)
set_option maxRecDepth 20000 in
theorem gX10_read_X10_asked : GoodIn wsX10_read (wsV RX10 147 RX10 yX10_asked wsX10_asked) := goodIn_app (goodIn_of _ (by decide +kernel)) ggX10_read_X10_asked
theorem dX10_read_0 : decode cX10_read 0 = .ok (.iload_n 1, 1) := by decide +kernel
theorem dX10_read_1 : decode cX10_read 1 = .ok (.iconst 0, 1) := by decide +kernel
theorem dX10_read_2 : decode cX10_read 2 = .ok (.iconst 3, 1) := by decide +kernel
theorem dX10_read_3 : decode cX10_read 3 = .ok (.invokestatic 72, 3) := by decide +kernel
theorem dX10_read_6 : decode cX10_read 6 = .ok (.ifCond .ne 14, 3) := by decide +kernel
theorem dX10_read_9 : decode cX10_read 9 = .ok (.aload_n 0, 1) := by decide +kernel
theorem dX10_read_10 : decode cX10_read 10 = .ok (.getfield 33, 3) := by decide +kernel
theorem dX10_read_13 : decode cX10_read 13 = .ok (.iload_n 2, 1) := by decide +kernel
theorem dX10_read_14 : decode cX10_read 14 = .ok (.invokevirtual 128, 3) := by decide +kernel
theorem dX10_read_17 : decode cX10_read 17 = .ok (.ifCond .eq 6, 3) := by decide +kernel
theorem dX10_read_20 : decode cX10_read 20 = .ok (.bipush (-2), 2) := by decide +kernel
theorem dX10_read_22 : decode cX10_read 22 = .ok (.ireturn, 1) := by decide +kernel
theorem dX10_read_23 : decode cX10_read 23 = .ok (.aload_n 0, 1) := by decide +kernel
theorem dX10_read_24 : decode cX10_read 24 = .ok (.getfield 68, 3) := by decide +kernel
theorem dX10_read_27 : decode cX10_read 27 = .ok (.iload_n 1, 1) := by decide +kernel
theorem dX10_read_28 : decode cX10_read 28 = .ok (.invokevirtual 135, 3) := by decide +kernel
theorem dX10_read_31 : decode cX10_read 31 = .ok (.ifCond .eq 12, 3) := by decide +kernel
theorem dX10_read_34 : decode cX10_read 34 = .ok (.aload_n 0, 1) := by decide +kernel
theorem dX10_read_35 : decode cX10_read 35 = .ok (.getfield 68, 3) := by decide +kernel
theorem dX10_read_38 : decode cX10_read 38 = .ok (.iconst 1, 1) := by decide +kernel
theorem dX10_read_39 : decode cX10_read 39 = .ok (.invokevirtual 138, 3) := by decide +kernel
theorem dX10_read_42 : decode cX10_read 42 = .ok (.ireturn, 1) := by decide +kernel
theorem dX10_read_43 : decode cX10_read 43 = .ok (.aload_n 0, 1) := by decide +kernel
theorem dX10_read_44 : decode cX10_read 44 = .ok (.getfield 68, 3) := by decide +kernel
theorem dX10_read_47 : decode cX10_read 47 = .ok (.iload_n 1, 1) := by decide +kernel
theorem dX10_read_48 : decode cX10_read 48 = .ok (.invokevirtual 141, 3) := by decide +kernel
theorem dX10_read_51 : decode cX10_read 51 = .ok (.istore_n 3, 1) := by decide +kernel
theorem dX10_read_52 : decode cX10_read 52 = .ok (.iconst 0, 1) := by decide +kernel
theorem dX10_read_53 : decode cX10_read 53 = .ok (.istore 4, 2) := by decide +kernel
theorem dX10_read_55 : decode cX10_read 55 = .ok (.iload 4, 2) := by decide +kernel
theorem dX10_read_57 : decode cX10_read 57 = .ok (.iload_n 3, 1) := by decide +kernel
theorem dX10_read_58 : decode cX10_read 58 = .ok (.if_icmp .ge 30, 3) := by decide +kernel
theorem dX10_read_61 : decode cX10_read 61 = .ok (.aload_n 0, 1) := by decide +kernel
theorem dX10_read_62 : decode cX10_read 62 = .ok (.aload_n 0, 1) := by decide +kernel
theorem dX10_read_63 : decode cX10_read 63 = .ok (.getfield 68, 3) := by decide +kernel
theorem dX10_read_66 : decode cX10_read 66 = .ok (.iload_n 1, 1) := by decide +kernel
theorem dX10_read_67 : decode cX10_read 67 = .ok (.iload 4, 2) := by decide +kernel
theorem dX10_read_69 : decode cX10_read 69 = .ok (.invokevirtual 144, 3) := by decide +kernel
theorem dX10_read_72 : decode cX10_read 72 = .ok (.iload_n 2, 1) := by decide +kernel
theorem dX10_read_73 : decode cX10_read 73 = .ok (.invokevirtual 147, 3) := by decide +kernel
theorem dX10_read_76 : decode cX10_read 76 = .ok (.ifCond .ge 6, 3) := by decide +kernel
theorem dX10_read_79 : decode cX10_read 79 = .ok (.iload 4, 2) := by decide +kernel
theorem dX10_read_81 : decode cX10_read 81 = .ok (.ireturn, 1) := by decide +kernel
theorem dX10_read_82 : decode cX10_read 82 = .ok (.iinc 4 1, 3) := by decide +kernel
theorem dX10_read_85 : decode cX10_read 85 = .ok (.goto (-30), 3) := by decide +kernel
theorem dX10_read_88 : decode cX10_read 88 = .ok (.iload_n 3, 1) := by decide +kernel
theorem dX10_read_89 : decode cX10_read 89 = .ok (.ireturn, 1) := by decide +kernel
set_option maxRecDepth 20000 in
theorem ggX10_takeBack_X7_answersTold : GoodIn wsX10_takeBack wsX7_answersTold := goodIn_r _ [6, 7, 35, 36, 37, 38, 39, 40] (by decide +kernel) (by decide +kernel)
set_option maxRecDepth 20000 in
theorem gX10_takeBack_X7_answersTold : GoodIn wsX10_takeBack (wsV RX10 150 RX7 yX7_answersTold wsX7_answersTold) := goodIn_app (goodIn_of _ (by decide +kernel)) ggX10_takeBack_X7_answersTold
set_option maxRecDepth 20000 in
theorem ggX10_takeBack_X10_outside : GoodIn wsX10_takeBack wsX10_outside := goodIn_r _ [11] (by decide +kernel) (by decide +kernel)
set_option maxRecDepth 20000 in
theorem gX10_takeBack_X10_outside : GoodIn wsX10_takeBack (va_wsS RX10 72 yX10_outside wsX10_outside) := goodIn_app (goodIn_of _ (by decide +kernel)) ggX10_takeBack_X10_outside
set_option maxRecDepth 20000 in
theorem ggX10_takeBack_X7_cannotBeNow : GoodIn wsX10_takeBack wsX7_cannotBeNow := goodIn_r _ [15, 16, 9, 10, 11, 35, 36, 37, 38, 39, 40] (by decide +kernel) (by decide +kernel)
set_option maxRecDepth 20000 in
theorem gX10_takeBack_X7_cannotBeNow : GoodIn wsX10_takeBack (wsV RX10 128 RX7 yX7_cannotBeNow wsX7_cannotBeNow) := goodIn_app (goodIn_of _ (by decide +kernel)) ggX10_takeBack_X7_cannotBeNow
set_option maxRecDepth 20000 in
theorem ggX10_takeBack_X7_isTakenBack : GoodIn wsX10_takeBack wsX7_isTakenBack := goodIn_r _ [20, 21, 35, 36, 37, 38, 39, 40] (by decide +kernel) (by decide +kernel)
set_option maxRecDepth 20000 in
theorem gX10_takeBack_X7_isTakenBack : GoodIn wsX10_takeBack (wsV RX10 153 RX7 yX7_isTakenBack wsX7_isTakenBack) := goodIn_app (goodIn_of _ (by decide +kernel)) ggX10_takeBack_X7_isTakenBack
set_option maxRecDepth 20000 in
theorem ggX10_takeBack_X7_forget : GoodIn wsX10_takeBack wsX7_forget := goodIn_r _ [25, 21, 16, 35, 36, 37, 38, 39, 40] (by decide +kernel) (by decide +kernel)
set_option maxRecDepth 20000 in
theorem gX10_takeBack_X7_forget : GoodIn wsX10_takeBack (wsV RX10 156 RX7 yX7_forget wsX7_forget) := goodIn_app (goodIn_of _ (by decide +kernel)) ggX10_takeBack_X7_forget
theorem dX10_takeBack_0 : decode cX10_takeBack 0 = .ok (.iload_n 1, 1) := by decide +kernel
theorem dX10_takeBack_1 : decode cX10_takeBack 1 = .ok (.iconst 0, 1) := by decide +kernel
theorem dX10_takeBack_2 : decode cX10_takeBack 2 = .ok (.aload_n 0, 1) := by decide +kernel
theorem dX10_takeBack_3 : decode cX10_takeBack 3 = .ok (.getfield 33, 3) := by decide +kernel
theorem dX10_takeBack_6 : decode cX10_takeBack 6 = .ok (.invokevirtual 150, 3) := by decide +kernel
theorem dX10_takeBack_9 : decode cX10_takeBack 9 = .ok (.iconst 1, 1) := by decide +kernel
theorem dX10_takeBack_10 : decode cX10_takeBack 10 = .ok (.isub, 1) := by decide +kernel
theorem dX10_takeBack_11 : decode cX10_takeBack 11 = .ok (.invokestatic 72, 3) := by decide +kernel
theorem dX10_takeBack_14 : decode cX10_takeBack 14 = .ok (.ifCond .ne 14, 3) := by decide +kernel
theorem dX10_takeBack_17 : decode cX10_takeBack 17 = .ok (.aload_n 0, 1) := by decide +kernel
theorem dX10_takeBack_18 : decode cX10_takeBack 18 = .ok (.getfield 33, 3) := by decide +kernel
theorem dX10_takeBack_21 : decode cX10_takeBack 21 = .ok (.iload_n 2, 1) := by decide +kernel
theorem dX10_takeBack_22 : decode cX10_takeBack 22 = .ok (.invokevirtual 128, 3) := by decide +kernel
theorem dX10_takeBack_25 : decode cX10_takeBack 25 = .ok (.ifCond .eq 6, 3) := by decide +kernel
theorem dX10_takeBack_28 : decode cX10_takeBack 28 = .ok (.bipush (-2), 2) := by decide +kernel
theorem dX10_takeBack_30 : decode cX10_takeBack 30 = .ok (.ireturn, 1) := by decide +kernel
theorem dX10_takeBack_31 : decode cX10_takeBack 31 = .ok (.aload_n 0, 1) := by decide +kernel
theorem dX10_takeBack_32 : decode cX10_takeBack 32 = .ok (.getfield 33, 3) := by decide +kernel
theorem dX10_takeBack_35 : decode cX10_takeBack 35 = .ok (.iload_n 1, 1) := by decide +kernel
theorem dX10_takeBack_36 : decode cX10_takeBack 36 = .ok (.invokevirtual 153, 3) := by decide +kernel
theorem dX10_takeBack_39 : decode cX10_takeBack 39 = .ok (.ifCond .eq 6, 3) := by decide +kernel
theorem dX10_takeBack_42 : decode cX10_takeBack 42 = .ok (.bipush (-3), 2) := by decide +kernel
theorem dX10_takeBack_44 : decode cX10_takeBack 44 = .ok (.ireturn, 1) := by decide +kernel
theorem dX10_takeBack_45 : decode cX10_takeBack 45 = .ok (.aload_n 0, 1) := by decide +kernel
theorem dX10_takeBack_46 : decode cX10_takeBack 46 = .ok (.getfield 33, 3) := by decide +kernel
theorem dX10_takeBack_49 : decode cX10_takeBack 49 = .ok (.iload_n 1, 1) := by decide +kernel
theorem dX10_takeBack_50 : decode cX10_takeBack 50 = .ok (.iload_n 2, 1) := by decide +kernel
theorem dX10_takeBack_51 : decode cX10_takeBack 51 = .ok (.invokevirtual 156, 3) := by decide +kernel
theorem dX10_takeBack_54 : decode cX10_takeBack 54 = .ok (.iconst 1, 1) := by decide +kernel
theorem dX10_takeBack_55 : decode cX10_takeBack 55 = .ok (.ireturn, 1) := by decide +kernel
set_option maxRecDepth 20000 in
theorem ggX10_asOf_X10_outside : GoodIn wsX10_asOf wsX10_outside := goodIn_r _ [5] (by decide +kernel) (by decide +kernel)
set_option maxRecDepth 20000 in
theorem gX10_asOf_X10_outside : GoodIn wsX10_asOf (va_wsS RX10 72 yX10_outside wsX10_outside) := goodIn_app (goodIn_of _ (by decide +kernel)) ggX10_asOf_X10_outside
set_option maxRecDepth 20000 in
theorem ggX10_asOf_X7_lookFrom : GoodIn wsX10_asOf wsX7_lookFrom := goodIn_r _ [10, 11, 21, 22, 23, 24, 25, 26] (by decide +kernel) (by decide +kernel)
set_option maxRecDepth 20000 in
theorem gX10_asOf_X7_lookFrom : GoodIn wsX10_asOf (wsV RX10 160 RX7 yX7_lookFrom wsX7_lookFrom) := goodIn_app (goodIn_of _ (by decide +kernel)) ggX10_asOf_X7_lookFrom
theorem dX10_asOf_0 : decode cX10_asOf 0 = .ok (.iload_n 1, 1) := by decide +kernel
theorem dX10_asOf_1 : decode cX10_asOf 1 = .ok (.iconst 0, 1) := by decide +kernel
theorem dX10_asOf_2 : decode cX10_asOf 2 = .ok (.sipush 999, 3) := by decide +kernel
theorem dX10_asOf_5 : decode cX10_asOf 5 = .ok (.invokestatic 72, 3) := by decide +kernel
theorem dX10_asOf_8 : decode cX10_asOf 8 = .ok (.ifCond .eq 6, 3) := by decide +kernel
theorem dX10_asOf_11 : decode cX10_asOf 11 = .ok (.bipush (-2), 2) := by decide +kernel
theorem dX10_asOf_13 : decode cX10_asOf 13 = .ok (.ireturn, 1) := by decide +kernel
theorem dX10_asOf_14 : decode cX10_asOf 14 = .ok (.aload_n 0, 1) := by decide +kernel
theorem dX10_asOf_15 : decode cX10_asOf 15 = .ok (.getfield 33, 3) := by decide +kernel
theorem dX10_asOf_18 : decode cX10_asOf 18 = .ok (.iload_n 1, 1) := by decide +kernel
theorem dX10_asOf_19 : decode cX10_asOf 19 = .ok (.invokevirtual 160, 3) := by decide +kernel
theorem dX10_asOf_22 : decode cX10_asOf 22 = .ok (.ireturn, 1) := by decide +kernel
set_option maxRecDepth 20000 in
theorem ggX10_said_X10_outside : GoodIn wsX10_said wsX10_outside := goodIn_r _ [5] (by decide +kernel) (by decide +kernel)
set_option maxRecDepth 20000 in
theorem gX10_said_X10_outside : GoodIn wsX10_said (va_wsS RX10 72 yX10_outside wsX10_outside) := goodIn_app (goodIn_of _ (by decide +kernel)) ggX10_said_X10_outside
set_option maxRecDepth 20000 in
theorem ggX10_said_X7_saying : GoodIn wsX10_said wsX7_saying := goodIn_r _ [10, 11, 12, 13, 14, 15, 9, 16, 17, 18, 19, 29, 30, 31, 32, 33, 34] (by decide +kernel) (by decide +kernel)
set_option maxRecDepth 20000 in
theorem gX10_said_X7_saying : GoodIn wsX10_said (wsV RX10 163 RX7 yX7_saying wsX7_saying) := goodIn_app (goodIn_of _ (by decide +kernel)) ggX10_said_X7_saying
theorem dX10_said_0 : decode cX10_said 0 = .ok (.iload_n 1, 1) := by decide +kernel
theorem dX10_said_1 : decode cX10_said 1 = .ok (.iconst 1, 1) := by decide +kernel
theorem dX10_said_2 : decode cX10_said 2 = .ok (.bipush 8, 2) := by decide +kernel
theorem dX10_said_4 : decode cX10_said 4 = .ok (.invokestatic 72, 3) := by decide +kernel
theorem dX10_said_7 : decode cX10_said 7 = .ok (.ifCond .eq 6, 3) := by decide +kernel
theorem dX10_said_10 : decode cX10_said 10 = .ok (.bipush (-2), 2) := by decide +kernel
theorem dX10_said_12 : decode cX10_said 12 = .ok (.ireturn, 1) := by decide +kernel
theorem dX10_said_13 : decode cX10_said 13 = .ok (.aload_n 0, 1) := by decide +kernel
theorem dX10_said_14 : decode cX10_said 14 = .ok (.getfield 33, 3) := by decide +kernel
theorem dX10_said_17 : decode cX10_said 17 = .ok (.iload_n 1, 1) := by decide +kernel
theorem dX10_said_18 : decode cX10_said 18 = .ok (.invokevirtual 163, 3) := by decide +kernel
theorem dX10_said_21 : decode cX10_said 21 = .ok (.ireturn, 1) := by decide +kernel
set_option maxRecDepth 20000 in
theorem ggX10_share_X10_outside : GoodIn wsX10_share wsX10_outside := goodIn_r _ [5] (by decide +kernel) (by decide +kernel)
set_option maxRecDepth 20000 in
theorem gX10_share_X10_outside : GoodIn wsX10_share (va_wsS RX10 72 yX10_outside wsX10_outside) := goodIn_app (goodIn_of _ (by decide +kernel)) ggX10_share_X10_outside
set_option maxRecDepth 20000 in
theorem ggX10_share_X2_refused : GoodIn wsX10_share wsX2_refused := goodIn_r _ [9, 10] (by decide +kernel) (by decide +kernel)
set_option maxRecDepth 20000 in
theorem gX10_share_X2_refused : GoodIn wsX10_share (va_wsS RX10 105 yX2_refused wsX2_refused) := goodIn_app (goodIn_of _ (by decide +kernel)) ggX10_share_X2_refused
set_option maxRecDepth 20000 in
theorem ggX10_share_X7_saying : GoodIn wsX10_share wsX7_saying := goodIn_r _ [15, 16, 17, 18, 19, 20, 14, 21, 22, 23, 24, 55, 56, 57, 58, 59, 60] (by decide +kernel) (by decide +kernel)
set_option maxRecDepth 20000 in
theorem gX10_share_X7_saying : GoodIn wsX10_share (wsV RX10 163 RX7 yX7_saying wsX7_saying) := goodIn_app (goodIn_of _ (by decide +kernel)) ggX10_share_X7_saying
set_option maxRecDepth 20000 in
theorem ggX10_share_X7_counting : GoodIn wsX10_share wsX7_counting := goodIn_r _ [28, 16, 18, 19, 20, 14, 21, 22, 23, 24, 55, 56, 57, 58, 59, 60] (by decide +kernel) (by decide +kernel)
set_option maxRecDepth 20000 in
theorem gX10_share_X7_counting : GoodIn wsX10_share (wsV RX10 166 RX7 yX7_counting wsX7_counting) := goodIn_app (goodIn_of _ (by decide +kernel)) ggX10_share_X7_counting
set_option maxRecDepth 20000 in
theorem ggX10_share_X2_told : GoodIn wsX10_share wsX2_told := goodIn_r _ [31, 32, 33, 8, 34, 35, 7, 9, 10] (by decide +kernel) (by decide +kernel)
set_option maxRecDepth 20000 in
theorem gX10_share_X2_told : GoodIn wsX10_share (va_wsS RX10 114 yX2_told wsX2_told) := goodIn_app (goodIn_of _ (by decide +kernel)) ggX10_share_X2_told
set_option maxRecDepth 20000 in
theorem ggX10_share_X7_familyParts : GoodIn wsX10_share wsX7_familyParts := goodIn_r _ [39, 40, 12, 13, 14, 15, 16, 17, 18, 19, 20, 21, 22, 23, 24, 55, 56, 57, 58, 59, 60] (by decide +kernel) (by decide +kernel)
set_option maxRecDepth 20000 in
theorem gX10_share_X7_familyParts : GoodIn wsX10_share (wsV RX10 169 RX7 yX7_familyParts wsX7_familyParts) := goodIn_app (goodIn_of _ (by decide +kernel)) ggX10_share_X7_familyParts
set_option maxRecDepth 20000 in
theorem ggX10_share_X7_allFamilyParts : GoodIn wsX10_share wsX7_allFamilyParts := goodIn_r _ [44, 45, 37, 38, 14, 39, 40, 12, 13, 15, 16, 17, 18, 19, 20, 21, 22, 23, 24, 55, 56, 57, 58, 59, 60] (by decide +kernel) (by decide +kernel)
set_option maxRecDepth 20000 in
theorem gX10_share_X7_allFamilyParts : GoodIn wsX10_share (wsV RX10 172 RX7 yX7_allFamilyParts wsX7_allFamilyParts) := goodIn_app (goodIn_of _ (by decide +kernel)) ggX10_share_X7_allFamilyParts
theorem dX10_share_0 : decode cX10_share 0 = .ok (.iload_n 1, 1) := by decide +kernel
theorem dX10_share_1 : decode cX10_share 1 = .ok (.iconst 1, 1) := by decide +kernel
theorem dX10_share_2 : decode cX10_share 2 = .ok (.bipush 8, 2) := by decide +kernel
theorem dX10_share_4 : decode cX10_share 4 = .ok (.invokestatic 72, 3) := by decide +kernel
theorem dX10_share_7 : decode cX10_share 7 = .ok (.ifCond .ne 21, 3) := by decide +kernel
theorem dX10_share_10 : decode cX10_share 10 = .ok (.iload_n 2, 1) := by decide +kernel
theorem dX10_share_11 : decode cX10_share 11 = .ok (.iconst 0, 1) := by decide +kernel
theorem dX10_share_12 : decode cX10_share 12 = .ok (.iconst 1, 1) := by decide +kernel
theorem dX10_share_13 : decode cX10_share 13 = .ok (.invokestatic 72, 3) := by decide +kernel
theorem dX10_share_16 : decode cX10_share 16 = .ok (.ifCond .ne 12, 3) := by decide +kernel
theorem dX10_share_19 : decode cX10_share 19 = .ok (.iload_n 3, 1) := by decide +kernel
theorem dX10_share_20 : decode cX10_share 20 = .ok (.iconst 0, 1) := by decide +kernel
theorem dX10_share_21 : decode cX10_share 21 = .ok (.iconst 1, 1) := by decide +kernel
theorem dX10_share_22 : decode cX10_share 22 = .ok (.invokestatic 72, 3) := by decide +kernel
theorem dX10_share_25 : decode cX10_share 25 = .ok (.ifCond .eq 9, 3) := by decide +kernel
theorem dX10_share_28 : decode cX10_share 28 = .ok (.bipush (-2), 2) := by decide +kernel
theorem dX10_share_30 : decode cX10_share 30 = .ok (.invokestatic 105, 3) := by decide +kernel
theorem dX10_share_33 : decode cX10_share 33 = .ok (.lreturn, 1) := by decide +kernel
theorem dX10_share_34 : decode cX10_share 34 = .ok (.iload_n 2, 1) := by decide +kernel
theorem dX10_share_35 : decode cX10_share 35 = .ok (.ifCond .ne 25, 3) := by decide +kernel
theorem dX10_share_38 : decode cX10_share 38 = .ok (.aload_n 0, 1) := by decide +kernel
theorem dX10_share_39 : decode cX10_share 39 = .ok (.getfield 33, 3) := by decide +kernel
theorem dX10_share_42 : decode cX10_share 42 = .ok (.iload_n 1, 1) := by decide +kernel
theorem dX10_share_43 : decode cX10_share 43 = .ok (.invokevirtual 163, 3) := by decide +kernel
theorem dX10_share_46 : decode cX10_share 46 = .ok (.i2l, 1) := by decide +kernel
theorem dX10_share_47 : decode cX10_share 47 = .ok (.aload_n 0, 1) := by decide +kernel
theorem dX10_share_48 : decode cX10_share 48 = .ok (.getfield 33, 3) := by decide +kernel
theorem dX10_share_51 : decode cX10_share 51 = .ok (.invokevirtual 166, 3) := by decide +kernel
theorem dX10_share_54 : decode cX10_share 54 = .ok (.i2l, 1) := by decide +kernel
theorem dX10_share_55 : decode cX10_share 55 = .ok (.iload_n 3, 1) := by decide +kernel
theorem dX10_share_56 : decode cX10_share 56 = .ok (.invokestatic 114, 3) := by decide +kernel
theorem dX10_share_59 : decode cX10_share 59 = .ok (.lreturn, 1) := by decide +kernel
theorem dX10_share_60 : decode cX10_share 60 = .ok (.aload_n 0, 1) := by decide +kernel
theorem dX10_share_61 : decode cX10_share 61 = .ok (.getfield 33, 3) := by decide +kernel
theorem dX10_share_64 : decode cX10_share 64 = .ok (.iload_n 1, 1) := by decide +kernel
theorem dX10_share_65 : decode cX10_share 65 = .ok (.invokevirtual 169, 3) := by decide +kernel
theorem dX10_share_68 : decode cX10_share 68 = .ok (.i2l, 1) := by decide +kernel
theorem dX10_share_69 : decode cX10_share 69 = .ok (.aload_n 0, 1) := by decide +kernel
theorem dX10_share_70 : decode cX10_share 70 = .ok (.getfield 33, 3) := by decide +kernel
theorem dX10_share_73 : decode cX10_share 73 = .ok (.invokevirtual 172, 3) := by decide +kernel
theorem dX10_share_76 : decode cX10_share 76 = .ok (.i2l, 1) := by decide +kernel
theorem dX10_share_77 : decode cX10_share 77 = .ok (.iload_n 3, 1) := by decide +kernel
theorem dX10_share_78 : decode cX10_share 78 = .ok (.invokestatic 114, 3) := by decide +kernel
theorem dX10_share_81 : decode cX10_share 81 = .ok (.lreturn, 1) := by decide +kernel
set_option maxRecDepth 20000 in
theorem ggX10_size_X10_outside : GoodIn wsX10_size wsX10_outside := goodIn_r _ [6] (by decide +kernel) (by decide +kernel)
set_option maxRecDepth 20000 in
theorem gX10_size_X10_outside : GoodIn wsX10_size (va_wsS RX10 72 yX10_outside wsX10_outside) := goodIn_app (goodIn_of _ (by decide +kernel)) ggX10_size_X10_outside
set_option maxRecDepth 20000 in
theorem ggX10_size_X2_refused : GoodIn wsX10_size wsX2_refused := goodIn_r _ [10, 11] (by decide +kernel) (by decide +kernel)
set_option maxRecDepth 20000 in
theorem gX10_size_X2_refused : GoodIn wsX10_size (va_wsS RX10 105 yX2_refused wsX2_refused) := goodIn_app (goodIn_of _ (by decide +kernel)) ggX10_size_X2_refused
set_option maxRecDepth 20000 in
theorem ggX10_size_X7_childrenSaid : GoodIn wsX10_size wsX7_childrenSaid := goodIn_r _ [16, 17, 18, 19, 15, 20, 21, 22, 23, 24, 25, 26, 27, 28, 29, 58, 59, 60, 61, 62, 63] (by decide +kernel) (by decide +kernel)
set_option maxRecDepth 20000 in
theorem gX10_size_X7_childrenSaid : GoodIn wsX10_size (wsV RX10 175 RX7 yX7_childrenSaid wsX7_childrenSaid) := goodIn_app (goodIn_of _ (by decide +kernel)) ggX10_size_X7_childrenSaid
set_option maxRecDepth 20000 in
theorem ggX10_size_X7_counting : GoodIn wsX10_size wsX7_counting := goodIn_r _ [33, 21, 23, 24, 25, 15, 26, 27, 28, 29, 58, 59, 60, 61, 62, 63] (by decide +kernel) (by decide +kernel)
set_option maxRecDepth 20000 in
theorem gX10_size_X7_counting : GoodIn wsX10_size (wsV RX10 166 RX7 yX7_counting wsX7_counting) := goodIn_app (goodIn_of _ (by decide +kernel)) ggX10_size_X7_counting
set_option maxRecDepth 20000 in
theorem ggX10_size_X2_told : GoodIn wsX10_size wsX2_told := goodIn_r _ [36, 37, 38, 9, 39, 40, 8, 10, 11] (by decide +kernel) (by decide +kernel)
set_option maxRecDepth 20000 in
theorem gX10_size_X2_told : GoodIn wsX10_size (va_wsS RX10 114 yX2_told wsX2_told) := goodIn_app (goodIn_of _ (by decide +kernel)) ggX10_size_X2_told
set_option maxRecDepth 20000 in
theorem ggX10_size_X7_allFamilyParts : GoodIn wsX10_size wsX7_allFamilyParts := goodIn_r _ [44, 45, 46, 47, 15, 48, 17, 18, 19, 20, 21, 22, 23, 24, 25, 26, 27, 28, 29, 58, 59, 60, 61, 62, 63] (by decide +kernel) (by decide +kernel)
set_option maxRecDepth 20000 in
theorem gX10_size_X7_allFamilyParts : GoodIn wsX10_size (wsV RX10 172 RX7 yX7_allFamilyParts wsX7_allFamilyParts) := goodIn_app (goodIn_of _ (by decide +kernel)) ggX10_size_X7_allFamilyParts
theorem dX10_size_0 : decode cX10_size 0 = .ok (.iload_n 1, 1) := by decide +kernel
theorem dX10_size_1 : decode cX10_size 1 = .ok (.iconst 0, 1) := by decide +kernel
theorem dX10_size_2 : decode cX10_size 2 = .ok (.iconst 1, 1) := by decide +kernel
theorem dX10_size_3 : decode cX10_size 3 = .ok (.invokestatic 72, 3) := by decide +kernel
theorem dX10_size_6 : decode cX10_size 6 = .ok (.ifCond .ne 12, 3) := by decide +kernel
theorem dX10_size_9 : decode cX10_size 9 = .ok (.iload_n 2, 1) := by decide +kernel
theorem dX10_size_10 : decode cX10_size 10 = .ok (.iconst 0, 1) := by decide +kernel
theorem dX10_size_11 : decode cX10_size 11 = .ok (.iconst 1, 1) := by decide +kernel
theorem dX10_size_12 : decode cX10_size 12 = .ok (.invokestatic 72, 3) := by decide +kernel
theorem dX10_size_15 : decode cX10_size 15 = .ok (.ifCond .eq 9, 3) := by decide +kernel
theorem dX10_size_18 : decode cX10_size 18 = .ok (.bipush (-2), 2) := by decide +kernel
theorem dX10_size_20 : decode cX10_size 20 = .ok (.invokestatic 105, 3) := by decide +kernel
theorem dX10_size_23 : decode cX10_size 23 = .ok (.lreturn, 1) := by decide +kernel
theorem dX10_size_24 : decode cX10_size 24 = .ok (.iload_n 1, 1) := by decide +kernel
theorem dX10_size_25 : decode cX10_size 25 = .ok (.ifCond .ne 24, 3) := by decide +kernel
theorem dX10_size_28 : decode cX10_size 28 = .ok (.aload_n 0, 1) := by decide +kernel
theorem dX10_size_29 : decode cX10_size 29 = .ok (.getfield 33, 3) := by decide +kernel
theorem dX10_size_32 : decode cX10_size 32 = .ok (.invokevirtual 175, 3) := by decide +kernel
theorem dX10_size_35 : decode cX10_size 35 = .ok (.i2l, 1) := by decide +kernel
theorem dX10_size_36 : decode cX10_size 36 = .ok (.aload_n 0, 1) := by decide +kernel
theorem dX10_size_37 : decode cX10_size 37 = .ok (.getfield 33, 3) := by decide +kernel
theorem dX10_size_40 : decode cX10_size 40 = .ok (.invokevirtual 166, 3) := by decide +kernel
theorem dX10_size_43 : decode cX10_size 43 = .ok (.i2l, 1) := by decide +kernel
theorem dX10_size_44 : decode cX10_size 44 = .ok (.iload_n 2, 1) := by decide +kernel
theorem dX10_size_45 : decode cX10_size 45 = .ok (.invokestatic 114, 3) := by decide +kernel
theorem dX10_size_48 : decode cX10_size 48 = .ok (.lreturn, 1) := by decide +kernel
theorem dX10_size_49 : decode cX10_size 49 = .ok (.aload_n 0, 1) := by decide +kernel
theorem dX10_size_50 : decode cX10_size 50 = .ok (.getfield 33, 3) := by decide +kernel
theorem dX10_size_53 : decode cX10_size 53 = .ok (.invokevirtual 166, 3) := by decide +kernel
theorem dX10_size_56 : decode cX10_size 56 = .ok (.i2l, 1) := by decide +kernel
theorem dX10_size_57 : decode cX10_size 57 = .ok (.ldc2_w 178, 3) := by decide +kernel
theorem dX10_size_60 : decode cX10_size 60 = .ok (.lmul, 1) := by decide +kernel
theorem dX10_size_61 : decode cX10_size 61 = .ok (.aload_n 0, 1) := by decide +kernel
theorem dX10_size_62 : decode cX10_size 62 = .ok (.getfield 33, 3) := by decide +kernel
theorem dX10_size_65 : decode cX10_size 65 = .ok (.invokevirtual 172, 3) := by decide +kernel
theorem dX10_size_68 : decode cX10_size 68 = .ok (.i2l, 1) := by decide +kernel
theorem dX10_size_69 : decode cX10_size 69 = .ok (.iload_n 2, 1) := by decide +kernel
theorem dX10_size_70 : decode cX10_size 70 = .ok (.invokestatic 114, 3) := by decide +kernel
theorem dX10_size_73 : decode cX10_size 73 = .ok (.lreturn, 1) := by decide +kernel
set_option maxRecDepth 20000 in
theorem ggX10_families_X10_outside : GoodIn wsX10_families wsX10_outside := goodIn_r _ [5] (by decide +kernel) (by decide +kernel)
set_option maxRecDepth 20000 in
theorem gX10_families_X10_outside : GoodIn wsX10_families (va_wsS RX10 72 yX10_outside wsX10_outside) := goodIn_app (goodIn_of _ (by decide +kernel)) ggX10_families_X10_outside
set_option maxRecDepth 20000 in
theorem ggX10_families_X1_setFamilies : GoodIn wsX10_families wsX1_setFamilies := goodIn_r _ [10, 11, 21] (by decide +kernel) (by decide +kernel)
set_option maxRecDepth 20000 in
theorem gX10_families_X1_setFamilies : GoodIn wsX10_families (wsV RX10 180 RX1 yX1_setFamilies wsX1_setFamilies) := goodIn_app (goodIn_of _ (by decide +kernel)) ggX10_families_X1_setFamilies
theorem dX10_families_0 : decode cX10_families 0 = .ok (.iload_n 1, 1) := by decide +kernel
theorem dX10_families_1 : decode cX10_families 1 = .ok (.iconst 0, 1) := by decide +kernel
theorem dX10_families_2 : decode cX10_families 2 = .ok (.iconst 3, 1) := by decide +kernel
theorem dX10_families_3 : decode cX10_families 3 = .ok (.invokestatic 72, 3) := by decide +kernel
theorem dX10_families_6 : decode cX10_families 6 = .ok (.ifCond .ne 23, 3) := by decide +kernel
theorem dX10_families_9 : decode cX10_families 9 = .ok (.iload_n 2, 1) := by decide +kernel
theorem dX10_families_10 : decode cX10_families 10 = .ok (.iconst 1, 1) := by decide +kernel
theorem dX10_families_11 : decode cX10_families 11 = .ok (.bipush 8, 2) := by decide +kernel
theorem dX10_families_13 : decode cX10_families 13 = .ok (.invokestatic 72, 3) := by decide +kernel
theorem dX10_families_16 : decode cX10_families 16 = .ok (.ifCond .ne 13, 3) := by decide +kernel
theorem dX10_families_19 : decode cX10_families 19 = .ok (.iload_n 3, 1) := by decide +kernel
theorem dX10_families_20 : decode cX10_families 20 = .ok (.iconst 0, 1) := by decide +kernel
theorem dX10_families_21 : decode cX10_families 21 = .ok (.bipush 9, 2) := by decide +kernel
theorem dX10_families_23 : decode cX10_families 23 = .ok (.invokestatic 72, 3) := by decide +kernel
theorem dX10_families_26 : decode cX10_families 26 = .ok (.ifCond .eq 6, 3) := by decide +kernel
theorem dX10_families_29 : decode cX10_families 29 = .ok (.bipush (-2), 2) := by decide +kernel
theorem dX10_families_31 : decode cX10_families 31 = .ok (.ireturn, 1) := by decide +kernel
theorem dX10_families_32 : decode cX10_families 32 = .ok (.aload_n 0, 1) := by decide +kernel
theorem dX10_families_33 : decode cX10_families 33 = .ok (.getfield 40, 3) := by decide +kernel
theorem dX10_families_36 : decode cX10_families 36 = .ok (.iload_n 1, 1) := by decide +kernel
theorem dX10_families_37 : decode cX10_families 37 = .ok (.iload_n 2, 1) := by decide +kernel
theorem dX10_families_38 : decode cX10_families 38 = .ok (.iload_n 3, 1) := by decide +kernel
theorem dX10_families_39 : decode cX10_families 39 = .ok (.invokevirtual 180, 3) := by decide +kernel
theorem dX10_families_42 : decode cX10_families 42 = .ok (.ireturn, 1) := by decide +kernel
set_option maxRecDepth 20000 in
theorem ggX10_chance_X10_outside : GoodIn wsX10_chance wsX10_outside := goodIn_r _ [6] (by decide +kernel) (by decide +kernel)
set_option maxRecDepth 20000 in
theorem gX10_chance_X10_outside : GoodIn wsX10_chance (va_wsS RX10 72 yX10_outside wsX10_outside) := goodIn_app (goodIn_of _ (by decide +kernel)) ggX10_chance_X10_outside
set_option maxRecDepth 20000 in
theorem ggX10_chance_X2_refused : GoodIn wsX10_chance wsX2_refused := goodIn_r _ [10, 11] (by decide +kernel) (by decide +kernel)
set_option maxRecDepth 20000 in
theorem gX10_chance_X2_refused : GoodIn wsX10_chance (va_wsS RX10 105 yX2_refused wsX2_refused) := goodIn_app (goodIn_of _ (by decide +kernel)) ggX10_chance_X2_refused
set_option maxRecDepth 20000 in
theorem ggX10_chance_X7_counting : GoodIn wsX10_chance wsX7_counting := goodIn_r _ [16, 17, 18, 19, 20, 15, 21, 22, 23, 24, 68, 69, 70, 71, 72, 73] (by decide +kernel) (by decide +kernel)
set_option maxRecDepth 20000 in
theorem gX10_chance_X7_counting : GoodIn wsX10_chance (wsV RX10 166 RX7 yX7_counting wsX7_counting) := goodIn_app (goodIn_of _ (by decide +kernel)) ggX10_chance_X7_counting
set_option maxRecDepth 20000 in
theorem ggX10_chance_X1_hasFewer : GoodIn wsX10_chance wsX1_hasFewer := goodIn_r _ [29, 30, 31, 32, 28, 33, 34, 35, 13, 14, 15, 16, 17, 18, 19, 20, 21, 22, 23, 24, 74, 68, 69, 70, 71, 72, 73] (by decide +kernel) (by decide +kernel)
set_option maxRecDepth 20000 in
theorem gX10_chance_X1_hasFewer : GoodIn wsX10_chance (wsV RX10 184 RX1 yX1_hasFewer wsX1_hasFewer) := goodIn_app (goodIn_of _ (by decide +kernel)) ggX10_chance_X1_hasFewer
set_option maxRecDepth 20000 in
theorem ggX10_chance_X1_choicesThatFit : GoodIn wsX10_chance wsX1_choicesThatFit := goodIn_r _ [39, 34, 40, 41, 42, 15, 43, 17, 44, 18, 19, 20, 21, 22, 23, 24, 45, 46, 28, 47, 74, 68, 69, 70, 71, 72, 73] (by decide +kernel) (by decide +kernel)
set_option maxRecDepth 20000 in
theorem gX10_chance_X1_choicesThatFit : GoodIn wsX10_chance (wsV RX10 188 RX1 yX1_choicesThatFit wsX1_choicesThatFit) := goodIn_app (goodIn_of _ (by decide +kernel)) ggX10_chance_X1_choicesThatFit
set_option maxRecDepth 20000 in
theorem ggX10_chance_X1_choices : GoodIn wsX10_chance wsX1_choices := goodIn_r _ [51, 30, 31, 32, 28, 33, 34, 35, 13, 14, 15, 16, 17, 18, 19, 20, 21, 22, 23, 24, 45, 46, 47, 74, 68, 69, 70, 71, 72, 73] (by decide +kernel) (by decide +kernel)
set_option maxRecDepth 20000 in
theorem gX10_chance_X1_choices : GoodIn wsX10_chance (wsV RX10 192 RX1 yX1_choices wsX1_choices) := goodIn_app (goodIn_of _ (by decide +kernel)) ggX10_chance_X1_choices
set_option maxRecDepth 20000 in
theorem ggX10_chance_X2_told : GoodIn wsX10_chance wsX2_told := goodIn_r _ [54, 55, 56, 9, 57, 58, 8, 10, 11] (by decide +kernel) (by decide +kernel)
set_option maxRecDepth 20000 in
theorem gX10_chance_X2_told : GoodIn wsX10_chance (va_wsS RX10 114 yX2_told wsX2_told) := goodIn_app (goodIn_of _ (by decide +kernel)) ggX10_chance_X2_told
theorem dX10_chance_0 : decode cX10_chance 0 = .ok (.iload_n 1, 1) := by decide +kernel
theorem dX10_chance_1 : decode cX10_chance 1 = .ok (.iconst 0, 1) := by decide +kernel
theorem dX10_chance_2 : decode cX10_chance 2 = .ok (.iconst 3, 1) := by decide +kernel
theorem dX10_chance_3 : decode cX10_chance 3 = .ok (.invokestatic 72, 3) := by decide +kernel
theorem dX10_chance_6 : decode cX10_chance 6 = .ok (.ifCond .ne 12, 3) := by decide +kernel
theorem dX10_chance_9 : decode cX10_chance 9 = .ok (.iload_n 2, 1) := by decide +kernel
theorem dX10_chance_10 : decode cX10_chance 10 = .ok (.iconst 0, 1) := by decide +kernel
theorem dX10_chance_11 : decode cX10_chance 11 = .ok (.iconst 1, 1) := by decide +kernel
theorem dX10_chance_12 : decode cX10_chance 12 = .ok (.invokestatic 72, 3) := by decide +kernel
theorem dX10_chance_15 : decode cX10_chance 15 = .ok (.ifCond .eq 9, 3) := by decide +kernel
theorem dX10_chance_18 : decode cX10_chance 18 = .ok (.bipush (-2), 2) := by decide +kernel
theorem dX10_chance_20 : decode cX10_chance 20 = .ok (.invokestatic 105, 3) := by decide +kernel
theorem dX10_chance_23 : decode cX10_chance 23 = .ok (.lreturn, 1) := by decide +kernel
theorem dX10_chance_24 : decode cX10_chance 24 = .ok (.aload_n 0, 1) := by decide +kernel
theorem dX10_chance_25 : decode cX10_chance 25 = .ok (.getfield 33, 3) := by decide +kernel
theorem dX10_chance_28 : decode cX10_chance 28 = .ok (.invokevirtual 166, 3) := by decide +kernel
theorem dX10_chance_31 : decode cX10_chance 31 = .ok (.bipush 8, 2) := by decide +kernel
theorem dX10_chance_33 : decode cX10_chance 33 = .ok (.if_icmp .le 9, 3) := by decide +kernel
theorem dX10_chance_36 : decode cX10_chance 36 = .ok (.bipush (-4), 2) := by decide +kernel
theorem dX10_chance_38 : decode cX10_chance 38 = .ok (.invokestatic 105, 3) := by decide +kernel
theorem dX10_chance_41 : decode cX10_chance 41 = .ok (.lreturn, 1) := by decide +kernel
theorem dX10_chance_42 : decode cX10_chance 42 = .ok (.aload_n 0, 1) := by decide +kernel
theorem dX10_chance_43 : decode cX10_chance 43 = .ok (.getfield 40, 3) := by decide +kernel
theorem dX10_chance_46 : decode cX10_chance 46 = .ok (.iload_n 1, 1) := by decide +kernel
theorem dX10_chance_47 : decode cX10_chance 47 = .ok (.aload_n 0, 1) := by decide +kernel
theorem dX10_chance_48 : decode cX10_chance 48 = .ok (.getfield 33, 3) := by decide +kernel
theorem dX10_chance_51 : decode cX10_chance 51 = .ok (.invokevirtual 184, 3) := by decide +kernel
theorem dX10_chance_54 : decode cX10_chance 54 = .ok (.ifCond .eq 9, 3) := by decide +kernel
theorem dX10_chance_57 : decode cX10_chance 57 = .ok (.bipush (-3), 2) := by decide +kernel
theorem dX10_chance_59 : decode cX10_chance 59 = .ok (.invokestatic 105, 3) := by decide +kernel
theorem dX10_chance_62 : decode cX10_chance 62 = .ok (.lreturn, 1) := by decide +kernel
theorem dX10_chance_63 : decode cX10_chance 63 = .ok (.aload_n 0, 1) := by decide +kernel
theorem dX10_chance_64 : decode cX10_chance 64 = .ok (.getfield 40, 3) := by decide +kernel
theorem dX10_chance_67 : decode cX10_chance 67 = .ok (.iload_n 1, 1) := by decide +kernel
theorem dX10_chance_68 : decode cX10_chance 68 = .ok (.aload_n 0, 1) := by decide +kernel
theorem dX10_chance_69 : decode cX10_chance 69 = .ok (.getfield 33, 3) := by decide +kernel
theorem dX10_chance_72 : decode cX10_chance 72 = .ok (.invokevirtual 188, 3) := by decide +kernel
theorem dX10_chance_75 : decode cX10_chance 75 = .ok (.aload_n 0, 1) := by decide +kernel
theorem dX10_chance_76 : decode cX10_chance 76 = .ok (.getfield 40, 3) := by decide +kernel
theorem dX10_chance_79 : decode cX10_chance 79 = .ok (.iload_n 1, 1) := by decide +kernel
theorem dX10_chance_80 : decode cX10_chance 80 = .ok (.aload_n 0, 1) := by decide +kernel
theorem dX10_chance_81 : decode cX10_chance 81 = .ok (.getfield 33, 3) := by decide +kernel
theorem dX10_chance_84 : decode cX10_chance 84 = .ok (.invokevirtual 192, 3) := by decide +kernel
theorem dX10_chance_87 : decode cX10_chance 87 = .ok (.iload_n 2, 1) := by decide +kernel
theorem dX10_chance_88 : decode cX10_chance 88 = .ok (.invokestatic 114, 3) := by decide +kernel
theorem dX10_chance_91 : decode cX10_chance 91 = .ok (.lreturn, 1) := by decide +kernel
set_option maxRecDepth 20000 in
theorem ggX10_likeliest_X7_counting : GoodIn wsX10_likeliest wsX7_counting := goodIn_r _ [7, 8, 9, 10, 11, 6, 12, 13, 14, 15, 60, 61, 62, 63, 64, 65] (by decide +kernel) (by decide +kernel)
set_option maxRecDepth 20000 in
theorem gX10_likeliest_X7_counting : GoodIn wsX10_likeliest (wsV RX10 166 RX7 yX7_counting wsX7_counting) := goodIn_app (goodIn_of _ (by decide +kernel)) ggX10_likeliest_X7_counting
set_option maxRecDepth 20000 in
theorem ggX10_likeliest_X1_likeliestTown : GoodIn wsX10_likeliest wsX1_likeliestTown := goodIn_r _ [20, 21, 22, 23, 19, 24, 25, 26, 27, 28, 29, 30, 4, 5, 6, 7, 8, 9, 10, 11, 12, 13, 14, 15, 31, 32, 33, 34, 35, 36, 37, 38, 39, 40, 41, 42, 43, 44, 45, 46, 47, 48, 49, 50, 66, 60, 61, 62, 63, 64, 65] (by decide +kernel) (by decide +kernel)
set_option maxRecDepth 20000 in
theorem gX10_likeliest_X1_likeliestTown : GoodIn wsX10_likeliest (wsV RX10 195 RX1 yX1_likeliestTown wsX1_likeliestTown) := goodIn_app (goodIn_of _ (by decide +kernel)) ggX10_likeliest_X1_likeliestTown
theorem dX10_likeliest_0 : decode cX10_likeliest 0 = .ok (.aload_n 0, 1) := by decide +kernel
theorem dX10_likeliest_1 : decode cX10_likeliest 1 = .ok (.getfield 33, 3) := by decide +kernel
theorem dX10_likeliest_4 : decode cX10_likeliest 4 = .ok (.invokevirtual 166, 3) := by decide +kernel
theorem dX10_likeliest_7 : decode cX10_likeliest 7 = .ok (.bipush 8, 2) := by decide +kernel
theorem dX10_likeliest_9 : decode cX10_likeliest 9 = .ok (.if_icmp .le 6, 3) := by decide +kernel
theorem dX10_likeliest_12 : decode cX10_likeliest 12 = .ok (.bipush (-4), 2) := by decide +kernel
theorem dX10_likeliest_14 : decode cX10_likeliest 14 = .ok (.ireturn, 1) := by decide +kernel
theorem dX10_likeliest_15 : decode cX10_likeliest 15 = .ok (.aload_n 0, 1) := by decide +kernel
theorem dX10_likeliest_16 : decode cX10_likeliest 16 = .ok (.getfield 40, 3) := by decide +kernel
theorem dX10_likeliest_19 : decode cX10_likeliest 19 = .ok (.aload_n 0, 1) := by decide +kernel
theorem dX10_likeliest_20 : decode cX10_likeliest 20 = .ok (.getfield 33, 3) := by decide +kernel
theorem dX10_likeliest_23 : decode cX10_likeliest 23 = .ok (.invokevirtual 195, 3) := by decide +kernel
theorem dX10_likeliest_26 : decode cX10_likeliest 26 = .ok (.ireturn, 1) := by decide +kernel
set_option maxRecDepth 20000 in
theorem ggX10_stay_X10_outside : GoodIn wsX10_stay wsX10_outside := goodIn_r _ [5] (by decide +kernel) (by decide +kernel)
set_option maxRecDepth 20000 in
theorem gX10_stay_X10_outside : GoodIn wsX10_stay (va_wsS RX10 72 yX10_outside wsX10_outside) := goodIn_app (goodIn_of _ (by decide +kernel)) ggX10_stay_X10_outside
set_option maxRecDepth 20000 in
theorem ggX10_stay_X10_cannotEnd : GoodIn wsX10_stay wsX10_cannotEnd := goodIn_r _ [8, 9, 10, 11, 12, 2, 3, 4, 5] (by decide +kernel) (by decide +kernel)
set_option maxRecDepth 20000 in
theorem gX10_stay_X10_cannotEnd : GoodIn wsX10_stay (va_wsS RX10 199 yX10_cannotEnd wsX10_cannotEnd) := goodIn_app (goodIn_of _ (by decide +kernel)) ggX10_stay_X10_cannotEnd
set_option maxRecDepth 20000 in
theorem ggX10_stay_X9_admit : GoodIn wsX10_stay wsX9_admit := goodIn_r _ [17, 18, 19, 20, 30, 31, 32] (by decide +kernel) (by decide +kernel)
set_option maxRecDepth 20000 in
theorem gX10_stay_X9_admit : GoodIn wsX10_stay (wsV RX10 203 RX9 yX9_admit wsX9_admit) := goodIn_app (goodIn_of _ (by decide +kernel)) ggX10_stay_X9_admit
theorem dX10_stay_0 : decode cX10_stay 0 = .ok (.iload_n 1, 1) := by decide +kernel
theorem dX10_stay_1 : decode cX10_stay 1 = .ok (.iconst 0, 1) := by decide +kernel
theorem dX10_stay_2 : decode cX10_stay 2 = .ok (.bipush 99, 2) := by decide +kernel
theorem dX10_stay_4 : decode cX10_stay 4 = .ok (.invokestatic 72, 3) := by decide +kernel
theorem dX10_stay_7 : decode cX10_stay 7 = .ok (.ifCond .ne 11, 3) := by decide +kernel
theorem dX10_stay_10 : decode cX10_stay 10 = .ok (.iload_n 1, 1) := by decide +kernel
theorem dX10_stay_11 : decode cX10_stay 11 = .ok (.iload_n 2, 1) := by decide +kernel
theorem dX10_stay_12 : decode cX10_stay 12 = .ok (.invokestatic 199, 3) := by decide +kernel
theorem dX10_stay_15 : decode cX10_stay 15 = .ok (.ifCond .eq 6, 3) := by decide +kernel
theorem dX10_stay_18 : decode cX10_stay 18 = .ok (.bipush (-2), 2) := by decide +kernel
theorem dX10_stay_20 : decode cX10_stay 20 = .ok (.ireturn, 1) := by decide +kernel
theorem dX10_stay_21 : decode cX10_stay 21 = .ok (.aload_n 0, 1) := by decide +kernel
theorem dX10_stay_22 : decode cX10_stay 22 = .ok (.getfield 47, 3) := by decide +kernel
theorem dX10_stay_25 : decode cX10_stay 25 = .ok (.iload_n 1, 1) := by decide +kernel
theorem dX10_stay_26 : decode cX10_stay 26 = .ok (.iload_n 2, 1) := by decide +kernel
theorem dX10_stay_27 : decode cX10_stay 27 = .ok (.invokevirtual 203, 3) := by decide +kernel
theorem dX10_stay_30 : decode cX10_stay 30 = .ok (.ireturn, 1) := by decide +kernel
set_option maxRecDepth 20000 in
theorem ggX10_leaves_X9_staysTold : GoodIn wsX10_leaves wsX9_staysTold := goodIn_r _ [6, 7, 38, 39, 40] (by decide +kernel) (by decide +kernel)
set_option maxRecDepth 20000 in
theorem gX10_leaves_X9_staysTold : GoodIn wsX10_leaves (wsV RX10 206 RX9 yX9_staysTold wsX9_staysTold) := goodIn_app (goodIn_of _ (by decide +kernel)) ggX10_leaves_X9_staysTold
set_option maxRecDepth 20000 in
theorem ggX10_leaves_X10_outside : GoodIn wsX10_leaves wsX10_outside := goodIn_r _ [11] (by decide +kernel) (by decide +kernel)
set_option maxRecDepth 20000 in
theorem gX10_leaves_X10_outside : GoodIn wsX10_leaves (va_wsS RX10 72 yX10_outside wsX10_outside) := goodIn_app (goodIn_of _ (by decide +kernel)) ggX10_leaves_X10_outside
set_option maxRecDepth 20000 in
theorem ggX10_leaves_X9_firstDay : GoodIn wsX10_leaves wsX9_firstDay := goodIn_r _ [15, 16, 38, 39, 40] (by decide +kernel) (by decide +kernel)
set_option maxRecDepth 20000 in
theorem gX10_leaves_X9_firstDay : GoodIn wsX10_leaves (wsV RX10 209 RX9 yX9_firstDay wsX9_firstDay) := goodIn_app (goodIn_of _ (by decide +kernel)) ggX10_leaves_X9_firstDay
set_option maxRecDepth 20000 in
theorem ggX10_leaves_X10_cannotEnd : GoodIn wsX10_leaves wsX10_cannotEnd := goodIn_r _ [19, 20, 21, 22, 23, 8, 9, 10, 11] (by decide +kernel) (by decide +kernel)
set_option maxRecDepth 20000 in
theorem gX10_leaves_X10_cannotEnd : GoodIn wsX10_leaves (va_wsS RX10 199 yX10_cannotEnd wsX10_cannotEnd) := goodIn_app (goodIn_of _ (by decide +kernel)) ggX10_leaves_X10_cannotEnd
set_option maxRecDepth 20000 in
theorem ggX10_leaves_X9_endOn : GoodIn wsX10_leaves wsX9_endOn := goodIn_r _ [27, 28, 38, 39, 40] (by decide +kernel) (by decide +kernel)
set_option maxRecDepth 20000 in
theorem gX10_leaves_X9_endOn : GoodIn wsX10_leaves (wsV RX10 212 RX9 yX9_endOn wsX9_endOn) := goodIn_app (goodIn_of _ (by decide +kernel)) ggX10_leaves_X9_endOn
theorem dX10_leaves_0 : decode cX10_leaves 0 = .ok (.iload_n 1, 1) := by decide +kernel
theorem dX10_leaves_1 : decode cX10_leaves 1 = .ok (.iconst 0, 1) := by decide +kernel
theorem dX10_leaves_2 : decode cX10_leaves 2 = .ok (.aload_n 0, 1) := by decide +kernel
theorem dX10_leaves_3 : decode cX10_leaves 3 = .ok (.getfield 47, 3) := by decide +kernel
theorem dX10_leaves_6 : decode cX10_leaves 6 = .ok (.invokevirtual 206, 3) := by decide +kernel
theorem dX10_leaves_9 : decode cX10_leaves 9 = .ok (.iconst 1, 1) := by decide +kernel
theorem dX10_leaves_10 : decode cX10_leaves 10 = .ok (.isub, 1) := by decide +kernel
theorem dX10_leaves_11 : decode cX10_leaves 11 = .ok (.invokestatic 72, 3) := by decide +kernel
theorem dX10_leaves_14 : decode cX10_leaves 14 = .ok (.ifCond .ne 18, 3) := by decide +kernel
theorem dX10_leaves_17 : decode cX10_leaves 17 = .ok (.aload_n 0, 1) := by decide +kernel
theorem dX10_leaves_18 : decode cX10_leaves 18 = .ok (.getfield 47, 3) := by decide +kernel
theorem dX10_leaves_21 : decode cX10_leaves 21 = .ok (.iload_n 1, 1) := by decide +kernel
theorem dX10_leaves_22 : decode cX10_leaves 22 = .ok (.invokevirtual 209, 3) := by decide +kernel
theorem dX10_leaves_25 : decode cX10_leaves 25 = .ok (.iload_n 2, 1) := by decide +kernel
theorem dX10_leaves_26 : decode cX10_leaves 26 = .ok (.invokestatic 199, 3) := by decide +kernel
theorem dX10_leaves_29 : decode cX10_leaves 29 = .ok (.ifCond .eq 6, 3) := by decide +kernel
theorem dX10_leaves_32 : decode cX10_leaves 32 = .ok (.bipush (-2), 2) := by decide +kernel
theorem dX10_leaves_34 : decode cX10_leaves 34 = .ok (.ireturn, 1) := by decide +kernel
theorem dX10_leaves_35 : decode cX10_leaves 35 = .ok (.aload_n 0, 1) := by decide +kernel
theorem dX10_leaves_36 : decode cX10_leaves 36 = .ok (.getfield 47, 3) := by decide +kernel
theorem dX10_leaves_39 : decode cX10_leaves 39 = .ok (.iload_n 1, 1) := by decide +kernel
theorem dX10_leaves_40 : decode cX10_leaves 40 = .ok (.iload_n 2, 1) := by decide +kernel
theorem dX10_leaves_41 : decode cX10_leaves 41 = .ok (.invokevirtual 212, 3) := by decide +kernel
theorem dX10_leaves_44 : decode cX10_leaves 44 = .ok (.ireturn, 1) := by decide +kernel
set_option maxRecDepth 20000 in
theorem ggX10_ward_X10_isNoSpan : GoodIn wsX10_ward wsX10_isNoSpan := goodIn_r _ [5, 6, 7, 4, 8] (by decide +kernel) (by decide +kernel)
set_option maxRecDepth 20000 in
theorem gX10_ward_X10_isNoSpan : GoodIn wsX10_ward (va_wsS RX10 215 yX10_isNoSpan wsX10_isNoSpan) := goodIn_app (goodIn_of _ (by decide +kernel)) ggX10_ward_X10_isNoSpan
set_option maxRecDepth 20000 in
theorem ggX10_ward_X10_outside : GoodIn wsX10_ward wsX10_outside := goodIn_r _ [8] (by decide +kernel) (by decide +kernel)
set_option maxRecDepth 20000 in
theorem gX10_ward_X10_outside : GoodIn wsX10_ward (va_wsS RX10 72 yX10_outside wsX10_outside) := goodIn_app (goodIn_of _ (by decide +kernel)) ggX10_ward_X10_outside
set_option maxRecDepth 20000 in
theorem ggX10_ward_X9_sum : GoodIn wsX10_ward wsX9_sum := goodIn_r _ [13, 14, 15, 16, 17, 12, 18, 19, 20, 21, 22, 23, 24, 25, 26, 27, 28, 38, 39, 40] (by decide +kernel) (by decide +kernel)
set_option maxRecDepth 20000 in
theorem gX10_ward_X9_sum : GoodIn wsX10_ward (wsV RX10 218 RX9 yX9_sum wsX9_sum) := goodIn_app (goodIn_of _ (by decide +kernel)) ggX10_ward_X9_sum
theorem dX10_ward_0 : decode cX10_ward 0 = .ok (.iload_n 1, 1) := by decide +kernel
theorem dX10_ward_1 : decode cX10_ward 1 = .ok (.iload_n 2, 1) := by decide +kernel
theorem dX10_ward_2 : decode cX10_ward 2 = .ok (.invokestatic 215, 3) := by decide +kernel
theorem dX10_ward_5 : decode cX10_ward 5 = .ok (.ifCond .ne 12, 3) := by decide +kernel
theorem dX10_ward_8 : decode cX10_ward 8 = .ok (.iload_n 3, 1) := by decide +kernel
theorem dX10_ward_9 : decode cX10_ward 9 = .ok (.iconst 0, 1) := by decide +kernel
theorem dX10_ward_10 : decode cX10_ward 10 = .ok (.iconst 3, 1) := by decide +kernel
theorem dX10_ward_11 : decode cX10_ward 11 = .ok (.invokestatic 72, 3) := by decide +kernel
theorem dX10_ward_14 : decode cX10_ward 14 = .ok (.ifCond .eq 6, 3) := by decide +kernel
theorem dX10_ward_17 : decode cX10_ward 17 = .ok (.bipush (-2), 2) := by decide +kernel
theorem dX10_ward_19 : decode cX10_ward 19 = .ok (.ireturn, 1) := by decide +kernel
theorem dX10_ward_20 : decode cX10_ward 20 = .ok (.iload_n 3, 1) := by decide +kernel
theorem dX10_ward_21 : decode cX10_ward 21 = .ok (.ifCond .ne 15, 3) := by decide +kernel
theorem dX10_ward_24 : decode cX10_ward 24 = .ok (.aload_n 0, 1) := by decide +kernel
theorem dX10_ward_25 : decode cX10_ward 25 = .ok (.getfield 47, 3) := by decide +kernel
theorem dX10_ward_28 : decode cX10_ward 28 = .ok (.iload_n 1, 1) := by decide +kernel
theorem dX10_ward_29 : decode cX10_ward 29 = .ok (.iload_n 2, 1) := by decide +kernel
theorem dX10_ward_30 : decode cX10_ward 30 = .ok (.iconst 0, 1) := by decide +kernel
theorem dX10_ward_31 : decode cX10_ward 31 = .ok (.invokevirtual 218, 3) := by decide +kernel
theorem dX10_ward_34 : decode cX10_ward 34 = .ok (.l2i, 1) := by decide +kernel
theorem dX10_ward_35 : decode cX10_ward 35 = .ok (.ireturn, 1) := by decide +kernel
theorem dX10_ward_36 : decode cX10_ward 36 = .ok (.iload_n 3, 1) := by decide +kernel
theorem dX10_ward_37 : decode cX10_ward 37 = .ok (.iconst 1, 1) := by decide +kernel
theorem dX10_ward_38 : decode cX10_ward 38 = .ok (.if_icmp .ne 15, 3) := by decide +kernel
theorem dX10_ward_41 : decode cX10_ward 41 = .ok (.aload_n 0, 1) := by decide +kernel
theorem dX10_ward_42 : decode cX10_ward 42 = .ok (.getfield 47, 3) := by decide +kernel
theorem dX10_ward_45 : decode cX10_ward 45 = .ok (.iload_n 1, 1) := by decide +kernel
theorem dX10_ward_46 : decode cX10_ward 46 = .ok (.iload_n 2, 1) := by decide +kernel
theorem dX10_ward_47 : decode cX10_ward 47 = .ok (.iconst 1, 1) := by decide +kernel
theorem dX10_ward_48 : decode cX10_ward 48 = .ok (.invokevirtual 218, 3) := by decide +kernel
theorem dX10_ward_51 : decode cX10_ward 51 = .ok (.l2i, 1) := by decide +kernel
theorem dX10_ward_52 : decode cX10_ward 52 = .ok (.ireturn, 1) := by decide +kernel
theorem dX10_ward_53 : decode cX10_ward 53 = .ok (.iload_n 3, 1) := by decide +kernel
theorem dX10_ward_54 : decode cX10_ward 54 = .ok (.iconst 2, 1) := by decide +kernel
theorem dX10_ward_55 : decode cX10_ward 55 = .ok (.if_icmp .ne 15, 3) := by decide +kernel
theorem dX10_ward_58 : decode cX10_ward 58 = .ok (.aload_n 0, 1) := by decide +kernel
theorem dX10_ward_59 : decode cX10_ward 59 = .ok (.getfield 47, 3) := by decide +kernel
theorem dX10_ward_62 : decode cX10_ward 62 = .ok (.iload_n 1, 1) := by decide +kernel
theorem dX10_ward_63 : decode cX10_ward 63 = .ok (.iload_n 2, 1) := by decide +kernel
theorem dX10_ward_64 : decode cX10_ward 64 = .ok (.iconst 2, 1) := by decide +kernel
theorem dX10_ward_65 : decode cX10_ward 65 = .ok (.invokevirtual 218, 3) := by decide +kernel
theorem dX10_ward_68 : decode cX10_ward 68 = .ok (.l2i, 1) := by decide +kernel
theorem dX10_ward_69 : decode cX10_ward 69 = .ok (.ireturn, 1) := by decide +kernel
theorem dX10_ward_70 : decode cX10_ward 70 = .ok (.aload_n 0, 1) := by decide +kernel
theorem dX10_ward_71 : decode cX10_ward 71 = .ok (.getfield 47, 3) := by decide +kernel
theorem dX10_ward_74 : decode cX10_ward 74 = .ok (.iload_n 1, 1) := by decide +kernel
theorem dX10_ward_75 : decode cX10_ward 75 = .ok (.iload_n 2, 1) := by decide +kernel
theorem dX10_ward_76 : decode cX10_ward 76 = .ok (.iconst 0, 1) := by decide +kernel
theorem dX10_ward_77 : decode cX10_ward 77 = .ok (.invokevirtual 218, 3) := by decide +kernel
theorem dX10_ward_80 : decode cX10_ward 80 = .ok (.lconst 0, 1) := by decide +kernel
theorem dX10_ward_81 : decode cX10_ward 81 = .ok (.lcmp, 1) := by decide +kernel
theorem dX10_ward_82 : decode cX10_ward 82 = .ok (.ifCond .ne 6, 3) := by decide +kernel
theorem dX10_ward_85 : decode cX10_ward 85 = .ok (.bipush (-3), 2) := by decide +kernel
theorem dX10_ward_87 : decode cX10_ward 87 = .ok (.ireturn, 1) := by decide +kernel
theorem dX10_ward_88 : decode cX10_ward 88 = .ok (.aload_n 0, 1) := by decide +kernel
theorem dX10_ward_89 : decode cX10_ward 89 = .ok (.getfield 47, 3) := by decide +kernel
theorem dX10_ward_92 : decode cX10_ward 92 = .ok (.iload_n 1, 1) := by decide +kernel
theorem dX10_ward_93 : decode cX10_ward 93 = .ok (.iload_n 2, 1) := by decide +kernel
theorem dX10_ward_94 : decode cX10_ward 94 = .ok (.iconst 3, 1) := by decide +kernel
theorem dX10_ward_95 : decode cX10_ward 95 = .ok (.invokevirtual 218, 3) := by decide +kernel
theorem dX10_ward_98 : decode cX10_ward 98 = .ok (.aload_n 0, 1) := by decide +kernel
theorem dX10_ward_99 : decode cX10_ward 99 = .ok (.getfield 47, 3) := by decide +kernel
theorem dX10_ward_102 : decode cX10_ward 102 = .ok (.iload_n 1, 1) := by decide +kernel
theorem dX10_ward_103 : decode cX10_ward 103 = .ok (.iload_n 2, 1) := by decide +kernel
theorem dX10_ward_104 : decode cX10_ward 104 = .ok (.iconst 2, 1) := by decide +kernel
theorem dX10_ward_105 : decode cX10_ward 105 = .ok (.invokevirtual 218, 3) := by decide +kernel
theorem dX10_ward_108 : decode cX10_ward 108 = .ok (.lcmp, 1) := by decide +kernel
theorem dX10_ward_109 : decode cX10_ward 109 = .ok (.ifCond .ne 7, 3) := by decide +kernel
theorem dX10_ward_112 : decode cX10_ward 112 = .ok (.iconst 1, 1) := by decide +kernel
theorem dX10_ward_113 : decode cX10_ward 113 = .ok (.goto 4, 3) := by decide +kernel
theorem dX10_ward_116 : decode cX10_ward 116 = .ok (.iconst 0, 1) := by decide +kernel
theorem dX10_ward_117 : decode cX10_ward 117 = .ok (.ireturn, 1) := by decide +kernel
set_option maxRecDepth 20000 in
theorem ggX10_means_X10_isNoSpan : GoodIn wsX10_means wsX10_isNoSpan := goodIn_r _ [5, 6, 7, 4, 8] (by decide +kernel) (by decide +kernel)
set_option maxRecDepth 20000 in
theorem gX10_means_X10_isNoSpan : GoodIn wsX10_means (va_wsS RX10 215 yX10_isNoSpan wsX10_isNoSpan) := goodIn_app (goodIn_of _ (by decide +kernel)) ggX10_means_X10_isNoSpan
set_option maxRecDepth 20000 in
theorem ggX10_means_X10_outside : GoodIn wsX10_means wsX10_outside := goodIn_r _ [8] (by decide +kernel) (by decide +kernel)
set_option maxRecDepth 20000 in
theorem gX10_means_X10_outside : GoodIn wsX10_means (va_wsS RX10 72 yX10_outside wsX10_outside) := goodIn_app (goodIn_of _ (by decide +kernel)) ggX10_means_X10_outside
set_option maxRecDepth 20000 in
theorem ggX10_means_X2_refused : GoodIn wsX10_means wsX2_refused := goodIn_r _ [12, 13] (by decide +kernel) (by decide +kernel)
set_option maxRecDepth 20000 in
theorem gX10_means_X2_refused : GoodIn wsX10_means (va_wsS RX10 105 yX2_refused wsX2_refused) := goodIn_app (goodIn_of _ (by decide +kernel)) ggX10_means_X2_refused
set_option maxRecDepth 20000 in
theorem ggX10_means_X9_above : GoodIn wsX10_means wsX9_above := goodIn_r _ [18, 19, 20, 21, 22, 17, 23, 24, 25, 26, 27, 28, 29, 30, 31, 32, 33, 34, 35, 36, 37, 58, 59, 60] (by decide +kernel) (by decide +kernel)
set_option maxRecDepth 20000 in
theorem gX10_means_X9_above : GoodIn wsX10_means (wsV RX10 222 RX9 yX9_above wsX9_above) := goodIn_app (goodIn_of _ (by decide +kernel)) ggX10_means_X9_above
set_option maxRecDepth 20000 in
theorem ggX10_means_X9_below : GoodIn wsX10_means wsX9_below := goodIn_r _ [41, 20, 21, 22, 17, 23, 24, 25, 26, 27, 28, 29, 30, 31, 32, 33, 34, 35, 36, 37, 19, 58, 59, 60] (by decide +kernel) (by decide +kernel)
set_option maxRecDepth 20000 in
theorem gX10_means_X9_below : GoodIn wsX10_means (wsV RX10 225 RX9 yX9_below wsX9_below) := goodIn_app (goodIn_of _ (by decide +kernel)) ggX10_means_X9_below
set_option maxRecDepth 20000 in
theorem ggX10_means_X2_told : GoodIn wsX10_means wsX2_told := goodIn_r _ [44, 45, 46, 11, 47, 48, 10, 12, 13] (by decide +kernel) (by decide +kernel)
set_option maxRecDepth 20000 in
theorem gX10_means_X2_told : GoodIn wsX10_means (va_wsS RX10 114 yX2_told wsX2_told) := goodIn_app (goodIn_of _ (by decide +kernel)) ggX10_means_X2_told
theorem dX10_means_0 : decode cX10_means 0 = .ok (.iload_n 1, 1) := by decide +kernel
theorem dX10_means_1 : decode cX10_means 1 = .ok (.iload_n 2, 1) := by decide +kernel
theorem dX10_means_2 : decode cX10_means 2 = .ok (.invokestatic 215, 3) := by decide +kernel
theorem dX10_means_5 : decode cX10_means 5 = .ok (.ifCond .ne 22, 3) := by decide +kernel
theorem dX10_means_8 : decode cX10_means 8 = .ok (.iload_n 3, 1) := by decide +kernel
theorem dX10_means_9 : decode cX10_means 9 = .ok (.iconst 0, 1) := by decide +kernel
theorem dX10_means_10 : decode cX10_means 10 = .ok (.iconst 5, 1) := by decide +kernel
theorem dX10_means_11 : decode cX10_means 11 = .ok (.invokestatic 72, 3) := by decide +kernel
theorem dX10_means_14 : decode cX10_means 14 = .ok (.ifCond .ne 13, 3) := by decide +kernel
theorem dX10_means_17 : decode cX10_means 17 = .ok (.iload 4, 2) := by decide +kernel
theorem dX10_means_19 : decode cX10_means 19 = .ok (.iconst 0, 1) := by decide +kernel
theorem dX10_means_20 : decode cX10_means 20 = .ok (.iconst 1, 1) := by decide +kernel
theorem dX10_means_21 : decode cX10_means 21 = .ok (.invokestatic 72, 3) := by decide +kernel
theorem dX10_means_24 : decode cX10_means 24 = .ok (.ifCond .eq 9, 3) := by decide +kernel
theorem dX10_means_27 : decode cX10_means 27 = .ok (.bipush (-2), 2) := by decide +kernel
theorem dX10_means_29 : decode cX10_means 29 = .ok (.invokestatic 105, 3) := by decide +kernel
theorem dX10_means_32 : decode cX10_means 32 = .ok (.lreturn, 1) := by decide +kernel
theorem dX10_means_33 : decode cX10_means 33 = .ok (.aload_n 0, 1) := by decide +kernel
theorem dX10_means_34 : decode cX10_means 34 = .ok (.getfield 47, 3) := by decide +kernel
theorem dX10_means_37 : decode cX10_means 37 = .ok (.iload_n 1, 1) := by decide +kernel
theorem dX10_means_38 : decode cX10_means 38 = .ok (.iload_n 2, 1) := by decide +kernel
theorem dX10_means_39 : decode cX10_means 39 = .ok (.iload_n 3, 1) := by decide +kernel
theorem dX10_means_40 : decode cX10_means 40 = .ok (.invokevirtual 222, 3) := by decide +kernel
theorem dX10_means_43 : decode cX10_means 43 = .ok (.aload_n 0, 1) := by decide +kernel
theorem dX10_means_44 : decode cX10_means 44 = .ok (.getfield 47, 3) := by decide +kernel
theorem dX10_means_47 : decode cX10_means 47 = .ok (.iload_n 1, 1) := by decide +kernel
theorem dX10_means_48 : decode cX10_means 48 = .ok (.iload_n 2, 1) := by decide +kernel
theorem dX10_means_49 : decode cX10_means 49 = .ok (.iload_n 3, 1) := by decide +kernel
theorem dX10_means_50 : decode cX10_means 50 = .ok (.invokevirtual 225, 3) := by decide +kernel
theorem dX10_means_53 : decode cX10_means 53 = .ok (.iload 4, 2) := by decide +kernel
theorem dX10_means_55 : decode cX10_means 55 = .ok (.invokestatic 114, 3) := by decide +kernel
theorem dX10_means_58 : decode cX10_means 58 = .ok (.lreturn, 1) := by decide +kernel
set_option maxRecDepth 20000 in
theorem ggX10_fullest_X10_outside : GoodIn wsX10_fullest wsX10_outside := goodIn_r _ [5] (by decide +kernel) (by decide +kernel)
set_option maxRecDepth 20000 in
theorem gX10_fullest_X10_outside : GoodIn wsX10_fullest (va_wsS RX10 72 yX10_outside wsX10_outside) := goodIn_app (goodIn_of _ (by decide +kernel)) ggX10_fullest_X10_outside
set_option maxRecDepth 20000 in
theorem ggX10_fullest_X9_mostApart : GoodIn wsX10_fullest wsX9_mostApart := goodIn_r _ [10, 11, 12, 13, 9, 14, 15, 16, 17, 52, 53, 54] (by decide +kernel) (by decide +kernel)
set_option maxRecDepth 20000 in
theorem gX10_fullest_X9_mostApart : GoodIn wsX10_fullest (wsV RX10 228 RX9 yX9_mostApart wsX9_mostApart) := goodIn_app (goodIn_of _ (by decide +kernel)) ggX10_fullest_X9_mostApart
set_option maxRecDepth 20000 in
theorem ggX10_fullest_X9_fullestDay : GoodIn wsX10_fullest wsX9_fullestDay := goodIn_r _ [21, 22, 23, 24, 9, 25, 26, 27, 28, 29, 15, 30, 31, 32, 33, 17, 16, 34, 35, 36, 37, 38, 39, 40, 41, 52, 53, 54] (by decide +kernel) (by decide +kernel)
set_option maxRecDepth 20000 in
theorem gX10_fullest_X9_fullestDay : GoodIn wsX10_fullest (wsV RX10 231 RX9 yX9_fullestDay wsX9_fullestDay) := goodIn_app (goodIn_of _ (by decide +kernel)) ggX10_fullest_X9_fullestDay
set_option maxRecDepth 20000 in
theorem ggX10_fullest_X9_lyingOn : GoodIn wsX10_fullest wsX9_lyingOn := goodIn_r _ [25, 26, 27, 28, 9, 29, 15, 30, 31, 32, 33, 17, 16, 34, 35, 36, 37, 38, 39, 40, 41, 52, 53, 54] (by decide +kernel) (by decide +kernel)
set_option maxRecDepth 20000 in
theorem gX10_fullest_X9_lyingOn : GoodIn wsX10_fullest (wsV RX10 234 RX9 yX9_lyingOn wsX9_lyingOn) := goodIn_app (goodIn_of _ (by decide +kernel)) ggX10_fullest_X9_lyingOn
theorem dX10_fullest_0 : decode cX10_fullest 0 = .ok (.iload_n 1, 1) := by decide +kernel
theorem dX10_fullest_1 : decode cX10_fullest 1 = .ok (.iconst 0, 1) := by decide +kernel
theorem dX10_fullest_2 : decode cX10_fullest 2 = .ok (.iconst 2, 1) := by decide +kernel
theorem dX10_fullest_3 : decode cX10_fullest 3 = .ok (.invokestatic 72, 3) := by decide +kernel
theorem dX10_fullest_6 : decode cX10_fullest 6 = .ok (.ifCond .eq 6, 3) := by decide +kernel
theorem dX10_fullest_9 : decode cX10_fullest 9 = .ok (.bipush (-2), 2) := by decide +kernel
theorem dX10_fullest_11 : decode cX10_fullest 11 = .ok (.ireturn, 1) := by decide +kernel
theorem dX10_fullest_12 : decode cX10_fullest 12 = .ok (.iload_n 1, 1) := by decide +kernel
theorem dX10_fullest_13 : decode cX10_fullest 13 = .ok (.iconst 2, 1) := by decide +kernel
theorem dX10_fullest_14 : decode cX10_fullest 14 = .ok (.if_icmp .ne 11, 3) := by decide +kernel
theorem dX10_fullest_17 : decode cX10_fullest 17 = .ok (.aload_n 0, 1) := by decide +kernel
theorem dX10_fullest_18 : decode cX10_fullest 18 = .ok (.getfield 47, 3) := by decide +kernel
theorem dX10_fullest_21 : decode cX10_fullest 21 = .ok (.invokevirtual 228, 3) := by decide +kernel
theorem dX10_fullest_24 : decode cX10_fullest 24 = .ok (.ireturn, 1) := by decide +kernel
theorem dX10_fullest_25 : decode cX10_fullest 25 = .ok (.aload_n 0, 1) := by decide +kernel
theorem dX10_fullest_26 : decode cX10_fullest 26 = .ok (.getfield 47, 3) := by decide +kernel
theorem dX10_fullest_29 : decode cX10_fullest 29 = .ok (.invokevirtual 231, 3) := by decide +kernel
theorem dX10_fullest_32 : decode cX10_fullest 32 = .ok (.istore_n 2, 1) := by decide +kernel
theorem dX10_fullest_33 : decode cX10_fullest 33 = .ok (.iload_n 1, 1) := by decide +kernel
theorem dX10_fullest_34 : decode cX10_fullest 34 = .ok (.ifCond .ne 7, 3) := by decide +kernel
theorem dX10_fullest_37 : decode cX10_fullest 37 = .ok (.iload_n 2, 1) := by decide +kernel
theorem dX10_fullest_38 : decode cX10_fullest 38 = .ok (.goto 11, 3) := by decide +kernel
theorem dX10_fullest_41 : decode cX10_fullest 41 = .ok (.aload_n 0, 1) := by decide +kernel
theorem dX10_fullest_42 : decode cX10_fullest 42 = .ok (.getfield 47, 3) := by decide +kernel
theorem dX10_fullest_45 : decode cX10_fullest 45 = .ok (.iload_n 2, 1) := by decide +kernel
theorem dX10_fullest_46 : decode cX10_fullest 46 = .ok (.invokevirtual 234, 3) := by decide +kernel
theorem dX10_fullest_49 : decode cX10_fullest 49 = .ok (.ireturn, 1) := by decide +kernel
set_option maxRecDepth 20000 in
theorem ggX10_friends_X10_outside : GoodIn wsX10_friends wsX10_outside := goodIn_r _ [5] (by decide +kernel) (by decide +kernel)
set_option maxRecDepth 20000 in
theorem gX10_friends_X10_outside : GoodIn wsX10_friends (va_wsS RX10 72 yX10_outside wsX10_outside) := goodIn_app (goodIn_of _ (by decide +kernel)) ggX10_friends_X10_outside
set_option maxRecDepth 20000 in
theorem ggX10_friends_X0_setFriends : GoodIn wsX10_friends wsX0_setFriends := goodIn_r _ [10, 11, 21] (by decide +kernel) (by decide +kernel)
set_option maxRecDepth 20000 in
theorem gX10_friends_X0_setFriends : GoodIn wsX10_friends (wsV RX10 237 RX0 yX0_setFriends wsX0_setFriends) := goodIn_app (goodIn_of _ (by decide +kernel)) ggX10_friends_X0_setFriends
theorem dX10_friends_0 : decode cX10_friends 0 = .ok (.iload_n 1, 1) := by decide +kernel
theorem dX10_friends_1 : decode cX10_friends 1 = .ok (.iconst 0, 1) := by decide +kernel
theorem dX10_friends_2 : decode cX10_friends 2 = .ok (.bipush 7, 2) := by decide +kernel
theorem dX10_friends_4 : decode cX10_friends 4 = .ok (.invokestatic 72, 3) := by decide +kernel
theorem dX10_friends_7 : decode cX10_friends 7 = .ok (.ifCond .ne 27, 3) := by decide +kernel
theorem dX10_friends_10 : decode cX10_friends 10 = .ok (.iload_n 2, 1) := by decide +kernel
theorem dX10_friends_11 : decode cX10_friends 11 = .ok (.iconst 0, 1) := by decide +kernel
theorem dX10_friends_12 : decode cX10_friends 12 = .ok (.bipush 7, 2) := by decide +kernel
theorem dX10_friends_14 : decode cX10_friends 14 = .ok (.invokestatic 72, 3) := by decide +kernel
theorem dX10_friends_17 : decode cX10_friends 17 = .ok (.ifCond .ne 17, 3) := by decide +kernel
theorem dX10_friends_20 : decode cX10_friends 20 = .ok (.iload_n 3, 1) := by decide +kernel
theorem dX10_friends_21 : decode cX10_friends 21 = .ok (.iconst 0, 1) := by decide +kernel
theorem dX10_friends_22 : decode cX10_friends 22 = .ok (.iconst 1, 1) := by decide +kernel
theorem dX10_friends_23 : decode cX10_friends 23 = .ok (.invokestatic 72, 3) := by decide +kernel
theorem dX10_friends_26 : decode cX10_friends 26 = .ok (.ifCond .ne 8, 3) := by decide +kernel
theorem dX10_friends_29 : decode cX10_friends 29 = .ok (.iload_n 1, 1) := by decide +kernel
theorem dX10_friends_30 : decode cX10_friends 30 = .ok (.iload_n 2, 1) := by decide +kernel
theorem dX10_friends_31 : decode cX10_friends 31 = .ok (.if_icmp .ne 6, 3) := by decide +kernel
theorem dX10_friends_34 : decode cX10_friends 34 = .ok (.bipush (-2), 2) := by decide +kernel
theorem dX10_friends_36 : decode cX10_friends 36 = .ok (.ireturn, 1) := by decide +kernel
theorem dX10_friends_37 : decode cX10_friends 37 = .ok (.aload_n 0, 1) := by decide +kernel
theorem dX10_friends_38 : decode cX10_friends 38 = .ok (.getfield 54, 3) := by decide +kernel
theorem dX10_friends_41 : decode cX10_friends 41 = .ok (.iload_n 1, 1) := by decide +kernel
theorem dX10_friends_42 : decode cX10_friends 42 = .ok (.iload_n 2, 1) := by decide +kernel
theorem dX10_friends_43 : decode cX10_friends 43 = .ok (.iload_n 3, 1) := by decide +kernel
theorem dX10_friends_44 : decode cX10_friends 44 = .ok (.invokevirtual 237, 3) := by decide +kernel
theorem dX10_friends_47 : decode cX10_friends 47 = .ok (.ireturn, 1) := by decide +kernel
set_option maxRecDepth 20000 in
theorem ggX10_mean_X10_outside : GoodIn wsX10_mean wsX10_outside := goodIn_r _ [7] (by decide +kernel) (by decide +kernel)
set_option maxRecDepth 20000 in
theorem gX10_mean_X10_outside : GoodIn wsX10_mean (va_wsS RX10 72 yX10_outside wsX10_outside) := goodIn_app (goodIn_of _ (by decide +kernel)) ggX10_mean_X10_outside
set_option maxRecDepth 20000 in
theorem ggX10_mean_X2_refused : GoodIn wsX10_mean wsX2_refused := goodIn_r _ [11, 12] (by decide +kernel) (by decide +kernel)
set_option maxRecDepth 20000 in
theorem gX10_mean_X2_refused : GoodIn wsX10_mean (va_wsS RX10 105 yX2_refused wsX2_refused) := goodIn_app (goodIn_of _ (by decide +kernel)) ggX10_mean_X2_refused
set_option maxRecDepth 20000 in
theorem ggX10_mean_X0_tellings : GoodIn wsX10_mean wsX0_tellings := goodIn_r _ [17, 18, 19, 20, 16, 21, 22, 23, 24, 25, 26, 27, 28, 29, 66] (by decide +kernel) (by decide +kernel)
set_option maxRecDepth 20000 in
theorem gX10_mean_X0_tellings : GoodIn wsX10_mean (wsV RX10 240 RX0 yX0_tellings wsX0_tellings) := goodIn_app (goodIn_of _ (by decide +kernel)) ggX10_mean_X0_tellings
set_option maxRecDepth 20000 in
theorem ggX10_mean_X2_told : GoodIn wsX10_mean wsX2_told := goodIn_r _ [32, 33, 34, 10, 35, 36, 9, 11, 12] (by decide +kernel) (by decide +kernel)
set_option maxRecDepth 20000 in
theorem gX10_mean_X2_told : GoodIn wsX10_mean (va_wsS RX10 114 yX2_told wsX2_told) := goodIn_app (goodIn_of _ (by decide +kernel)) ggX10_mean_X2_told
set_option maxRecDepth 20000 in
theorem ggX10_mean_X0_friendsOfFriends : GoodIn wsX10_mean wsX0_friendsOfFriends := goodIn_r _ [40, 41, 42, 43, 16, 44, 45, 46, 47, 48, 22, 18, 19, 20, 21, 23, 24, 25, 26, 27, 28, 29, 66] (by decide +kernel) (by decide +kernel)
set_option maxRecDepth 20000 in
theorem gX10_mean_X0_friendsOfFriends : GoodIn wsX10_mean (wsV RX10 245 RX0 yX0_friendsOfFriends wsX0_friendsOfFriends) := goodIn_app (goodIn_of _ (by decide +kernel)) ggX10_mean_X0_friendsOfFriends
set_option maxRecDepth 20000 in
theorem ggX10_mean_X0_friendsOfPicked : GoodIn wsX10_mean wsX0_friendsOfPicked := goodIn_r _ [52, 53, 54, 55, 16, 56, 18, 19, 20, 21, 22, 23, 24, 25, 26, 27, 28, 29, 45, 46, 47, 48, 66] (by decide +kernel) (by decide +kernel)
set_option maxRecDepth 20000 in
theorem gX10_mean_X0_friendsOfPicked : GoodIn wsX10_mean (wsV RX10 248 RX0 yX0_friendsOfPicked wsX0_friendsOfPicked) := goodIn_app (goodIn_of _ (by decide +kernel)) ggX10_mean_X0_friendsOfPicked
theorem dX10_mean_0 : decode cX10_mean 0 = .ok (.iload_n 1, 1) := by decide +kernel
theorem dX10_mean_1 : decode cX10_mean 1 = .ok (.iconst 0, 1) := by decide +kernel
theorem dX10_mean_2 : decode cX10_mean 2 = .ok (.iconst 2, 1) := by decide +kernel
theorem dX10_mean_3 : decode cX10_mean 3 = .ok (.invokestatic 72, 3) := by decide +kernel
theorem dX10_mean_6 : decode cX10_mean 6 = .ok (.ifCond .ne 12, 3) := by decide +kernel
theorem dX10_mean_9 : decode cX10_mean 9 = .ok (.iload_n 2, 1) := by decide +kernel
theorem dX10_mean_10 : decode cX10_mean 10 = .ok (.iconst 0, 1) := by decide +kernel
theorem dX10_mean_11 : decode cX10_mean 11 = .ok (.iconst 1, 1) := by decide +kernel
theorem dX10_mean_12 : decode cX10_mean 12 = .ok (.invokestatic 72, 3) := by decide +kernel
theorem dX10_mean_15 : decode cX10_mean 15 = .ok (.ifCond .eq 9, 3) := by decide +kernel
theorem dX10_mean_18 : decode cX10_mean 18 = .ok (.bipush (-2), 2) := by decide +kernel
theorem dX10_mean_20 : decode cX10_mean 20 = .ok (.invokestatic 105, 3) := by decide +kernel
theorem dX10_mean_23 : decode cX10_mean 23 = .ok (.lreturn, 1) := by decide +kernel
theorem dX10_mean_24 : decode cX10_mean 24 = .ok (.iload_n 1, 1) := by decide +kernel
theorem dX10_mean_25 : decode cX10_mean 25 = .ok (.ifCond .ne 19, 3) := by decide +kernel
theorem dX10_mean_28 : decode cX10_mean 28 = .ok (.aload_n 0, 1) := by decide +kernel
theorem dX10_mean_29 : decode cX10_mean 29 = .ok (.getfield 54, 3) := by decide +kernel
theorem dX10_mean_32 : decode cX10_mean 32 = .ok (.invokevirtual 240, 3) := by decide +kernel
theorem dX10_mean_35 : decode cX10_mean 35 = .ok (.i2l, 1) := by decide +kernel
theorem dX10_mean_36 : decode cX10_mean 36 = .ok (.ldc2_w 243, 3) := by decide +kernel
theorem dX10_mean_39 : decode cX10_mean 39 = .ok (.iload_n 2, 1) := by decide +kernel
theorem dX10_mean_40 : decode cX10_mean 40 = .ok (.invokestatic 114, 3) := by decide +kernel
theorem dX10_mean_43 : decode cX10_mean 43 = .ok (.lreturn, 1) := by decide +kernel
theorem dX10_mean_44 : decode cX10_mean 44 = .ok (.iload_n 1, 1) := by decide +kernel
theorem dX10_mean_45 : decode cX10_mean 45 = .ok (.iconst 1, 1) := by decide +kernel
theorem dX10_mean_46 : decode cX10_mean 46 = .ok (.if_icmp .ne 24, 3) := by decide +kernel
theorem dX10_mean_49 : decode cX10_mean 49 = .ok (.aload_n 0, 1) := by decide +kernel
theorem dX10_mean_50 : decode cX10_mean 50 = .ok (.getfield 54, 3) := by decide +kernel
theorem dX10_mean_53 : decode cX10_mean 53 = .ok (.invokevirtual 245, 3) := by decide +kernel
theorem dX10_mean_56 : decode cX10_mean 56 = .ok (.i2l, 1) := by decide +kernel
theorem dX10_mean_57 : decode cX10_mean 57 = .ok (.aload_n 0, 1) := by decide +kernel
theorem dX10_mean_58 : decode cX10_mean 58 = .ok (.getfield 54, 3) := by decide +kernel
theorem dX10_mean_61 : decode cX10_mean 61 = .ok (.invokevirtual 240, 3) := by decide +kernel
theorem dX10_mean_64 : decode cX10_mean 64 = .ok (.i2l, 1) := by decide +kernel
theorem dX10_mean_65 : decode cX10_mean 65 = .ok (.iload_n 2, 1) := by decide +kernel
theorem dX10_mean_66 : decode cX10_mean 66 = .ok (.invokestatic 114, 3) := by decide +kernel
theorem dX10_mean_69 : decode cX10_mean 69 = .ok (.lreturn, 1) := by decide +kernel
theorem dX10_mean_70 : decode cX10_mean 70 = .ok (.aload_n 0, 1) := by decide +kernel
theorem dX10_mean_71 : decode cX10_mean 71 = .ok (.getfield 54, 3) := by decide +kernel
theorem dX10_mean_74 : decode cX10_mean 74 = .ok (.invokevirtual 248, 3) := by decide +kernel
theorem dX10_mean_77 : decode cX10_mean 77 = .ok (.i2l, 1) := by decide +kernel
theorem dX10_mean_78 : decode cX10_mean 78 = .ok (.ldc2_w 251, 3) := by decide +kernel
theorem dX10_mean_81 : decode cX10_mean 81 = .ok (.iload_n 2, 1) := by decide +kernel
theorem dX10_mean_82 : decode cX10_mean 82 = .ok (.invokestatic 114, 3) := by decide +kernel
theorem dX10_mean_85 : decode cX10_mean 85 = .ok (.lreturn, 1) := by decide +kernel
set_option maxRecDepth 20000 in
theorem ggX10_fewer_X0_withFewer : GoodIn wsX10_fewer wsX0_withFewer := goodIn_r _ [6, 7, 8, 9, 5, 10, 11, 12, 13, 14, 15, 16, 17, 18, 19, 20, 21, 22, 23, 24, 25, 26, 36] (by decide +kernel) (by decide +kernel)
set_option maxRecDepth 20000 in
theorem gX10_fewer_X0_withFewer : GoodIn wsX10_fewer (wsV RX10 253 RX0 yX0_withFewer wsX0_withFewer) := goodIn_app (goodIn_of _ (by decide +kernel)) ggX10_fewer_X0_withFewer
theorem dX10_fewer_0 : decode cX10_fewer 0 = .ok (.aload_n 0, 1) := by decide +kernel
theorem dX10_fewer_1 : decode cX10_fewer 1 = .ok (.getfield 54, 3) := by decide +kernel
theorem dX10_fewer_4 : decode cX10_fewer 4 = .ok (.invokevirtual 253, 3) := by decide +kernel
theorem dX10_fewer_7 : decode cX10_fewer 7 = .ok (.ireturn, 1) := by decide +kernel
set_option maxRecDepth 20000 in
theorem ggX10_picked_X10_outside : GoodIn wsX10_picked wsX10_outside := goodIn_r _ [6] (by decide +kernel) (by decide +kernel)
set_option maxRecDepth 20000 in
theorem gX10_picked_X10_outside : GoodIn wsX10_picked (va_wsS RX10 72 yX10_outside wsX10_outside) := goodIn_app (goodIn_of _ (by decide +kernel)) ggX10_picked_X10_outside
set_option maxRecDepth 20000 in
theorem ggX10_picked_X2_refused : GoodIn wsX10_picked wsX2_refused := goodIn_r _ [10, 11] (by decide +kernel) (by decide +kernel)
set_option maxRecDepth 20000 in
theorem gX10_picked_X2_refused : GoodIn wsX10_picked (va_wsS RX10 105 yX2_refused wsX2_refused) := goodIn_app (goodIn_of _ (by decide +kernel)) ggX10_picked_X2_refused
set_option maxRecDepth 20000 in
theorem ggX10_picked_X0_pickedParts : GoodIn wsX10_picked wsX0_pickedParts := goodIn_r _ [16, 17, 18, 19, 15, 20, 21, 22, 23, 24, 25, 26, 27, 28, 29, 30, 31, 32, 49] (by decide +kernel) (by decide +kernel)
set_option maxRecDepth 20000 in
theorem gX10_picked_X0_pickedParts : GoodIn wsX10_picked (wsV RX10 256 RX0 yX0_pickedParts wsX0_pickedParts) := goodIn_app (goodIn_of _ (by decide +kernel)) ggX10_picked_X0_pickedParts
set_option maxRecDepth 20000 in
theorem ggX10_picked_X2_told : GoodIn wsX10_picked wsX2_told := goodIn_r _ [35, 36, 37, 9, 38, 39, 8, 10, 11] (by decide +kernel) (by decide +kernel)
set_option maxRecDepth 20000 in
theorem gX10_picked_X2_told : GoodIn wsX10_picked (va_wsS RX10 114 yX2_told wsX2_told) := goodIn_app (goodIn_of _ (by decide +kernel)) ggX10_picked_X2_told
theorem dX10_picked_0 : decode cX10_picked 0 = .ok (.iload_n 1, 1) := by decide +kernel
theorem dX10_picked_1 : decode cX10_picked 1 = .ok (.iconst 0, 1) := by decide +kernel
theorem dX10_picked_2 : decode cX10_picked 2 = .ok (.bipush 7, 2) := by decide +kernel
theorem dX10_picked_4 : decode cX10_picked 4 = .ok (.invokestatic 72, 3) := by decide +kernel
theorem dX10_picked_7 : decode cX10_picked 7 = .ok (.ifCond .ne 12, 3) := by decide +kernel
theorem dX10_picked_10 : decode cX10_picked 10 = .ok (.iload_n 2, 1) := by decide +kernel
theorem dX10_picked_11 : decode cX10_picked 11 = .ok (.iconst 0, 1) := by decide +kernel
theorem dX10_picked_12 : decode cX10_picked 12 = .ok (.iconst 1, 1) := by decide +kernel
theorem dX10_picked_13 : decode cX10_picked 13 = .ok (.invokestatic 72, 3) := by decide +kernel
theorem dX10_picked_16 : decode cX10_picked 16 = .ok (.ifCond .eq 9, 3) := by decide +kernel
theorem dX10_picked_19 : decode cX10_picked 19 = .ok (.bipush (-2), 2) := by decide +kernel
theorem dX10_picked_21 : decode cX10_picked 21 = .ok (.invokestatic 105, 3) := by decide +kernel
theorem dX10_picked_24 : decode cX10_picked 24 = .ok (.lreturn, 1) := by decide +kernel
theorem dX10_picked_25 : decode cX10_picked 25 = .ok (.aload_n 0, 1) := by decide +kernel
theorem dX10_picked_26 : decode cX10_picked 26 = .ok (.getfield 54, 3) := by decide +kernel
theorem dX10_picked_29 : decode cX10_picked 29 = .ok (.iload_n 1, 1) := by decide +kernel
theorem dX10_picked_30 : decode cX10_picked 30 = .ok (.invokevirtual 256, 3) := by decide +kernel
theorem dX10_picked_33 : decode cX10_picked 33 = .ok (.i2l, 1) := by decide +kernel
theorem dX10_picked_34 : decode cX10_picked 34 = .ok (.ldc2_w 251, 3) := by decide +kernel
theorem dX10_picked_37 : decode cX10_picked 37 = .ok (.iload_n 2, 1) := by decide +kernel
theorem dX10_picked_38 : decode cX10_picked 38 = .ok (.invokestatic 114, 3) := by decide +kernel
theorem dX10_picked_41 : decode cX10_picked 41 = .ok (.lreturn, 1) := by decide +kernel
set_option maxRecDepth 20000 in
theorem ggX10_best_X10_outside : GoodIn wsX10_best wsX10_outside := goodIn_r _ [5] (by decide +kernel) (by decide +kernel)
set_option maxRecDepth 20000 in
theorem gX10_best_X10_outside : GoodIn wsX10_best (va_wsS RX10 72 yX10_outside wsX10_outside) := goodIn_app (goodIn_of _ (by decide +kernel)) ggX10_best_X10_outside
set_option maxRecDepth 20000 in
theorem ggX10_best_X0_bestGroup : GoodIn wsX10_best wsX0_bestGroup := goodIn_r _ [10, 11, 12, 13, 14, 15, 16, 17, 18, 19, 20, 9, 21, 22, 23, 24, 25, 26, 37] (by decide +kernel) (by decide +kernel)
set_option maxRecDepth 20000 in
theorem gX10_best_X0_bestGroup : GoodIn wsX10_best (wsV RX10 259 RX0 yX0_bestGroup wsX0_bestGroup) := goodIn_app (goodIn_of _ (by decide +kernel)) ggX10_best_X0_bestGroup
set_option maxRecDepth 20000 in
theorem ggX10_best_X0_friendshipsOf : GoodIn wsX10_best wsX0_friendshipsOf := goodIn_r _ [21, 22, 23, 24, 25, 9, 26, 11, 12, 13, 14, 15, 16, 17, 37] (by decide +kernel) (by decide +kernel)
set_option maxRecDepth 20000 in
theorem gX10_best_X0_friendshipsOf : GoodIn wsX10_best (wsV RX10 262 RX0 yX0_friendshipsOf wsX0_friendshipsOf) := goodIn_app (goodIn_of _ (by decide +kernel)) ggX10_best_X0_friendshipsOf
theorem dX10_best_0 : decode cX10_best 0 = .ok (.iload_n 1, 1) := by decide +kernel
theorem dX10_best_1 : decode cX10_best 1 = .ok (.iconst 1, 1) := by decide +kernel
theorem dX10_best_2 : decode cX10_best 2 = .ok (.bipush 8, 2) := by decide +kernel
theorem dX10_best_4 : decode cX10_best 4 = .ok (.invokestatic 72, 3) := by decide +kernel
theorem dX10_best_7 : decode cX10_best 7 = .ok (.ifCond .ne 12, 3) := by decide +kernel
theorem dX10_best_10 : decode cX10_best 10 = .ok (.iload_n 2, 1) := by decide +kernel
theorem dX10_best_11 : decode cX10_best 11 = .ok (.iconst 0, 1) := by decide +kernel
theorem dX10_best_12 : decode cX10_best 12 = .ok (.iconst 1, 1) := by decide +kernel
theorem dX10_best_13 : decode cX10_best 13 = .ok (.invokestatic 72, 3) := by decide +kernel
theorem dX10_best_16 : decode cX10_best 16 = .ok (.ifCond .eq 6, 3) := by decide +kernel
theorem dX10_best_19 : decode cX10_best 19 = .ok (.bipush (-2), 2) := by decide +kernel
theorem dX10_best_21 : decode cX10_best 21 = .ok (.ireturn, 1) := by decide +kernel
theorem dX10_best_22 : decode cX10_best 22 = .ok (.aload_n 0, 1) := by decide +kernel
theorem dX10_best_23 : decode cX10_best 23 = .ok (.getfield 54, 3) := by decide +kernel
theorem dX10_best_26 : decode cX10_best 26 = .ok (.iload_n 1, 1) := by decide +kernel
theorem dX10_best_27 : decode cX10_best 27 = .ok (.invokevirtual 259, 3) := by decide +kernel
theorem dX10_best_30 : decode cX10_best 30 = .ok (.istore_n 3, 1) := by decide +kernel
theorem dX10_best_31 : decode cX10_best 31 = .ok (.iload_n 2, 1) := by decide +kernel
theorem dX10_best_32 : decode cX10_best 32 = .ok (.ifCond .ne 7, 3) := by decide +kernel
theorem dX10_best_35 : decode cX10_best 35 = .ok (.iload_n 3, 1) := by decide +kernel
theorem dX10_best_36 : decode cX10_best 36 = .ok (.goto 11, 3) := by decide +kernel
theorem dX10_best_39 : decode cX10_best 39 = .ok (.aload_n 0, 1) := by decide +kernel
theorem dX10_best_40 : decode cX10_best 40 = .ok (.getfield 54, 3) := by decide +kernel
theorem dX10_best_43 : decode cX10_best 43 = .ok (.iload_n 3, 1) := by decide +kernel
theorem dX10_best_44 : decode cX10_best 44 = .ok (.invokevirtual 262, 3) := by decide +kernel
theorem dX10_best_47 : decode cX10_best 47 = .ok (.ireturn, 1) := by decide +kernel
set_option maxRecDepth 20000 in
theorem ggX10_piece_X10_outside : GoodIn wsX10_piece wsX10_outside := goodIn_r _ [5] (by decide +kernel) (by decide +kernel)
set_option maxRecDepth 20000 in
theorem gX10_piece_X10_outside : GoodIn wsX10_piece (va_wsS RX10 72 yX10_outside wsX10_outside) := goodIn_app (goodIn_of _ (by decide +kernel)) ggX10_piece_X10_outside
set_option maxRecDepth 20000 in
theorem ggX10_piece_X4_lengthen : GoodIn wsX10_piece wsX4_lengthen := goodIn_r _ [10, 11, 12, 22, 23] (by decide +kernel) (by decide +kernel)
set_option maxRecDepth 20000 in
theorem gX10_piece_X4_lengthen : GoodIn wsX10_piece (wsV RX10 265 RX4 yX4_lengthen wsX4_lengthen) := goodIn_app (goodIn_of _ (by decide +kernel)) ggX10_piece_X4_lengthen
theorem dX10_piece_0 : decode cX10_piece 0 = .ok (.iload_n 1, 1) := by decide +kernel
theorem dX10_piece_1 : decode cX10_piece 1 = .ok (.iconst 1, 1) := by decide +kernel
theorem dX10_piece_2 : decode cX10_piece 2 = .ok (.bipush 20, 2) := by decide +kernel
theorem dX10_piece_4 : decode cX10_piece 4 = .ok (.invokestatic 72, 3) := by decide +kernel
theorem dX10_piece_7 : decode cX10_piece 7 = .ok (.ifCond .eq 6, 3) := by decide +kernel
theorem dX10_piece_10 : decode cX10_piece 10 = .ok (.bipush (-2), 2) := by decide +kernel
theorem dX10_piece_12 : decode cX10_piece 12 = .ok (.ireturn, 1) := by decide +kernel
theorem dX10_piece_13 : decode cX10_piece 13 = .ok (.aload_n 0, 1) := by decide +kernel
theorem dX10_piece_14 : decode cX10_piece 14 = .ok (.getfield 61, 3) := by decide +kernel
theorem dX10_piece_17 : decode cX10_piece 17 = .ok (.iload_n 1, 1) := by decide +kernel
theorem dX10_piece_18 : decode cX10_piece 18 = .ok (.invokevirtual 265, 3) := by decide +kernel
theorem dX10_piece_21 : decode cX10_piece 21 = .ok (.ireturn, 1) := by decide +kernel
set_option maxRecDepth 20000 in
theorem ggX10_snap_X4_clear : GoodIn wsX10_snap wsX4_clear := goodIn_r _ [6, 7, 17, 18] (by decide +kernel) (by decide +kernel)
set_option maxRecDepth 20000 in
theorem gX10_snap_X4_clear : GoodIn wsX10_snap (wsV RX10 268 RX4 yX4_clear wsX4_clear) := goodIn_app (goodIn_of _ (by decide +kernel)) ggX10_snap_X4_clear
theorem dX10_snap_0 : decode cX10_snap 0 = .ok (.aload_n 0, 1) := by decide +kernel
theorem dX10_snap_1 : decode cX10_snap 1 = .ok (.getfield 61, 3) := by decide +kernel
theorem dX10_snap_4 : decode cX10_snap 4 = .ok (.invokevirtual 268, 3) := by decide +kernel
theorem dX10_snap_7 : decode cX10_snap 7 = .ok (.ireturn, 1) := by decide +kernel
set_option maxRecDepth 20000 in
theorem ggX10_hit_X4_piecesTold : GoodIn wsX10_hit wsX4_piecesTold := goodIn_r _ [6, 7, 50, 51] (by decide +kernel) (by decide +kernel)
set_option maxRecDepth 20000 in
theorem gX10_hit_X4_piecesTold : GoodIn wsX10_hit (wsV RX10 271 RX4 yX4_piecesTold wsX4_piecesTold) := goodIn_app (goodIn_of _ (by decide +kernel)) ggX10_hit_X4_piecesTold
set_option maxRecDepth 20000 in
theorem ggX10_hit_X10_outside : GoodIn wsX10_hit wsX10_outside := goodIn_r _ [11] (by decide +kernel) (by decide +kernel)
set_option maxRecDepth 20000 in
theorem gX10_hit_X10_outside : GoodIn wsX10_hit (va_wsS RX10 72 yX10_outside wsX10_outside) := goodIn_app (goodIn_of _ (by decide +kernel)) ggX10_hit_X10_outside
set_option maxRecDepth 20000 in
theorem ggX10_hit_X2_refused : GoodIn wsX10_hit wsX2_refused := goodIn_r _ [15, 16] (by decide +kernel) (by decide +kernel)
set_option maxRecDepth 20000 in
theorem gX10_hit_X2_refused : GoodIn wsX10_hit (va_wsS RX10 105 yX2_refused wsX2_refused) := goodIn_app (goodIn_of _ (by decide +kernel)) ggX10_hit_X2_refused
set_option maxRecDepth 20000 in
theorem ggX10_hit_X4_waysToHit : GoodIn wsX10_hit wsX4_waysToHit := goodIn_r _ [20, 21, 22, 23, 24, 5, 25, 26, 27, 28, 29, 7, 30, 31, 32, 50, 51] (by decide +kernel) (by decide +kernel)
set_option maxRecDepth 20000 in
theorem gX10_hit_X4_waysToHit : GoodIn wsX10_hit (wsV RX10 274 RX4 yX4_waysToHit wsX4_waysToHit) := goodIn_app (goodIn_of _ (by decide +kernel)) ggX10_hit_X4_waysToHit
set_option maxRecDepth 20000 in
theorem ggX10_hit_X4_ways : GoodIn wsX10_hit wsX4_ways := goodIn_r _ [25, 26, 27, 28, 5, 29, 7, 21, 30, 31, 32, 50, 51] (by decide +kernel) (by decide +kernel)
set_option maxRecDepth 20000 in
theorem gX10_hit_X4_ways : GoodIn wsX10_hit (wsV RX10 278 RX4 yX4_ways wsX4_ways) := goodIn_app (goodIn_of _ (by decide +kernel)) ggX10_hit_X4_ways
set_option maxRecDepth 20000 in
theorem ggX10_hit_X2_told : GoodIn wsX10_hit wsX2_told := goodIn_r _ [36, 37, 38, 14, 39, 40, 13, 15, 16] (by decide +kernel) (by decide +kernel)
set_option maxRecDepth 20000 in
theorem gX10_hit_X2_told : GoodIn wsX10_hit (va_wsS RX10 114 yX2_told wsX2_told) := goodIn_app (goodIn_of _ (by decide +kernel)) ggX10_hit_X2_told
theorem dX10_hit_0 : decode cX10_hit 0 = .ok (.iload_n 1, 1) := by decide +kernel
theorem dX10_hit_1 : decode cX10_hit 1 = .ok (.iconst 0, 1) := by decide +kernel
theorem dX10_hit_2 : decode cX10_hit 2 = .ok (.aload_n 0, 1) := by decide +kernel
theorem dX10_hit_3 : decode cX10_hit 3 = .ok (.getfield 61, 3) := by decide +kernel
theorem dX10_hit_6 : decode cX10_hit 6 = .ok (.invokevirtual 271, 3) := by decide +kernel
theorem dX10_hit_9 : decode cX10_hit 9 = .ok (.iconst 1, 1) := by decide +kernel
theorem dX10_hit_10 : decode cX10_hit 10 = .ok (.isub, 1) := by decide +kernel
theorem dX10_hit_11 : decode cX10_hit 11 = .ok (.invokestatic 72, 3) := by decide +kernel
theorem dX10_hit_14 : decode cX10_hit 14 = .ok (.ifCond .ne 21, 3) := by decide +kernel
theorem dX10_hit_17 : decode cX10_hit 17 = .ok (.iload_n 2, 1) := by decide +kernel
theorem dX10_hit_18 : decode cX10_hit 18 = .ok (.iconst 1, 1) := by decide +kernel
theorem dX10_hit_19 : decode cX10_hit 19 = .ok (.iconst 5, 1) := by decide +kernel
theorem dX10_hit_20 : decode cX10_hit 20 = .ok (.invokestatic 72, 3) := by decide +kernel
theorem dX10_hit_23 : decode cX10_hit 23 = .ok (.ifCond .ne 12, 3) := by decide +kernel
theorem dX10_hit_26 : decode cX10_hit 26 = .ok (.iload_n 3, 1) := by decide +kernel
theorem dX10_hit_27 : decode cX10_hit 27 = .ok (.iconst 0, 1) := by decide +kernel
theorem dX10_hit_28 : decode cX10_hit 28 = .ok (.iconst 1, 1) := by decide +kernel
theorem dX10_hit_29 : decode cX10_hit 29 = .ok (.invokestatic 72, 3) := by decide +kernel
theorem dX10_hit_32 : decode cX10_hit 32 = .ok (.ifCond .eq 9, 3) := by decide +kernel
theorem dX10_hit_35 : decode cX10_hit 35 = .ok (.bipush (-2), 2) := by decide +kernel
theorem dX10_hit_37 : decode cX10_hit 37 = .ok (.invokestatic 105, 3) := by decide +kernel
theorem dX10_hit_40 : decode cX10_hit 40 = .ok (.lreturn, 1) := by decide +kernel
theorem dX10_hit_41 : decode cX10_hit 41 = .ok (.aload_n 0, 1) := by decide +kernel
theorem dX10_hit_42 : decode cX10_hit 42 = .ok (.getfield 61, 3) := by decide +kernel
theorem dX10_hit_45 : decode cX10_hit 45 = .ok (.iload_n 1, 1) := by decide +kernel
theorem dX10_hit_46 : decode cX10_hit 46 = .ok (.iload_n 2, 1) := by decide +kernel
theorem dX10_hit_47 : decode cX10_hit 47 = .ok (.invokevirtual 274, 3) := by decide +kernel
theorem dX10_hit_50 : decode cX10_hit 50 = .ok (.aload_n 0, 1) := by decide +kernel
theorem dX10_hit_51 : decode cX10_hit 51 = .ok (.getfield 61, 3) := by decide +kernel
theorem dX10_hit_54 : decode cX10_hit 54 = .ok (.iload_n 2, 1) := by decide +kernel
theorem dX10_hit_55 : decode cX10_hit 55 = .ok (.invokevirtual 278, 3) := by decide +kernel
theorem dX10_hit_58 : decode cX10_hit 58 = .ok (.iload_n 3, 1) := by decide +kernel
theorem dX10_hit_59 : decode cX10_hit 59 = .ok (.invokestatic 114, 3) := by decide +kernel
theorem dX10_hit_62 : decode cX10_hit 62 = .ok (.lreturn, 1) := by decide +kernel
set_option maxRecDepth 20000 in
theorem ggX10_stick_X10_outside : GoodIn wsX10_stick wsX10_outside := goodIn_r _ [5] (by decide +kernel) (by decide +kernel)
set_option maxRecDepth 20000 in
theorem gX10_stick_X10_outside : GoodIn wsX10_stick (va_wsS RX10 72 yX10_outside wsX10_outside) := goodIn_app (goodIn_of _ (by decide +kernel)) ggX10_stick_X10_outside
set_option maxRecDepth 20000 in
theorem ggX10_stick_X2_refused : GoodIn wsX10_stick wsX2_refused := goodIn_r _ [9, 10] (by decide +kernel) (by decide +kernel)
set_option maxRecDepth 20000 in
theorem gX10_stick_X2_refused : GoodIn wsX10_stick (va_wsS RX10 105 yX2_refused wsX2_refused) := goodIn_app (goodIn_of _ (by decide +kernel)) ggX10_stick_X2_refused
set_option maxRecDepth 20000 in
theorem ggX10_stick_X4_squares : GoodIn wsX10_stick wsX4_squares := goodIn_r _ [15, 16, 17, 70, 71] (by decide +kernel) (by decide +kernel)
set_option maxRecDepth 20000 in
theorem gX10_stick_X4_squares : GoodIn wsX10_stick (wsV RX10 281 RX4 yX4_squares wsX4_squares) := goodIn_app (goodIn_of _ (by decide +kernel)) ggX10_stick_X4_squares
set_option maxRecDepth 20000 in
theorem ggX10_stick_X4_lengthInAll : GoodIn wsX10_stick wsX4_lengthInAll := goodIn_r _ [21, 16, 17, 70, 71] (by decide +kernel) (by decide +kernel)
set_option maxRecDepth 20000 in
theorem gX10_stick_X4_lengthInAll : GoodIn wsX10_stick (wsV RX10 284 RX4 yX4_lengthInAll wsX4_lengthInAll) := goodIn_app (goodIn_of _ (by decide +kernel)) ggX10_stick_X4_lengthInAll
set_option maxRecDepth 20000 in
theorem ggX10_stick_X2_told : GoodIn wsX10_stick wsX2_told := goodIn_r _ [24, 25, 26, 8, 27, 28, 7, 9, 10] (by decide +kernel) (by decide +kernel)
set_option maxRecDepth 20000 in
theorem gX10_stick_X2_told : GoodIn wsX10_stick (va_wsS RX10 114 yX2_told wsX2_told) := goodIn_app (goodIn_of _ (by decide +kernel)) ggX10_stick_X2_told
set_option maxRecDepth 20000 in
theorem ggX10_stick_X4_allWaysToHit : GoodIn wsX10_stick wsX4_allWaysToHit := goodIn_r _ [32, 16, 33, 34, 35, 14, 36, 17, 37, 38, 39, 40, 41, 19, 20, 21, 42, 43, 44, 70, 71] (by decide +kernel) (by decide +kernel)
set_option maxRecDepth 20000 in
theorem gX10_stick_X4_allWaysToHit : GoodIn wsX10_stick (wsV RX10 287 RX4 yX4_allWaysToHit wsX4_allWaysToHit) := goodIn_app (goodIn_of _ (by decide +kernel)) ggX10_stick_X4_allWaysToHit
set_option maxRecDepth 20000 in
theorem ggX10_stick_X4_ways : GoodIn wsX10_stick wsX4_ways := goodIn_r _ [40, 41, 19, 20, 14, 21, 16, 17, 42, 43, 44, 70, 71] (by decide +kernel) (by decide +kernel)
set_option maxRecDepth 20000 in
theorem gX10_stick_X4_ways : GoodIn wsX10_stick (wsV RX10 278 RX4 yX4_ways wsX4_ways) := goodIn_app (goodIn_of _ (by decide +kernel)) ggX10_stick_X4_ways
set_option maxRecDepth 20000 in
theorem ggX10_stick_X4_waysToHitAll : GoodIn wsX10_stick wsX4_waysToHitAll := goodIn_r _ [49, 16, 50, 51, 52, 14, 53, 17, 42, 43, 44, 54, 55, 56, 57, 58, 59, 60, 70, 71] (by decide +kernel) (by decide +kernel)
set_option maxRecDepth 20000 in
theorem gX10_stick_X4_waysToHitAll : GoodIn wsX10_stick (wsV RX10 290 RX4 yX4_waysToHitAll wsX4_waysToHitAll) := goodIn_app (goodIn_of _ (by decide +kernel)) ggX10_stick_X4_waysToHitAll
theorem dX10_stick_0 : decode cX10_stick 0 = .ok (.iload_n 1, 1) := by decide +kernel
theorem dX10_stick_1 : decode cX10_stick 1 = .ok (.iconst 0, 1) := by decide +kernel
theorem dX10_stick_2 : decode cX10_stick 2 = .ok (.iconst 2, 1) := by decide +kernel
theorem dX10_stick_3 : decode cX10_stick 3 = .ok (.invokestatic 72, 3) := by decide +kernel
theorem dX10_stick_6 : decode cX10_stick 6 = .ok (.ifCond .ne 29, 3) := by decide +kernel
theorem dX10_stick_9 : decode cX10_stick 9 = .ok (.iload_n 2, 1) := by decide +kernel
theorem dX10_stick_10 : decode cX10_stick 10 = .ok (.iconst 1, 1) := by decide +kernel
theorem dX10_stick_11 : decode cX10_stick 11 = .ok (.iload_n 1, 1) := by decide +kernel
theorem dX10_stick_12 : decode cX10_stick 12 = .ok (.ifCond .ne 7, 3) := by decide +kernel
theorem dX10_stick_15 : decode cX10_stick 15 = .ok (.iconst 1, 1) := by decide +kernel
theorem dX10_stick_16 : decode cX10_stick 16 = .ok (.goto 4, 3) := by decide +kernel
theorem dX10_stick_19 : decode cX10_stick 19 = .ok (.iconst 5, 1) := by decide +kernel
theorem dX10_stick_20 : decode cX10_stick 20 = .ok (.invokestatic 72, 3) := by decide +kernel
theorem dX10_stick_23 : decode cX10_stick 23 = .ok (.ifCond .ne 12, 3) := by decide +kernel
theorem dX10_stick_26 : decode cX10_stick 26 = .ok (.iload_n 3, 1) := by decide +kernel
theorem dX10_stick_27 : decode cX10_stick 27 = .ok (.iconst 0, 1) := by decide +kernel
theorem dX10_stick_28 : decode cX10_stick 28 = .ok (.iconst 1, 1) := by decide +kernel
theorem dX10_stick_29 : decode cX10_stick 29 = .ok (.invokestatic 72, 3) := by decide +kernel
theorem dX10_stick_32 : decode cX10_stick 32 = .ok (.ifCond .eq 9, 3) := by decide +kernel
theorem dX10_stick_35 : decode cX10_stick 35 = .ok (.bipush (-2), 2) := by decide +kernel
theorem dX10_stick_37 : decode cX10_stick 37 = .ok (.invokestatic 105, 3) := by decide +kernel
theorem dX10_stick_40 : decode cX10_stick 40 = .ok (.lreturn, 1) := by decide +kernel
theorem dX10_stick_41 : decode cX10_stick 41 = .ok (.iload_n 1, 1) := by decide +kernel
theorem dX10_stick_42 : decode cX10_stick 42 = .ok (.ifCond .ne 24, 3) := by decide +kernel
theorem dX10_stick_45 : decode cX10_stick 45 = .ok (.aload_n 0, 1) := by decide +kernel
theorem dX10_stick_46 : decode cX10_stick 46 = .ok (.getfield 61, 3) := by decide +kernel
theorem dX10_stick_49 : decode cX10_stick 49 = .ok (.invokevirtual 281, 3) := by decide +kernel
theorem dX10_stick_52 : decode cX10_stick 52 = .ok (.i2l, 1) := by decide +kernel
theorem dX10_stick_53 : decode cX10_stick 53 = .ok (.aload_n 0, 1) := by decide +kernel
theorem dX10_stick_54 : decode cX10_stick 54 = .ok (.getfield 61, 3) := by decide +kernel
theorem dX10_stick_57 : decode cX10_stick 57 = .ok (.invokevirtual 284, 3) := by decide +kernel
theorem dX10_stick_60 : decode cX10_stick 60 = .ok (.i2l, 1) := by decide +kernel
theorem dX10_stick_61 : decode cX10_stick 61 = .ok (.iload_n 3, 1) := by decide +kernel
theorem dX10_stick_62 : decode cX10_stick 62 = .ok (.invokestatic 114, 3) := by decide +kernel
theorem dX10_stick_65 : decode cX10_stick 65 = .ok (.lreturn, 1) := by decide +kernel
theorem dX10_stick_66 : decode cX10_stick 66 = .ok (.iload_n 1, 1) := by decide +kernel
theorem dX10_stick_67 : decode cX10_stick 67 = .ok (.iconst 1, 1) := by decide +kernel
theorem dX10_stick_68 : decode cX10_stick 68 = .ok (.if_icmp .ne 24, 3) := by decide +kernel
theorem dX10_stick_71 : decode cX10_stick 71 = .ok (.aload_n 0, 1) := by decide +kernel
theorem dX10_stick_72 : decode cX10_stick 72 = .ok (.getfield 61, 3) := by decide +kernel
theorem dX10_stick_75 : decode cX10_stick 75 = .ok (.iload_n 2, 1) := by decide +kernel
theorem dX10_stick_76 : decode cX10_stick 76 = .ok (.invokevirtual 287, 3) := by decide +kernel
theorem dX10_stick_79 : decode cX10_stick 79 = .ok (.aload_n 0, 1) := by decide +kernel
theorem dX10_stick_80 : decode cX10_stick 80 = .ok (.getfield 61, 3) := by decide +kernel
theorem dX10_stick_83 : decode cX10_stick 83 = .ok (.iload_n 2, 1) := by decide +kernel
theorem dX10_stick_84 : decode cX10_stick 84 = .ok (.invokevirtual 278, 3) := by decide +kernel
theorem dX10_stick_87 : decode cX10_stick 87 = .ok (.iload_n 3, 1) := by decide +kernel
theorem dX10_stick_88 : decode cX10_stick 88 = .ok (.invokestatic 114, 3) := by decide +kernel
theorem dX10_stick_91 : decode cX10_stick 91 = .ok (.lreturn, 1) := by decide +kernel
theorem dX10_stick_92 : decode cX10_stick 92 = .ok (.aload_n 0, 1) := by decide +kernel
theorem dX10_stick_93 : decode cX10_stick 93 = .ok (.getfield 61, 3) := by decide +kernel
theorem dX10_stick_96 : decode cX10_stick 96 = .ok (.iload_n 2, 1) := by decide +kernel
theorem dX10_stick_97 : decode cX10_stick 97 = .ok (.invokevirtual 290, 3) := by decide +kernel
theorem dX10_stick_100 : decode cX10_stick 100 = .ok (.aload_n 0, 1) := by decide +kernel
theorem dX10_stick_101 : decode cX10_stick 101 = .ok (.getfield 61, 3) := by decide +kernel
theorem dX10_stick_104 : decode cX10_stick 104 = .ok (.iload_n 2, 1) := by decide +kernel
theorem dX10_stick_105 : decode cX10_stick 105 = .ok (.invokevirtual 278, 3) := by decide +kernel
theorem dX10_stick_108 : decode cX10_stick 108 = .ok (.iload_n 3, 1) := by decide +kernel
theorem dX10_stick_109 : decode cX10_stick 109 = .ok (.invokestatic 114, 3) := by decide +kernel
theorem dX10_stick_112 : decode cX10_stick 112 = .ok (.lreturn, 1) := by decide +kernel
set_option maxRecDepth 20000 in
theorem ggX10_sheet_X10_outside : GoodIn wsX10_sheet wsX10_outside := goodIn_r _ [5] (by decide +kernel) (by decide +kernel)
set_option maxRecDepth 20000 in
theorem gX10_sheet_X10_outside : GoodIn wsX10_sheet (va_wsS RX10 72 yX10_outside wsX10_outside) := goodIn_app (goodIn_of _ (by decide +kernel)) ggX10_sheet_X10_outside
set_option maxRecDepth 20000 in
theorem ggX10_sheet_X5_finding : GoodIn wsX10_sheet wsX5_finding := goodIn_r _ [10, 11, 28, 29, 30, 31] (by decide +kernel) (by decide +kernel)
set_option maxRecDepth 20000 in
theorem gX10_sheet_X5_finding : GoodIn wsX10_sheet (wsV RX10 138 RX5 yX5_finding wsX5_finding) := goodIn_app (goodIn_of _ (by decide +kernel)) ggX10_sheet_X5_finding
set_option maxRecDepth 20000 in
theorem ggX10_sheet_X5_renew : GoodIn wsX10_sheet wsX5_renew := goodIn_r _ [15, 16, 17, 18, 28, 29, 30, 31] (by decide +kernel) (by decide +kernel)
set_option maxRecDepth 20000 in
theorem gX10_sheet_X5_renew : GoodIn wsX10_sheet (wsV RX10 293 RX5 yX5_renew wsX5_renew) := goodIn_app (goodIn_of _ (by decide +kernel)) ggX10_sheet_X5_renew
theorem dX10_sheet_0 : decode cX10_sheet 0 = .ok (.iload_n 1, 1) := by decide +kernel
theorem dX10_sheet_1 : decode cX10_sheet 1 = .ok (.iconst 0, 1) := by decide +kernel
theorem dX10_sheet_2 : decode cX10_sheet 2 = .ok (.iconst 3, 1) := by decide +kernel
theorem dX10_sheet_3 : decode cX10_sheet 3 = .ok (.invokestatic 72, 3) := by decide +kernel
theorem dX10_sheet_6 : decode cX10_sheet 6 = .ok (.ifCond .ne 18, 3) := by decide +kernel
theorem dX10_sheet_9 : decode cX10_sheet 9 = .ok (.iload_n 2, 1) := by decide +kernel
theorem dX10_sheet_10 : decode cX10_sheet 10 = .ok (.iconst 0, 1) := by decide +kernel
theorem dX10_sheet_11 : decode cX10_sheet 11 = .ok (.iconst 2, 1) := by decide +kernel
theorem dX10_sheet_12 : decode cX10_sheet 12 = .ok (.invokestatic 72, 3) := by decide +kernel
theorem dX10_sheet_15 : decode cX10_sheet 15 = .ok (.ifCond .ne 9, 3) := by decide +kernel
theorem dX10_sheet_18 : decode cX10_sheet 18 = .ok (.iload_n 3, 1) := by decide +kernel
theorem dX10_sheet_19 : decode cX10_sheet 19 = .ok (.bipush 60, 2) := by decide +kernel
theorem dX10_sheet_21 : decode cX10_sheet 21 = .ok (.if_icmp .le 6, 3) := by decide +kernel
theorem dX10_sheet_24 : decode cX10_sheet 24 = .ok (.bipush (-2), 2) := by decide +kernel
theorem dX10_sheet_26 : decode cX10_sheet 26 = .ok (.ireturn, 1) := by decide +kernel
theorem dX10_sheet_27 : decode cX10_sheet 27 = .ok (.iload_n 3, 1) := by decide +kernel
theorem dX10_sheet_28 : decode cX10_sheet 28 = .ok (.ifCond .ge 12, 3) := by decide +kernel
theorem dX10_sheet_31 : decode cX10_sheet 31 = .ok (.aload_n 0, 1) := by decide +kernel
theorem dX10_sheet_32 : decode cX10_sheet 32 = .ok (.getfield 68, 3) := by decide +kernel
theorem dX10_sheet_35 : decode cX10_sheet 35 = .ok (.iconst 5, 1) := by decide +kernel
theorem dX10_sheet_36 : decode cX10_sheet 36 = .ok (.invokevirtual 138, 3) := by decide +kernel
theorem dX10_sheet_39 : decode cX10_sheet 39 = .ok (.ireturn, 1) := by decide +kernel
theorem dX10_sheet_40 : decode cX10_sheet 40 = .ok (.aload_n 0, 1) := by decide +kernel
theorem dX10_sheet_41 : decode cX10_sheet 41 = .ok (.getfield 68, 3) := by decide +kernel
theorem dX10_sheet_44 : decode cX10_sheet 44 = .ok (.iload_n 1, 1) := by decide +kernel
theorem dX10_sheet_45 : decode cX10_sheet 45 = .ok (.iload_n 2, 1) := by decide +kernel
theorem dX10_sheet_46 : decode cX10_sheet 46 = .ok (.iload_n 3, 1) := by decide +kernel
theorem dX10_sheet_47 : decode cX10_sheet 47 = .ok (.invokevirtual 293, 3) := by decide +kernel
theorem dX10_sheet_50 : decode cX10_sheet 50 = .ok (.iload_n 3, 1) := by decide +kernel
theorem dX10_sheet_51 : decode cX10_sheet 51 = .ok (.ireturn, 1) := by decide +kernel
set_option maxRecDepth 20000 in
theorem ggX10_lose_X10_outside : GoodIn wsX10_lose wsX10_outside := goodIn_r _ [5] (by decide +kernel) (by decide +kernel)
set_option maxRecDepth 20000 in
theorem gX10_lose_X10_outside : GoodIn wsX10_lose (va_wsS RX10 72 yX10_outside wsX10_outside) := goodIn_app (goodIn_of _ (by decide +kernel)) ggX10_lose_X10_outside
set_option maxRecDepth 20000 in
theorem ggX10_lose_X5_isLost : GoodIn wsX10_lose wsX5_isLost := goodIn_r _ [10, 11, 30, 31, 32, 33] (by decide +kernel) (by decide +kernel)
set_option maxRecDepth 20000 in
theorem gX10_lose_X5_isLost : GoodIn wsX10_lose (wsV RX10 135 RX5 yX5_isLost wsX5_isLost) := goodIn_app (goodIn_of _ (by decide +kernel)) ggX10_lose_X5_isLost
set_option maxRecDepth 20000 in
theorem ggX10_lose_X5_finding : GoodIn wsX10_lose wsX5_finding := goodIn_r _ [15, 16, 30, 31, 32, 33] (by decide +kernel) (by decide +kernel)
set_option maxRecDepth 20000 in
theorem gX10_lose_X5_finding : GoodIn wsX10_lose (wsV RX10 138 RX5 yX5_finding wsX5_finding) := goodIn_app (goodIn_of _ (by decide +kernel)) ggX10_lose_X5_finding
set_option maxRecDepth 20000 in
theorem ggX10_lose_X5_drop : GoodIn wsX10_lose wsX5_drop := goodIn_r _ [20, 11, 30, 31, 32, 33] (by decide +kernel) (by decide +kernel)
set_option maxRecDepth 20000 in
theorem gX10_lose_X5_drop : GoodIn wsX10_lose (wsV RX10 297 RX5 yX5_drop wsX5_drop) := goodIn_app (goodIn_of _ (by decide +kernel)) ggX10_lose_X5_drop
theorem dX10_lose_0 : decode cX10_lose 0 = .ok (.iload_n 1, 1) := by decide +kernel
theorem dX10_lose_1 : decode cX10_lose 1 = .ok (.iconst 0, 1) := by decide +kernel
theorem dX10_lose_2 : decode cX10_lose 2 = .ok (.iconst 3, 1) := by decide +kernel
theorem dX10_lose_3 : decode cX10_lose 3 = .ok (.invokestatic 72, 3) := by decide +kernel
theorem dX10_lose_6 : decode cX10_lose 6 = .ok (.ifCond .eq 6, 3) := by decide +kernel
theorem dX10_lose_9 : decode cX10_lose 9 = .ok (.bipush (-2), 2) := by decide +kernel
theorem dX10_lose_11 : decode cX10_lose 11 = .ok (.ireturn, 1) := by decide +kernel
theorem dX10_lose_12 : decode cX10_lose 12 = .ok (.aload_n 0, 1) := by decide +kernel
theorem dX10_lose_13 : decode cX10_lose 13 = .ok (.getfield 68, 3) := by decide +kernel
theorem dX10_lose_16 : decode cX10_lose 16 = .ok (.iload_n 1, 1) := by decide +kernel
theorem dX10_lose_17 : decode cX10_lose 17 = .ok (.invokevirtual 135, 3) := by decide +kernel
theorem dX10_lose_20 : decode cX10_lose 20 = .ok (.ifCond .eq 12, 3) := by decide +kernel
theorem dX10_lose_23 : decode cX10_lose 23 = .ok (.aload_n 0, 1) := by decide +kernel
theorem dX10_lose_24 : decode cX10_lose 24 = .ok (.getfield 68, 3) := by decide +kernel
theorem dX10_lose_27 : decode cX10_lose 27 = .ok (.iconst 1, 1) := by decide +kernel
theorem dX10_lose_28 : decode cX10_lose 28 = .ok (.invokevirtual 138, 3) := by decide +kernel
theorem dX10_lose_31 : decode cX10_lose 31 = .ok (.ireturn, 1) := by decide +kernel
theorem dX10_lose_32 : decode cX10_lose 32 = .ok (.aload_n 0, 1) := by decide +kernel
theorem dX10_lose_33 : decode cX10_lose 33 = .ok (.getfield 68, 3) := by decide +kernel
theorem dX10_lose_36 : decode cX10_lose 36 = .ok (.iload_n 1, 1) := by decide +kernel
theorem dX10_lose_37 : decode cX10_lose 37 = .ok (.invokevirtual 297, 3) := by decide +kernel
theorem dX10_lose_40 : decode cX10_lose 40 = .ok (.ireturn, 1) := by decide +kernel
set_option maxRecDepth 20000 in
theorem ggX10_put_X10_outside : GoodIn wsX10_put wsX10_outside := goodIn_r _ [5] (by decide +kernel) (by decide +kernel)
set_option maxRecDepth 20000 in
theorem gX10_put_X10_outside : GoodIn wsX10_put (va_wsS RX10 72 yX10_outside wsX10_outside) := goodIn_app (goodIn_of _ (by decide +kernel)) ggX10_put_X10_outside
set_option maxRecDepth 20000 in
theorem ggX10_put_X5_faultOf : GoodIn wsX10_put wsX5_faultOf := goodIn_r _ [10, 11, 12, 13, 14, 15, 9, 16, 3, 4, 5, 36, 37, 38, 39] (by decide +kernel) (by decide +kernel)
set_option maxRecDepth 20000 in
theorem gX10_put_X5_faultOf : GoodIn wsX10_put (wsV RX10 300 RX5 yX5_faultOf wsX5_faultOf) := goodIn_app (goodIn_of _ (by decide +kernel)) ggX10_put_X5_faultOf
set_option maxRecDepth 20000 in
theorem ggX10_put_X5_finding : GoodIn wsX10_put wsX5_finding := goodIn_r _ [20, 21, 36, 37, 38, 39] (by decide +kernel) (by decide +kernel)
set_option maxRecDepth 20000 in
theorem gX10_put_X5_finding : GoodIn wsX10_put (wsV RX10 138 RX5 yX5_finding wsX5_finding) := goodIn_app (goodIn_of _ (by decide +kernel)) ggX10_put_X5_finding
set_option maxRecDepth 20000 in
theorem ggX10_put_X5_setItem : GoodIn wsX10_put wsX5_setItem := goodIn_r _ [25, 26, 11, 36, 37, 38, 39] (by decide +kernel) (by decide +kernel)
set_option maxRecDepth 20000 in
theorem gX10_put_X5_setItem : GoodIn wsX10_put (wsV RX10 303 RX5 yX5_setItem wsX5_setItem) := goodIn_app (goodIn_of _ (by decide +kernel)) ggX10_put_X5_setItem
theorem dX10_put_0 : decode cX10_put 0 = .ok (.iload_n 1, 1) := by decide +kernel
theorem dX10_put_1 : decode cX10_put 1 = .ok (.iconst 0, 1) := by decide +kernel
theorem dX10_put_2 : decode cX10_put 2 = .ok (.iconst 3, 1) := by decide +kernel
theorem dX10_put_3 : decode cX10_put 3 = .ok (.invokestatic 72, 3) := by decide +kernel
theorem dX10_put_6 : decode cX10_put 6 = .ok (.ifCond .ne 12, 3) := by decide +kernel
theorem dX10_put_9 : decode cX10_put 9 = .ok (.iload_n 2, 1) := by decide +kernel
theorem dX10_put_10 : decode cX10_put 10 = .ok (.iconst 0, 1) := by decide +kernel
theorem dX10_put_11 : decode cX10_put 11 = .ok (.iconst 2, 1) := by decide +kernel
theorem dX10_put_12 : decode cX10_put 12 = .ok (.invokestatic 72, 3) := by decide +kernel
theorem dX10_put_15 : decode cX10_put 15 = .ok (.ifCond .eq 6, 3) := by decide +kernel
theorem dX10_put_18 : decode cX10_put 18 = .ok (.bipush (-2), 2) := by decide +kernel
theorem dX10_put_20 : decode cX10_put 20 = .ok (.ireturn, 1) := by decide +kernel
theorem dX10_put_21 : decode cX10_put 21 = .ok (.aload_n 0, 1) := by decide +kernel
theorem dX10_put_22 : decode cX10_put 22 = .ok (.getfield 68, 3) := by decide +kernel
theorem dX10_put_25 : decode cX10_put 25 = .ok (.iload_n 1, 1) := by decide +kernel
theorem dX10_put_26 : decode cX10_put 26 = .ok (.iload_n 2, 1) := by decide +kernel
theorem dX10_put_27 : decode cX10_put 27 = .ok (.iload_n 3, 1) := by decide +kernel
theorem dX10_put_28 : decode cX10_put 28 = .ok (.invokevirtual 300, 3) := by decide +kernel
theorem dX10_put_31 : decode cX10_put 31 = .ok (.istore 5, 2) := by decide +kernel
theorem dX10_put_33 : decode cX10_put 33 = .ok (.iload 5, 2) := by decide +kernel
theorem dX10_put_35 : decode cX10_put 35 = .ok (.ifCond .eq 13, 3) := by decide +kernel
theorem dX10_put_38 : decode cX10_put 38 = .ok (.aload_n 0, 1) := by decide +kernel
theorem dX10_put_39 : decode cX10_put 39 = .ok (.getfield 68, 3) := by decide +kernel
theorem dX10_put_42 : decode cX10_put 42 = .ok (.iload 5, 2) := by decide +kernel
theorem dX10_put_44 : decode cX10_put 44 = .ok (.invokevirtual 138, 3) := by decide +kernel
theorem dX10_put_47 : decode cX10_put 47 = .ok (.ireturn, 1) := by decide +kernel
theorem dX10_put_48 : decode cX10_put 48 = .ok (.aload_n 0, 1) := by decide +kernel
theorem dX10_put_49 : decode cX10_put 49 = .ok (.getfield 68, 3) := by decide +kernel
theorem dX10_put_52 : decode cX10_put 52 = .ok (.iload_n 1, 1) := by decide +kernel
theorem dX10_put_53 : decode cX10_put 53 = .ok (.iload_n 3, 1) := by decide +kernel
theorem dX10_put_54 : decode cX10_put 54 = .ok (.iload 4, 2) := by decide +kernel
theorem dX10_put_56 : decode cX10_put 56 = .ok (.invokevirtual 303, 3) := by decide +kernel
theorem dX10_put_59 : decode cX10_put 59 = .ok (.iconst 1, 1) := by decide +kernel
theorem dX10_put_60 : decode cX10_put 60 = .ok (.ireturn, 1) := by decide +kernel
set_option maxRecDepth 20000 in
theorem ggX10_get_X10_outside : GoodIn wsX10_get wsX10_outside := goodIn_r _ [6] (by decide +kernel) (by decide +kernel)
set_option maxRecDepth 20000 in
theorem gX10_get_X10_outside : GoodIn wsX10_get (va_wsS RX10 72 yX10_outside wsX10_outside) := goodIn_app (goodIn_of _ (by decide +kernel)) ggX10_get_X10_outside
set_option maxRecDepth 20000 in
theorem ggX10_get_X5_faultOf : GoodIn wsX10_get wsX5_faultOf := goodIn_r _ [11, 12, 13, 14, 15, 16, 10, 17, 4, 5, 6, 37, 38, 39, 40] (by decide +kernel) (by decide +kernel)
set_option maxRecDepth 20000 in
theorem gX10_get_X5_faultOf : GoodIn wsX10_get (wsV RX10 300 RX5 yX5_faultOf wsX5_faultOf) := goodIn_app (goodIn_of _ (by decide +kernel)) ggX10_get_X5_faultOf
set_option maxRecDepth 20000 in
theorem ggX10_get_X5_finding : GoodIn wsX10_get wsX5_finding := goodIn_r _ [21, 22, 37, 38, 39, 40] (by decide +kernel) (by decide +kernel)
set_option maxRecDepth 20000 in
theorem gX10_get_X5_finding : GoodIn wsX10_get (wsV RX10 138 RX5 yX5_finding wsX5_finding) := goodIn_app (goodIn_of _ (by decide +kernel)) ggX10_get_X5_finding
set_option maxRecDepth 20000 in
theorem ggX10_get_X5_itemAt : GoodIn wsX10_get wsX5_itemAt := goodIn_r _ [26, 27, 37, 38, 39, 40] (by decide +kernel) (by decide +kernel)
set_option maxRecDepth 20000 in
theorem gX10_get_X5_itemAt : GoodIn wsX10_get (wsV RX10 144 RX5 yX5_itemAt wsX5_itemAt) := goodIn_app (goodIn_of _ (by decide +kernel)) ggX10_get_X5_itemAt
theorem dX10_get_0 : decode cX10_get 0 = .ok (.iload_n 1, 1) := by decide +kernel
theorem dX10_get_1 : decode cX10_get 1 = .ok (.iconst 0, 1) := by decide +kernel
theorem dX10_get_2 : decode cX10_get 2 = .ok (.iconst 3, 1) := by decide +kernel
theorem dX10_get_3 : decode cX10_get 3 = .ok (.invokestatic 72, 3) := by decide +kernel
theorem dX10_get_6 : decode cX10_get 6 = .ok (.ifCond .ne 12, 3) := by decide +kernel
theorem dX10_get_9 : decode cX10_get 9 = .ok (.iload_n 2, 1) := by decide +kernel
theorem dX10_get_10 : decode cX10_get 10 = .ok (.iconst 0, 1) := by decide +kernel
theorem dX10_get_11 : decode cX10_get 11 = .ok (.iconst 2, 1) := by decide +kernel
theorem dX10_get_12 : decode cX10_get 12 = .ok (.invokestatic 72, 3) := by decide +kernel
theorem dX10_get_15 : decode cX10_get 15 = .ok (.ifCond .eq 7, 3) := by decide +kernel
theorem dX10_get_18 : decode cX10_get 18 = .ok (.ldc_w 308, 3) := by decide +kernel
theorem dX10_get_21 : decode cX10_get 21 = .ok (.ireturn, 1) := by decide +kernel
theorem dX10_get_22 : decode cX10_get 22 = .ok (.aload_n 0, 1) := by decide +kernel
theorem dX10_get_23 : decode cX10_get 23 = .ok (.getfield 68, 3) := by decide +kernel
theorem dX10_get_26 : decode cX10_get 26 = .ok (.iload_n 1, 1) := by decide +kernel
theorem dX10_get_27 : decode cX10_get 27 = .ok (.iload_n 2, 1) := by decide +kernel
theorem dX10_get_28 : decode cX10_get 28 = .ok (.iload_n 3, 1) := by decide +kernel
theorem dX10_get_29 : decode cX10_get 29 = .ok (.invokevirtual 300, 3) := by decide +kernel
theorem dX10_get_32 : decode cX10_get 32 = .ok (.istore 4, 2) := by decide +kernel
theorem dX10_get_34 : decode cX10_get 34 = .ok (.iload 4, 2) := by decide +kernel
theorem dX10_get_36 : decode cX10_get 36 = .ok (.ifCond .eq 17, 3) := by decide +kernel
theorem dX10_get_39 : decode cX10_get 39 = .ok (.aload_n 0, 1) := by decide +kernel
theorem dX10_get_40 : decode cX10_get 40 = .ok (.getfield 68, 3) := by decide +kernel
theorem dX10_get_43 : decode cX10_get 43 = .ok (.iload 4, 2) := by decide +kernel
theorem dX10_get_45 : decode cX10_get 45 = .ok (.invokevirtual 138, 3) := by decide +kernel
theorem dX10_get_48 : decode cX10_get 48 = .ok (.pop, 1) := by decide +kernel
theorem dX10_get_49 : decode cX10_get 49 = .ok (.ldc_w 308, 3) := by decide +kernel
theorem dX10_get_52 : decode cX10_get 52 = .ok (.ireturn, 1) := by decide +kernel
theorem dX10_get_53 : decode cX10_get 53 = .ok (.aload_n 0, 1) := by decide +kernel
theorem dX10_get_54 : decode cX10_get 54 = .ok (.getfield 68, 3) := by decide +kernel
theorem dX10_get_57 : decode cX10_get 57 = .ok (.iload_n 1, 1) := by decide +kernel
theorem dX10_get_58 : decode cX10_get 58 = .ok (.iload_n 3, 1) := by decide +kernel
theorem dX10_get_59 : decode cX10_get 59 = .ok (.invokevirtual 144, 3) := by decide +kernel
theorem dX10_get_62 : decode cX10_get 62 = .ok (.ireturn, 1) := by decide +kernel
set_option maxRecDepth 20000 in
theorem ggX10_copy_X10_outside : GoodIn wsX10_copy wsX10_outside := goodIn_r _ [5] (by decide +kernel) (by decide +kernel)
set_option maxRecDepth 20000 in
theorem gX10_copy_X10_outside : GoodIn wsX10_copy (va_wsS RX10 72 yX10_outside wsX10_outside) := goodIn_app (goodIn_of _ (by decide +kernel)) ggX10_copy_X10_outside
set_option maxRecDepth 20000 in
theorem ggX10_copy_X5_isLost : GoodIn wsX10_copy wsX5_isLost := goodIn_r _ [10, 11, 44, 45, 46, 47] (by decide +kernel) (by decide +kernel)
set_option maxRecDepth 20000 in
theorem gX10_copy_X5_isLost : GoodIn wsX10_copy (wsV RX10 135 RX5 yX5_isLost wsX5_isLost) := goodIn_app (goodIn_of _ (by decide +kernel)) ggX10_copy_X5_isLost
set_option maxRecDepth 20000 in
theorem ggX10_copy_X5_finding : GoodIn wsX10_copy wsX5_finding := goodIn_r _ [15, 16, 44, 45, 46, 47] (by decide +kernel) (by decide +kernel)
set_option maxRecDepth 20000 in
theorem gX10_copy_X5_finding : GoodIn wsX10_copy (wsV RX10 138 RX5 yX5_finding wsX5_finding) := goodIn_app (goodIn_of _ (by decide +kernel)) ggX10_copy_X5_finding
set_option maxRecDepth 20000 in
theorem ggX10_copy_X5_areUnlike : GoodIn wsX10_copy wsX5_areUnlike := goodIn_r _ [20, 21, 44, 45, 46, 47] (by decide +kernel) (by decide +kernel)
set_option maxRecDepth 20000 in
theorem gX10_copy_X5_areUnlike : GoodIn wsX10_copy (wsV RX10 309 RX5 yX5_areUnlike wsX5_areUnlike) := goodIn_app (goodIn_of _ (by decide +kernel)) ggX10_copy_X5_areUnlike
set_option maxRecDepth 20000 in
theorem ggX10_copy_X5_hasNotSoMany : GoodIn wsX10_copy wsX5_hasNotSoMany := goodIn_r _ [25, 11, 3, 4, 5, 44, 45, 46, 47] (by decide +kernel) (by decide +kernel)
set_option maxRecDepth 20000 in
theorem gX10_copy_X5_hasNotSoMany : GoodIn wsX10_copy (wsV RX10 312 RX5 yX5_hasNotSoMany wsX5_hasNotSoMany) := goodIn_app (goodIn_of _ (by decide +kernel)) ggX10_copy_X5_hasNotSoMany
set_option maxRecDepth 20000 in
theorem ggX10_copy_X5_move : GoodIn wsX10_copy wsX5_move := goodIn_r _ [29, 30, 31, 32, 33, 34, 44, 45, 46, 47] (by decide +kernel) (by decide +kernel)
set_option maxRecDepth 20000 in
theorem gX10_copy_X5_move : GoodIn wsX10_copy (wsV RX10 315 RX5 yX5_move wsX5_move) := goodIn_app (goodIn_of _ (by decide +kernel)) ggX10_copy_X5_move
theorem dX10_copy_0 : decode cX10_copy 0 = .ok (.iload_n 1, 1) := by decide +kernel
theorem dX10_copy_1 : decode cX10_copy 1 = .ok (.iconst 0, 1) := by decide +kernel
theorem dX10_copy_2 : decode cX10_copy 2 = .ok (.iconst 3, 1) := by decide +kernel
theorem dX10_copy_3 : decode cX10_copy 3 = .ok (.invokestatic 72, 3) := by decide +kernel
theorem dX10_copy_6 : decode cX10_copy 6 = .ok (.ifCond .ne 12, 3) := by decide +kernel
theorem dX10_copy_9 : decode cX10_copy 9 = .ok (.iload_n 3, 1) := by decide +kernel
theorem dX10_copy_10 : decode cX10_copy 10 = .ok (.iconst 0, 1) := by decide +kernel
theorem dX10_copy_11 : decode cX10_copy 11 = .ok (.iconst 3, 1) := by decide +kernel
theorem dX10_copy_12 : decode cX10_copy 12 = .ok (.invokestatic 72, 3) := by decide +kernel
theorem dX10_copy_15 : decode cX10_copy 15 = .ok (.ifCond .eq 6, 3) := by decide +kernel
theorem dX10_copy_18 : decode cX10_copy 18 = .ok (.bipush (-2), 2) := by decide +kernel
theorem dX10_copy_20 : decode cX10_copy 20 = .ok (.ireturn, 1) := by decide +kernel
theorem dX10_copy_21 : decode cX10_copy 21 = .ok (.aload_n 0, 1) := by decide +kernel
theorem dX10_copy_22 : decode cX10_copy 22 = .ok (.getfield 68, 3) := by decide +kernel
theorem dX10_copy_25 : decode cX10_copy 25 = .ok (.iload_n 1, 1) := by decide +kernel
theorem dX10_copy_26 : decode cX10_copy 26 = .ok (.invokevirtual 135, 3) := by decide +kernel
theorem dX10_copy_29 : decode cX10_copy 29 = .ok (.ifCond .ne 14, 3) := by decide +kernel
theorem dX10_copy_32 : decode cX10_copy 32 = .ok (.aload_n 0, 1) := by decide +kernel
theorem dX10_copy_33 : decode cX10_copy 33 = .ok (.getfield 68, 3) := by decide +kernel
theorem dX10_copy_36 : decode cX10_copy 36 = .ok (.iload_n 3, 1) := by decide +kernel
theorem dX10_copy_37 : decode cX10_copy 37 = .ok (.invokevirtual 135, 3) := by decide +kernel
theorem dX10_copy_40 : decode cX10_copy 40 = .ok (.ifCond .eq 12, 3) := by decide +kernel
theorem dX10_copy_43 : decode cX10_copy 43 = .ok (.aload_n 0, 1) := by decide +kernel
theorem dX10_copy_44 : decode cX10_copy 44 = .ok (.getfield 68, 3) := by decide +kernel
theorem dX10_copy_47 : decode cX10_copy 47 = .ok (.iconst 1, 1) := by decide +kernel
theorem dX10_copy_48 : decode cX10_copy 48 = .ok (.invokevirtual 138, 3) := by decide +kernel
theorem dX10_copy_51 : decode cX10_copy 51 = .ok (.ireturn, 1) := by decide +kernel
theorem dX10_copy_52 : decode cX10_copy 52 = .ok (.aload_n 0, 1) := by decide +kernel
theorem dX10_copy_53 : decode cX10_copy 53 = .ok (.getfield 68, 3) := by decide +kernel
theorem dX10_copy_56 : decode cX10_copy 56 = .ok (.iload_n 1, 1) := by decide +kernel
theorem dX10_copy_57 : decode cX10_copy 57 = .ok (.iload_n 3, 1) := by decide +kernel
theorem dX10_copy_58 : decode cX10_copy 58 = .ok (.invokevirtual 309, 3) := by decide +kernel
theorem dX10_copy_61 : decode cX10_copy 61 = .ok (.ifCond .eq 12, 3) := by decide +kernel
theorem dX10_copy_64 : decode cX10_copy 64 = .ok (.aload_n 0, 1) := by decide +kernel
theorem dX10_copy_65 : decode cX10_copy 65 = .ok (.getfield 68, 3) := by decide +kernel
theorem dX10_copy_68 : decode cX10_copy 68 = .ok (.iconst 4, 1) := by decide +kernel
theorem dX10_copy_69 : decode cX10_copy 69 = .ok (.invokevirtual 138, 3) := by decide +kernel
theorem dX10_copy_72 : decode cX10_copy 72 = .ok (.ireturn, 1) := by decide +kernel
theorem dX10_copy_73 : decode cX10_copy 73 = .ok (.aload_n 0, 1) := by decide +kernel
theorem dX10_copy_74 : decode cX10_copy 74 = .ok (.getfield 68, 3) := by decide +kernel
theorem dX10_copy_77 : decode cX10_copy 77 = .ok (.iload_n 1, 1) := by decide +kernel
theorem dX10_copy_78 : decode cX10_copy 78 = .ok (.iload_n 2, 1) := by decide +kernel
theorem dX10_copy_79 : decode cX10_copy 79 = .ok (.iload 5, 2) := by decide +kernel
theorem dX10_copy_81 : decode cX10_copy 81 = .ok (.invokevirtual 312, 3) := by decide +kernel
theorem dX10_copy_84 : decode cX10_copy 84 = .ok (.ifCond .ne 18, 3) := by decide +kernel
theorem dX10_copy_87 : decode cX10_copy 87 = .ok (.aload_n 0, 1) := by decide +kernel
theorem dX10_copy_88 : decode cX10_copy 88 = .ok (.getfield 68, 3) := by decide +kernel
theorem dX10_copy_91 : decode cX10_copy 91 = .ok (.iload_n 3, 1) := by decide +kernel
theorem dX10_copy_92 : decode cX10_copy 92 = .ok (.iload 4, 2) := by decide +kernel
theorem dX10_copy_94 : decode cX10_copy 94 = .ok (.iload 5, 2) := by decide +kernel
theorem dX10_copy_96 : decode cX10_copy 96 = .ok (.invokevirtual 312, 3) := by decide +kernel
theorem dX10_copy_99 : decode cX10_copy 99 = .ok (.ifCond .eq 12, 3) := by decide +kernel
theorem dX10_copy_102 : decode cX10_copy 102 = .ok (.aload_n 0, 1) := by decide +kernel
theorem dX10_copy_103 : decode cX10_copy 103 = .ok (.getfield 68, 3) := by decide +kernel
theorem dX10_copy_106 : decode cX10_copy 106 = .ok (.iconst 2, 1) := by decide +kernel
theorem dX10_copy_107 : decode cX10_copy 107 = .ok (.invokevirtual 138, 3) := by decide +kernel
theorem dX10_copy_110 : decode cX10_copy 110 = .ok (.ireturn, 1) := by decide +kernel
theorem dX10_copy_111 : decode cX10_copy 111 = .ok (.aload_n 0, 1) := by decide +kernel
theorem dX10_copy_112 : decode cX10_copy 112 = .ok (.getfield 68, 3) := by decide +kernel
theorem dX10_copy_115 : decode cX10_copy 115 = .ok (.iload_n 1, 1) := by decide +kernel
theorem dX10_copy_116 : decode cX10_copy 116 = .ok (.iload_n 2, 1) := by decide +kernel
theorem dX10_copy_117 : decode cX10_copy 117 = .ok (.iload_n 3, 1) := by decide +kernel
theorem dX10_copy_118 : decode cX10_copy 118 = .ok (.iload 4, 2) := by decide +kernel
theorem dX10_copy_120 : decode cX10_copy 120 = .ok (.iload 5, 2) := by decide +kernel
theorem dX10_copy_122 : decode cX10_copy 122 = .ok (.invokevirtual 315, 3) := by decide +kernel
theorem dX10_copy_125 : decode cX10_copy 125 = .ok (.iconst 1, 1) := by decide +kernel
theorem dX10_copy_126 : decode cX10_copy 126 = .ok (.ireturn, 1) := by decide +kernel
set_option maxRecDepth 20000 in
theorem ggX10_write_X10_outside : GoodIn wsX10_write wsX10_outside := goodIn_r _ [6] (by decide +kernel) (by decide +kernel)
set_option maxRecDepth 20000 in
theorem gX10_write_X10_outside : GoodIn wsX10_write (va_wsS RX10 72 yX10_outside wsX10_outside) := goodIn_app (goodIn_of _ (by decide +kernel)) ggX10_write_X10_outside
set_option maxRecDepth 20000 in
theorem ggX10_write_X5_isLost : GoodIn wsX10_write wsX5_isLost := goodIn_r _ [11, 12, 61, 62, 63, 64] (by decide +kernel) (by decide +kernel)
set_option maxRecDepth 20000 in
theorem gX10_write_X5_isLost : GoodIn wsX10_write (wsV RX10 135 RX5 yX5_isLost wsX5_isLost) := goodIn_app (goodIn_of _ (by decide +kernel)) ggX10_write_X5_isLost
set_option maxRecDepth 20000 in
theorem ggX10_write_X5_finding : GoodIn wsX10_write wsX5_finding := goodIn_r _ [16, 17, 61, 62, 63, 64] (by decide +kernel) (by decide +kernel)
set_option maxRecDepth 20000 in
theorem gX10_write_X5_finding : GoodIn wsX10_write (wsV RX10 138 RX5 yX5_finding wsX5_finding) := goodIn_app (goodIn_of _ (by decide +kernel)) ggX10_write_X5_finding
set_option maxRecDepth 20000 in
theorem ggX10_write_X6_busesOf : GoodIn wsX10_write wsX6_busesOf := goodIn_r _ [22, 23, 24, 25, 21, 26, 27, 28, 29, 30, 31, 32, 33, 34, 65] (by decide +kernel) (by decide +kernel)
set_option maxRecDepth 20000 in
theorem gX10_write_X6_busesOf : GoodIn wsX10_write (wsV RX10 95 RX6 yX6_busesOf wsX6_busesOf) := goodIn_app (goodIn_of _ (by decide +kernel)) ggX10_write_X6_busesOf
set_option maxRecDepth 20000 in
theorem ggX10_write_X5_itemsOf : GoodIn wsX10_write wsX5_itemsOf := goodIn_r _ [38, 12, 61, 62, 63, 64] (by decide +kernel) (by decide +kernel)
set_option maxRecDepth 20000 in
theorem gX10_write_X5_itemsOf : GoodIn wsX10_write (wsV RX10 141 RX5 yX5_itemsOf wsX5_itemsOf) := goodIn_app (goodIn_of _ (by decide +kernel)) ggX10_write_X5_itemsOf
set_option maxRecDepth 20000 in
theorem ggX10_write_X6_waitAt : GoodIn wsX10_write wsX6_waitAt := goodIn_r _ [42, 23, 24, 25, 21, 26, 27, 43, 44, 45, 65] (by decide +kernel) (by decide +kernel)
set_option maxRecDepth 20000 in
theorem gX10_write_X6_waitAt : GoodIn wsX10_write (wsV RX10 98 RX6 yX6_waitAt wsX6_waitAt) := goodIn_app (goodIn_of _ (by decide +kernel)) ggX10_write_X6_waitAt
set_option maxRecDepth 20000 in
theorem ggX10_write_X5_setItem : GoodIn wsX10_write wsX5_setItem := goodIn_r _ [49, 50, 51, 61, 62, 63, 64] (by decide +kernel) (by decide +kernel)
set_option maxRecDepth 20000 in
theorem gX10_write_X5_setItem : GoodIn wsX10_write (wsV RX10 303 RX5 yX5_setItem wsX5_setItem) := goodIn_app (goodIn_of _ (by decide +kernel)) ggX10_write_X5_setItem
theorem dX10_write_0 : decode cX10_write 0 = .ok (.iload_n 1, 1) := by decide +kernel
theorem dX10_write_1 : decode cX10_write 1 = .ok (.iconst 0, 1) := by decide +kernel
theorem dX10_write_2 : decode cX10_write 2 = .ok (.iconst 2, 1) := by decide +kernel
theorem dX10_write_3 : decode cX10_write 3 = .ok (.invokestatic 72, 3) := by decide +kernel
theorem dX10_write_6 : decode cX10_write 6 = .ok (.ifCond .ne 12, 3) := by decide +kernel
theorem dX10_write_9 : decode cX10_write 9 = .ok (.iload_n 2, 1) := by decide +kernel
theorem dX10_write_10 : decode cX10_write 10 = .ok (.iconst 0, 1) := by decide +kernel
theorem dX10_write_11 : decode cX10_write 11 = .ok (.iconst 3, 1) := by decide +kernel
theorem dX10_write_12 : decode cX10_write 12 = .ok (.invokestatic 72, 3) := by decide +kernel
theorem dX10_write_15 : decode cX10_write 15 = .ok (.ifCond .eq 6, 3) := by decide +kernel
theorem dX10_write_18 : decode cX10_write 18 = .ok (.bipush (-2), 2) := by decide +kernel
theorem dX10_write_20 : decode cX10_write 20 = .ok (.ireturn, 1) := by decide +kernel
theorem dX10_write_21 : decode cX10_write 21 = .ok (.aload_n 0, 1) := by decide +kernel
theorem dX10_write_22 : decode cX10_write 22 = .ok (.getfield 68, 3) := by decide +kernel
theorem dX10_write_25 : decode cX10_write 25 = .ok (.iload_n 2, 1) := by decide +kernel
theorem dX10_write_26 : decode cX10_write 26 = .ok (.invokevirtual 135, 3) := by decide +kernel
theorem dX10_write_29 : decode cX10_write 29 = .ok (.ifCond .eq 12, 3) := by decide +kernel
theorem dX10_write_32 : decode cX10_write 32 = .ok (.aload_n 0, 1) := by decide +kernel
theorem dX10_write_33 : decode cX10_write 33 = .ok (.getfield 68, 3) := by decide +kernel
theorem dX10_write_36 : decode cX10_write 36 = .ok (.iconst 1, 1) := by decide +kernel
theorem dX10_write_37 : decode cX10_write 37 = .ok (.invokevirtual 138, 3) := by decide +kernel
theorem dX10_write_40 : decode cX10_write 40 = .ok (.ireturn, 1) := by decide +kernel
theorem dX10_write_41 : decode cX10_write 41 = .ok (.aload_n 0, 1) := by decide +kernel
theorem dX10_write_42 : decode cX10_write 42 = .ok (.getfield 19, 3) := by decide +kernel
theorem dX10_write_45 : decode cX10_write 45 = .ok (.iload_n 1, 1) := by decide +kernel
theorem dX10_write_46 : decode cX10_write 46 = .ok (.invokevirtual 95, 3) := by decide +kernel
theorem dX10_write_49 : decode cX10_write 49 = .ok (.ifCond .ne 6, 3) := by decide +kernel
theorem dX10_write_52 : decode cX10_write 52 = .ok (.bipush (-3), 2) := by decide +kernel
theorem dX10_write_54 : decode cX10_write 54 = .ok (.ireturn, 1) := by decide +kernel
theorem dX10_write_55 : decode cX10_write 55 = .ok (.aload_n 0, 1) := by decide +kernel
theorem dX10_write_56 : decode cX10_write 56 = .ok (.getfield 68, 3) := by decide +kernel
theorem dX10_write_59 : decode cX10_write 59 = .ok (.iload_n 2, 1) := by decide +kernel
theorem dX10_write_60 : decode cX10_write 60 = .ok (.invokevirtual 141, 3) := by decide +kernel
theorem dX10_write_63 : decode cX10_write 63 = .ok (.istore_n 3, 1) := by decide +kernel
theorem dX10_write_64 : decode cX10_write 64 = .ok (.iconst 0, 1) := by decide +kernel
theorem dX10_write_65 : decode cX10_write 65 = .ok (.istore 4, 2) := by decide +kernel
theorem dX10_write_67 : decode cX10_write 67 = .ok (.iload 4, 2) := by decide +kernel
theorem dX10_write_69 : decode cX10_write 69 = .ok (.iload_n 3, 1) := by decide +kernel
theorem dX10_write_70 : decode cX10_write 70 = .ok (.if_icmp .ge 29, 3) := by decide +kernel
theorem dX10_write_73 : decode cX10_write 73 = .ok (.aload_n 0, 1) := by decide +kernel
theorem dX10_write_74 : decode cX10_write 74 = .ok (.getfield 68, 3) := by decide +kernel
theorem dX10_write_77 : decode cX10_write 77 = .ok (.iload_n 2, 1) := by decide +kernel
theorem dX10_write_78 : decode cX10_write 78 = .ok (.iload 4, 2) := by decide +kernel
theorem dX10_write_80 : decode cX10_write 80 = .ok (.aload_n 0, 1) := by decide +kernel
theorem dX10_write_81 : decode cX10_write 81 = .ok (.getfield 19, 3) := by decide +kernel
theorem dX10_write_84 : decode cX10_write 84 = .ok (.iload_n 1, 1) := by decide +kernel
theorem dX10_write_85 : decode cX10_write 85 = .ok (.iload 4, 2) := by decide +kernel
theorem dX10_write_87 : decode cX10_write 87 = .ok (.invokevirtual 98, 3) := by decide +kernel
theorem dX10_write_90 : decode cX10_write 90 = .ok (.invokevirtual 303, 3) := by decide +kernel
theorem dX10_write_93 : decode cX10_write 93 = .ok (.iinc 4 1, 3) := by decide +kernel
theorem dX10_write_96 : decode cX10_write 96 = .ok (.goto (-29), 3) := by decide +kernel
theorem dX10_write_99 : decode cX10_write 99 = .ok (.iload_n 3, 1) := by decide +kernel
theorem dX10_write_100 : decode cX10_write 100 = .ok (.ireturn, 1) := by decide +kernel
set_option maxRecDepth 20000 in
theorem ggX10_count_X6_busesOf : GoodIn wsX10_count wsX6_busesOf := goodIn_r _ [12, 13, 14, 15, 11, 16, 17, 18, 19, 20, 21, 22, 23, 24, 93] (by decide +kernel) (by decide +kernel)
set_option maxRecDepth 20000 in
theorem gX10_count_X6_busesOf : GoodIn wsX10_count (wsV RX10 95 RX6 yX6_busesOf wsX6_busesOf) := goodIn_app (goodIn_of _ (by decide +kernel)) ggX10_count_X6_busesOf
set_option maxRecDepth 20000 in
theorem ggX10_count_X8_bytesTyped : GoodIn wsX10_count wsX8_bytesTyped := goodIn_r _ [29, 30, 94, 95, 96, 97] (by decide +kernel) (by decide +kernel)
set_option maxRecDepth 20000 in
theorem gX10_count_X8_bytesTyped : GoodIn wsX10_count (wsV RX10 319 RX8 yX8_bytesTyped wsX8_bytesTyped) := goodIn_app (goodIn_of _ (by decide +kernel)) ggX10_count_X8_bytesTyped
set_option maxRecDepth 20000 in
theorem ggX10_count_X7_answersTold : GoodIn wsX10_count wsX7_answersTold := goodIn_r _ [35, 36, 98, 99, 100, 101, 102, 103] (by decide +kernel) (by decide +kernel)
set_option maxRecDepth 20000 in
theorem gX10_count_X7_answersTold : GoodIn wsX10_count (wsV RX10 150 RX7 yX7_answersTold wsX7_answersTold) := goodIn_app (goodIn_of _ (by decide +kernel)) ggX10_count_X7_answersTold
set_option maxRecDepth 20000 in
theorem ggX10_count_X7_counting : GoodIn wsX10_count wsX7_counting := goodIn_r _ [40, 36, 41, 42, 43, 34, 44, 45, 46, 47, 98, 99, 100, 101, 102, 103] (by decide +kernel) (by decide +kernel)
set_option maxRecDepth 20000 in
theorem gX10_count_X7_counting : GoodIn wsX10_count (wsV RX10 166 RX7 yX7_counting wsX7_counting) := goodIn_app (goodIn_of _ (by decide +kernel)) ggX10_count_X7_counting
set_option maxRecDepth 20000 in
theorem ggX10_count_X9_staysTold : GoodIn wsX10_count wsX9_staysTold := goodIn_r _ [52, 53, 104, 105, 106] (by decide +kernel) (by decide +kernel)
set_option maxRecDepth 20000 in
theorem gX10_count_X9_staysTold : GoodIn wsX10_count (wsV RX10 206 RX9 yX9_staysTold wsX9_staysTold) := goodIn_app (goodIn_of _ (by decide +kernel)) ggX10_count_X9_staysTold
set_option maxRecDepth 20000 in
theorem ggX10_count_X0_tellings : GoodIn wsX10_count wsX0_tellings := goodIn_r _ [58, 59, 60, 61, 57, 62, 63, 64, 65, 66, 67, 68, 69, 70, 107] (by decide +kernel) (by decide +kernel)
set_option maxRecDepth 20000 in
theorem gX10_count_X0_tellings : GoodIn wsX10_count (wsV RX10 240 RX0 yX0_tellings wsX0_tellings) := goodIn_app (goodIn_of _ (by decide +kernel)) ggX10_count_X0_tellings
set_option maxRecDepth 20000 in
theorem ggX10_count_X4_lengthInAll : GoodIn wsX10_count wsX4_lengthInAll := goodIn_r _ [75, 76, 77, 108, 109] (by decide +kernel) (by decide +kernel)
set_option maxRecDepth 20000 in
theorem gX10_count_X4_lengthInAll : GoodIn wsX10_count (wsV RX10 284 RX4 yX4_lengthInAll wsX4_lengthInAll) := goodIn_app (goodIn_of _ (by decide +kernel)) ggX10_count_X4_lengthInAll
set_option maxRecDepth 20000 in
theorem ggX10_count_X5_latestFinding : GoodIn wsX10_count wsX5_latestFinding := goodIn_r _ [82, 83, 110, 111, 112, 113] (by decide +kernel) (by decide +kernel)
set_option maxRecDepth 20000 in
theorem gX10_count_X5_latestFinding : GoodIn wsX10_count (wsV RX10 322 RX5 yX5_latestFinding wsX5_latestFinding) := goodIn_app (goodIn_of _ (by decide +kernel)) ggX10_count_X5_latestFinding
theorem dX10_count_0 : decode cX10_count 0 = .ok (.iload_n 1, 1) := by decide +kernel
theorem dX10_count_1 : decode cX10_count 1 = .ok (.tableswitch 118 0 8 #[51, 51, 60, 68, 76, 84, 92, 102, 110], 51) := by decide +kernel
theorem dX10_count_52 : decode cX10_count 52 = .ok (.aload_n 0, 1) := by decide +kernel
theorem dX10_count_53 : decode cX10_count 53 = .ok (.getfield 19, 3) := by decide +kernel
theorem dX10_count_56 : decode cX10_count 56 = .ok (.iload_n 1, 1) := by decide +kernel
theorem dX10_count_57 : decode cX10_count 57 = .ok (.invokevirtual 95, 3) := by decide +kernel
theorem dX10_count_60 : decode cX10_count 60 = .ok (.ireturn, 1) := by decide +kernel
theorem dX10_count_61 : decode cX10_count 61 = .ok (.aload_n 0, 1) := by decide +kernel
theorem dX10_count_62 : decode cX10_count 62 = .ok (.getfield 10, 3) := by decide +kernel
theorem dX10_count_65 : decode cX10_count 65 = .ok (.invokevirtual 319, 3) := by decide +kernel
theorem dX10_count_68 : decode cX10_count 68 = .ok (.ireturn, 1) := by decide +kernel
theorem dX10_count_69 : decode cX10_count 69 = .ok (.aload_n 0, 1) := by decide +kernel
theorem dX10_count_70 : decode cX10_count 70 = .ok (.getfield 33, 3) := by decide +kernel
theorem dX10_count_73 : decode cX10_count 73 = .ok (.invokevirtual 150, 3) := by decide +kernel
theorem dX10_count_76 : decode cX10_count 76 = .ok (.ireturn, 1) := by decide +kernel
theorem dX10_count_77 : decode cX10_count 77 = .ok (.aload_n 0, 1) := by decide +kernel
theorem dX10_count_78 : decode cX10_count 78 = .ok (.getfield 33, 3) := by decide +kernel
theorem dX10_count_81 : decode cX10_count 81 = .ok (.invokevirtual 166, 3) := by decide +kernel
theorem dX10_count_84 : decode cX10_count 84 = .ok (.ireturn, 1) := by decide +kernel
theorem dX10_count_85 : decode cX10_count 85 = .ok (.aload_n 0, 1) := by decide +kernel
theorem dX10_count_86 : decode cX10_count 86 = .ok (.getfield 47, 3) := by decide +kernel
theorem dX10_count_89 : decode cX10_count 89 = .ok (.invokevirtual 206, 3) := by decide +kernel
theorem dX10_count_92 : decode cX10_count 92 = .ok (.ireturn, 1) := by decide +kernel
theorem dX10_count_93 : decode cX10_count 93 = .ok (.aload_n 0, 1) := by decide +kernel
theorem dX10_count_94 : decode cX10_count 94 = .ok (.getfield 54, 3) := by decide +kernel
theorem dX10_count_97 : decode cX10_count 97 = .ok (.invokevirtual 240, 3) := by decide +kernel
theorem dX10_count_100 : decode cX10_count 100 = .ok (.iconst 2, 1) := by decide +kernel
theorem dX10_count_101 : decode cX10_count 101 = .ok (.idiv, 1) := by decide +kernel
theorem dX10_count_102 : decode cX10_count 102 = .ok (.ireturn, 1) := by decide +kernel
theorem dX10_count_103 : decode cX10_count 103 = .ok (.aload_n 0, 1) := by decide +kernel
theorem dX10_count_104 : decode cX10_count 104 = .ok (.getfield 61, 3) := by decide +kernel
theorem dX10_count_107 : decode cX10_count 107 = .ok (.invokevirtual 284, 3) := by decide +kernel
theorem dX10_count_110 : decode cX10_count 110 = .ok (.ireturn, 1) := by decide +kernel
theorem dX10_count_111 : decode cX10_count 111 = .ok (.aload_n 0, 1) := by decide +kernel
theorem dX10_count_112 : decode cX10_count 112 = .ok (.getfield 68, 3) := by decide +kernel
theorem dX10_count_115 : decode cX10_count 115 = .ok (.invokevirtual 322, 3) := by decide +kernel
theorem dX10_count_118 : decode cX10_count 118 = .ok (.ireturn, 1) := by decide +kernel
theorem dX10_count_119 : decode cX10_count 119 = .ok (.bipush (-2), 2) := by decide +kernel
theorem dX10_count_121 : decode cX10_count 121 = .ok (.ireturn, 1) := by decide +kernel
set_option maxRecDepth 20000 in
theorem ggX10_digest_X10_count : GoodIn wsX10_digest wsX10_count := goodIn_r _ [6, 7, 8, 9, 10, 11, 12, 13, 14, 15, 16, 17, 18, 19, 20, 21, 22, 23, 24, 25, 26, 27, 28, 29, 30, 31, 32, 33, 34, 35, 36, 37, 38, 39, 40, 41, 42, 43, 44, 45, 46, 47, 48, 49, 50, 51, 52, 53, 54, 55, 56, 57, 58, 59, 60, 61, 62, 63, 64, 65, 66, 67, 68, 69, 70, 71, 72, 73, 74, 75, 76, 77, 78, 79, 80, 81, 82, 83, 84, 85, 86, 87, 88, 89, 403, 404, 405, 406, 407, 408, 409, 410, 411, 412, 413, 414, 415, 416, 417, 418, 419, 420, 421, 422, 423, 424, 425, 426, 427, 428, 429, 430, 431, 432] (by decide +kernel) (by decide +kernel)
set_option maxRecDepth 20000 in
theorem gX10_digest_X10_count : GoodIn wsX10_digest (wsV RX10 327 RX10 yX10_count wsX10_count) := goodIn_app (goodIn_of _ (by decide +kernel)) ggX10_digest_X10_count
set_option maxRecDepth 20000 in
theorem ggX10_digest_X10_behind : GoodIn wsX10_digest wsX10_behind := goodIn_r _ [92, 93] (by decide +kernel) (by decide +kernel)
set_option maxRecDepth 20000 in
theorem gX10_digest_X10_behind : GoodIn wsX10_digest (va_wsS RX10 330 yX10_behind wsX10_behind) := goodIn_app (goodIn_of _ (by decide +kernel)) ggX10_digest_X10_behind
set_option maxRecDepth 20000 in
theorem ggX10_digest_X10_fault : GoodIn wsX10_digest wsX10_fault := goodIn_r _ [97, 8, 98, 99, 100, 34, 101, 102, 103, 104, 105, 106, 107, 108, 109, 110, 111, 112, 113, 114, 115, 116, 117, 118, 119, 36, 120, 121, 5, 122, 403, 404, 405, 406, 407, 408, 409, 410, 411, 413, 414, 415, 416] (by decide +kernel) (by decide +kernel)
set_option maxRecDepth 20000 in
theorem gX10_digest_X10_fault : GoodIn wsX10_digest (wsV RX10 334 RX10 yX10_fault wsX10_fault) := goodIn_app (goodIn_of _ (by decide +kernel)) ggX10_digest_X10_fault
set_option maxRecDepth 20000 in
theorem ggX10_digest_X10_gaps : GoodIn wsX10_digest wsX10_gaps := goodIn_r _ [126, 7, 127, 121, 5, 122, 128, 129, 130, 131, 132, 14, 15, 16, 17, 18, 19, 20, 21, 22, 23, 24, 25, 26, 27, 28, 29, 30, 133, 134, 135, 136, 137, 138, 139, 140, 141, 142, 143, 144, 145, 146, 147, 148, 149, 150, 151, 152, 153, 154, 155, 156, 157, 158, 159, 160, 403, 404, 405, 406, 407, 408, 409, 410, 411, 412] (by decide +kernel) (by decide +kernel)
set_option maxRecDepth 20000 in
theorem gX10_digest_X10_gaps : GoodIn wsX10_digest (wsV RX10 337 RX10 yX10_gaps wsX10_gaps) := goodIn_app (goodIn_of _ (by decide +kernel)) ggX10_digest_X10_gaps
set_option maxRecDepth 20000 in
theorem ggX10_digest_X10_held : GoodIn wsX10_digest wsX10_held := goodIn_r _ [164, 7, 165, 127, 121, 5, 122, 14, 15, 16, 17, 18, 19, 20, 21, 22, 23, 24, 25, 26, 27, 28, 29, 30, 166, 167, 168, 169, 170, 171, 172, 173, 174, 175, 176, 177, 178, 179, 180, 138, 139, 181, 182, 183, 184, 185, 186, 187, 188, 189, 190, 191, 114, 192, 193, 152, 153, 194, 195, 196, 197, 198, 199, 200, 201, 202, 203, 204, 205, 206, 207, 208, 209, 210, 403, 404, 405, 406, 407, 408, 409, 410, 411, 412, 433, 434, 435, 436, 437] (by decide +kernel) (by decide +kernel)
set_option maxRecDepth 20000 in
theorem gX10_digest_X10_held : GoodIn wsX10_digest (wsV RX10 340 RX10 yX10_held wsX10_held) := goodIn_app (goodIn_of _ (by decide +kernel)) ggX10_digest_X10_held
set_option maxRecDepth 20000 in
theorem ggX10_digest_X10_size : GoodIn wsX10_digest wsX10_size := goodIn_r _ [214, 9, 215, 127, 121, 5, 122, 128, 129, 130, 131, 132, 216, 217, 218, 40, 219, 220, 221, 222, 223, 42, 224, 47, 48, 49, 50, 51, 52, 53, 43, 44, 45, 46, 154, 155, 156, 157, 158, 159, 160, 225, 226, 227, 228, 229, 230, 231, 232, 403, 404, 405, 406, 407, 408, 409, 410, 411, 417, 418, 419, 420, 421, 422] (by decide +kernel) (by decide +kernel)
set_option maxRecDepth 20000 in
theorem gX10_digest_X10_size : GoodIn wsX10_digest (wsV RX10 343 RX10 yX10_size wsX10_size) := goodIn_app (goodIn_of _ (by decide +kernel)) ggX10_digest_X10_size
set_option maxRecDepth 20000 in
theorem ggX10_digest_X10_likeliest : GoodIn wsX10_digest wsX10_likeliest := goodIn_r _ [236, 9, 237, 43, 44, 45, 40, 46, 42, 47, 48, 49, 50, 51, 52, 53, 238, 239, 240, 241, 242, 243, 244, 245, 246, 247, 248, 249, 250, 251, 252, 253, 254, 255, 256, 257, 221, 222, 223, 224, 258, 259, 260, 261, 262, 263, 264, 265, 266, 130, 267, 403, 404, 405, 406, 407, 408, 409, 410, 411, 417, 418, 419, 420, 421, 422, 438] (by decide +kernel) (by decide +kernel)
set_option maxRecDepth 20000 in
theorem gX10_digest_X10_likeliest : GoodIn wsX10_digest (wsV RX10 346 RX10 yX10_likeliest wsX10_likeliest) := goodIn_app (goodIn_of _ (by decide +kernel)) ggX10_digest_X10_likeliest
set_option maxRecDepth 20000 in
theorem ggX10_digest_X10_ward : GoodIn wsX10_digest wsX10_ward := goodIn_r _ [271, 10, 272, 273, 5, 274, 127, 121, 122, 275, 276, 277, 57, 278, 59, 279, 280, 281, 282, 283, 284, 285, 191, 114, 192, 286, 113, 115, 287, 403, 404, 405, 406, 407, 408, 409, 410, 411, 423, 424, 425] (by decide +kernel) (by decide +kernel)
set_option maxRecDepth 20000 in
theorem gX10_digest_X10_ward : GoodIn wsX10_digest (wsV RX10 349 RX10 yX10_ward wsX10_ward) := goodIn_app (goodIn_of _ (by decide +kernel)) ggX10_digest_X10_ward
set_option maxRecDepth 20000 in
theorem ggX10_digest_X10_means : GoodIn wsX10_digest wsX10_means := goodIn_r _ [291, 10, 272, 273, 5, 274, 127, 121, 122, 128, 129, 130, 131, 132, 292, 293, 294, 57, 295, 287, 296, 276, 277, 278, 59, 279, 280, 281, 282, 283, 284, 285, 191, 114, 192, 286, 113, 115, 297, 298, 299, 300, 154, 155, 156, 157, 158, 159, 160, 403, 404, 405, 406, 407, 408, 409, 410, 411, 423, 424, 425] (by decide +kernel) (by decide +kernel)
set_option maxRecDepth 20000 in
theorem gX10_digest_X10_means : GoodIn wsX10_digest (wsV RX10 352 RX10 yX10_means wsX10_means) := goodIn_app (goodIn_of _ (by decide +kernel)) ggX10_digest_X10_means
set_option maxRecDepth 20000 in
theorem ggX10_digest_X10_fullest : GoodIn wsX10_digest wsX10_fullest := goodIn_r _ [304, 10, 127, 121, 5, 122, 305, 306, 307, 57, 308, 309, 310, 311, 312, 59, 284, 283, 313, 314, 315, 316, 317, 318, 319, 320, 296, 276, 277, 278, 279, 280, 281, 282, 285, 191, 114, 192, 286, 113, 115, 287, 321, 403, 404, 405, 406, 407, 408, 409, 410, 411, 423, 424, 425] (by decide +kernel) (by decide +kernel)
set_option maxRecDepth 20000 in
theorem gX10_digest_X10_fullest : GoodIn wsX10_digest (wsV RX10 356 RX10 yX10_fullest wsX10_fullest) := goodIn_app (goodIn_of _ (by decide +kernel)) ggX10_digest_X10_fullest
set_option maxRecDepth 20000 in
theorem ggX10_digest_X10_mean : GoodIn wsX10_digest wsX10_mean := goodIn_r _ [325, 11, 326, 327, 127, 121, 5, 122, 128, 129, 130, 131, 132, 60, 61, 62, 63, 64, 65, 66, 67, 68, 69, 70, 71, 72, 73, 74, 75, 76, 154, 155, 156, 157, 158, 159, 160, 328, 329, 330, 331, 332, 333, 334, 335, 336, 337, 338, 339, 340, 341, 342, 343, 344, 345, 346, 347, 403, 404, 405, 406, 407, 408, 409, 410, 411, 426] (by decide +kernel) (by decide +kernel)
set_option maxRecDepth 20000 in
theorem gX10_digest_X10_mean : GoodIn wsX10_digest (wsV RX10 359 RX10 yX10_mean wsX10_mean) := goodIn_app (goodIn_of _ (by decide +kernel)) ggX10_digest_X10_mean
set_option maxRecDepth 20000 in
theorem ggX10_digest_X10_fewer : GoodIn wsX10_digest wsX10_fewer := goodIn_r _ [351, 11, 352, 353, 354, 63, 355, 65, 66, 67, 68, 69, 70, 71, 72, 73, 74, 75, 76, 332, 333, 334, 335, 336, 337, 338, 339, 403, 404, 405, 406, 407, 408, 409, 410, 411, 426] (by decide +kernel) (by decide +kernel)
set_option maxRecDepth 20000 in
theorem gX10_digest_X10_fewer : GoodIn wsX10_digest (wsV RX10 362 RX10 yX10_fewer wsX10_fewer) := goodIn_app (goodIn_of _ (by decide +kernel)) ggX10_digest_X10_fewer
set_option maxRecDepth 20000 in
theorem ggX10_digest_X10_best : GoodIn wsX10_digest wsX10_best := goodIn_r _ [359, 11, 127, 121, 5, 122, 360, 361, 362, 63, 363, 70, 71, 72, 73, 74, 75, 76, 364, 365, 366, 367, 69, 65, 66, 67, 68, 368, 403, 404, 405, 406, 407, 408, 409, 410, 411, 426] (by decide +kernel) (by decide +kernel)
set_option maxRecDepth 20000 in
theorem gX10_digest_X10_best : GoodIn wsX10_digest (wsV RX10 365 RX10 yX10_best wsX10_best) := goodIn_app (goodIn_of _ (by decide +kernel)) ggX10_digest_X10_best
set_option maxRecDepth 20000 in
theorem ggX10_digest_X10_stick : GoodIn wsX10_digest wsX10_stick := goodIn_r _ [372, 12, 127, 121, 5, 122, 128, 129, 130, 131, 132, 373, 374, 375, 80, 376, 82, 83, 77, 78, 79, 81, 154, 155, 156, 157, 158, 159, 160, 377, 378, 379, 380, 381, 382, 383, 384, 385, 386, 387, 388, 389, 390, 391, 392, 393, 394, 395, 396, 397, 398, 399, 400, 401, 402, 71, 72, 73, 74, 75, 76, 403, 404, 405, 406, 407, 408, 409, 410, 411, 427, 428] (by decide +kernel) (by decide +kernel)
set_option maxRecDepth 20000 in
theorem gX10_digest_X10_stick : GoodIn wsX10_digest (wsV RX10 368 RX10 yX10_stick wsX10_stick) := goodIn_app (goodIn_of _ (by decide +kernel)) ggX10_digest_X10_stick
theorem dX10_digest_0 : decode cX10_digest 0 = .ok (.ldc2_w 325, 3) := by decide +kernel
theorem dX10_digest_3 : decode cX10_digest 3 = .ok (.lstore_n 1, 1) := by decide +kernel
theorem dX10_digest_4 : decode cX10_digest 4 = .ok (.iconst 0, 1) := by decide +kernel
theorem dX10_digest_5 : decode cX10_digest 5 = .ok (.istore_n 3, 1) := by decide +kernel
theorem dX10_digest_6 : decode cX10_digest 6 = .ok (.iload_n 3, 1) := by decide +kernel
theorem dX10_digest_7 : decode cX10_digest 7 = .ok (.bipush 7, 2) := by decide +kernel
theorem dX10_digest_9 : decode cX10_digest 9 = .ok (.if_icmp .gt 20, 3) := by decide +kernel
theorem dX10_digest_12 : decode cX10_digest 12 = .ok (.lload_n 1, 1) := by decide +kernel
theorem dX10_digest_13 : decode cX10_digest 13 = .ok (.aload_n 0, 1) := by decide +kernel
theorem dX10_digest_14 : decode cX10_digest 14 = .ok (.iload_n 3, 1) := by decide +kernel
theorem dX10_digest_15 : decode cX10_digest 15 = .ok (.invokevirtual 327, 3) := by decide +kernel
theorem dX10_digest_18 : decode cX10_digest 18 = .ok (.i2l, 1) := by decide +kernel
theorem dX10_digest_19 : decode cX10_digest 19 = .ok (.invokestatic 330, 3) := by decide +kernel
theorem dX10_digest_22 : decode cX10_digest 22 = .ok (.lstore_n 1, 1) := by decide +kernel
theorem dX10_digest_23 : decode cX10_digest 23 = .ok (.iinc 3 1, 3) := by decide +kernel
theorem dX10_digest_26 : decode cX10_digest 26 = .ok (.goto (-20), 3) := by decide +kernel
theorem dX10_digest_29 : decode cX10_digest 29 = .ok (.lload_n 1, 1) := by decide +kernel
theorem dX10_digest_30 : decode cX10_digest 30 = .ok (.aload_n 0, 1) := by decide +kernel
theorem dX10_digest_31 : decode cX10_digest 31 = .ok (.invokevirtual 334, 3) := by decide +kernel
theorem dX10_digest_34 : decode cX10_digest 34 = .ok (.i2l, 1) := by decide +kernel
theorem dX10_digest_35 : decode cX10_digest 35 = .ok (.invokestatic 330, 3) := by decide +kernel
theorem dX10_digest_38 : decode cX10_digest 38 = .ok (.lstore_n 1, 1) := by decide +kernel
theorem dX10_digest_39 : decode cX10_digest 39 = .ok (.iconst 0, 1) := by decide +kernel
theorem dX10_digest_40 : decode cX10_digest 40 = .ok (.istore_n 3, 1) := by decide +kernel
theorem dX10_digest_41 : decode cX10_digest 41 = .ok (.iload_n 3, 1) := by decide +kernel
theorem dX10_digest_42 : decode cX10_digest 42 = .ok (.iconst 2, 1) := by decide +kernel
theorem dX10_digest_43 : decode cX10_digest 43 = .ok (.if_icmp .gt 53, 3) := by decide +kernel
theorem dX10_digest_46 : decode cX10_digest 46 = .ok (.iconst 0, 1) := by decide +kernel
theorem dX10_digest_47 : decode cX10_digest 47 = .ok (.istore 4, 2) := by decide +kernel
theorem dX10_digest_49 : decode cX10_digest 49 = .ok (.iload 4, 2) := by decide +kernel
theorem dX10_digest_51 : decode cX10_digest 51 = .ok (.iconst 2, 1) := by decide +kernel
theorem dX10_digest_52 : decode cX10_digest 52 = .ok (.if_icmp .gt 38, 3) := by decide +kernel
theorem dX10_digest_55 : decode cX10_digest 55 = .ok (.iconst 0, 1) := by decide +kernel
theorem dX10_digest_56 : decode cX10_digest 56 = .ok (.istore 5, 2) := by decide +kernel
theorem dX10_digest_58 : decode cX10_digest 58 = .ok (.iload 5, 2) := by decide +kernel
theorem dX10_digest_60 : decode cX10_digest 60 = .ok (.iconst 1, 1) := by decide +kernel
theorem dX10_digest_61 : decode cX10_digest 61 = .ok (.if_icmp .gt 23, 3) := by decide +kernel
theorem dX10_digest_64 : decode cX10_digest 64 = .ok (.lload_n 1, 1) := by decide +kernel
theorem dX10_digest_65 : decode cX10_digest 65 = .ok (.aload_n 0, 1) := by decide +kernel
theorem dX10_digest_66 : decode cX10_digest 66 = .ok (.iload_n 3, 1) := by decide +kernel
theorem dX10_digest_67 : decode cX10_digest 67 = .ok (.iload 4, 2) := by decide +kernel
theorem dX10_digest_69 : decode cX10_digest 69 = .ok (.iload 5, 2) := by decide +kernel
theorem dX10_digest_71 : decode cX10_digest 71 = .ok (.invokevirtual 337, 3) := by decide +kernel
theorem dX10_digest_74 : decode cX10_digest 74 = .ok (.invokestatic 330, 3) := by decide +kernel
theorem dX10_digest_77 : decode cX10_digest 77 = .ok (.lstore_n 1, 1) := by decide +kernel
theorem dX10_digest_78 : decode cX10_digest 78 = .ok (.iinc 5 1, 3) := by decide +kernel
theorem dX10_digest_81 : decode cX10_digest 81 = .ok (.goto (-23), 3) := by decide +kernel
theorem dX10_digest_84 : decode cX10_digest 84 = .ok (.iinc 4 1, 3) := by decide +kernel
theorem dX10_digest_87 : decode cX10_digest 87 = .ok (.goto (-38), 3) := by decide +kernel
theorem dX10_digest_90 : decode cX10_digest 90 = .ok (.iinc 3 1, 3) := by decide +kernel
theorem dX10_digest_93 : decode cX10_digest 93 = .ok (.goto (-52), 3) := by decide +kernel
theorem dX10_digest_96 : decode cX10_digest 96 = .ok (.iconst 0, 1) := by decide +kernel
theorem dX10_digest_97 : decode cX10_digest 97 = .ok (.istore_n 3, 1) := by decide +kernel
theorem dX10_digest_98 : decode cX10_digest 98 = .ok (.iload_n 3, 1) := by decide +kernel
theorem dX10_digest_99 : decode cX10_digest 99 = .ok (.iconst 2, 1) := by decide +kernel
theorem dX10_digest_100 : decode cX10_digest 100 = .ok (.if_icmp .ge 22, 3) := by decide +kernel
theorem dX10_digest_103 : decode cX10_digest 103 = .ok (.lload_n 1, 1) := by decide +kernel
theorem dX10_digest_104 : decode cX10_digest 104 = .ok (.aload_n 0, 1) := by decide +kernel
theorem dX10_digest_105 : decode cX10_digest 105 = .ok (.iload_n 3, 1) := by decide +kernel
theorem dX10_digest_106 : decode cX10_digest 106 = .ok (.iconst 2, 1) := by decide +kernel
theorem dX10_digest_107 : decode cX10_digest 107 = .ok (.iconst (-1), 1) := by decide +kernel
theorem dX10_digest_108 : decode cX10_digest 108 = .ok (.invokevirtual 340, 3) := by decide +kernel
theorem dX10_digest_111 : decode cX10_digest 111 = .ok (.i2l, 1) := by decide +kernel
theorem dX10_digest_112 : decode cX10_digest 112 = .ok (.invokestatic 330, 3) := by decide +kernel
theorem dX10_digest_115 : decode cX10_digest 115 = .ok (.lstore_n 1, 1) := by decide +kernel
theorem dX10_digest_116 : decode cX10_digest 116 = .ok (.iinc 3 1, 3) := by decide +kernel
theorem dX10_digest_119 : decode cX10_digest 119 = .ok (.goto (-21), 3) := by decide +kernel
theorem dX10_digest_122 : decode cX10_digest 122 = .ok (.iconst 0, 1) := by decide +kernel
theorem dX10_digest_123 : decode cX10_digest 123 = .ok (.istore_n 3, 1) := by decide +kernel
theorem dX10_digest_124 : decode cX10_digest 124 = .ok (.iload_n 3, 1) := by decide +kernel
theorem dX10_digest_125 : decode cX10_digest 125 = .ok (.iconst 1, 1) := by decide +kernel
theorem dX10_digest_126 : decode cX10_digest 126 = .ok (.if_icmp .gt 36, 3) := by decide +kernel
theorem dX10_digest_129 : decode cX10_digest 129 = .ok (.iconst 0, 1) := by decide +kernel
theorem dX10_digest_130 : decode cX10_digest 130 = .ok (.istore 4, 2) := by decide +kernel
theorem dX10_digest_132 : decode cX10_digest 132 = .ok (.iload 4, 2) := by decide +kernel
theorem dX10_digest_134 : decode cX10_digest 134 = .ok (.iconst 1, 1) := by decide +kernel
theorem dX10_digest_135 : decode cX10_digest 135 = .ok (.if_icmp .gt 21, 3) := by decide +kernel
theorem dX10_digest_138 : decode cX10_digest 138 = .ok (.lload_n 1, 1) := by decide +kernel
theorem dX10_digest_139 : decode cX10_digest 139 = .ok (.aload_n 0, 1) := by decide +kernel
theorem dX10_digest_140 : decode cX10_digest 140 = .ok (.iload_n 3, 1) := by decide +kernel
theorem dX10_digest_141 : decode cX10_digest 141 = .ok (.iload 4, 2) := by decide +kernel
theorem dX10_digest_143 : decode cX10_digest 143 = .ok (.invokevirtual 343, 3) := by decide +kernel
theorem dX10_digest_146 : decode cX10_digest 146 = .ok (.invokestatic 330, 3) := by decide +kernel
theorem dX10_digest_149 : decode cX10_digest 149 = .ok (.lstore_n 1, 1) := by decide +kernel
theorem dX10_digest_150 : decode cX10_digest 150 = .ok (.iinc 4 1, 3) := by decide +kernel
theorem dX10_digest_153 : decode cX10_digest 153 = .ok (.goto (-21), 3) := by decide +kernel
theorem dX10_digest_156 : decode cX10_digest 156 = .ok (.iinc 3 1, 3) := by decide +kernel
theorem dX10_digest_159 : decode cX10_digest 159 = .ok (.goto (-35), 3) := by decide +kernel
theorem dX10_digest_162 : decode cX10_digest 162 = .ok (.lload_n 1, 1) := by decide +kernel
theorem dX10_digest_163 : decode cX10_digest 163 = .ok (.aload_n 0, 1) := by decide +kernel
theorem dX10_digest_164 : decode cX10_digest 164 = .ok (.invokevirtual 346, 3) := by decide +kernel
theorem dX10_digest_167 : decode cX10_digest 167 = .ok (.i2l, 1) := by decide +kernel
theorem dX10_digest_168 : decode cX10_digest 168 = .ok (.invokestatic 330, 3) := by decide +kernel
theorem dX10_digest_171 : decode cX10_digest 171 = .ok (.lstore_n 1, 1) := by decide +kernel
theorem dX10_digest_172 : decode cX10_digest 172 = .ok (.iconst 0, 1) := by decide +kernel
theorem dX10_digest_173 : decode cX10_digest 173 = .ok (.istore_n 3, 1) := by decide +kernel
theorem dX10_digest_174 : decode cX10_digest 174 = .ok (.iload_n 3, 1) := by decide +kernel
theorem dX10_digest_175 : decode cX10_digest 175 = .ok (.iconst 3, 1) := by decide +kernel
theorem dX10_digest_176 : decode cX10_digest 176 = .ok (.if_icmp .gt 24, 3) := by decide +kernel
theorem dX10_digest_179 : decode cX10_digest 179 = .ok (.lload_n 1, 1) := by decide +kernel
theorem dX10_digest_180 : decode cX10_digest 180 = .ok (.aload_n 0, 1) := by decide +kernel
theorem dX10_digest_181 : decode cX10_digest 181 = .ok (.bipush 10, 2) := by decide +kernel
theorem dX10_digest_183 : decode cX10_digest 183 = .ok (.bipush 30, 2) := by decide +kernel
theorem dX10_digest_185 : decode cX10_digest 185 = .ok (.iload_n 3, 1) := by decide +kernel
theorem dX10_digest_186 : decode cX10_digest 186 = .ok (.invokevirtual 349, 3) := by decide +kernel
theorem dX10_digest_189 : decode cX10_digest 189 = .ok (.i2l, 1) := by decide +kernel
theorem dX10_digest_190 : decode cX10_digest 190 = .ok (.invokestatic 330, 3) := by decide +kernel
theorem dX10_digest_193 : decode cX10_digest 193 = .ok (.lstore_n 1, 1) := by decide +kernel
theorem dX10_digest_194 : decode cX10_digest 194 = .ok (.iinc 3 1, 3) := by decide +kernel
theorem dX10_digest_197 : decode cX10_digest 197 = .ok (.goto (-23), 3) := by decide +kernel
theorem dX10_digest_200 : decode cX10_digest 200 = .ok (.iconst 0, 1) := by decide +kernel
theorem dX10_digest_201 : decode cX10_digest 201 = .ok (.istore_n 3, 1) := by decide +kernel
theorem dX10_digest_202 : decode cX10_digest 202 = .ok (.iload_n 3, 1) := by decide +kernel
theorem dX10_digest_203 : decode cX10_digest 203 = .ok (.iconst 5, 1) := by decide +kernel
theorem dX10_digest_204 : decode cX10_digest 204 = .ok (.if_icmp .gt 40, 3) := by decide +kernel
theorem dX10_digest_207 : decode cX10_digest 207 = .ok (.iconst 0, 1) := by decide +kernel
theorem dX10_digest_208 : decode cX10_digest 208 = .ok (.istore 4, 2) := by decide +kernel
theorem dX10_digest_210 : decode cX10_digest 210 = .ok (.iload 4, 2) := by decide +kernel
theorem dX10_digest_212 : decode cX10_digest 212 = .ok (.iconst 1, 1) := by decide +kernel
theorem dX10_digest_213 : decode cX10_digest 213 = .ok (.if_icmp .gt 25, 3) := by decide +kernel
theorem dX10_digest_216 : decode cX10_digest 216 = .ok (.lload_n 1, 1) := by decide +kernel
theorem dX10_digest_217 : decode cX10_digest 217 = .ok (.aload_n 0, 1) := by decide +kernel
theorem dX10_digest_218 : decode cX10_digest 218 = .ok (.bipush 10, 2) := by decide +kernel
theorem dX10_digest_220 : decode cX10_digest 220 = .ok (.bipush 30, 2) := by decide +kernel
theorem dX10_digest_222 : decode cX10_digest 222 = .ok (.iload_n 3, 1) := by decide +kernel
theorem dX10_digest_223 : decode cX10_digest 223 = .ok (.iload 4, 2) := by decide +kernel
theorem dX10_digest_225 : decode cX10_digest 225 = .ok (.invokevirtual 352, 3) := by decide +kernel
theorem dX10_digest_228 : decode cX10_digest 228 = .ok (.invokestatic 330, 3) := by decide +kernel
theorem dX10_digest_231 : decode cX10_digest 231 = .ok (.lstore_n 1, 1) := by decide +kernel
theorem dX10_digest_232 : decode cX10_digest 232 = .ok (.iinc 4 1, 3) := by decide +kernel
theorem dX10_digest_235 : decode cX10_digest 235 = .ok (.goto (-25), 3) := by decide +kernel
theorem dX10_digest_238 : decode cX10_digest 238 = .ok (.iinc 3 1, 3) := by decide +kernel
theorem dX10_digest_241 : decode cX10_digest 241 = .ok (.goto (-39), 3) := by decide +kernel
theorem dX10_digest_244 : decode cX10_digest 244 = .ok (.iconst 0, 1) := by decide +kernel
theorem dX10_digest_245 : decode cX10_digest 245 = .ok (.istore_n 3, 1) := by decide +kernel
theorem dX10_digest_246 : decode cX10_digest 246 = .ok (.iload_n 3, 1) := by decide +kernel
theorem dX10_digest_247 : decode cX10_digest 247 = .ok (.iconst 2, 1) := by decide +kernel
theorem dX10_digest_248 : decode cX10_digest 248 = .ok (.if_icmp .gt 20, 3) := by decide +kernel
theorem dX10_digest_251 : decode cX10_digest 251 = .ok (.lload_n 1, 1) := by decide +kernel
theorem dX10_digest_252 : decode cX10_digest 252 = .ok (.aload_n 0, 1) := by decide +kernel
theorem dX10_digest_253 : decode cX10_digest 253 = .ok (.iload_n 3, 1) := by decide +kernel
theorem dX10_digest_254 : decode cX10_digest 254 = .ok (.invokevirtual 356, 3) := by decide +kernel
theorem dX10_digest_257 : decode cX10_digest 257 = .ok (.i2l, 1) := by decide +kernel
theorem dX10_digest_258 : decode cX10_digest 258 = .ok (.invokestatic 330, 3) := by decide +kernel
theorem dX10_digest_261 : decode cX10_digest 261 = .ok (.lstore_n 1, 1) := by decide +kernel
theorem dX10_digest_262 : decode cX10_digest 262 = .ok (.iinc 3 1, 3) := by decide +kernel
theorem dX10_digest_265 : decode cX10_digest 265 = .ok (.goto (-19), 3) := by decide +kernel
theorem dX10_digest_268 : decode cX10_digest 268 = .ok (.iconst 0, 1) := by decide +kernel
theorem dX10_digest_269 : decode cX10_digest 269 = .ok (.istore_n 3, 1) := by decide +kernel
theorem dX10_digest_270 : decode cX10_digest 270 = .ok (.iload_n 3, 1) := by decide +kernel
theorem dX10_digest_271 : decode cX10_digest 271 = .ok (.iconst 2, 1) := by decide +kernel
theorem dX10_digest_272 : decode cX10_digest 272 = .ok (.if_icmp .gt 36, 3) := by decide +kernel
theorem dX10_digest_275 : decode cX10_digest 275 = .ok (.iconst 0, 1) := by decide +kernel
theorem dX10_digest_276 : decode cX10_digest 276 = .ok (.istore 4, 2) := by decide +kernel
theorem dX10_digest_278 : decode cX10_digest 278 = .ok (.iload 4, 2) := by decide +kernel
theorem dX10_digest_280 : decode cX10_digest 280 = .ok (.iconst 1, 1) := by decide +kernel
theorem dX10_digest_281 : decode cX10_digest 281 = .ok (.if_icmp .gt 21, 3) := by decide +kernel
theorem dX10_digest_284 : decode cX10_digest 284 = .ok (.lload_n 1, 1) := by decide +kernel
theorem dX10_digest_285 : decode cX10_digest 285 = .ok (.aload_n 0, 1) := by decide +kernel
theorem dX10_digest_286 : decode cX10_digest 286 = .ok (.iload_n 3, 1) := by decide +kernel
theorem dX10_digest_287 : decode cX10_digest 287 = .ok (.iload 4, 2) := by decide +kernel
theorem dX10_digest_289 : decode cX10_digest 289 = .ok (.invokevirtual 359, 3) := by decide +kernel
theorem dX10_digest_292 : decode cX10_digest 292 = .ok (.invokestatic 330, 3) := by decide +kernel
theorem dX10_digest_295 : decode cX10_digest 295 = .ok (.lstore_n 1, 1) := by decide +kernel
theorem dX10_digest_296 : decode cX10_digest 296 = .ok (.iinc 4 1, 3) := by decide +kernel
theorem dX10_digest_299 : decode cX10_digest 299 = .ok (.goto (-21), 3) := by decide +kernel
theorem dX10_digest_302 : decode cX10_digest 302 = .ok (.iinc 3 1, 3) := by decide +kernel
theorem dX10_digest_305 : decode cX10_digest 305 = .ok (.goto (-35), 3) := by decide +kernel
theorem dX10_digest_308 : decode cX10_digest 308 = .ok (.lload_n 1, 1) := by decide +kernel
theorem dX10_digest_309 : decode cX10_digest 309 = .ok (.aload_n 0, 1) := by decide +kernel
theorem dX10_digest_310 : decode cX10_digest 310 = .ok (.invokevirtual 362, 3) := by decide +kernel
theorem dX10_digest_313 : decode cX10_digest 313 = .ok (.i2l, 1) := by decide +kernel
theorem dX10_digest_314 : decode cX10_digest 314 = .ok (.invokestatic 330, 3) := by decide +kernel
theorem dX10_digest_317 : decode cX10_digest 317 = .ok (.lstore_n 1, 1) := by decide +kernel
theorem dX10_digest_318 : decode cX10_digest 318 = .ok (.lload_n 1, 1) := by decide +kernel
theorem dX10_digest_319 : decode cX10_digest 319 = .ok (.aload_n 0, 1) := by decide +kernel
theorem dX10_digest_320 : decode cX10_digest 320 = .ok (.iconst 2, 1) := by decide +kernel
theorem dX10_digest_321 : decode cX10_digest 321 = .ok (.iconst 0, 1) := by decide +kernel
theorem dX10_digest_322 : decode cX10_digest 322 = .ok (.invokevirtual 365, 3) := by decide +kernel
theorem dX10_digest_325 : decode cX10_digest 325 = .ok (.i2l, 1) := by decide +kernel
theorem dX10_digest_326 : decode cX10_digest 326 = .ok (.invokestatic 330, 3) := by decide +kernel
theorem dX10_digest_329 : decode cX10_digest 329 = .ok (.lstore_n 1, 1) := by decide +kernel
theorem dX10_digest_330 : decode cX10_digest 330 = .ok (.iconst 0, 1) := by decide +kernel
theorem dX10_digest_331 : decode cX10_digest 331 = .ok (.istore_n 3, 1) := by decide +kernel
theorem dX10_digest_332 : decode cX10_digest 332 = .ok (.iload_n 3, 1) := by decide +kernel
theorem dX10_digest_333 : decode cX10_digest 333 = .ok (.iconst 2, 1) := by decide +kernel
theorem dX10_digest_334 : decode cX10_digest 334 = .ok (.if_icmp .gt 37, 3) := by decide +kernel
theorem dX10_digest_337 : decode cX10_digest 337 = .ok (.iconst 0, 1) := by decide +kernel
theorem dX10_digest_338 : decode cX10_digest 338 = .ok (.istore 4, 2) := by decide +kernel
theorem dX10_digest_340 : decode cX10_digest 340 = .ok (.iload 4, 2) := by decide +kernel
theorem dX10_digest_342 : decode cX10_digest 342 = .ok (.iconst 1, 1) := by decide +kernel
theorem dX10_digest_343 : decode cX10_digest 343 = .ok (.if_icmp .gt 22, 3) := by decide +kernel
theorem dX10_digest_346 : decode cX10_digest 346 = .ok (.lload_n 1, 1) := by decide +kernel
theorem dX10_digest_347 : decode cX10_digest 347 = .ok (.aload_n 0, 1) := by decide +kernel
theorem dX10_digest_348 : decode cX10_digest 348 = .ok (.iload_n 3, 1) := by decide +kernel
theorem dX10_digest_349 : decode cX10_digest 349 = .ok (.iconst 1, 1) := by decide +kernel
theorem dX10_digest_350 : decode cX10_digest 350 = .ok (.iload 4, 2) := by decide +kernel
theorem dX10_digest_352 : decode cX10_digest 352 = .ok (.invokevirtual 368, 3) := by decide +kernel
theorem dX10_digest_355 : decode cX10_digest 355 = .ok (.invokestatic 330, 3) := by decide +kernel
theorem dX10_digest_358 : decode cX10_digest 358 = .ok (.lstore_n 1, 1) := by decide +kernel
theorem dX10_digest_359 : decode cX10_digest 359 = .ok (.iinc 4 1, 3) := by decide +kernel
theorem dX10_digest_362 : decode cX10_digest 362 = .ok (.goto (-22), 3) := by decide +kernel
theorem dX10_digest_365 : decode cX10_digest 365 = .ok (.iinc 3 1, 3) := by decide +kernel
theorem dX10_digest_368 : decode cX10_digest 368 = .ok (.goto (-36), 3) := by decide +kernel
theorem dX10_digest_371 : decode cX10_digest 371 = .ok (.lload_n 1, 1) := by decide +kernel
theorem dX10_digest_372 : decode cX10_digest 372 = .ok (.lreturn, 1) := by decide +kernel
theorem dX10_behind_0 : decode cX10_behind 0 = .ok (.ldc2_w 371, 3) := by decide +kernel
theorem dX10_behind_3 : decode cX10_behind 3 = .ok (.lload_n 0, 1) := by decide +kernel
theorem dX10_behind_4 : decode cX10_behind 4 = .ok (.lmul, 1) := by decide +kernel
theorem dX10_behind_5 : decode cX10_behind 5 = .ok (.lload_n 2, 1) := by decide +kernel
theorem dX10_behind_6 : decode cX10_behind 6 = .ok (.ladd, 1) := by decide +kernel
theorem dX10_behind_7 : decode cX10_behind 7 = .ok (.lreturn, 1) := by decide +kernel
theorem dX10_outside_0 : decode cX10_outside 0 = .ok (.iload_n 0, 1) := by decide +kernel
theorem dX10_outside_1 : decode cX10_outside 1 = .ok (.iload_n 1, 1) := by decide +kernel
theorem dX10_outside_2 : decode cX10_outside 2 = .ok (.if_icmp .lt 8, 3) := by decide +kernel
theorem dX10_outside_5 : decode cX10_outside 5 = .ok (.iload_n 0, 1) := by decide +kernel
theorem dX10_outside_6 : decode cX10_outside 6 = .ok (.iload_n 2, 1) := by decide +kernel
theorem dX10_outside_7 : decode cX10_outside 7 = .ok (.if_icmp .le 7, 3) := by decide +kernel
theorem dX10_outside_10 : decode cX10_outside 10 = .ok (.iconst 1, 1) := by decide +kernel
theorem dX10_outside_11 : decode cX10_outside 11 = .ok (.goto 4, 3) := by decide +kernel
theorem dX10_outside_14 : decode cX10_outside 14 = .ok (.iconst 0, 1) := by decide +kernel
theorem dX10_outside_15 : decode cX10_outside 15 = .ok (.ireturn, 1) := by decide +kernel
set_option maxRecDepth 20000 in
theorem ggX10_cannotEnd_X10_outside : GoodIn wsX10_cannotEnd wsX10_outside := goodIn_r _ [8] (by decide +kernel) (by decide +kernel)
set_option maxRecDepth 20000 in
theorem gX10_cannotEnd_X10_outside : GoodIn wsX10_cannotEnd (va_wsS RX10 72 yX10_outside wsX10_outside) := goodIn_app (goodIn_of _ (by decide +kernel)) ggX10_cannotEnd_X10_outside
theorem dX10_cannotEnd_0 : decode cX10_cannotEnd 0 = .ok (.iload_n 1, 1) := by decide +kernel
theorem dX10_cannotEnd_1 : decode cX10_cannotEnd 1 = .ok (.iload_n 0, 1) := by decide +kernel
theorem dX10_cannotEnd_2 : decode cX10_cannotEnd 2 = .ok (.bipush 99, 2) := by decide +kernel
theorem dX10_cannotEnd_4 : decode cX10_cannotEnd 4 = .ok (.iload_n 0, 1) := by decide +kernel
theorem dX10_cannotEnd_5 : decode cX10_cannotEnd 5 = .ok (.bipush 19, 2) := by decide +kernel
theorem dX10_cannotEnd_7 : decode cX10_cannotEnd 7 = .ok (.iadd, 1) := by decide +kernel
theorem dX10_cannotEnd_8 : decode cX10_cannotEnd 8 = .ok (.invokestatic 373, 3) := by decide +kernel
theorem dX10_cannotEnd_11 : decode cX10_cannotEnd 11 = .ok (.invokestatic 72, 3) := by decide +kernel
theorem dX10_cannotEnd_14 : decode cX10_cannotEnd 14 = .ok (.ireturn, 1) := by decide +kernel
set_option maxRecDepth 20000 in
theorem ggX10_isNoSpan_X10_outside : GoodIn wsX10_isNoSpan wsX10_outside := goodIn_r _ [4] (by decide +kernel) (by decide +kernel)
set_option maxRecDepth 20000 in
theorem gX10_isNoSpan_X10_outside : GoodIn wsX10_isNoSpan (va_wsS RX10 72 yX10_outside wsX10_outside) := goodIn_app (goodIn_of _ (by decide +kernel)) ggX10_isNoSpan_X10_outside
theorem dX10_isNoSpan_0 : decode cX10_isNoSpan 0 = .ok (.iload_n 0, 1) := by decide +kernel
theorem dX10_isNoSpan_1 : decode cX10_isNoSpan 1 = .ok (.iconst 0, 1) := by decide +kernel
theorem dX10_isNoSpan_2 : decode cX10_isNoSpan 2 = .ok (.bipush 99, 2) := by decide +kernel
theorem dX10_isNoSpan_4 : decode cX10_isNoSpan 4 = .ok (.invokestatic 72, 3) := by decide +kernel
theorem dX10_isNoSpan_7 : decode cX10_isNoSpan 7 = .ok (.ifCond .ne 13, 3) := by decide +kernel
theorem dX10_isNoSpan_10 : decode cX10_isNoSpan 10 = .ok (.iload_n 1, 1) := by decide +kernel
theorem dX10_isNoSpan_11 : decode cX10_isNoSpan 11 = .ok (.iload_n 0, 1) := by decide +kernel
theorem dX10_isNoSpan_12 : decode cX10_isNoSpan 12 = .ok (.bipush 99, 2) := by decide +kernel
theorem dX10_isNoSpan_14 : decode cX10_isNoSpan 14 = .ok (.invokestatic 72, 3) := by decide +kernel
theorem dX10_isNoSpan_17 : decode cX10_isNoSpan 17 = .ok (.ifCond .eq 7, 3) := by decide +kernel
theorem dX10_isNoSpan_20 : decode cX10_isNoSpan 20 = .ok (.iconst 1, 1) := by decide +kernel
theorem dX10_isNoSpan_21 : decode cX10_isNoSpan 21 = .ok (.goto 4, 3) := by decide +kernel
theorem dX10_isNoSpan_24 : decode cX10_isNoSpan 24 = .ok (.iconst 0, 1) := by decide +kernel
theorem dX10_isNoSpan_25 : decode cX10_isNoSpan 25 = .ok (.ireturn, 1) := by decide +kernel
