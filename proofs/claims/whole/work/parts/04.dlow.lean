theorem dX0_init_0 : decode cX0_init 0 = .ok (.aload_n 0, 1) := by decide +kernel
theorem dX0_init_1 : decode cX0_init 1 = .ok (.invokespecial 5, 3) := by decide +kernel
theorem dX0_init_4 : decode cX0_init 4 = .ok (.aload_n 0, 1) := by decide +kernel
theorem dX0_init_5 : decode cX0_init 5 = .ok (.bipush 8, 2) := by decide +kernel
theorem dX0_init_7 : decode cX0_init 7 = .ok (.newarray .int, 2) := by decide +kernel
theorem dX0_init_9 : decode cX0_init 9 = .ok (.putfield 11, 3) := by decide +kernel
theorem dX0_init_12 : decode cX0_init 12 = .ok (.return_, 1) := by decide +kernel
theorem dX0_setFriends_0 : decode cX0_setFriends 0 = .ok (.aload_n 0, 1) := by decide +kernel
theorem dX0_setFriends_1 : decode cX0_setFriends 1 = .ok (.getfield 11, 3) := by decide +kernel
theorem dX0_setFriends_4 : decode cX0_setFriends 4 = .ok (.iload_n 1, 1) := by decide +kernel
theorem dX0_setFriends_5 : decode cX0_setFriends 5 = .ok (.iaload, 1) := by decide +kernel
theorem dX0_setFriends_6 : decode cX0_setFriends 6 = .ok (.iload_n 2, 1) := by decide +kernel
theorem dX0_setFriends_7 : decode cX0_setFriends 7 = .ok (.iushr, 1) := by decide +kernel
theorem dX0_setFriends_8 : decode cX0_setFriends 8 = .ok (.iconst 1, 1) := by decide +kernel
theorem dX0_setFriends_9 : decode cX0_setFriends 9 = .ok (.iand, 1) := by decide +kernel
theorem dX0_setFriends_10 : decode cX0_setFriends 10 = .ok (.istore 4, 2) := by decide +kernel
theorem dX0_setFriends_12 : decode cX0_setFriends 12 = .ok (.iload 4, 2) := by decide +kernel
theorem dX0_setFriends_14 : decode cX0_setFriends 14 = .ok (.iload_n 3, 1) := by decide +kernel
theorem dX0_setFriends_15 : decode cX0_setFriends 15 = .ok (.if_icmp .eq 27, 3) := by decide +kernel
theorem dX0_setFriends_18 : decode cX0_setFriends 18 = .ok (.aload_n 0, 1) := by decide +kernel
theorem dX0_setFriends_19 : decode cX0_setFriends 19 = .ok (.getfield 11, 3) := by decide +kernel
theorem dX0_setFriends_22 : decode cX0_setFriends 22 = .ok (.iload_n 1, 1) := by decide +kernel
theorem dX0_setFriends_23 : decode cX0_setFriends 23 = .ok (.dup2, 1) := by decide +kernel
theorem dX0_setFriends_24 : decode cX0_setFriends 24 = .ok (.iaload, 1) := by decide +kernel
theorem dX0_setFriends_25 : decode cX0_setFriends 25 = .ok (.iconst 1, 1) := by decide +kernel
theorem dX0_setFriends_26 : decode cX0_setFriends 26 = .ok (.iload_n 2, 1) := by decide +kernel
theorem dX0_setFriends_27 : decode cX0_setFriends 27 = .ok (.ishl, 1) := by decide +kernel
theorem dX0_setFriends_28 : decode cX0_setFriends 28 = .ok (.ixor, 1) := by decide +kernel
theorem dX0_setFriends_29 : decode cX0_setFriends 29 = .ok (.iastore, 1) := by decide +kernel
theorem dX0_setFriends_30 : decode cX0_setFriends 30 = .ok (.aload_n 0, 1) := by decide +kernel
theorem dX0_setFriends_31 : decode cX0_setFriends 31 = .ok (.getfield 11, 3) := by decide +kernel
theorem dX0_setFriends_34 : decode cX0_setFriends 34 = .ok (.iload_n 2, 1) := by decide +kernel
theorem dX0_setFriends_35 : decode cX0_setFriends 35 = .ok (.dup2, 1) := by decide +kernel
theorem dX0_setFriends_36 : decode cX0_setFriends 36 = .ok (.iaload, 1) := by decide +kernel
theorem dX0_setFriends_37 : decode cX0_setFriends 37 = .ok (.iconst 1, 1) := by decide +kernel
theorem dX0_setFriends_38 : decode cX0_setFriends 38 = .ok (.iload_n 1, 1) := by decide +kernel
theorem dX0_setFriends_39 : decode cX0_setFriends 39 = .ok (.ishl, 1) := by decide +kernel
theorem dX0_setFriends_40 : decode cX0_setFriends 40 = .ok (.ixor, 1) := by decide +kernel
theorem dX0_setFriends_41 : decode cX0_setFriends 41 = .ok (.iastore, 1) := by decide +kernel
theorem dX0_setFriends_42 : decode cX0_setFriends 42 = .ok (.iload 4, 2) := by decide +kernel
theorem dX0_setFriends_44 : decode cX0_setFriends 44 = .ok (.ireturn, 1) := by decide +kernel
set_option maxRecDepth 20000 in
theorem ggX0_tellings_X0_friendsOf : GoodIn wsX0_tellings wsX0_friendsOf := goodIn_r _ [5, 6, 7, 8, 9, 10, 11, 12, 13, 14] (by decide +kernel) (by decide +kernel)
set_option maxRecDepth 20000 in
theorem gX0_tellings_X0_friendsOf : GoodIn wsX0_tellings (wsV RX0 15 RX0 yX0_friendsOf wsX0_friendsOf) := goodIn_app (goodIn_of _ (by decide +kernel)) ggX0_tellings_X0_friendsOf
theorem dX0_tellings_0 : decode cX0_tellings 0 = .ok (.iconst 0, 1) := by decide +kernel
theorem dX0_tellings_1 : decode cX0_tellings 1 = .ok (.istore_n 1, 1) := by decide +kernel
theorem dX0_tellings_2 : decode cX0_tellings 2 = .ok (.iconst 0, 1) := by decide +kernel
theorem dX0_tellings_3 : decode cX0_tellings 3 = .ok (.istore_n 2, 1) := by decide +kernel
theorem dX0_tellings_4 : decode cX0_tellings 4 = .ok (.iload_n 2, 1) := by decide +kernel
theorem dX0_tellings_5 : decode cX0_tellings 5 = .ok (.bipush 8, 2) := by decide +kernel
theorem dX0_tellings_7 : decode cX0_tellings 7 = .ok (.if_icmp .ge 17, 3) := by decide +kernel
theorem dX0_tellings_10 : decode cX0_tellings 10 = .ok (.iload_n 1, 1) := by decide +kernel
theorem dX0_tellings_11 : decode cX0_tellings 11 = .ok (.aload_n 0, 1) := by decide +kernel
theorem dX0_tellings_12 : decode cX0_tellings 12 = .ok (.iload_n 2, 1) := by decide +kernel
theorem dX0_tellings_13 : decode cX0_tellings 13 = .ok (.invokevirtual 15, 3) := by decide +kernel
theorem dX0_tellings_16 : decode cX0_tellings 16 = .ok (.iadd, 1) := by decide +kernel
theorem dX0_tellings_17 : decode cX0_tellings 17 = .ok (.istore_n 1, 1) := by decide +kernel
theorem dX0_tellings_18 : decode cX0_tellings 18 = .ok (.iinc 2 1, 3) := by decide +kernel
theorem dX0_tellings_21 : decode cX0_tellings 21 = .ok (.goto (-17), 3) := by decide +kernel
theorem dX0_tellings_24 : decode cX0_tellings 24 = .ok (.iload_n 1, 1) := by decide +kernel
theorem dX0_tellings_25 : decode cX0_tellings 25 = .ok (.ireturn, 1) := by decide +kernel
set_option maxRecDepth 20000 in
theorem ggX0_friendsOfFriends_X0_friendsOfHers : GoodIn wsX0_friendsOfFriends wsX0_friendsOfHers := goodIn_r _ [5, 6, 7, 8, 4, 9, 10, 11, 12, 13, 14, 15, 16, 17, 18, 19, 20, 21, 22] (by decide +kernel) (by decide +kernel)
set_option maxRecDepth 20000 in
theorem gX0_friendsOfFriends_X0_friendsOfHers : GoodIn wsX0_friendsOfFriends (wsV RX0 19 RX0 yX0_friendsOfHers wsX0_friendsOfHers) := goodIn_app (goodIn_of _ (by decide +kernel)) ggX0_friendsOfFriends_X0_friendsOfHers
theorem dX0_friendsOfFriends_0 : decode cX0_friendsOfFriends 0 = .ok (.iconst 0, 1) := by decide +kernel
theorem dX0_friendsOfFriends_1 : decode cX0_friendsOfFriends 1 = .ok (.istore_n 1, 1) := by decide +kernel
theorem dX0_friendsOfFriends_2 : decode cX0_friendsOfFriends 2 = .ok (.iconst 0, 1) := by decide +kernel
theorem dX0_friendsOfFriends_3 : decode cX0_friendsOfFriends 3 = .ok (.istore_n 2, 1) := by decide +kernel
theorem dX0_friendsOfFriends_4 : decode cX0_friendsOfFriends 4 = .ok (.iload_n 2, 1) := by decide +kernel
theorem dX0_friendsOfFriends_5 : decode cX0_friendsOfFriends 5 = .ok (.bipush 8, 2) := by decide +kernel
theorem dX0_friendsOfFriends_7 : decode cX0_friendsOfFriends 7 = .ok (.if_icmp .ge 17, 3) := by decide +kernel
theorem dX0_friendsOfFriends_10 : decode cX0_friendsOfFriends 10 = .ok (.iload_n 1, 1) := by decide +kernel
theorem dX0_friendsOfFriends_11 : decode cX0_friendsOfFriends 11 = .ok (.aload_n 0, 1) := by decide +kernel
theorem dX0_friendsOfFriends_12 : decode cX0_friendsOfFriends 12 = .ok (.iload_n 2, 1) := by decide +kernel
theorem dX0_friendsOfFriends_13 : decode cX0_friendsOfFriends 13 = .ok (.invokevirtual 19, 3) := by decide +kernel
theorem dX0_friendsOfFriends_16 : decode cX0_friendsOfFriends 16 = .ok (.iadd, 1) := by decide +kernel
theorem dX0_friendsOfFriends_17 : decode cX0_friendsOfFriends 17 = .ok (.istore_n 1, 1) := by decide +kernel
theorem dX0_friendsOfFriends_18 : decode cX0_friendsOfFriends 18 = .ok (.iinc 2 1, 3) := by decide +kernel
theorem dX0_friendsOfFriends_21 : decode cX0_friendsOfFriends 21 = .ok (.goto (-17), 3) := by decide +kernel
theorem dX0_friendsOfFriends_24 : decode cX0_friendsOfFriends 24 = .ok (.iload_n 1, 1) := by decide +kernel
theorem dX0_friendsOfFriends_25 : decode cX0_friendsOfFriends 25 = .ok (.ireturn, 1) := by decide +kernel
set_option maxRecDepth 20000 in
theorem ggX0_friendsOfPicked_X0_pickedParts : GoodIn wsX0_friendsOfPicked wsX0_pickedParts := goodIn_r _ [5, 6, 7, 8, 4, 9, 10, 11, 12, 13, 14, 15, 16, 17, 18, 19, 20, 21, 22] (by decide +kernel) (by decide +kernel)
set_option maxRecDepth 20000 in
theorem gX0_friendsOfPicked_X0_pickedParts : GoodIn wsX0_friendsOfPicked (wsV RX0 22 RX0 yX0_pickedParts wsX0_pickedParts) := goodIn_app (goodIn_of _ (by decide +kernel)) ggX0_friendsOfPicked_X0_pickedParts
set_option maxRecDepth 20000 in
theorem ggX0_friendsOfPicked_X0_friendsOf : GoodIn wsX0_friendsOfPicked wsX0_friendsOf := goodIn_r _ [9, 10, 11, 12, 13, 14, 15, 16, 17, 22] (by decide +kernel) (by decide +kernel)
set_option maxRecDepth 20000 in
theorem gX0_friendsOfPicked_X0_friendsOf : GoodIn wsX0_friendsOfPicked (wsV RX0 15 RX0 yX0_friendsOf wsX0_friendsOf) := goodIn_app (goodIn_of _ (by decide +kernel)) ggX0_friendsOfPicked_X0_friendsOf
theorem dX0_friendsOfPicked_0 : decode cX0_friendsOfPicked 0 = .ok (.iconst 0, 1) := by decide +kernel
theorem dX0_friendsOfPicked_1 : decode cX0_friendsOfPicked 1 = .ok (.istore_n 1, 1) := by decide +kernel
theorem dX0_friendsOfPicked_2 : decode cX0_friendsOfPicked 2 = .ok (.iconst 0, 1) := by decide +kernel
theorem dX0_friendsOfPicked_3 : decode cX0_friendsOfPicked 3 = .ok (.istore_n 2, 1) := by decide +kernel
theorem dX0_friendsOfPicked_4 : decode cX0_friendsOfPicked 4 = .ok (.iload_n 2, 1) := by decide +kernel
theorem dX0_friendsOfPicked_5 : decode cX0_friendsOfPicked 5 = .ok (.bipush 8, 2) := by decide +kernel
theorem dX0_friendsOfPicked_7 : decode cX0_friendsOfPicked 7 = .ok (.if_icmp .ge 23, 3) := by decide +kernel
theorem dX0_friendsOfPicked_10 : decode cX0_friendsOfPicked 10 = .ok (.iload_n 1, 1) := by decide +kernel
theorem dX0_friendsOfPicked_11 : decode cX0_friendsOfPicked 11 = .ok (.aload_n 0, 1) := by decide +kernel
theorem dX0_friendsOfPicked_12 : decode cX0_friendsOfPicked 12 = .ok (.iload_n 2, 1) := by decide +kernel
theorem dX0_friendsOfPicked_13 : decode cX0_friendsOfPicked 13 = .ok (.invokevirtual 22, 3) := by decide +kernel
theorem dX0_friendsOfPicked_16 : decode cX0_friendsOfPicked 16 = .ok (.aload_n 0, 1) := by decide +kernel
theorem dX0_friendsOfPicked_17 : decode cX0_friendsOfPicked 17 = .ok (.iload_n 2, 1) := by decide +kernel
theorem dX0_friendsOfPicked_18 : decode cX0_friendsOfPicked 18 = .ok (.invokevirtual 15, 3) := by decide +kernel
theorem dX0_friendsOfPicked_21 : decode cX0_friendsOfPicked 21 = .ok (.imul, 1) := by decide +kernel
theorem dX0_friendsOfPicked_22 : decode cX0_friendsOfPicked 22 = .ok (.iadd, 1) := by decide +kernel
theorem dX0_friendsOfPicked_23 : decode cX0_friendsOfPicked 23 = .ok (.istore_n 1, 1) := by decide +kernel
theorem dX0_friendsOfPicked_24 : decode cX0_friendsOfPicked 24 = .ok (.iinc 2 1, 3) := by decide +kernel
theorem dX0_friendsOfPicked_27 : decode cX0_friendsOfPicked 27 = .ok (.goto (-23), 3) := by decide +kernel
theorem dX0_friendsOfPicked_30 : decode cX0_friendsOfPicked 30 = .ok (.iload_n 1, 1) := by decide +kernel
theorem dX0_friendsOfPicked_31 : decode cX0_friendsOfPicked 31 = .ok (.ireturn, 1) := by decide +kernel
set_option maxRecDepth 20000 in
theorem ggX0_withFewer_X0_friendsOf : GoodIn wsX0_withFewer wsX0_friendsOf := goodIn_r _ [5, 6, 7, 8, 9, 10, 11, 12, 13, 22] (by decide +kernel) (by decide +kernel)
set_option maxRecDepth 20000 in
theorem gX0_withFewer_X0_friendsOf : GoodIn wsX0_withFewer (wsV RX0 15 RX0 yX0_friendsOf wsX0_friendsOf) := goodIn_app (goodIn_of _ (by decide +kernel)) ggX0_withFewer_X0_friendsOf
set_option maxRecDepth 20000 in
theorem ggX0_withFewer_X0_friendsOfHers : GoodIn wsX0_withFewer wsX0_friendsOfHers := goodIn_r _ [17, 18, 19, 20, 4, 21, 6, 1, 2, 3, 5, 7, 8, 9, 10, 11, 12, 13, 22] (by decide +kernel) (by decide +kernel)
set_option maxRecDepth 20000 in
theorem gX0_withFewer_X0_friendsOfHers : GoodIn wsX0_withFewer (wsV RX0 19 RX0 yX0_friendsOfHers wsX0_friendsOfHers) := goodIn_app (goodIn_of _ (by decide +kernel)) ggX0_withFewer_X0_friendsOfHers
theorem dX0_withFewer_0 : decode cX0_withFewer 0 = .ok (.iconst 0, 1) := by decide +kernel
theorem dX0_withFewer_1 : decode cX0_withFewer 1 = .ok (.istore_n 1, 1) := by decide +kernel
theorem dX0_withFewer_2 : decode cX0_withFewer 2 = .ok (.iconst 0, 1) := by decide +kernel
theorem dX0_withFewer_3 : decode cX0_withFewer 3 = .ok (.istore_n 2, 1) := by decide +kernel
theorem dX0_withFewer_4 : decode cX0_withFewer 4 = .ok (.iload_n 2, 1) := by decide +kernel
theorem dX0_withFewer_5 : decode cX0_withFewer 5 = .ok (.bipush 8, 2) := by decide +kernel
theorem dX0_withFewer_7 : decode cX0_withFewer 7 = .ok (.if_icmp .ge 34, 3) := by decide +kernel
theorem dX0_withFewer_10 : decode cX0_withFewer 10 = .ok (.aload_n 0, 1) := by decide +kernel
theorem dX0_withFewer_11 : decode cX0_withFewer 11 = .ok (.iload_n 2, 1) := by decide +kernel
theorem dX0_withFewer_12 : decode cX0_withFewer 12 = .ok (.invokevirtual 15, 3) := by decide +kernel
theorem dX0_withFewer_15 : decode cX0_withFewer 15 = .ok (.aload_n 0, 1) := by decide +kernel
theorem dX0_withFewer_16 : decode cX0_withFewer 16 = .ok (.iload_n 2, 1) := by decide +kernel
theorem dX0_withFewer_17 : decode cX0_withFewer 17 = .ok (.invokevirtual 15, 3) := by decide +kernel
theorem dX0_withFewer_20 : decode cX0_withFewer 20 = .ok (.imul, 1) := by decide +kernel
theorem dX0_withFewer_21 : decode cX0_withFewer 21 = .ok (.aload_n 0, 1) := by decide +kernel
theorem dX0_withFewer_22 : decode cX0_withFewer 22 = .ok (.iload_n 2, 1) := by decide +kernel
theorem dX0_withFewer_23 : decode cX0_withFewer 23 = .ok (.invokevirtual 19, 3) := by decide +kernel
theorem dX0_withFewer_26 : decode cX0_withFewer 26 = .ok (.if_icmp .ge 9, 3) := by decide +kernel
theorem dX0_withFewer_29 : decode cX0_withFewer 29 = .ok (.iload_n 1, 1) := by decide +kernel
theorem dX0_withFewer_30 : decode cX0_withFewer 30 = .ok (.iconst 1, 1) := by decide +kernel
theorem dX0_withFewer_31 : decode cX0_withFewer 31 = .ok (.iload_n 2, 1) := by decide +kernel
theorem dX0_withFewer_32 : decode cX0_withFewer 32 = .ok (.ishl, 1) := by decide +kernel
theorem dX0_withFewer_33 : decode cX0_withFewer 33 = .ok (.ior, 1) := by decide +kernel
theorem dX0_withFewer_34 : decode cX0_withFewer 34 = .ok (.istore_n 1, 1) := by decide +kernel
theorem dX0_withFewer_35 : decode cX0_withFewer 35 = .ok (.iinc 2 1, 3) := by decide +kernel
theorem dX0_withFewer_38 : decode cX0_withFewer 38 = .ok (.goto (-34), 3) := by decide +kernel
theorem dX0_withFewer_41 : decode cX0_withFewer 41 = .ok (.iload_n 1, 1) := by decide +kernel
theorem dX0_withFewer_42 : decode cX0_withFewer 42 = .ok (.ireturn, 1) := by decide +kernel
set_option maxRecDepth 20000 in
theorem ggX0_pickedParts_X0_friendsOf : GoodIn wsX0_pickedParts wsX0_friendsOf := goodIn_r _ [5, 6, 7, 8, 9, 10, 11, 12, 13, 18] (by decide +kernel) (by decide +kernel)
set_option maxRecDepth 20000 in
theorem gX0_pickedParts_X0_friendsOf : GoodIn wsX0_pickedParts (wsV RX0 15 RX0 yX0_friendsOf wsX0_friendsOf) := goodIn_app (goodIn_of _ (by decide +kernel)) ggX0_pickedParts_X0_friendsOf
set_option maxRecDepth 20000 in
theorem ggX0_pickedParts_X0_isFriend : GoodIn wsX0_pickedParts wsX0_isFriend := goodIn_r _ [17, 6, 18] (by decide +kernel) (by decide +kernel)
set_option maxRecDepth 20000 in
theorem gX0_pickedParts_X0_isFriend : GoodIn wsX0_pickedParts (wsV RX0 25 RX0 yX0_isFriend wsX0_isFriend) := goodIn_app (goodIn_of _ (by decide +kernel)) ggX0_pickedParts_X0_isFriend
theorem dX0_pickedParts_0 : decode cX0_pickedParts 0 = .ok (.aload_n 0, 1) := by decide +kernel
theorem dX0_pickedParts_1 : decode cX0_pickedParts 1 = .ok (.iload_n 1, 1) := by decide +kernel
theorem dX0_pickedParts_2 : decode cX0_pickedParts 2 = .ok (.invokevirtual 15, 3) := by decide +kernel
theorem dX0_pickedParts_5 : decode cX0_pickedParts 5 = .ok (.ifCond .ne 7, 3) := by decide +kernel
theorem dX0_pickedParts_8 : decode cX0_pickedParts 8 = .ok (.sipush 420, 3) := by decide +kernel
theorem dX0_pickedParts_11 : decode cX0_pickedParts 11 = .ok (.ireturn, 1) := by decide +kernel
theorem dX0_pickedParts_12 : decode cX0_pickedParts 12 = .ok (.iconst 0, 1) := by decide +kernel
theorem dX0_pickedParts_13 : decode cX0_pickedParts 13 = .ok (.istore_n 2, 1) := by decide +kernel
theorem dX0_pickedParts_14 : decode cX0_pickedParts 14 = .ok (.iconst 0, 1) := by decide +kernel
theorem dX0_pickedParts_15 : decode cX0_pickedParts 15 = .ok (.istore_n 3, 1) := by decide +kernel
theorem dX0_pickedParts_16 : decode cX0_pickedParts 16 = .ok (.iload_n 3, 1) := by decide +kernel
theorem dX0_pickedParts_17 : decode cX0_pickedParts 17 = .ok (.bipush 8, 2) := by decide +kernel
theorem dX0_pickedParts_19 : decode cX0_pickedParts 19 = .ok (.if_icmp .ge 38, 3) := by decide +kernel
theorem dX0_pickedParts_22 : decode cX0_pickedParts 22 = .ok (.aload_n 0, 1) := by decide +kernel
theorem dX0_pickedParts_23 : decode cX0_pickedParts 23 = .ok (.iload_n 1, 1) := by decide +kernel
theorem dX0_pickedParts_24 : decode cX0_pickedParts 24 = .ok (.iload_n 3, 1) := by decide +kernel
theorem dX0_pickedParts_25 : decode cX0_pickedParts 25 = .ok (.invokevirtual 25, 3) := by decide +kernel
theorem dX0_pickedParts_28 : decode cX0_pickedParts 28 = .ok (.ifCond .eq 23, 3) := by decide +kernel
theorem dX0_pickedParts_31 : decode cX0_pickedParts 31 = .ok (.aload_n 0, 1) := by decide +kernel
theorem dX0_pickedParts_32 : decode cX0_pickedParts 32 = .ok (.iload_n 3, 1) := by decide +kernel
theorem dX0_pickedParts_33 : decode cX0_pickedParts 33 = .ok (.invokevirtual 15, 3) := by decide +kernel
theorem dX0_pickedParts_36 : decode cX0_pickedParts 36 = .ok (.ifCond .le 15, 3) := by decide +kernel
theorem dX0_pickedParts_39 : decode cX0_pickedParts 39 = .ok (.iload_n 2, 1) := by decide +kernel
theorem dX0_pickedParts_40 : decode cX0_pickedParts 40 = .ok (.sipush 420, 3) := by decide +kernel
theorem dX0_pickedParts_43 : decode cX0_pickedParts 43 = .ok (.aload_n 0, 1) := by decide +kernel
theorem dX0_pickedParts_44 : decode cX0_pickedParts 44 = .ok (.iload_n 3, 1) := by decide +kernel
theorem dX0_pickedParts_45 : decode cX0_pickedParts 45 = .ok (.invokevirtual 15, 3) := by decide +kernel
theorem dX0_pickedParts_48 : decode cX0_pickedParts 48 = .ok (.idiv, 1) := by decide +kernel
theorem dX0_pickedParts_49 : decode cX0_pickedParts 49 = .ok (.iadd, 1) := by decide +kernel
theorem dX0_pickedParts_50 : decode cX0_pickedParts 50 = .ok (.istore_n 2, 1) := by decide +kernel
theorem dX0_pickedParts_51 : decode cX0_pickedParts 51 = .ok (.iinc 3 1, 3) := by decide +kernel
theorem dX0_pickedParts_54 : decode cX0_pickedParts 54 = .ok (.goto (-38), 3) := by decide +kernel
theorem dX0_pickedParts_57 : decode cX0_pickedParts 57 = .ok (.iload_n 2, 1) := by decide +kernel
theorem dX0_pickedParts_58 : decode cX0_pickedParts 58 = .ok (.ireturn, 1) := by decide +kernel
set_option maxRecDepth 20000 in
theorem ggX0_bestGroup_J6_bitCount_0f7a4 : GoodIn wsX0_bestGroup wsJ6_bitCount_0f7a4 := goodIn_r _ [4, 5, 6, 7] (by decide +kernel) (by decide +kernel)
set_option maxRecDepth 20000 in
theorem gX0_bestGroup_J6_bitCount_0f7a4 : GoodIn wsX0_bestGroup (va_wsS RX0 29 yJ6_bitCount_0f7a4 wsJ6_bitCount_0f7a4) := goodIn_app (goodIn_of _ (by decide +kernel)) ggX0_bestGroup_J6_bitCount_0f7a4
set_option maxRecDepth 20000 in
theorem ggX0_bestGroup_X0_friendshipsOf : GoodIn wsX0_bestGroup wsX0_friendshipsOf := goodIn_r _ [12, 13, 14, 15, 16, 11, 17, 1, 2, 3, 4, 5, 6, 7, 18] (by decide +kernel) (by decide +kernel)
set_option maxRecDepth 20000 in
theorem gX0_bestGroup_X0_friendshipsOf : GoodIn wsX0_bestGroup (wsV RX0 34 RX0 yX0_friendshipsOf wsX0_friendshipsOf) := goodIn_app (goodIn_of _ (by decide +kernel)) ggX0_bestGroup_X0_friendshipsOf
theorem dX0_bestGroup_0 : decode cX0_bestGroup 0 = .ok (.iconst 0, 1) := by decide +kernel
theorem dX0_bestGroup_1 : decode cX0_bestGroup 1 = .ok (.istore_n 2, 1) := by decide +kernel
theorem dX0_bestGroup_2 : decode cX0_bestGroup 2 = .ok (.iconst (-1), 1) := by decide +kernel
theorem dX0_bestGroup_3 : decode cX0_bestGroup 3 = .ok (.istore_n 3, 1) := by decide +kernel
theorem dX0_bestGroup_4 : decode cX0_bestGroup 4 = .ok (.iconst 1, 1) := by decide +kernel
theorem dX0_bestGroup_5 : decode cX0_bestGroup 5 = .ok (.istore 4, 2) := by decide +kernel
theorem dX0_bestGroup_7 : decode cX0_bestGroup 7 = .ok (.iload 4, 2) := by decide +kernel
theorem dX0_bestGroup_9 : decode cX0_bestGroup 9 = .ok (.sipush 256, 3) := by decide +kernel
theorem dX0_bestGroup_12 : decode cX0_bestGroup 12 = .ok (.if_icmp .ge 38, 3) := by decide +kernel
theorem dX0_bestGroup_15 : decode cX0_bestGroup 15 = .ok (.iload 4, 2) := by decide +kernel
theorem dX0_bestGroup_17 : decode cX0_bestGroup 17 = .ok (.invokestatic 29, 3) := by decide +kernel
theorem dX0_bestGroup_20 : decode cX0_bestGroup 20 = .ok (.iload_n 1, 1) := by decide +kernel
theorem dX0_bestGroup_21 : decode cX0_bestGroup 21 = .ok (.if_icmp .ne 23, 3) := by decide +kernel
theorem dX0_bestGroup_24 : decode cX0_bestGroup 24 = .ok (.aload_n 0, 1) := by decide +kernel
theorem dX0_bestGroup_25 : decode cX0_bestGroup 25 = .ok (.iload 4, 2) := by decide +kernel
theorem dX0_bestGroup_27 : decode cX0_bestGroup 27 = .ok (.invokevirtual 34, 3) := by decide +kernel
theorem dX0_bestGroup_30 : decode cX0_bestGroup 30 = .ok (.iload_n 3, 1) := by decide +kernel
theorem dX0_bestGroup_31 : decode cX0_bestGroup 31 = .ok (.if_icmp .le 13, 3) := by decide +kernel
theorem dX0_bestGroup_34 : decode cX0_bestGroup 34 = .ok (.iload 4, 2) := by decide +kernel
theorem dX0_bestGroup_36 : decode cX0_bestGroup 36 = .ok (.istore_n 2, 1) := by decide +kernel
theorem dX0_bestGroup_37 : decode cX0_bestGroup 37 = .ok (.aload_n 0, 1) := by decide +kernel
theorem dX0_bestGroup_38 : decode cX0_bestGroup 38 = .ok (.iload 4, 2) := by decide +kernel
theorem dX0_bestGroup_40 : decode cX0_bestGroup 40 = .ok (.invokevirtual 34, 3) := by decide +kernel
theorem dX0_bestGroup_43 : decode cX0_bestGroup 43 = .ok (.istore_n 3, 1) := by decide +kernel
theorem dX0_bestGroup_44 : decode cX0_bestGroup 44 = .ok (.iinc 4 1, 3) := by decide +kernel
theorem dX0_bestGroup_47 : decode cX0_bestGroup 47 = .ok (.goto (-40), 3) := by decide +kernel
theorem dX0_bestGroup_50 : decode cX0_bestGroup 50 = .ok (.iload_n 2, 1) := by decide +kernel
theorem dX0_bestGroup_51 : decode cX0_bestGroup 51 = .ok (.ireturn, 1) := by decide +kernel
set_option maxRecDepth 20000 in
theorem ggX0_friendshipsOf_X0_friendsOf : GoodIn wsX0_friendshipsOf wsX0_friendsOf := goodIn_r _ [6, 1, 7, 8, 9, 10, 11, 12, 13, 14] (by decide +kernel) (by decide +kernel)
set_option maxRecDepth 20000 in
theorem gX0_friendshipsOf_X0_friendsOf : GoodIn wsX0_friendshipsOf (wsV RX0 15 RX0 yX0_friendsOf wsX0_friendsOf) := goodIn_app (goodIn_of _ (by decide +kernel)) ggX0_friendshipsOf_X0_friendsOf
set_option maxRecDepth 20000 in
theorem ggX0_friendshipsOf_J6_bitCount_0f7a4 : GoodIn wsX0_friendshipsOf wsJ6_bitCount_0f7a4 := goodIn_r _ [10, 11, 12, 13] (by decide +kernel) (by decide +kernel)
set_option maxRecDepth 20000 in
theorem gX0_friendshipsOf_J6_bitCount_0f7a4 : GoodIn wsX0_friendshipsOf (va_wsS RX0 29 yJ6_bitCount_0f7a4 wsJ6_bitCount_0f7a4) := goodIn_app (goodIn_of _ (by decide +kernel)) ggX0_friendshipsOf_J6_bitCount_0f7a4
theorem dX0_friendshipsOf_0 : decode cX0_friendshipsOf 0 = .ok (.iconst 0, 1) := by decide +kernel
theorem dX0_friendshipsOf_1 : decode cX0_friendshipsOf 1 = .ok (.istore_n 2, 1) := by decide +kernel
theorem dX0_friendshipsOf_2 : decode cX0_friendshipsOf 2 = .ok (.iconst 0, 1) := by decide +kernel
theorem dX0_friendshipsOf_3 : decode cX0_friendshipsOf 3 = .ok (.istore_n 3, 1) := by decide +kernel
theorem dX0_friendshipsOf_4 : decode cX0_friendshipsOf 4 = .ok (.iload_n 3, 1) := by decide +kernel
theorem dX0_friendshipsOf_5 : decode cX0_friendshipsOf 5 = .ok (.bipush 8, 2) := by decide +kernel
theorem dX0_friendshipsOf_7 : decode cX0_friendshipsOf 7 = .ok (.if_icmp .ge 39, 3) := by decide +kernel
theorem dX0_friendshipsOf_10 : decode cX0_friendshipsOf 10 = .ok (.iload_n 1, 1) := by decide +kernel
theorem dX0_friendshipsOf_11 : decode cX0_friendshipsOf 11 = .ok (.iload_n 3, 1) := by decide +kernel
theorem dX0_friendshipsOf_12 : decode cX0_friendshipsOf 12 = .ok (.iushr, 1) := by decide +kernel
theorem dX0_friendshipsOf_13 : decode cX0_friendshipsOf 13 = .ok (.iconst 1, 1) := by decide +kernel
theorem dX0_friendshipsOf_14 : decode cX0_friendshipsOf 14 = .ok (.iand, 1) := by decide +kernel
theorem dX0_friendshipsOf_15 : decode cX0_friendshipsOf 15 = .ok (.ifCond .eq 25, 3) := by decide +kernel
theorem dX0_friendshipsOf_18 : decode cX0_friendshipsOf 18 = .ok (.iload_n 2, 1) := by decide +kernel
theorem dX0_friendshipsOf_19 : decode cX0_friendshipsOf 19 = .ok (.iconst 2, 1) := by decide +kernel
theorem dX0_friendshipsOf_20 : decode cX0_friendshipsOf 20 = .ok (.aload_n 0, 1) := by decide +kernel
theorem dX0_friendshipsOf_21 : decode cX0_friendshipsOf 21 = .ok (.iload_n 3, 1) := by decide +kernel
theorem dX0_friendshipsOf_22 : decode cX0_friendshipsOf 22 = .ok (.invokevirtual 15, 3) := by decide +kernel
theorem dX0_friendshipsOf_25 : decode cX0_friendshipsOf 25 = .ok (.imul, 1) := by decide +kernel
theorem dX0_friendshipsOf_26 : decode cX0_friendshipsOf 26 = .ok (.aload_n 0, 1) := by decide +kernel
theorem dX0_friendshipsOf_27 : decode cX0_friendshipsOf 27 = .ok (.getfield 11, 3) := by decide +kernel
theorem dX0_friendshipsOf_30 : decode cX0_friendshipsOf 30 = .ok (.iload_n 3, 1) := by decide +kernel
theorem dX0_friendshipsOf_31 : decode cX0_friendshipsOf 31 = .ok (.iaload, 1) := by decide +kernel
theorem dX0_friendshipsOf_32 : decode cX0_friendshipsOf 32 = .ok (.iload_n 1, 1) := by decide +kernel
theorem dX0_friendshipsOf_33 : decode cX0_friendshipsOf 33 = .ok (.iand, 1) := by decide +kernel
theorem dX0_friendshipsOf_34 : decode cX0_friendshipsOf 34 = .ok (.invokestatic 29, 3) := by decide +kernel
theorem dX0_friendshipsOf_37 : decode cX0_friendshipsOf 37 = .ok (.isub, 1) := by decide +kernel
theorem dX0_friendshipsOf_38 : decode cX0_friendshipsOf 38 = .ok (.iadd, 1) := by decide +kernel
theorem dX0_friendshipsOf_39 : decode cX0_friendshipsOf 39 = .ok (.istore_n 2, 1) := by decide +kernel
theorem dX0_friendshipsOf_40 : decode cX0_friendshipsOf 40 = .ok (.iinc 3 1, 3) := by decide +kernel
theorem dX0_friendshipsOf_43 : decode cX0_friendshipsOf 43 = .ok (.goto (-39), 3) := by decide +kernel
theorem dX0_friendshipsOf_46 : decode cX0_friendshipsOf 46 = .ok (.iload_n 2, 1) := by decide +kernel
theorem dX0_friendshipsOf_47 : decode cX0_friendshipsOf 47 = .ok (.iconst 2, 1) := by decide +kernel
theorem dX0_friendshipsOf_48 : decode cX0_friendshipsOf 48 = .ok (.idiv, 1) := by decide +kernel
theorem dX0_friendshipsOf_49 : decode cX0_friendshipsOf 49 = .ok (.ireturn, 1) := by decide +kernel
set_option maxRecDepth 20000 in
theorem ggX0_friendsOfHers_X0_isFriend : GoodIn wsX0_friendsOfHers wsX0_isFriend := goodIn_r _ [5, 6, 18] (by decide +kernel) (by decide +kernel)
set_option maxRecDepth 20000 in
theorem gX0_friendsOfHers_X0_isFriend : GoodIn wsX0_friendsOfHers (wsV RX0 25 RX0 yX0_isFriend wsX0_isFriend) := goodIn_app (goodIn_of _ (by decide +kernel)) ggX0_friendsOfHers_X0_isFriend
set_option maxRecDepth 20000 in
theorem ggX0_friendsOfHers_X0_friendsOf : GoodIn wsX0_friendsOfHers wsX0_friendsOf := goodIn_r _ [10, 6, 11, 12, 13, 14, 15, 16, 17, 18] (by decide +kernel) (by decide +kernel)
set_option maxRecDepth 20000 in
theorem gX0_friendsOfHers_X0_friendsOf : GoodIn wsX0_friendsOfHers (wsV RX0 15 RX0 yX0_friendsOf wsX0_friendsOf) := goodIn_app (goodIn_of _ (by decide +kernel)) ggX0_friendsOfHers_X0_friendsOf
theorem dX0_friendsOfHers_0 : decode cX0_friendsOfHers 0 = .ok (.iconst 0, 1) := by decide +kernel
theorem dX0_friendsOfHers_1 : decode cX0_friendsOfHers 1 = .ok (.istore_n 2, 1) := by decide +kernel
theorem dX0_friendsOfHers_2 : decode cX0_friendsOfHers 2 = .ok (.iconst 0, 1) := by decide +kernel
theorem dX0_friendsOfHers_3 : decode cX0_friendsOfHers 3 = .ok (.istore_n 3, 1) := by decide +kernel
theorem dX0_friendsOfHers_4 : decode cX0_friendsOfHers 4 = .ok (.iload_n 3, 1) := by decide +kernel
theorem dX0_friendsOfHers_5 : decode cX0_friendsOfHers 5 = .ok (.bipush 8, 2) := by decide +kernel
theorem dX0_friendsOfHers_7 : decode cX0_friendsOfHers 7 = .ok (.if_icmp .ge 26, 3) := by decide +kernel
theorem dX0_friendsOfHers_10 : decode cX0_friendsOfHers 10 = .ok (.aload_n 0, 1) := by decide +kernel
theorem dX0_friendsOfHers_11 : decode cX0_friendsOfHers 11 = .ok (.iload_n 1, 1) := by decide +kernel
theorem dX0_friendsOfHers_12 : decode cX0_friendsOfHers 12 = .ok (.iload_n 3, 1) := by decide +kernel
theorem dX0_friendsOfHers_13 : decode cX0_friendsOfHers 13 = .ok (.invokevirtual 25, 3) := by decide +kernel
theorem dX0_friendsOfHers_16 : decode cX0_friendsOfHers 16 = .ok (.ifCond .eq 11, 3) := by decide +kernel
theorem dX0_friendsOfHers_19 : decode cX0_friendsOfHers 19 = .ok (.iload_n 2, 1) := by decide +kernel
theorem dX0_friendsOfHers_20 : decode cX0_friendsOfHers 20 = .ok (.aload_n 0, 1) := by decide +kernel
theorem dX0_friendsOfHers_21 : decode cX0_friendsOfHers 21 = .ok (.iload_n 3, 1) := by decide +kernel
theorem dX0_friendsOfHers_22 : decode cX0_friendsOfHers 22 = .ok (.invokevirtual 15, 3) := by decide +kernel
theorem dX0_friendsOfHers_25 : decode cX0_friendsOfHers 25 = .ok (.iadd, 1) := by decide +kernel
theorem dX0_friendsOfHers_26 : decode cX0_friendsOfHers 26 = .ok (.istore_n 2, 1) := by decide +kernel
theorem dX0_friendsOfHers_27 : decode cX0_friendsOfHers 27 = .ok (.iinc 3 1, 3) := by decide +kernel
theorem dX0_friendsOfHers_30 : decode cX0_friendsOfHers 30 = .ok (.goto (-26), 3) := by decide +kernel
theorem dX0_friendsOfHers_33 : decode cX0_friendsOfHers 33 = .ok (.iload_n 2, 1) := by decide +kernel
theorem dX0_friendsOfHers_34 : decode cX0_friendsOfHers 34 = .ok (.ireturn, 1) := by decide +kernel
set_option maxRecDepth 20000 in
theorem ggX0_friendsOf_J6_bitCount_0f7a4 : GoodIn wsX0_friendsOf wsJ6_bitCount_0f7a4 := goodIn_r _ [5, 6, 7, 8] (by decide +kernel) (by decide +kernel)
set_option maxRecDepth 20000 in
theorem gX0_friendsOf_J6_bitCount_0f7a4 : GoodIn wsX0_friendsOf (va_wsS RX0 29 yJ6_bitCount_0f7a4 wsJ6_bitCount_0f7a4) := goodIn_app (goodIn_of _ (by decide +kernel)) ggX0_friendsOf_J6_bitCount_0f7a4
theorem dX0_friendsOf_0 : decode cX0_friendsOf 0 = .ok (.aload_n 0, 1) := by decide +kernel
theorem dX0_friendsOf_1 : decode cX0_friendsOf 1 = .ok (.getfield 11, 3) := by decide +kernel
theorem dX0_friendsOf_4 : decode cX0_friendsOf 4 = .ok (.iload_n 1, 1) := by decide +kernel
theorem dX0_friendsOf_5 : decode cX0_friendsOf 5 = .ok (.iaload, 1) := by decide +kernel
theorem dX0_friendsOf_6 : decode cX0_friendsOf 6 = .ok (.invokestatic 29, 3) := by decide +kernel
theorem dX0_friendsOf_9 : decode cX0_friendsOf 9 = .ok (.ireturn, 1) := by decide +kernel
theorem dX0_isFriend_0 : decode cX0_isFriend 0 = .ok (.aload_n 0, 1) := by decide +kernel
theorem dX0_isFriend_1 : decode cX0_isFriend 1 = .ok (.getfield 11, 3) := by decide +kernel
theorem dX0_isFriend_4 : decode cX0_isFriend 4 = .ok (.iload_n 1, 1) := by decide +kernel
theorem dX0_isFriend_5 : decode cX0_isFriend 5 = .ok (.iaload, 1) := by decide +kernel
theorem dX0_isFriend_6 : decode cX0_isFriend 6 = .ok (.iload_n 2, 1) := by decide +kernel
theorem dX0_isFriend_7 : decode cX0_isFriend 7 = .ok (.iushr, 1) := by decide +kernel
theorem dX0_isFriend_8 : decode cX0_isFriend 8 = .ok (.iconst 1, 1) := by decide +kernel
theorem dX0_isFriend_9 : decode cX0_isFriend 9 = .ok (.iand, 1) := by decide +kernel
theorem dX0_isFriend_10 : decode cX0_isFriend 10 = .ok (.ifCond .eq 7, 3) := by decide +kernel
theorem dX0_isFriend_13 : decode cX0_isFriend 13 = .ok (.iconst 1, 1) := by decide +kernel
theorem dX0_isFriend_14 : decode cX0_isFriend 14 = .ok (.goto 4, 3) := by decide +kernel
theorem dX0_isFriend_17 : decode cX0_isFriend 17 = .ok (.iconst 0, 1) := by decide +kernel
theorem dX0_isFriend_18 : decode cX0_isFriend 18 = .ok (.ireturn, 1) := by decide +kernel
theorem dX1_init_0 : decode cX1_init 0 = .ok (.aload_n 0, 1) := by decide +kernel
theorem dX1_init_1 : decode cX1_init 1 = .ok (.invokespecial 3, 3) := by decide +kernel
theorem dX1_init_4 : decode cX1_init 4 = .ok (.aload_n 0, 1) := by decide +kernel
theorem dX1_init_5 : decode cX1_init 5 = .ok (.iconst 4, 1) := by decide +kernel
theorem dX1_init_6 : decode cX1_init 6 = .ok (.bipush 9, 2) := by decide +kernel
theorem dX1_init_8 : decode cX1_init 8 = .ok (.multianewarray 9 2, 4) := by decide +kernel
theorem dX1_init_12 : decode cX1_init 12 = .ok (.putfield 11, 3) := by decide +kernel
theorem dX1_init_15 : decode cX1_init 15 = .ok (.return_, 1) := by decide +kernel
theorem dX1_setFamilies_0 : decode cX1_setFamilies 0 = .ok (.aload_n 0, 1) := by decide +kernel
theorem dX1_setFamilies_1 : decode cX1_setFamilies 1 = .ok (.getfield 11, 3) := by decide +kernel
theorem dX1_setFamilies_4 : decode cX1_setFamilies 4 = .ok (.iload_n 1, 1) := by decide +kernel
theorem dX1_setFamilies_5 : decode cX1_setFamilies 5 = .ok (.aaload, 1) := by decide +kernel
theorem dX1_setFamilies_6 : decode cX1_setFamilies 6 = .ok (.iload_n 2, 1) := by decide +kernel
theorem dX1_setFamilies_7 : decode cX1_setFamilies 7 = .ok (.iaload, 1) := by decide +kernel
theorem dX1_setFamilies_8 : decode cX1_setFamilies 8 = .ok (.istore 4, 2) := by decide +kernel
theorem dX1_setFamilies_10 : decode cX1_setFamilies 10 = .ok (.aload_n 0, 1) := by decide +kernel
theorem dX1_setFamilies_11 : decode cX1_setFamilies 11 = .ok (.getfield 11, 3) := by decide +kernel
theorem dX1_setFamilies_14 : decode cX1_setFamilies 14 = .ok (.iload_n 1, 1) := by decide +kernel
theorem dX1_setFamilies_15 : decode cX1_setFamilies 15 = .ok (.aaload, 1) := by decide +kernel
theorem dX1_setFamilies_16 : decode cX1_setFamilies 16 = .ok (.iload_n 2, 1) := by decide +kernel
theorem dX1_setFamilies_17 : decode cX1_setFamilies 17 = .ok (.iload_n 3, 1) := by decide +kernel
theorem dX1_setFamilies_18 : decode cX1_setFamilies 18 = .ok (.iastore, 1) := by decide +kernel
theorem dX1_setFamilies_19 : decode cX1_setFamilies 19 = .ok (.iload 4, 2) := by decide +kernel
theorem dX1_setFamilies_21 : decode cX1_setFamilies 21 = .ok (.ireturn, 1) := by decide +kernel
set_option maxRecDepth 20000 in
theorem ggX1_hasFewer_X1_childrenOf : GoodIn wsX1_hasFewer wsX1_childrenOf := goodIn_r _ [5, 6, 20] (by decide +kernel) (by decide +kernel)
set_option maxRecDepth 20000 in
theorem gX1_hasFewer_X1_childrenOf : GoodIn wsX1_hasFewer (wsV RX1 16 RX1 yX1_childrenOf wsX1_childrenOf) := goodIn_app (goodIn_of _ (by decide +kernel)) ggX1_hasFewer_X1_childrenOf
set_option maxRecDepth 20000 in
theorem ggX1_hasFewer_X7_counting : GoodIn wsX1_hasFewer wsX7_counting := goodIn_r _ [11, 12, 13, 14, 15, 10, 16, 17, 18, 19, 21, 22, 23, 24, 25, 26] (by decide +kernel) (by decide +kernel)
set_option maxRecDepth 20000 in
theorem gX1_hasFewer_X7_counting : GoodIn wsX1_hasFewer (wsV RX1 20 RX7 yX7_counting wsX7_counting) := goodIn_app (goodIn_of _ (by decide +kernel)) ggX1_hasFewer_X7_counting
theorem dX1_hasFewer_0 : decode cX1_hasFewer 0 = .ok (.aload_n 0, 1) := by decide +kernel
theorem dX1_hasFewer_1 : decode cX1_hasFewer 1 = .ok (.iload_n 1, 1) := by decide +kernel
theorem dX1_hasFewer_2 : decode cX1_hasFewer 2 = .ok (.invokevirtual 16, 3) := by decide +kernel
theorem dX1_hasFewer_5 : decode cX1_hasFewer 5 = .ok (.aload_n 2, 1) := by decide +kernel
theorem dX1_hasFewer_6 : decode cX1_hasFewer 6 = .ok (.invokevirtual 20, 3) := by decide +kernel
theorem dX1_hasFewer_9 : decode cX1_hasFewer 9 = .ok (.if_icmp .ge 7, 3) := by decide +kernel
theorem dX1_hasFewer_12 : decode cX1_hasFewer 12 = .ok (.iconst 1, 1) := by decide +kernel
theorem dX1_hasFewer_13 : decode cX1_hasFewer 13 = .ok (.goto 4, 3) := by decide +kernel
theorem dX1_hasFewer_16 : decode cX1_hasFewer 16 = .ok (.iconst 0, 1) := by decide +kernel
theorem dX1_hasFewer_17 : decode cX1_hasFewer 17 = .ok (.ireturn, 1) := by decide +kernel
set_option maxRecDepth 20000 in
theorem ggX1_choices_X1_childrenOf : GoodIn wsX1_choices wsX1_childrenOf := goodIn_r _ [5, 6, 23] (by decide +kernel) (by decide +kernel)
set_option maxRecDepth 20000 in
theorem gX1_choices_X1_childrenOf : GoodIn wsX1_choices (wsV RX1 16 RX1 yX1_childrenOf wsX1_childrenOf) := goodIn_app (goodIn_of _ (by decide +kernel)) ggX1_choices_X1_childrenOf
set_option maxRecDepth 20000 in
theorem ggX1_choices_X7_counting : GoodIn wsX1_choices wsX7_counting := goodIn_r _ [11, 12, 13, 14, 15, 10, 16, 17, 18, 19, 24, 25, 26, 27, 28, 29] (by decide +kernel) (by decide +kernel)
set_option maxRecDepth 20000 in
theorem gX1_choices_X7_counting : GoodIn wsX1_choices (wsV RX1 20 RX7 yX7_counting wsX7_counting) := goodIn_app (goodIn_of _ (by decide +kernel)) ggX1_choices_X7_counting
set_option maxRecDepth 20000 in
theorem ggX1_choices_X1_choose : GoodIn wsX1_choices wsX1_choose := goodIn_r _ [22] (by decide +kernel) (by decide +kernel)
set_option maxRecDepth 20000 in
theorem gX1_choices_X1_choose : GoodIn wsX1_choices (va_wsS RX1 26 yX1_choose wsX1_choose) := goodIn_app (goodIn_of _ (by decide +kernel)) ggX1_choices_X1_choose
theorem dX1_choices_0 : decode cX1_choices 0 = .ok (.aload_n 0, 1) := by decide +kernel
theorem dX1_choices_1 : decode cX1_choices 1 = .ok (.iload_n 1, 1) := by decide +kernel
theorem dX1_choices_2 : decode cX1_choices 2 = .ok (.invokevirtual 16, 3) := by decide +kernel
theorem dX1_choices_5 : decode cX1_choices 5 = .ok (.aload_n 2, 1) := by decide +kernel
theorem dX1_choices_6 : decode cX1_choices 6 = .ok (.invokevirtual 20, 3) := by decide +kernel
theorem dX1_choices_9 : decode cX1_choices 9 = .ok (.invokestatic 26, 3) := by decide +kernel
theorem dX1_choices_12 : decode cX1_choices 12 = .ok (.lreturn, 1) := by decide +kernel
set_option maxRecDepth 20000 in
theorem ggX1_choicesThatFit_X7_saying : GoodIn wsX1_choicesThatFit wsX7_saying := goodIn_r _ [6, 7, 8, 9, 10, 11, 5, 12, 13, 14, 15, 21, 22, 23, 24, 25, 26] (by decide +kernel) (by decide +kernel)
set_option maxRecDepth 20000 in
theorem gX1_choicesThatFit_X7_saying : GoodIn wsX1_choicesThatFit (wsV RX1 30 RX7 yX7_saying wsX7_saying) := goodIn_app (goodIn_of _ (by decide +kernel)) ggX1_choicesThatFit_X7_saying
set_option maxRecDepth 20000 in
theorem ggX1_choicesThatFit_X1_choose : GoodIn wsX1_choicesThatFit wsX1_choose := goodIn_r _ [19] (by decide +kernel) (by decide +kernel)
set_option maxRecDepth 20000 in
theorem gX1_choicesThatFit_X1_choose : GoodIn wsX1_choicesThatFit (va_wsS RX1 26 yX1_choose wsX1_choose) := goodIn_app (goodIn_of _ (by decide +kernel)) ggX1_choicesThatFit_X1_choose
theorem dX1_choicesThatFit_0 : decode cX1_choicesThatFit 0 = .ok (.lconst 1, 1) := by decide +kernel
theorem dX1_choicesThatFit_1 : decode cX1_choicesThatFit 1 = .ok (.lstore_n 3, 1) := by decide +kernel
theorem dX1_choicesThatFit_2 : decode cX1_choicesThatFit 2 = .ok (.iconst 1, 1) := by decide +kernel
theorem dX1_choicesThatFit_3 : decode cX1_choicesThatFit 3 = .ok (.istore 5, 2) := by decide +kernel
theorem dX1_choicesThatFit_5 : decode cX1_choicesThatFit 5 = .ok (.iload 5, 2) := by decide +kernel
theorem dX1_choicesThatFit_7 : decode cX1_choicesThatFit 7 = .ok (.bipush 8, 2) := by decide +kernel
theorem dX1_choicesThatFit_9 : decode cX1_choicesThatFit 9 = .ok (.if_icmp .gt 33, 3) := by decide +kernel
theorem dX1_choicesThatFit_12 : decode cX1_choicesThatFit 12 = .ok (.lload_n 3, 1) := by decide +kernel
theorem dX1_choicesThatFit_13 : decode cX1_choicesThatFit 13 = .ok (.iload 5, 2) := by decide +kernel
theorem dX1_choicesThatFit_15 : decode cX1_choicesThatFit 15 = .ok (.aload_n 0, 1) := by decide +kernel
theorem dX1_choicesThatFit_16 : decode cX1_choicesThatFit 16 = .ok (.getfield 11, 3) := by decide +kernel
theorem dX1_choicesThatFit_19 : decode cX1_choicesThatFit 19 = .ok (.iload_n 1, 1) := by decide +kernel
theorem dX1_choicesThatFit_20 : decode cX1_choicesThatFit 20 = .ok (.aaload, 1) := by decide +kernel
theorem dX1_choicesThatFit_21 : decode cX1_choicesThatFit 21 = .ok (.iload 5, 2) := by decide +kernel
theorem dX1_choicesThatFit_23 : decode cX1_choicesThatFit 23 = .ok (.iaload, 1) := by decide +kernel
theorem dX1_choicesThatFit_24 : decode cX1_choicesThatFit 24 = .ok (.imul, 1) := by decide +kernel
theorem dX1_choicesThatFit_25 : decode cX1_choicesThatFit 25 = .ok (.aload_n 2, 1) := by decide +kernel
theorem dX1_choicesThatFit_26 : decode cX1_choicesThatFit 26 = .ok (.iload 5, 2) := by decide +kernel
theorem dX1_choicesThatFit_28 : decode cX1_choicesThatFit 28 = .ok (.invokevirtual 30, 3) := by decide +kernel
theorem dX1_choicesThatFit_31 : decode cX1_choicesThatFit 31 = .ok (.invokestatic 26, 3) := by decide +kernel
theorem dX1_choicesThatFit_34 : decode cX1_choicesThatFit 34 = .ok (.lmul, 1) := by decide +kernel
theorem dX1_choicesThatFit_35 : decode cX1_choicesThatFit 35 = .ok (.lstore_n 3, 1) := by decide +kernel
theorem dX1_choicesThatFit_36 : decode cX1_choicesThatFit 36 = .ok (.iinc 5 1, 3) := by decide +kernel
theorem dX1_choicesThatFit_39 : decode cX1_choicesThatFit 39 = .ok (.goto (-34), 3) := by decide +kernel
theorem dX1_choicesThatFit_42 : decode cX1_choicesThatFit 42 = .ok (.lload_n 3, 1) := by decide +kernel
theorem dX1_choicesThatFit_43 : decode cX1_choicesThatFit 43 = .ok (.lreturn, 1) := by decide +kernel
set_option maxRecDepth 20000 in
theorem ggX1_likeliestTown_X1_hasFewer : GoodIn wsX1_likeliestTown wsX1_hasFewer := goodIn_r _ [5, 6, 7, 8, 4, 9, 10, 11, 12, 13, 14, 15, 16, 17, 18, 19, 20, 21, 22, 23, 44, 45, 46, 47, 48, 49, 50] (by decide +kernel) (by decide +kernel)
set_option maxRecDepth 20000 in
theorem gX1_likeliestTown_X1_hasFewer : GoodIn wsX1_likeliestTown (wsV RX1 33 RX1 yX1_hasFewer wsX1_hasFewer) := goodIn_app (goodIn_of _ (by decide +kernel)) ggX1_likeliestTown_X1_hasFewer
set_option maxRecDepth 20000 in
theorem ggX1_likeliestTown_X1_choicesThatFit : GoodIn wsX1_likeliestTown wsX1_choicesThatFit := goodIn_r _ [27, 10, 28, 29, 30, 14, 31, 16, 32, 17, 18, 19, 20, 21, 22, 23, 33, 34, 4, 35, 44, 45, 46, 47, 48, 49, 50] (by decide +kernel) (by decide +kernel)
set_option maxRecDepth 20000 in
theorem gX1_likeliestTown_X1_choicesThatFit : GoodIn wsX1_likeliestTown (wsV RX1 37 RX1 yX1_choicesThatFit wsX1_choicesThatFit) := goodIn_app (goodIn_of _ (by decide +kernel)) ggX1_likeliestTown_X1_choicesThatFit
set_option maxRecDepth 20000 in
theorem ggX1_likeliestTown_X1_choices : GoodIn wsX1_likeliestTown wsX1_choices := goodIn_r _ [39, 6, 7, 8, 4, 9, 10, 11, 12, 13, 14, 15, 16, 17, 18, 19, 20, 21, 22, 23, 33, 34, 35, 44, 45, 46, 47, 48, 49, 50] (by decide +kernel) (by decide +kernel)
set_option maxRecDepth 20000 in
theorem gX1_likeliestTown_X1_choices : GoodIn wsX1_likeliestTown (wsV RX1 41 RX1 yX1_choices wsX1_choices) := goodIn_app (goodIn_of _ (by decide +kernel)) ggX1_likeliestTown_X1_choices
set_option maxRecDepth 20000 in
theorem ggX1_likeliestTown_X2_isMore : GoodIn wsX1_likeliestTown wsX2_isMore := goodIn_r _ [43] (by decide +kernel) (by decide +kernel)
set_option maxRecDepth 20000 in
theorem gX1_likeliestTown_X2_isMore : GoodIn wsX1_likeliestTown (va_wsS RX1 44 yX2_isMore wsX2_isMore) := goodIn_app (goodIn_of _ (by decide +kernel)) ggX1_likeliestTown_X2_isMore
theorem dX1_likeliestTown_0 : decode cX1_likeliestTown 0 = .ok (.iconst (-1), 1) := by decide +kernel
theorem dX1_likeliestTown_1 : decode cX1_likeliestTown 1 = .ok (.istore_n 2, 1) := by decide +kernel
theorem dX1_likeliestTown_2 : decode cX1_likeliestTown 2 = .ok (.lconst 0, 1) := by decide +kernel
theorem dX1_likeliestTown_3 : decode cX1_likeliestTown 3 = .ok (.lstore_n 3, 1) := by decide +kernel
theorem dX1_likeliestTown_4 : decode cX1_likeliestTown 4 = .ok (.lconst 1, 1) := by decide +kernel
theorem dX1_likeliestTown_5 : decode cX1_likeliestTown 5 = .ok (.lstore 5, 2) := by decide +kernel
theorem dX1_likeliestTown_7 : decode cX1_likeliestTown 7 = .ok (.iconst 0, 1) := by decide +kernel
theorem dX1_likeliestTown_8 : decode cX1_likeliestTown 8 = .ok (.istore 7, 2) := by decide +kernel
theorem dX1_likeliestTown_10 : decode cX1_likeliestTown 10 = .ok (.iload 7, 2) := by decide +kernel
theorem dX1_likeliestTown_12 : decode cX1_likeliestTown 12 = .ok (.iconst 4, 1) := by decide +kernel
theorem dX1_likeliestTown_13 : decode cX1_likeliestTown 13 = .ok (.if_icmp .ge 63, 3) := by decide +kernel
theorem dX1_likeliestTown_16 : decode cX1_likeliestTown 16 = .ok (.aload_n 0, 1) := by decide +kernel
theorem dX1_likeliestTown_17 : decode cX1_likeliestTown 17 = .ok (.iload 7, 2) := by decide +kernel
theorem dX1_likeliestTown_19 : decode cX1_likeliestTown 19 = .ok (.aload_n 1, 1) := by decide +kernel
theorem dX1_likeliestTown_20 : decode cX1_likeliestTown 20 = .ok (.invokevirtual 33, 3) := by decide +kernel
theorem dX1_likeliestTown_23 : decode cX1_likeliestTown 23 = .ok (.ifCond .eq 6, 3) := by decide +kernel
theorem dX1_likeliestTown_26 : decode cX1_likeliestTown 26 = .ok (.goto 44, 3) := by decide +kernel
theorem dX1_likeliestTown_29 : decode cX1_likeliestTown 29 = .ok (.aload_n 0, 1) := by decide +kernel
theorem dX1_likeliestTown_30 : decode cX1_likeliestTown 30 = .ok (.iload 7, 2) := by decide +kernel
theorem dX1_likeliestTown_32 : decode cX1_likeliestTown 32 = .ok (.aload_n 1, 1) := by decide +kernel
theorem dX1_likeliestTown_33 : decode cX1_likeliestTown 33 = .ok (.invokevirtual 37, 3) := by decide +kernel
theorem dX1_likeliestTown_36 : decode cX1_likeliestTown 36 = .ok (.lstore 8, 2) := by decide +kernel
theorem dX1_likeliestTown_38 : decode cX1_likeliestTown 38 = .ok (.aload_n 0, 1) := by decide +kernel
theorem dX1_likeliestTown_39 : decode cX1_likeliestTown 39 = .ok (.iload 7, 2) := by decide +kernel
theorem dX1_likeliestTown_41 : decode cX1_likeliestTown 41 = .ok (.aload_n 1, 1) := by decide +kernel
theorem dX1_likeliestTown_42 : decode cX1_likeliestTown 42 = .ok (.invokevirtual 41, 3) := by decide +kernel
theorem dX1_likeliestTown_45 : decode cX1_likeliestTown 45 = .ok (.lstore 10, 2) := by decide +kernel
theorem dX1_likeliestTown_47 : decode cX1_likeliestTown 47 = .ok (.lload 8, 2) := by decide +kernel
theorem dX1_likeliestTown_49 : decode cX1_likeliestTown 49 = .ok (.lload 10, 2) := by decide +kernel
theorem dX1_likeliestTown_51 : decode cX1_likeliestTown 51 = .ok (.lload_n 3, 1) := by decide +kernel
theorem dX1_likeliestTown_52 : decode cX1_likeliestTown 52 = .ok (.lload 5, 2) := by decide +kernel
theorem dX1_likeliestTown_54 : decode cX1_likeliestTown 54 = .ok (.invokestatic 44, 3) := by decide +kernel
theorem dX1_likeliestTown_57 : decode cX1_likeliestTown 57 = .ok (.ifCond .eq 13, 3) := by decide +kernel
theorem dX1_likeliestTown_60 : decode cX1_likeliestTown 60 = .ok (.iload 7, 2) := by decide +kernel
theorem dX1_likeliestTown_62 : decode cX1_likeliestTown 62 = .ok (.istore_n 2, 1) := by decide +kernel
theorem dX1_likeliestTown_63 : decode cX1_likeliestTown 63 = .ok (.lload 8, 2) := by decide +kernel
theorem dX1_likeliestTown_65 : decode cX1_likeliestTown 65 = .ok (.lstore_n 3, 1) := by decide +kernel
theorem dX1_likeliestTown_66 : decode cX1_likeliestTown 66 = .ok (.lload 10, 2) := by decide +kernel
theorem dX1_likeliestTown_68 : decode cX1_likeliestTown 68 = .ok (.lstore 5, 2) := by decide +kernel
theorem dX1_likeliestTown_70 : decode cX1_likeliestTown 70 = .ok (.iinc 7 1, 3) := by decide +kernel
theorem dX1_likeliestTown_73 : decode cX1_likeliestTown 73 = .ok (.goto (-63), 3) := by decide +kernel
theorem dX1_likeliestTown_76 : decode cX1_likeliestTown 76 = .ok (.iload_n 2, 1) := by decide +kernel
theorem dX1_likeliestTown_77 : decode cX1_likeliestTown 77 = .ok (.ireturn, 1) := by decide +kernel
theorem dX1_childrenOf_0 : decode cX1_childrenOf 0 = .ok (.iconst 0, 1) := by decide +kernel
theorem dX1_childrenOf_1 : decode cX1_childrenOf 1 = .ok (.istore_n 2, 1) := by decide +kernel
theorem dX1_childrenOf_2 : decode cX1_childrenOf 2 = .ok (.iconst 1, 1) := by decide +kernel
theorem dX1_childrenOf_3 : decode cX1_childrenOf 3 = .ok (.istore_n 3, 1) := by decide +kernel
theorem dX1_childrenOf_4 : decode cX1_childrenOf 4 = .ok (.iload_n 3, 1) := by decide +kernel
theorem dX1_childrenOf_5 : decode cX1_childrenOf 5 = .ok (.bipush 8, 2) := by decide +kernel
theorem dX1_childrenOf_7 : decode cX1_childrenOf 7 = .ok (.if_icmp .gt 22, 3) := by decide +kernel
theorem dX1_childrenOf_10 : decode cX1_childrenOf 10 = .ok (.iload_n 2, 1) := by decide +kernel
theorem dX1_childrenOf_11 : decode cX1_childrenOf 11 = .ok (.iload_n 3, 1) := by decide +kernel
theorem dX1_childrenOf_12 : decode cX1_childrenOf 12 = .ok (.aload_n 0, 1) := by decide +kernel
theorem dX1_childrenOf_13 : decode cX1_childrenOf 13 = .ok (.getfield 11, 3) := by decide +kernel
theorem dX1_childrenOf_16 : decode cX1_childrenOf 16 = .ok (.iload_n 1, 1) := by decide +kernel
theorem dX1_childrenOf_17 : decode cX1_childrenOf 17 = .ok (.aaload, 1) := by decide +kernel
theorem dX1_childrenOf_18 : decode cX1_childrenOf 18 = .ok (.iload_n 3, 1) := by decide +kernel
theorem dX1_childrenOf_19 : decode cX1_childrenOf 19 = .ok (.iaload, 1) := by decide +kernel
theorem dX1_childrenOf_20 : decode cX1_childrenOf 20 = .ok (.imul, 1) := by decide +kernel
theorem dX1_childrenOf_21 : decode cX1_childrenOf 21 = .ok (.iadd, 1) := by decide +kernel
theorem dX1_childrenOf_22 : decode cX1_childrenOf 22 = .ok (.istore_n 2, 1) := by decide +kernel
theorem dX1_childrenOf_23 : decode cX1_childrenOf 23 = .ok (.iinc 3 1, 3) := by decide +kernel
theorem dX1_childrenOf_26 : decode cX1_childrenOf 26 = .ok (.goto (-22), 3) := by decide +kernel
theorem dX1_childrenOf_29 : decode cX1_childrenOf 29 = .ok (.iload_n 2, 1) := by decide +kernel
theorem dX1_childrenOf_30 : decode cX1_childrenOf 30 = .ok (.ireturn, 1) := by decide +kernel
theorem dX1_choose_0 : decode cX1_choose 0 = .ok (.iload_n 1, 1) := by decide +kernel
theorem dX1_choose_1 : decode cX1_choose 1 = .ok (.iload_n 0, 1) := by decide +kernel
theorem dX1_choose_2 : decode cX1_choose 2 = .ok (.if_icmp .le 5, 3) := by decide +kernel
theorem dX1_choose_5 : decode cX1_choose 5 = .ok (.lconst 0, 1) := by decide +kernel
theorem dX1_choose_6 : decode cX1_choose 6 = .ok (.lreturn, 1) := by decide +kernel
theorem dX1_choose_7 : decode cX1_choose 7 = .ok (.lconst 1, 1) := by decide +kernel
theorem dX1_choose_8 : decode cX1_choose 8 = .ok (.lstore_n 2, 1) := by decide +kernel
theorem dX1_choose_9 : decode cX1_choose 9 = .ok (.iconst 1, 1) := by decide +kernel
theorem dX1_choose_10 : decode cX1_choose 10 = .ok (.istore 4, 2) := by decide +kernel
theorem dX1_choose_12 : decode cX1_choose 12 = .ok (.iload 4, 2) := by decide +kernel
theorem dX1_choose_14 : decode cX1_choose 14 = .ok (.iload_n 1, 1) := by decide +kernel
theorem dX1_choose_15 : decode cX1_choose 15 = .ok (.if_icmp .gt 23, 3) := by decide +kernel
theorem dX1_choose_18 : decode cX1_choose 18 = .ok (.lload_n 2, 1) := by decide +kernel
theorem dX1_choose_19 : decode cX1_choose 19 = .ok (.iload_n 0, 1) := by decide +kernel
theorem dX1_choose_20 : decode cX1_choose 20 = .ok (.iload_n 1, 1) := by decide +kernel
theorem dX1_choose_21 : decode cX1_choose 21 = .ok (.isub, 1) := by decide +kernel
theorem dX1_choose_22 : decode cX1_choose 22 = .ok (.iload 4, 2) := by decide +kernel
theorem dX1_choose_24 : decode cX1_choose 24 = .ok (.iadd, 1) := by decide +kernel
theorem dX1_choose_25 : decode cX1_choose 25 = .ok (.i2l, 1) := by decide +kernel
theorem dX1_choose_26 : decode cX1_choose 26 = .ok (.lmul, 1) := by decide +kernel
theorem dX1_choose_27 : decode cX1_choose 27 = .ok (.iload 4, 2) := by decide +kernel
theorem dX1_choose_29 : decode cX1_choose 29 = .ok (.i2l, 1) := by decide +kernel
theorem dX1_choose_30 : decode cX1_choose 30 = .ok (.ldiv, 1) := by decide +kernel
theorem dX1_choose_31 : decode cX1_choose 31 = .ok (.lstore_n 2, 1) := by decide +kernel
theorem dX1_choose_32 : decode cX1_choose 32 = .ok (.iinc 4 1, 3) := by decide +kernel
theorem dX1_choose_35 : decode cX1_choose 35 = .ok (.goto (-23), 3) := by decide +kernel
theorem dX1_choose_38 : decode cX1_choose 38 = .ok (.lload_n 2, 1) := by decide +kernel
theorem dX1_choose_39 : decode cX1_choose 39 = .ok (.lreturn, 1) := by decide +kernel
theorem dX2_refused_0 : decode cX2_refused 0 = .ok (.ldc2_w 11, 3) := by decide +kernel
theorem dX2_refused_3 : decode cX2_refused 3 = .ok (.iload_n 0, 1) := by decide +kernel
theorem dX2_refused_4 : decode cX2_refused 4 = .ok (.i2l, 1) := by decide +kernel
theorem dX2_refused_5 : decode cX2_refused 5 = .ok (.lsub, 1) := by decide +kernel
theorem dX2_refused_6 : decode cX2_refused 6 = .ok (.lreturn, 1) := by decide +kernel
set_option maxRecDepth 20000 in
theorem ggX2_told_X2_commonOf : GoodIn wsX2_told wsX2_commonOf := goodIn_r _ [4] (by decide +kernel) (by decide +kernel)
set_option maxRecDepth 20000 in
theorem gX2_told_X2_commonOf : GoodIn wsX2_told (va_wsS RX2 13 yX2_commonOf wsX2_commonOf) := goodIn_app (goodIn_of _ (by decide +kernel)) ggX2_told_X2_commonOf
set_option maxRecDepth 20000 in
theorem ggX2_told_X2_refused : GoodIn wsX2_told wsX2_refused := goodIn_r _ [7, 8] (by decide +kernel) (by decide +kernel)
set_option maxRecDepth 20000 in
theorem gX2_told_X2_refused : GoodIn wsX2_told (va_wsS RX2 19 yX2_refused wsX2_refused) := goodIn_app (goodIn_of _ (by decide +kernel)) ggX2_told_X2_refused
theorem dX2_told_0 : decode cX2_told 0 = .ok (.lload_n 0, 1) := by decide +kernel
theorem dX2_told_1 : decode cX2_told 1 = .ok (.lload_n 2, 1) := by decide +kernel
theorem dX2_told_2 : decode cX2_told 2 = .ok (.invokestatic 13, 3) := by decide +kernel
theorem dX2_told_5 : decode cX2_told 5 = .ok (.lstore 5, 2) := by decide +kernel
theorem dX2_told_7 : decode cX2_told 7 = .ok (.lload_n 2, 1) := by decide +kernel
theorem dX2_told_8 : decode cX2_told 8 = .ok (.lconst 0, 1) := by decide +kernel
theorem dX2_told_9 : decode cX2_told 9 = .ok (.lcmp, 1) := by decide +kernel
theorem dX2_told_10 : decode cX2_told 10 = .ok (.ifCond .le 10, 3) := by decide +kernel
theorem dX2_told_13 : decode cX2_told 13 = .ok (.lload 5, 2) := by decide +kernel
theorem dX2_told_15 : decode cX2_told 15 = .ok (.lconst 0, 1) := by decide +kernel
theorem dX2_told_16 : decode cX2_told 16 = .ok (.lcmp, 1) := by decide +kernel
theorem dX2_told_17 : decode cX2_told 17 = .ok (.ifCond .gt 9, 3) := by decide +kernel
theorem dX2_told_20 : decode cX2_told 20 = .ok (.bipush (-3), 2) := by decide +kernel
theorem dX2_told_22 : decode cX2_told 22 = .ok (.invokestatic 19, 3) := by decide +kernel
theorem dX2_told_25 : decode cX2_told 25 = .ok (.lreturn, 1) := by decide +kernel
theorem dX2_told_26 : decode cX2_told 26 = .ok (.iload 4, 2) := by decide +kernel
theorem dX2_told_28 : decode cX2_told 28 = .ok (.ifCond .ne 10, 3) := by decide +kernel
theorem dX2_told_31 : decode cX2_told 31 = .ok (.lload_n 0, 1) := by decide +kernel
theorem dX2_told_32 : decode cX2_told 32 = .ok (.lload 5, 2) := by decide +kernel
theorem dX2_told_34 : decode cX2_told 34 = .ok (.ldiv, 1) := by decide +kernel
theorem dX2_told_35 : decode cX2_told 35 = .ok (.goto 7, 3) := by decide +kernel
theorem dX2_told_38 : decode cX2_told 38 = .ok (.lload_n 2, 1) := by decide +kernel
theorem dX2_told_39 : decode cX2_told 39 = .ok (.lload 5, 2) := by decide +kernel
theorem dX2_told_41 : decode cX2_told 41 = .ok (.ldiv, 1) := by decide +kernel
theorem dX2_told_42 : decode cX2_told 42 = .ok (.lreturn, 1) := by decide +kernel
theorem dX2_commonOf_0 : decode cX2_commonOf 0 = .ok (.lload_n 0, 1) := by decide +kernel
theorem dX2_commonOf_1 : decode cX2_commonOf 1 = .ok (.lstore 4, 2) := by decide +kernel
theorem dX2_commonOf_3 : decode cX2_commonOf 3 = .ok (.lload_n 2, 1) := by decide +kernel
theorem dX2_commonOf_4 : decode cX2_commonOf 4 = .ok (.lstore 6, 2) := by decide +kernel
theorem dX2_commonOf_6 : decode cX2_commonOf 6 = .ok (.iconst 0, 1) := by decide +kernel
theorem dX2_commonOf_7 : decode cX2_commonOf 7 = .ok (.istore 8, 2) := by decide +kernel
theorem dX2_commonOf_9 : decode cX2_commonOf 9 = .ok (.iload 8, 2) := by decide +kernel
theorem dX2_commonOf_11 : decode cX2_commonOf 11 = .ok (.sipush 200, 3) := by decide +kernel
theorem dX2_commonOf_14 : decode cX2_commonOf 14 = .ok (.if_icmp .ge 31, 3) := by decide +kernel
theorem dX2_commonOf_17 : decode cX2_commonOf 17 = .ok (.lload 6, 2) := by decide +kernel
theorem dX2_commonOf_19 : decode cX2_commonOf 19 = .ok (.lconst 0, 1) := by decide +kernel
theorem dX2_commonOf_20 : decode cX2_commonOf 20 = .ok (.lcmp, 1) := by decide +kernel
theorem dX2_commonOf_21 : decode cX2_commonOf 21 = .ok (.ifCond .eq 24, 3) := by decide +kernel
theorem dX2_commonOf_24 : decode cX2_commonOf 24 = .ok (.lload 4, 2) := by decide +kernel
theorem dX2_commonOf_26 : decode cX2_commonOf 26 = .ok (.lload 6, 2) := by decide +kernel
theorem dX2_commonOf_28 : decode cX2_commonOf 28 = .ok (.lrem, 1) := by decide +kernel
theorem dX2_commonOf_29 : decode cX2_commonOf 29 = .ok (.lstore 9, 2) := by decide +kernel
theorem dX2_commonOf_31 : decode cX2_commonOf 31 = .ok (.lload 6, 2) := by decide +kernel
theorem dX2_commonOf_33 : decode cX2_commonOf 33 = .ok (.lstore 4, 2) := by decide +kernel
theorem dX2_commonOf_35 : decode cX2_commonOf 35 = .ok (.lload 9, 2) := by decide +kernel
theorem dX2_commonOf_37 : decode cX2_commonOf 37 = .ok (.lstore 6, 2) := by decide +kernel
theorem dX2_commonOf_39 : decode cX2_commonOf 39 = .ok (.iinc 8 1, 3) := by decide +kernel
theorem dX2_commonOf_42 : decode cX2_commonOf 42 = .ok (.goto (-33), 3) := by decide +kernel
theorem dX2_commonOf_45 : decode cX2_commonOf 45 = .ok (.lload 4, 2) := by decide +kernel
theorem dX2_commonOf_47 : decode cX2_commonOf 47 = .ok (.lreturn, 1) := by decide +kernel
theorem dX2_isMore_0 : decode cX2_isMore 0 = .ok (.lload_n 0, 1) := by decide +kernel
theorem dX2_isMore_1 : decode cX2_isMore 1 = .ok (.lstore 8, 2) := by decide +kernel
theorem dX2_isMore_3 : decode cX2_isMore 3 = .ok (.lload_n 2, 1) := by decide +kernel
theorem dX2_isMore_4 : decode cX2_isMore 4 = .ok (.lstore 10, 2) := by decide +kernel
theorem dX2_isMore_6 : decode cX2_isMore 6 = .ok (.lload 4, 2) := by decide +kernel
theorem dX2_isMore_8 : decode cX2_isMore 8 = .ok (.lstore 12, 2) := by decide +kernel
theorem dX2_isMore_10 : decode cX2_isMore 10 = .ok (.lload 6, 2) := by decide +kernel
theorem dX2_isMore_12 : decode cX2_isMore 12 = .ok (.lstore 14, 2) := by decide +kernel
theorem dX2_isMore_14 : decode cX2_isMore 14 = .ok (.iconst 0, 1) := by decide +kernel
theorem dX2_isMore_15 : decode cX2_isMore 15 = .ok (.istore 16, 2) := by decide +kernel
theorem dX2_isMore_17 : decode cX2_isMore 17 = .ok (.iconst 0, 1) := by decide +kernel
theorem dX2_isMore_18 : decode cX2_isMore 18 = .ok (.istore 17, 2) := by decide +kernel
theorem dX2_isMore_20 : decode cX2_isMore 20 = .ok (.iload 17, 2) := by decide +kernel
theorem dX2_isMore_22 : decode cX2_isMore 22 = .ok (.sipush 200, 3) := by decide +kernel
theorem dX2_isMore_25 : decode cX2_isMore 25 = .ok (.if_icmp .ge 111, 3) := by decide +kernel
theorem dX2_isMore_28 : decode cX2_isMore 28 = .ok (.lload 10, 2) := by decide +kernel
theorem dX2_isMore_30 : decode cX2_isMore 30 = .ok (.lconst 0, 1) := by decide +kernel
theorem dX2_isMore_31 : decode cX2_isMore 31 = .ok (.lcmp, 1) := by decide +kernel
theorem dX2_isMore_32 : decode cX2_isMore 32 = .ok (.ifCond .le 104, 3) := by decide +kernel
theorem dX2_isMore_35 : decode cX2_isMore 35 = .ok (.lload 14, 2) := by decide +kernel
theorem dX2_isMore_37 : decode cX2_isMore 37 = .ok (.lconst 0, 1) := by decide +kernel
theorem dX2_isMore_38 : decode cX2_isMore 38 = .ok (.lcmp, 1) := by decide +kernel
theorem dX2_isMore_39 : decode cX2_isMore 39 = .ok (.ifCond .le 97, 3) := by decide +kernel
theorem dX2_isMore_42 : decode cX2_isMore 42 = .ok (.lload 8, 2) := by decide +kernel
theorem dX2_isMore_44 : decode cX2_isMore 44 = .ok (.lload 10, 2) := by decide +kernel
theorem dX2_isMore_46 : decode cX2_isMore 46 = .ok (.ldiv, 1) := by decide +kernel
theorem dX2_isMore_47 : decode cX2_isMore 47 = .ok (.lstore 18, 2) := by decide +kernel
theorem dX2_isMore_49 : decode cX2_isMore 49 = .ok (.lload 12, 2) := by decide +kernel
theorem dX2_isMore_51 : decode cX2_isMore 51 = .ok (.lload 14, 2) := by decide +kernel
theorem dX2_isMore_53 : decode cX2_isMore 53 = .ok (.ldiv, 1) := by decide +kernel
theorem dX2_isMore_54 : decode cX2_isMore 54 = .ok (.lstore 20, 2) := by decide +kernel
theorem dX2_isMore_56 : decode cX2_isMore 56 = .ok (.lload 18, 2) := by decide +kernel
theorem dX2_isMore_58 : decode cX2_isMore 58 = .ok (.lload 20, 2) := by decide +kernel
theorem dX2_isMore_60 : decode cX2_isMore 60 = .ok (.lcmp, 1) := by decide +kernel
theorem dX2_isMore_61 : decode cX2_isMore 61 = .ok (.ifCond .eq 27, 3) := by decide +kernel
theorem dX2_isMore_64 : decode cX2_isMore 64 = .ok (.lload 18, 2) := by decide +kernel
theorem dX2_isMore_66 : decode cX2_isMore 66 = .ok (.lload 20, 2) := by decide +kernel
theorem dX2_isMore_68 : decode cX2_isMore 68 = .ok (.lcmp, 1) := by decide +kernel
theorem dX2_isMore_69 : decode cX2_isMore 69 = .ok (.ifCond .le 7, 3) := by decide +kernel
theorem dX2_isMore_72 : decode cX2_isMore 72 = .ok (.iconst 1, 1) := by decide +kernel
theorem dX2_isMore_73 : decode cX2_isMore 73 = .ok (.goto 4, 3) := by decide +kernel
theorem dX2_isMore_76 : decode cX2_isMore 76 = .ok (.iconst 0, 1) := by decide +kernel
theorem dX2_isMore_77 : decode cX2_isMore 77 = .ok (.iload 16, 2) := by decide +kernel
theorem dX2_isMore_79 : decode cX2_isMore 79 = .ok (.if_icmp .eq 7, 3) := by decide +kernel
theorem dX2_isMore_82 : decode cX2_isMore 82 = .ok (.iconst 1, 1) := by decide +kernel
theorem dX2_isMore_83 : decode cX2_isMore 83 = .ok (.goto 4, 3) := by decide +kernel
theorem dX2_isMore_86 : decode cX2_isMore 86 = .ok (.iconst 0, 1) := by decide +kernel
theorem dX2_isMore_87 : decode cX2_isMore 87 = .ok (.ireturn, 1) := by decide +kernel
theorem dX2_isMore_88 : decode cX2_isMore 88 = .ok (.lload 8, 2) := by decide +kernel
theorem dX2_isMore_90 : decode cX2_isMore 90 = .ok (.lload 10, 2) := by decide +kernel
theorem dX2_isMore_92 : decode cX2_isMore 92 = .ok (.lrem, 1) := by decide +kernel
theorem dX2_isMore_93 : decode cX2_isMore 93 = .ok (.lstore 22, 2) := by decide +kernel
theorem dX2_isMore_95 : decode cX2_isMore 95 = .ok (.lload 12, 2) := by decide +kernel
theorem dX2_isMore_97 : decode cX2_isMore 97 = .ok (.lload 14, 2) := by decide +kernel
theorem dX2_isMore_99 : decode cX2_isMore 99 = .ok (.lrem, 1) := by decide +kernel
theorem dX2_isMore_100 : decode cX2_isMore 100 = .ok (.lstore 24, 2) := by decide +kernel
theorem dX2_isMore_102 : decode cX2_isMore 102 = .ok (.lload 10, 2) := by decide +kernel
theorem dX2_isMore_104 : decode cX2_isMore 104 = .ok (.lstore 8, 2) := by decide +kernel
theorem dX2_isMore_106 : decode cX2_isMore 106 = .ok (.lload 22, 2) := by decide +kernel
theorem dX2_isMore_108 : decode cX2_isMore 108 = .ok (.lstore 10, 2) := by decide +kernel
theorem dX2_isMore_110 : decode cX2_isMore 110 = .ok (.lload 14, 2) := by decide +kernel
theorem dX2_isMore_112 : decode cX2_isMore 112 = .ok (.lstore 12, 2) := by decide +kernel
theorem dX2_isMore_114 : decode cX2_isMore 114 = .ok (.lload 24, 2) := by decide +kernel
theorem dX2_isMore_116 : decode cX2_isMore 116 = .ok (.lstore 14, 2) := by decide +kernel
theorem dX2_isMore_118 : decode cX2_isMore 118 = .ok (.iload 16, 2) := by decide +kernel
theorem dX2_isMore_120 : decode cX2_isMore 120 = .ok (.ifCond .ne 7, 3) := by decide +kernel
theorem dX2_isMore_123 : decode cX2_isMore 123 = .ok (.iconst 1, 1) := by decide +kernel
theorem dX2_isMore_124 : decode cX2_isMore 124 = .ok (.goto 4, 3) := by decide +kernel
theorem dX2_isMore_127 : decode cX2_isMore 127 = .ok (.iconst 0, 1) := by decide +kernel
theorem dX2_isMore_128 : decode cX2_isMore 128 = .ok (.istore 16, 2) := by decide +kernel
theorem dX2_isMore_130 : decode cX2_isMore 130 = .ok (.iinc 17 1, 3) := by decide +kernel
theorem dX2_isMore_133 : decode cX2_isMore 133 = .ok (.goto (-113), 3) := by decide +kernel
theorem dX2_isMore_136 : decode cX2_isMore 136 = .ok (.lload 10, 2) := by decide +kernel
theorem dX2_isMore_138 : decode cX2_isMore 138 = .ok (.lload 14, 2) := by decide +kernel
theorem dX2_isMore_140 : decode cX2_isMore 140 = .ok (.lcmp, 1) := by decide +kernel
theorem dX2_isMore_141 : decode cX2_isMore 141 = .ok (.ifCond .ne 5, 3) := by decide +kernel
theorem dX2_isMore_144 : decode cX2_isMore 144 = .ok (.iconst 0, 1) := by decide +kernel
theorem dX2_isMore_145 : decode cX2_isMore 145 = .ok (.ireturn, 1) := by decide +kernel
theorem dX2_isMore_146 : decode cX2_isMore 146 = .ok (.lload 10, 2) := by decide +kernel
theorem dX2_isMore_148 : decode cX2_isMore 148 = .ok (.lconst 0, 1) := by decide +kernel
theorem dX2_isMore_149 : decode cX2_isMore 149 = .ok (.lcmp, 1) := by decide +kernel
theorem dX2_isMore_150 : decode cX2_isMore 150 = .ok (.ifCond .ne 7, 3) := by decide +kernel
theorem dX2_isMore_153 : decode cX2_isMore 153 = .ok (.iconst 1, 1) := by decide +kernel
theorem dX2_isMore_154 : decode cX2_isMore 154 = .ok (.goto 4, 3) := by decide +kernel
theorem dX2_isMore_157 : decode cX2_isMore 157 = .ok (.iconst 0, 1) := by decide +kernel
theorem dX2_isMore_158 : decode cX2_isMore 158 = .ok (.iload 16, 2) := by decide +kernel
theorem dX2_isMore_160 : decode cX2_isMore 160 = .ok (.if_icmp .eq 7, 3) := by decide +kernel
theorem dX2_isMore_163 : decode cX2_isMore 163 = .ok (.iconst 1, 1) := by decide +kernel
theorem dX2_isMore_164 : decode cX2_isMore 164 = .ok (.goto 4, 3) := by decide +kernel
theorem dX2_isMore_167 : decode cX2_isMore 167 = .ok (.iconst 0, 1) := by decide +kernel
theorem dX2_isMore_168 : decode cX2_isMore 168 = .ok (.ireturn, 1) := by decide +kernel
theorem dX3_init_0 : decode cX3_init 0 = .ok (.aload_n 0, 1) := by decide +kernel
theorem dX3_init_1 : decode cX3_init 1 = .ok (.invokespecial 3, 3) := by decide +kernel
theorem dX3_init_4 : decode cX3_init 4 = .ok (.aload_n 0, 1) := by decide +kernel
theorem dX3_init_5 : decode cX3_init 5 = .ok (.bipush 12, 2) := by decide +kernel
theorem dX3_init_7 : decode cX3_init 7 = .ok (.newarray .int, 2) := by decide +kernel
theorem dX3_init_9 : decode cX3_init 9 = .ok (.putfield 11, 3) := by decide +kernel
theorem dX3_init_12 : decode cX3_init 12 = .ok (.aload_n 0, 1) := by decide +kernel
theorem dX3_init_13 : decode cX3_init 13 = .ok (.bipush 12, 2) := by decide +kernel
theorem dX3_init_15 : decode cX3_init 15 = .ok (.newarray .int, 2) := by decide +kernel
theorem dX3_init_17 : decode cX3_init 17 = .ok (.putfield 15, 3) := by decide +kernel
theorem dX3_init_20 : decode cX3_init 20 = .ok (.aload_n 0, 1) := by decide +kernel
theorem dX3_init_21 : decode cX3_init 21 = .ok (.bipush 12, 2) := by decide +kernel
theorem dX3_init_23 : decode cX3_init 23 = .ok (.bipush 6, 2) := by decide +kernel
theorem dX3_init_25 : decode cX3_init 25 = .ok (.multianewarray 18 2, 4) := by decide +kernel
theorem dX3_init_29 : decode cX3_init 29 = .ok (.putfield 20, 3) := by decide +kernel
theorem dX3_init_32 : decode cX3_init 32 = .ok (.aload_n 0, 1) := by decide +kernel
theorem dX3_init_33 : decode cX3_init 33 = .ok (.iconst 0, 1) := by decide +kernel
theorem dX3_init_34 : decode cX3_init 34 = .ok (.putfield 23, 3) := by decide +kernel
theorem dX3_init_37 : decode cX3_init 37 = .ok (.aload_n 0, 1) := by decide +kernel
theorem dX3_init_38 : decode cX3_init 38 = .ok (.iconst 0, 1) := by decide +kernel
theorem dX3_init_39 : decode cX3_init 39 = .ok (.putfield 27, 3) := by decide +kernel
theorem dX3_init_42 : decode cX3_init 42 = .ok (.return_, 1) := by decide +kernel
set_option maxRecDepth 20000 in
theorem ggX3_settle_X3_takeBuses : GoodIn wsX3_settle wsX3_takeBuses := goodIn_r _ [7, 8, 9, 10, 11, 12, 13, 43, 44, 45, 46, 47] (by decide +kernel) (by decide +kernel)
set_option maxRecDepth 20000 in
theorem gX3_settle_X3_takeBuses : GoodIn wsX3_settle (wsV RX3 30 RX3 yX3_takeBuses wsX3_takeBuses) := goodIn_app (goodIn_of _ (by decide +kernel)) ggX3_settle_X3_takeBuses
set_option maxRecDepth 20000 in
theorem ggX3_settle_X3_leastWithFirst : GoodIn wsX3_settle wsX3_leastWithFirst := goodIn_r _ [17, 9, 8, 1, 18, 19, 20, 21, 6, 22, 2, 23, 24, 25, 26, 27, 28, 12, 29, 30, 31, 32, 33, 43, 44, 45, 46, 47] (by decide +kernel) (by decide +kernel)
set_option maxRecDepth 20000 in
theorem gX3_settle_X3_leastWithFirst : GoodIn wsX3_settle (wsV RX3 35 RX3 yX3_leastWithFirst wsX3_leastWithFirst) := goodIn_app (goodIn_of _ (by decide +kernel)) ggX3_settle_X3_leastWithFirst
set_option maxRecDepth 20000 in
theorem ggX3_settle_X3_chooseLater : GoodIn wsX3_settle wsX3_chooseLater := goodIn_r _ [37, 38, 8, 9, 18, 39, 40, 41, 6, 42, 1, 30, 31, 32, 33, 2, 27, 28, 12, 29, 43, 44, 45, 46, 47] (by decide +kernel) (by decide +kernel)
set_option maxRecDepth 20000 in
theorem gX3_settle_X3_chooseLater : GoodIn wsX3_settle (wsV RX3 39 RX3 yX3_chooseLater wsX3_chooseLater) := goodIn_app (goodIn_of _ (by decide +kernel)) ggX3_settle_X3_chooseLater
theorem dX3_settle_0 : decode cX3_settle 0 = .ok (.aload_n 0, 1) := by decide +kernel
theorem dX3_settle_1 : decode cX3_settle 1 = .ok (.lload_n 1, 1) := by decide +kernel
theorem dX3_settle_2 : decode cX3_settle 2 = .ok (.invokevirtual 30, 3) := by decide +kernel
theorem dX3_settle_5 : decode cX3_settle 5 = .ok (.aload_n 0, 1) := by decide +kernel
theorem dX3_settle_6 : decode cX3_settle 6 = .ok (.iload_n 3, 1) := by decide +kernel
theorem dX3_settle_7 : decode cX3_settle 7 = .ok (.putfield 27, 3) := by decide +kernel
theorem dX3_settle_10 : decode cX3_settle 10 = .ok (.ldc 34, 2) := by decide +kernel
theorem dX3_settle_12 : decode cX3_settle 12 = .ok (.istore 4, 2) := by decide +kernel
theorem dX3_settle_14 : decode cX3_settle 14 = .ok (.iconst 0, 1) := by decide +kernel
theorem dX3_settle_15 : decode cX3_settle 15 = .ok (.istore 5, 2) := by decide +kernel
theorem dX3_settle_17 : decode cX3_settle 17 = .ok (.iconst 0, 1) := by decide +kernel
theorem dX3_settle_18 : decode cX3_settle 18 = .ok (.istore 6, 2) := by decide +kernel
theorem dX3_settle_20 : decode cX3_settle 20 = .ok (.iload 6, 2) := by decide +kernel
theorem dX3_settle_22 : decode cX3_settle 22 = .ok (.aload_n 0, 1) := by decide +kernel
theorem dX3_settle_23 : decode cX3_settle 23 = .ok (.getfield 27, 3) := by decide +kernel
theorem dX3_settle_26 : decode cX3_settle 26 = .ok (.if_icmp .gt 32, 3) := by decide +kernel
theorem dX3_settle_29 : decode cX3_settle 29 = .ok (.aload_n 0, 1) := by decide +kernel
theorem dX3_settle_30 : decode cX3_settle 30 = .ok (.iload 6, 2) := by decide +kernel
theorem dX3_settle_32 : decode cX3_settle 32 = .ok (.invokevirtual 35, 3) := by decide +kernel
theorem dX3_settle_35 : decode cX3_settle 35 = .ok (.istore 7, 2) := by decide +kernel
theorem dX3_settle_37 : decode cX3_settle 37 = .ok (.iload 7, 2) := by decide +kernel
theorem dX3_settle_39 : decode cX3_settle 39 = .ok (.iload 4, 2) := by decide +kernel
theorem dX3_settle_41 : decode cX3_settle 41 = .ok (.if_icmp .ge 11, 3) := by decide +kernel
theorem dX3_settle_44 : decode cX3_settle 44 = .ok (.iload 7, 2) := by decide +kernel
theorem dX3_settle_46 : decode cX3_settle 46 = .ok (.istore 4, 2) := by decide +kernel
theorem dX3_settle_48 : decode cX3_settle 48 = .ok (.iload 6, 2) := by decide +kernel
theorem dX3_settle_50 : decode cX3_settle 50 = .ok (.istore 5, 2) := by decide +kernel
theorem dX3_settle_52 : decode cX3_settle 52 = .ok (.iinc 6 1, 3) := by decide +kernel
theorem dX3_settle_55 : decode cX3_settle 55 = .ok (.goto (-35), 3) := by decide +kernel
theorem dX3_settle_58 : decode cX3_settle 58 = .ok (.aload_n 0, 1) := by decide +kernel
theorem dX3_settle_59 : decode cX3_settle 59 = .ok (.iload 5, 2) := by decide +kernel
theorem dX3_settle_61 : decode cX3_settle 61 = .ok (.invokevirtual 35, 3) := by decide +kernel
theorem dX3_settle_64 : decode cX3_settle 64 = .ok (.pop, 1) := by decide +kernel
theorem dX3_settle_65 : decode cX3_settle 65 = .ok (.aload_n 0, 1) := by decide +kernel
theorem dX3_settle_66 : decode cX3_settle 66 = .ok (.iload 5, 2) := by decide +kernel
theorem dX3_settle_68 : decode cX3_settle 68 = .ok (.invokevirtual 39, 3) := by decide +kernel
theorem dX3_settle_71 : decode cX3_settle 71 = .ok (.iload 4, 2) := by decide +kernel
theorem dX3_settle_73 : decode cX3_settle 73 = .ok (.ireturn, 1) := by decide +kernel
theorem dX3_laterOf_0 : decode cX3_laterOf 0 = .ok (.aload_n 0, 1) := by decide +kernel
theorem dX3_laterOf_1 : decode cX3_laterOf 1 = .ok (.getfield 15, 3) := by decide +kernel
theorem dX3_laterOf_4 : decode cX3_laterOf 4 = .ok (.iload_n 1, 1) := by decide +kernel
theorem dX3_laterOf_5 : decode cX3_laterOf 5 = .ok (.iaload, 1) := by decide +kernel
theorem dX3_laterOf_6 : decode cX3_laterOf 6 = .ok (.ireturn, 1) := by decide +kernel
set_option maxRecDepth 20000 in
theorem ggX3_takeBuses_X6_isIn : GoodIn wsX3_takeBuses wsX6_isIn := goodIn_r _ [6] (by decide +kernel) (by decide +kernel)
set_option maxRecDepth 20000 in
theorem gX3_takeBuses_X6_isIn : GoodIn wsX3_takeBuses (va_wsS RX3 43 yX6_isIn wsX6_isIn) := goodIn_app (goodIn_of _ (by decide +kernel)) ggX3_takeBuses_X6_isIn
theorem dX3_takeBuses_0 : decode cX3_takeBuses 0 = .ok (.aload_n 0, 1) := by decide +kernel
theorem dX3_takeBuses_1 : decode cX3_takeBuses 1 = .ok (.iconst 0, 1) := by decide +kernel
theorem dX3_takeBuses_2 : decode cX3_takeBuses 2 = .ok (.putfield 23, 3) := by decide +kernel
theorem dX3_takeBuses_5 : decode cX3_takeBuses 5 = .ok (.iconst 0, 1) := by decide +kernel
theorem dX3_takeBuses_6 : decode cX3_takeBuses 6 = .ok (.istore_n 3, 1) := by decide +kernel
theorem dX3_takeBuses_7 : decode cX3_takeBuses 7 = .ok (.iload_n 3, 1) := by decide +kernel
theorem dX3_takeBuses_8 : decode cX3_takeBuses 8 = .ok (.bipush 60, 2) := by decide +kernel
theorem dX3_takeBuses_10 : decode cX3_takeBuses 10 = .ok (.if_icmp .ge 46, 3) := by decide +kernel
theorem dX3_takeBuses_13 : decode cX3_takeBuses 13 = .ok (.aload_n 0, 1) := by decide +kernel
theorem dX3_takeBuses_14 : decode cX3_takeBuses 14 = .ok (.getfield 23, 3) := by decide +kernel
theorem dX3_takeBuses_17 : decode cX3_takeBuses 17 = .ok (.bipush 12, 2) := by decide +kernel
theorem dX3_takeBuses_19 : decode cX3_takeBuses 19 = .ok (.if_icmp .ge 37, 3) := by decide +kernel
theorem dX3_takeBuses_22 : decode cX3_takeBuses 22 = .ok (.lload_n 1, 1) := by decide +kernel
theorem dX3_takeBuses_23 : decode cX3_takeBuses 23 = .ok (.iload_n 3, 1) := by decide +kernel
theorem dX3_takeBuses_24 : decode cX3_takeBuses 24 = .ok (.invokestatic 43, 3) := by decide +kernel
theorem dX3_takeBuses_27 : decode cX3_takeBuses 27 = .ok (.ifCond .eq 23, 3) := by decide +kernel
theorem dX3_takeBuses_30 : decode cX3_takeBuses 30 = .ok (.aload_n 0, 1) := by decide +kernel
theorem dX3_takeBuses_31 : decode cX3_takeBuses 31 = .ok (.getfield 11, 3) := by decide +kernel
theorem dX3_takeBuses_34 : decode cX3_takeBuses 34 = .ok (.aload_n 0, 1) := by decide +kernel
theorem dX3_takeBuses_35 : decode cX3_takeBuses 35 = .ok (.getfield 23, 3) := by decide +kernel
theorem dX3_takeBuses_38 : decode cX3_takeBuses 38 = .ok (.iload_n 3, 1) := by decide +kernel
theorem dX3_takeBuses_39 : decode cX3_takeBuses 39 = .ok (.iastore, 1) := by decide +kernel
theorem dX3_takeBuses_40 : decode cX3_takeBuses 40 = .ok (.aload_n 0, 1) := by decide +kernel
theorem dX3_takeBuses_41 : decode cX3_takeBuses 41 = .ok (.dup, 1) := by decide +kernel
theorem dX3_takeBuses_42 : decode cX3_takeBuses 42 = .ok (.getfield 23, 3) := by decide +kernel
theorem dX3_takeBuses_45 : decode cX3_takeBuses 45 = .ok (.iconst 1, 1) := by decide +kernel
theorem dX3_takeBuses_46 : decode cX3_takeBuses 46 = .ok (.iadd, 1) := by decide +kernel
theorem dX3_takeBuses_47 : decode cX3_takeBuses 47 = .ok (.putfield 23, 3) := by decide +kernel
theorem dX3_takeBuses_50 : decode cX3_takeBuses 50 = .ok (.iinc 3 1, 3) := by decide +kernel
theorem dX3_takeBuses_53 : decode cX3_takeBuses 53 = .ok (.goto (-46), 3) := by decide +kernel
theorem dX3_takeBuses_56 : decode cX3_takeBuses 56 = .ok (.return_, 1) := by decide +kernel
set_option maxRecDepth 20000 in
theorem ggX3_leastWithFirst_X3_leastOnward : GoodIn wsX3_leastWithFirst wsX3_leastOnward := goodIn_r _ [9, 1, 10, 2, 3, 11, 12, 13, 14, 15, 16, 17, 18, 19, 20, 21, 8, 22, 4, 23, 24, 25, 26, 27] (by decide +kernel) (by decide +kernel)
set_option maxRecDepth 20000 in
theorem gX3_leastWithFirst_X3_leastOnward : GoodIn wsX3_leastWithFirst (wsV RX3 49 RX3 yX3_leastOnward wsX3_leastOnward) := goodIn_app (goodIn_of _ (by decide +kernel)) ggX3_leastWithFirst_X3_leastOnward
theorem dX3_leastWithFirst_0 : decode cX3_leastWithFirst 0 = .ok (.bipush 60, 2) := by decide +kernel
theorem dX3_leastWithFirst_2 : decode cX3_leastWithFirst 2 = .ok (.aload_n 0, 1) := by decide +kernel
theorem dX3_leastWithFirst_3 : decode cX3_leastWithFirst 3 = .ok (.getfield 11, 3) := by decide +kernel
theorem dX3_leastWithFirst_6 : decode cX3_leastWithFirst 6 = .ok (.iconst 0, 1) := by decide +kernel
theorem dX3_leastWithFirst_7 : decode cX3_leastWithFirst 7 = .ok (.iaload, 1) := by decide +kernel
theorem dX3_leastWithFirst_8 : decode cX3_leastWithFirst 8 = .ok (.iadd, 1) := by decide +kernel
theorem dX3_leastWithFirst_9 : decode cX3_leastWithFirst 9 = .ok (.iload_n 1, 1) := by decide +kernel
theorem dX3_leastWithFirst_10 : decode cX3_leastWithFirst 10 = .ok (.iadd, 1) := by decide +kernel
theorem dX3_leastWithFirst_11 : decode cX3_leastWithFirst 11 = .ok (.istore_n 2, 1) := by decide +kernel
theorem dX3_leastWithFirst_12 : decode cX3_leastWithFirst 12 = .ok (.aload_n 0, 1) := by decide +kernel
theorem dX3_leastWithFirst_13 : decode cX3_leastWithFirst 13 = .ok (.getfield 23, 3) := by decide +kernel
theorem dX3_leastWithFirst_16 : decode cX3_leastWithFirst 16 = .ok (.iconst 1, 1) := by decide +kernel
theorem dX3_leastWithFirst_17 : decode cX3_leastWithFirst 17 = .ok (.isub, 1) := by decide +kernel
theorem dX3_leastWithFirst_18 : decode cX3_leastWithFirst 18 = .ok (.istore_n 3, 1) := by decide +kernel
theorem dX3_leastWithFirst_19 : decode cX3_leastWithFirst 19 = .ok (.iload_n 3, 1) := by decide +kernel
theorem dX3_leastWithFirst_20 : decode cX3_leastWithFirst 20 = .ok (.ifCond .lt 44, 3) := by decide +kernel
theorem dX3_leastWithFirst_23 : decode cX3_leastWithFirst 23 = .ok (.iconst 0, 1) := by decide +kernel
theorem dX3_leastWithFirst_24 : decode cX3_leastWithFirst 24 = .ok (.istore 4, 2) := by decide +kernel
theorem dX3_leastWithFirst_26 : decode cX3_leastWithFirst 26 = .ok (.iload 4, 2) := by decide +kernel
theorem dX3_leastWithFirst_28 : decode cX3_leastWithFirst 28 = .ok (.aload_n 0, 1) := by decide +kernel
theorem dX3_leastWithFirst_29 : decode cX3_leastWithFirst 29 = .ok (.getfield 27, 3) := by decide +kernel
theorem dX3_leastWithFirst_32 : decode cX3_leastWithFirst 32 = .ok (.if_icmp .gt 26, 3) := by decide +kernel
theorem dX3_leastWithFirst_35 : decode cX3_leastWithFirst 35 = .ok (.aload_n 0, 1) := by decide +kernel
theorem dX3_leastWithFirst_36 : decode cX3_leastWithFirst 36 = .ok (.getfield 20, 3) := by decide +kernel
theorem dX3_leastWithFirst_39 : decode cX3_leastWithFirst 39 = .ok (.iload_n 3, 1) := by decide +kernel
theorem dX3_leastWithFirst_40 : decode cX3_leastWithFirst 40 = .ok (.aaload, 1) := by decide +kernel
theorem dX3_leastWithFirst_41 : decode cX3_leastWithFirst 41 = .ok (.iload 4, 2) := by decide +kernel
theorem dX3_leastWithFirst_43 : decode cX3_leastWithFirst 43 = .ok (.aload_n 0, 1) := by decide +kernel
theorem dX3_leastWithFirst_44 : decode cX3_leastWithFirst 44 = .ok (.iload_n 3, 1) := by decide +kernel
theorem dX3_leastWithFirst_45 : decode cX3_leastWithFirst 45 = .ok (.iload 4, 2) := by decide +kernel
theorem dX3_leastWithFirst_47 : decode cX3_leastWithFirst 47 = .ok (.iload_n 2, 1) := by decide +kernel
theorem dX3_leastWithFirst_48 : decode cX3_leastWithFirst 48 = .ok (.invokevirtual 49, 3) := by decide +kernel
theorem dX3_leastWithFirst_51 : decode cX3_leastWithFirst 51 = .ok (.iastore, 1) := by decide +kernel
theorem dX3_leastWithFirst_52 : decode cX3_leastWithFirst 52 = .ok (.iinc 4 1, 3) := by decide +kernel
theorem dX3_leastWithFirst_55 : decode cX3_leastWithFirst 55 = .ok (.goto (-29), 3) := by decide +kernel
theorem dX3_leastWithFirst_58 : decode cX3_leastWithFirst 58 = .ok (.iinc 3 (-1), 3) := by decide +kernel
theorem dX3_leastWithFirst_61 : decode cX3_leastWithFirst 61 = .ok (.goto (-42), 3) := by decide +kernel
theorem dX3_leastWithFirst_64 : decode cX3_leastWithFirst 64 = .ok (.aload_n 0, 1) := by decide +kernel
theorem dX3_leastWithFirst_65 : decode cX3_leastWithFirst 65 = .ok (.getfield 20, 3) := by decide +kernel
theorem dX3_leastWithFirst_68 : decode cX3_leastWithFirst 68 = .ok (.iconst 0, 1) := by decide +kernel
theorem dX3_leastWithFirst_69 : decode cX3_leastWithFirst 69 = .ok (.aaload, 1) := by decide +kernel
theorem dX3_leastWithFirst_70 : decode cX3_leastWithFirst 70 = .ok (.iload_n 1, 1) := by decide +kernel
theorem dX3_leastWithFirst_71 : decode cX3_leastWithFirst 71 = .ok (.iaload, 1) := by decide +kernel
theorem dX3_leastWithFirst_72 : decode cX3_leastWithFirst 72 = .ok (.ireturn, 1) := by decide +kernel
set_option maxRecDepth 20000 in
theorem ggX3_leastOnward_X6_waitsIn : GoodIn wsX3_leastOnward wsX6_waitsIn := goodIn_r _ [12] (by decide +kernel) (by decide +kernel)
set_option maxRecDepth 20000 in
theorem gX3_leastOnward_X6_waitsIn : GoodIn wsX3_leastOnward (va_wsS RX3 53 yX6_waitsIn wsX6_waitsIn) := goodIn_app (goodIn_of _ (by decide +kernel)) ggX3_leastOnward_X6_waitsIn
set_option maxRecDepth 20000 in
theorem ggX3_leastOnward_X3_through : GoodIn wsX3_leastOnward wsX3_through := goodIn_r _ [17, 1, 18, 2, 9, 10, 11, 12, 19, 20, 21, 22, 23] (by decide +kernel) (by decide +kernel)
set_option maxRecDepth 20000 in
theorem gX3_leastOnward_X3_through : GoodIn wsX3_leastOnward (wsV RX3 56 RX3 yX3_through wsX3_through) := goodIn_app (goodIn_of _ (by decide +kernel)) ggX3_leastOnward_X3_through
theorem dX3_leastOnward_0 : decode cX3_leastOnward 0 = .ok (.aload_n 0, 1) := by decide +kernel
theorem dX3_leastOnward_1 : decode cX3_leastOnward 1 = .ok (.getfield 11, 3) := by decide +kernel
theorem dX3_leastOnward_4 : decode cX3_leastOnward 4 = .ok (.iload_n 1, 1) := by decide +kernel
theorem dX3_leastOnward_5 : decode cX3_leastOnward 5 = .ok (.iaload, 1) := by decide +kernel
theorem dX3_leastOnward_6 : decode cX3_leastOnward 6 = .ok (.iload_n 2, 1) := by decide +kernel
theorem dX3_leastOnward_7 : decode cX3_leastOnward 7 = .ok (.iadd, 1) := by decide +kernel
theorem dX3_leastOnward_8 : decode cX3_leastOnward 8 = .ok (.istore 4, 2) := by decide +kernel
theorem dX3_leastOnward_10 : decode cX3_leastOnward 10 = .ok (.iload 4, 2) := by decide +kernel
theorem dX3_leastOnward_12 : decode cX3_leastOnward 12 = .ok (.bipush 60, 2) := by decide +kernel
theorem dX3_leastOnward_14 : decode cX3_leastOnward 14 = .ok (.if_icmp .lt 6, 3) := by decide +kernel
theorem dX3_leastOnward_17 : decode cX3_leastOnward 17 = .ok (.ldc 34, 2) := by decide +kernel
theorem dX3_leastOnward_19 : decode cX3_leastOnward 19 = .ok (.ireturn, 1) := by decide +kernel
theorem dX3_leastOnward_20 : decode cX3_leastOnward 20 = .ok (.iload_n 1, 1) := by decide +kernel
theorem dX3_leastOnward_21 : decode cX3_leastOnward 21 = .ok (.aload_n 0, 1) := by decide +kernel
theorem dX3_leastOnward_22 : decode cX3_leastOnward 22 = .ok (.getfield 23, 3) := by decide +kernel
theorem dX3_leastOnward_25 : decode cX3_leastOnward 25 = .ok (.iconst 1, 1) := by decide +kernel
theorem dX3_leastOnward_26 : decode cX3_leastOnward 26 = .ok (.isub, 1) := by decide +kernel
theorem dX3_leastOnward_27 : decode cX3_leastOnward 27 = .ok (.if_icmp .ne 11, 3) := by decide +kernel
theorem dX3_leastOnward_30 : decode cX3_leastOnward 30 = .ok (.iload_n 3, 1) := by decide +kernel
theorem dX3_leastOnward_31 : decode cX3_leastOnward 31 = .ok (.iload 4, 2) := by decide +kernel
theorem dX3_leastOnward_33 : decode cX3_leastOnward 33 = .ok (.isub, 1) := by decide +kernel
theorem dX3_leastOnward_34 : decode cX3_leastOnward 34 = .ok (.invokestatic 53, 3) := by decide +kernel
theorem dX3_leastOnward_37 : decode cX3_leastOnward 37 = .ok (.ireturn, 1) := by decide +kernel
theorem dX3_leastOnward_38 : decode cX3_leastOnward 38 = .ok (.ldc 34, 2) := by decide +kernel
theorem dX3_leastOnward_40 : decode cX3_leastOnward 40 = .ok (.istore 5, 2) := by decide +kernel
theorem dX3_leastOnward_42 : decode cX3_leastOnward 42 = .ok (.iconst 0, 1) := by decide +kernel
theorem dX3_leastOnward_43 : decode cX3_leastOnward 43 = .ok (.istore 6, 2) := by decide +kernel
theorem dX3_leastOnward_45 : decode cX3_leastOnward 45 = .ok (.iload 6, 2) := by decide +kernel
theorem dX3_leastOnward_47 : decode cX3_leastOnward 47 = .ok (.aload_n 0, 1) := by decide +kernel
theorem dX3_leastOnward_48 : decode cX3_leastOnward 48 = .ok (.getfield 27, 3) := by decide +kernel
theorem dX3_leastOnward_51 : decode cX3_leastOnward 51 = .ok (.if_icmp .gt 27, 3) := by decide +kernel
theorem dX3_leastOnward_54 : decode cX3_leastOnward 54 = .ok (.iload 5, 2) := by decide +kernel
theorem dX3_leastOnward_56 : decode cX3_leastOnward 56 = .ok (.aload_n 0, 1) := by decide +kernel
theorem dX3_leastOnward_57 : decode cX3_leastOnward 57 = .ok (.iload 4, 2) := by decide +kernel
theorem dX3_leastOnward_59 : decode cX3_leastOnward 59 = .ok (.iload_n 1, 1) := by decide +kernel
theorem dX3_leastOnward_60 : decode cX3_leastOnward 60 = .ok (.iconst 1, 1) := by decide +kernel
theorem dX3_leastOnward_61 : decode cX3_leastOnward 61 = .ok (.iadd, 1) := by decide +kernel
theorem dX3_leastOnward_62 : decode cX3_leastOnward 62 = .ok (.iload 6, 2) := by decide +kernel
theorem dX3_leastOnward_64 : decode cX3_leastOnward 64 = .ok (.invokevirtual 56, 3) := by decide +kernel
theorem dX3_leastOnward_67 : decode cX3_leastOnward 67 = .ok (.invokestatic 59, 3) := by decide +kernel
theorem dX3_leastOnward_70 : decode cX3_leastOnward 70 = .ok (.istore 5, 2) := by decide +kernel
theorem dX3_leastOnward_72 : decode cX3_leastOnward 72 = .ok (.iinc 6 1, 3) := by decide +kernel
theorem dX3_leastOnward_75 : decode cX3_leastOnward 75 = .ok (.goto (-30), 3) := by decide +kernel
theorem dX3_leastOnward_78 : decode cX3_leastOnward 78 = .ok (.iload 5, 2) := by decide +kernel
theorem dX3_leastOnward_80 : decode cX3_leastOnward 80 = .ok (.ireturn, 1) := by decide +kernel
set_option maxRecDepth 20000 in
theorem ggX3_through_X6_waitsIn : GoodIn wsX3_through wsX6_waitsIn := goodIn_r _ [7] (by decide +kernel) (by decide +kernel)
set_option maxRecDepth 20000 in
theorem gX3_through_X6_waitsIn : GoodIn wsX3_through (va_wsS RX3 53 yX6_waitsIn wsX6_waitsIn) := goodIn_app (goodIn_of _ (by decide +kernel)) ggX3_through_X6_waitsIn
theorem dX3_through_0 : decode cX3_through 0 = .ok (.aload_n 0, 1) := by decide +kernel
theorem dX3_through_1 : decode cX3_through 1 = .ok (.getfield 11, 3) := by decide +kernel
theorem dX3_through_4 : decode cX3_through 4 = .ok (.iload_n 2, 1) := by decide +kernel
theorem dX3_through_5 : decode cX3_through 5 = .ok (.iaload, 1) := by decide +kernel
theorem dX3_through_6 : decode cX3_through 6 = .ok (.iload_n 3, 1) := by decide +kernel
theorem dX3_through_7 : decode cX3_through 7 = .ok (.iadd, 1) := by decide +kernel
theorem dX3_through_8 : decode cX3_through 8 = .ok (.istore 4, 2) := by decide +kernel
theorem dX3_through_10 : decode cX3_through 10 = .ok (.iload 4, 2) := by decide +kernel
theorem dX3_through_12 : decode cX3_through 12 = .ok (.iload_n 1, 1) := by decide +kernel
theorem dX3_through_13 : decode cX3_through 13 = .ok (.if_icmp .le 22, 3) := by decide +kernel
theorem dX3_through_16 : decode cX3_through 16 = .ok (.iload 4, 2) := by decide +kernel
theorem dX3_through_18 : decode cX3_through 18 = .ok (.iload_n 1, 1) := by decide +kernel
theorem dX3_through_19 : decode cX3_through 19 = .ok (.isub, 1) := by decide +kernel
theorem dX3_through_20 : decode cX3_through 20 = .ok (.invokestatic 53, 3) := by decide +kernel
theorem dX3_through_23 : decode cX3_through 23 = .ok (.aload_n 0, 1) := by decide +kernel
theorem dX3_through_24 : decode cX3_through 24 = .ok (.getfield 20, 3) := by decide +kernel
theorem dX3_through_27 : decode cX3_through 27 = .ok (.iload_n 2, 1) := by decide +kernel
theorem dX3_through_28 : decode cX3_through 28 = .ok (.aaload, 1) := by decide +kernel
theorem dX3_through_29 : decode cX3_through 29 = .ok (.iload_n 3, 1) := by decide +kernel
theorem dX3_through_30 : decode cX3_through 30 = .ok (.iaload, 1) := by decide +kernel
theorem dX3_through_31 : decode cX3_through 31 = .ok (.iadd, 1) := by decide +kernel
theorem dX3_through_32 : decode cX3_through 32 = .ok (.goto 5, 3) := by decide +kernel
theorem dX3_through_35 : decode cX3_through 35 = .ok (.ldc 34, 2) := by decide +kernel
theorem dX3_through_37 : decode cX3_through 37 = .ok (.ireturn, 1) := by decide +kernel
set_option maxRecDepth 20000 in
theorem ggX3_chooseLater_X3_leastLater : GoodIn wsX3_chooseLater wsX3_leastLater := goodIn_r _ [9, 10, 11, 12, 13, 8, 14, 3, 4, 15, 16, 17, 18, 19, 20, 21, 22, 23, 24] (by decide +kernel) (by decide +kernel)
set_option maxRecDepth 20000 in
theorem gX3_chooseLater_X3_leastLater : GoodIn wsX3_chooseLater (wsV RX3 65 RX3 yX3_leastLater wsX3_leastLater) := goodIn_app (goodIn_of _ (by decide +kernel)) ggX3_chooseLater_X3_leastLater
theorem dX3_chooseLater_0 : decode cX3_chooseLater 0 = .ok (.aload_n 0, 1) := by decide +kernel
theorem dX3_chooseLater_1 : decode cX3_chooseLater 1 = .ok (.getfield 15, 3) := by decide +kernel
theorem dX3_chooseLater_4 : decode cX3_chooseLater 4 = .ok (.iconst 0, 1) := by decide +kernel
theorem dX3_chooseLater_5 : decode cX3_chooseLater 5 = .ok (.iload_n 1, 1) := by decide +kernel
theorem dX3_chooseLater_6 : decode cX3_chooseLater 6 = .ok (.iastore, 1) := by decide +kernel
theorem dX3_chooseLater_7 : decode cX3_chooseLater 7 = .ok (.iconst 1, 1) := by decide +kernel
theorem dX3_chooseLater_8 : decode cX3_chooseLater 8 = .ok (.istore_n 2, 1) := by decide +kernel
theorem dX3_chooseLater_9 : decode cX3_chooseLater 9 = .ok (.iload_n 2, 1) := by decide +kernel
theorem dX3_chooseLater_10 : decode cX3_chooseLater 10 = .ok (.aload_n 0, 1) := by decide +kernel
theorem dX3_chooseLater_11 : decode cX3_chooseLater 11 = .ok (.getfield 23, 3) := by decide +kernel
theorem dX3_chooseLater_14 : decode cX3_chooseLater 14 = .ok (.if_icmp .ge 49, 3) := by decide +kernel
theorem dX3_chooseLater_17 : decode cX3_chooseLater 17 = .ok (.aload_n 0, 1) := by decide +kernel
theorem dX3_chooseLater_18 : decode cX3_chooseLater 18 = .ok (.getfield 15, 3) := by decide +kernel
theorem dX3_chooseLater_21 : decode cX3_chooseLater 21 = .ok (.iload_n 2, 1) := by decide +kernel
theorem dX3_chooseLater_22 : decode cX3_chooseLater 22 = .ok (.iconst 1, 1) := by decide +kernel
theorem dX3_chooseLater_23 : decode cX3_chooseLater 23 = .ok (.isub, 1) := by decide +kernel
theorem dX3_chooseLater_24 : decode cX3_chooseLater 24 = .ok (.iaload, 1) := by decide +kernel
theorem dX3_chooseLater_25 : decode cX3_chooseLater 25 = .ok (.istore_n 3, 1) := by decide +kernel
theorem dX3_chooseLater_26 : decode cX3_chooseLater 26 = .ok (.aload_n 0, 1) := by decide +kernel
theorem dX3_chooseLater_27 : decode cX3_chooseLater 27 = .ok (.getfield 15, 3) := by decide +kernel
theorem dX3_chooseLater_30 : decode cX3_chooseLater 30 = .ok (.iload_n 2, 1) := by decide +kernel
theorem dX3_chooseLater_31 : decode cX3_chooseLater 31 = .ok (.aload_n 0, 1) := by decide +kernel
theorem dX3_chooseLater_32 : decode cX3_chooseLater 32 = .ok (.iload_n 2, 1) := by decide +kernel
theorem dX3_chooseLater_33 : decode cX3_chooseLater 33 = .ok (.aload_n 0, 1) := by decide +kernel
theorem dX3_chooseLater_34 : decode cX3_chooseLater 34 = .ok (.getfield 11, 3) := by decide +kernel
theorem dX3_chooseLater_37 : decode cX3_chooseLater 37 = .ok (.iload_n 2, 1) := by decide +kernel
theorem dX3_chooseLater_38 : decode cX3_chooseLater 38 = .ok (.iconst 1, 1) := by decide +kernel
theorem dX3_chooseLater_39 : decode cX3_chooseLater 39 = .ok (.isub, 1) := by decide +kernel
theorem dX3_chooseLater_40 : decode cX3_chooseLater 40 = .ok (.iaload, 1) := by decide +kernel
theorem dX3_chooseLater_41 : decode cX3_chooseLater 41 = .ok (.iload_n 3, 1) := by decide +kernel
theorem dX3_chooseLater_42 : decode cX3_chooseLater 42 = .ok (.iadd, 1) := by decide +kernel
theorem dX3_chooseLater_43 : decode cX3_chooseLater 43 = .ok (.aload_n 0, 1) := by decide +kernel
theorem dX3_chooseLater_44 : decode cX3_chooseLater 44 = .ok (.getfield 20, 3) := by decide +kernel
theorem dX3_chooseLater_47 : decode cX3_chooseLater 47 = .ok (.iload_n 2, 1) := by decide +kernel
theorem dX3_chooseLater_48 : decode cX3_chooseLater 48 = .ok (.iconst 1, 1) := by decide +kernel
theorem dX3_chooseLater_49 : decode cX3_chooseLater 49 = .ok (.isub, 1) := by decide +kernel
theorem dX3_chooseLater_50 : decode cX3_chooseLater 50 = .ok (.aaload, 1) := by decide +kernel
theorem dX3_chooseLater_51 : decode cX3_chooseLater 51 = .ok (.iload_n 3, 1) := by decide +kernel
theorem dX3_chooseLater_52 : decode cX3_chooseLater 52 = .ok (.iaload, 1) := by decide +kernel
theorem dX3_chooseLater_53 : decode cX3_chooseLater 53 = .ok (.invokevirtual 65, 3) := by decide +kernel
theorem dX3_chooseLater_56 : decode cX3_chooseLater 56 = .ok (.iastore, 1) := by decide +kernel
theorem dX3_chooseLater_57 : decode cX3_chooseLater 57 = .ok (.iinc 2 1, 3) := by decide +kernel
theorem dX3_chooseLater_60 : decode cX3_chooseLater 60 = .ok (.goto (-51), 3) := by decide +kernel
theorem dX3_chooseLater_63 : decode cX3_chooseLater 63 = .ok (.return_, 1) := by decide +kernel
set_option maxRecDepth 20000 in
theorem ggX3_leastLater_X3_through : GoodIn wsX3_leastLater wsX3_through := goodIn_r _ [6, 7, 8, 9, 10, 11, 12, 13, 14, 15, 16, 17, 18] (by decide +kernel) (by decide +kernel)
set_option maxRecDepth 20000 in
theorem gX3_leastLater_X3_through : GoodIn wsX3_leastLater (wsV RX3 56 RX3 yX3_through wsX3_through) := goodIn_app (goodIn_of _ (by decide +kernel)) ggX3_leastLater_X3_through
theorem dX3_leastLater_0 : decode cX3_leastLater 0 = .ok (.iconst 0, 1) := by decide +kernel
theorem dX3_leastLater_1 : decode cX3_leastLater 1 = .ok (.istore 4, 2) := by decide +kernel
theorem dX3_leastLater_3 : decode cX3_leastLater 3 = .ok (.iload 4, 2) := by decide +kernel
theorem dX3_leastLater_5 : decode cX3_leastLater 5 = .ok (.aload_n 0, 1) := by decide +kernel
theorem dX3_leastLater_6 : decode cX3_leastLater 6 = .ok (.getfield 27, 3) := by decide +kernel
theorem dX3_leastLater_9 : decode cX3_leastLater 9 = .ok (.if_icmp .ge 24, 3) := by decide +kernel
theorem dX3_leastLater_12 : decode cX3_leastLater 12 = .ok (.aload_n 0, 1) := by decide +kernel
theorem dX3_leastLater_13 : decode cX3_leastLater 13 = .ok (.iload_n 2, 1) := by decide +kernel
theorem dX3_leastLater_14 : decode cX3_leastLater 14 = .ok (.iload_n 1, 1) := by decide +kernel
theorem dX3_leastLater_15 : decode cX3_leastLater 15 = .ok (.iload 4, 2) := by decide +kernel
theorem dX3_leastLater_17 : decode cX3_leastLater 17 = .ok (.invokevirtual 56, 3) := by decide +kernel
theorem dX3_leastLater_20 : decode cX3_leastLater 20 = .ok (.iload_n 3, 1) := by decide +kernel
theorem dX3_leastLater_21 : decode cX3_leastLater 21 = .ok (.if_icmp .ne 6, 3) := by decide +kernel
theorem dX3_leastLater_24 : decode cX3_leastLater 24 = .ok (.iload 4, 2) := by decide +kernel
theorem dX3_leastLater_26 : decode cX3_leastLater 26 = .ok (.ireturn, 1) := by decide +kernel
theorem dX3_leastLater_27 : decode cX3_leastLater 27 = .ok (.iinc 4 1, 3) := by decide +kernel
theorem dX3_leastLater_30 : decode cX3_leastLater 30 = .ok (.goto (-27), 3) := by decide +kernel
theorem dX3_leastLater_33 : decode cX3_leastLater 33 = .ok (.aload_n 0, 1) := by decide +kernel
theorem dX3_leastLater_34 : decode cX3_leastLater 34 = .ok (.getfield 27, 3) := by decide +kernel
theorem dX3_leastLater_37 : decode cX3_leastLater 37 = .ok (.ireturn, 1) := by decide +kernel
theorem dX4_init_0 : decode cX4_init 0 = .ok (.aload_n 0, 1) := by decide +kernel
theorem dX4_init_1 : decode cX4_init 1 = .ok (.invokespecial 3, 3) := by decide +kernel
theorem dX4_init_4 : decode cX4_init 4 = .ok (.aload_n 0, 1) := by decide +kernel
theorem dX4_init_5 : decode cX4_init 5 = .ok (.bipush 8, 2) := by decide +kernel
theorem dX4_init_7 : decode cX4_init 7 = .ok (.newarray .int, 2) := by decide +kernel
theorem dX4_init_9 : decode cX4_init 9 = .ok (.putfield 11, 3) := by decide +kernel
theorem dX4_init_12 : decode cX4_init 12 = .ok (.aload_n 0, 1) := by decide +kernel
theorem dX4_init_13 : decode cX4_init 13 = .ok (.iconst 0, 1) := by decide +kernel
theorem dX4_init_14 : decode cX4_init 14 = .ok (.putfield 15, 3) := by decide +kernel
theorem dX4_init_17 : decode cX4_init 17 = .ok (.return_, 1) := by decide +kernel
theorem dX4_lengthen_0 : decode cX4_lengthen 0 = .ok (.aload_n 0, 1) := by decide +kernel
theorem dX4_lengthen_1 : decode cX4_lengthen 1 = .ok (.getfield 15, 3) := by decide +kernel
theorem dX4_lengthen_4 : decode cX4_lengthen 4 = .ok (.bipush 8, 2) := by decide +kernel
theorem dX4_lengthen_6 : decode cX4_lengthen 6 = .ok (.if_icmp .lt 6, 3) := by decide +kernel
theorem dX4_lengthen_9 : decode cX4_lengthen 9 = .ok (.bipush (-4), 2) := by decide +kernel
theorem dX4_lengthen_11 : decode cX4_lengthen 11 = .ok (.ireturn, 1) := by decide +kernel
theorem dX4_lengthen_12 : decode cX4_lengthen 12 = .ok (.aload_n 0, 1) := by decide +kernel
theorem dX4_lengthen_13 : decode cX4_lengthen 13 = .ok (.getfield 11, 3) := by decide +kernel
theorem dX4_lengthen_16 : decode cX4_lengthen 16 = .ok (.aload_n 0, 1) := by decide +kernel
theorem dX4_lengthen_17 : decode cX4_lengthen 17 = .ok (.getfield 15, 3) := by decide +kernel
theorem dX4_lengthen_20 : decode cX4_lengthen 20 = .ok (.iload_n 1, 1) := by decide +kernel
theorem dX4_lengthen_21 : decode cX4_lengthen 21 = .ok (.iastore, 1) := by decide +kernel
theorem dX4_lengthen_22 : decode cX4_lengthen 22 = .ok (.aload_n 0, 1) := by decide +kernel
theorem dX4_lengthen_23 : decode cX4_lengthen 23 = .ok (.dup, 1) := by decide +kernel
theorem dX4_lengthen_24 : decode cX4_lengthen 24 = .ok (.getfield 15, 3) := by decide +kernel
theorem dX4_lengthen_27 : decode cX4_lengthen 27 = .ok (.iconst 1, 1) := by decide +kernel
theorem dX4_lengthen_28 : decode cX4_lengthen 28 = .ok (.iadd, 1) := by decide +kernel
theorem dX4_lengthen_29 : decode cX4_lengthen 29 = .ok (.putfield 15, 3) := by decide +kernel
theorem dX4_lengthen_32 : decode cX4_lengthen 32 = .ok (.aload_n 0, 1) := by decide +kernel
theorem dX4_lengthen_33 : decode cX4_lengthen 33 = .ok (.getfield 15, 3) := by decide +kernel
theorem dX4_lengthen_36 : decode cX4_lengthen 36 = .ok (.ireturn, 1) := by decide +kernel
theorem dX4_clear_0 : decode cX4_clear 0 = .ok (.aload_n 0, 1) := by decide +kernel
theorem dX4_clear_1 : decode cX4_clear 1 = .ok (.getfield 15, 3) := by decide +kernel
theorem dX4_clear_4 : decode cX4_clear 4 = .ok (.istore_n 1, 1) := by decide +kernel
theorem dX4_clear_5 : decode cX4_clear 5 = .ok (.aload_n 0, 1) := by decide +kernel
theorem dX4_clear_6 : decode cX4_clear 6 = .ok (.iconst 0, 1) := by decide +kernel
theorem dX4_clear_7 : decode cX4_clear 7 = .ok (.putfield 15, 3) := by decide +kernel
theorem dX4_clear_10 : decode cX4_clear 10 = .ok (.iload_n 1, 1) := by decide +kernel
theorem dX4_clear_11 : decode cX4_clear 11 = .ok (.ireturn, 1) := by decide +kernel
theorem dX4_piecesTold_0 : decode cX4_piecesTold 0 = .ok (.aload_n 0, 1) := by decide +kernel
theorem dX4_piecesTold_1 : decode cX4_piecesTold 1 = .ok (.getfield 15, 3) := by decide +kernel
theorem dX4_piecesTold_4 : decode cX4_piecesTold 4 = .ok (.ireturn, 1) := by decide +kernel
theorem dX4_lengthInAll_0 : decode cX4_lengthInAll 0 = .ok (.iconst 0, 1) := by decide +kernel
theorem dX4_lengthInAll_1 : decode cX4_lengthInAll 1 = .ok (.istore_n 1, 1) := by decide +kernel
theorem dX4_lengthInAll_2 : decode cX4_lengthInAll 2 = .ok (.iconst 0, 1) := by decide +kernel
theorem dX4_lengthInAll_3 : decode cX4_lengthInAll 3 = .ok (.istore_n 2, 1) := by decide +kernel
theorem dX4_lengthInAll_4 : decode cX4_lengthInAll 4 = .ok (.iload_n 2, 1) := by decide +kernel
theorem dX4_lengthInAll_5 : decode cX4_lengthInAll 5 = .ok (.aload_n 0, 1) := by decide +kernel
theorem dX4_lengthInAll_6 : decode cX4_lengthInAll 6 = .ok (.getfield 15, 3) := by decide +kernel
theorem dX4_lengthInAll_9 : decode cX4_lengthInAll 9 = .ok (.if_icmp .ge 18, 3) := by decide +kernel
theorem dX4_lengthInAll_12 : decode cX4_lengthInAll 12 = .ok (.iload_n 1, 1) := by decide +kernel
theorem dX4_lengthInAll_13 : decode cX4_lengthInAll 13 = .ok (.aload_n 0, 1) := by decide +kernel
theorem dX4_lengthInAll_14 : decode cX4_lengthInAll 14 = .ok (.getfield 11, 3) := by decide +kernel
theorem dX4_lengthInAll_17 : decode cX4_lengthInAll 17 = .ok (.iload_n 2, 1) := by decide +kernel
theorem dX4_lengthInAll_18 : decode cX4_lengthInAll 18 = .ok (.iaload, 1) := by decide +kernel
theorem dX4_lengthInAll_19 : decode cX4_lengthInAll 19 = .ok (.iadd, 1) := by decide +kernel
theorem dX4_lengthInAll_20 : decode cX4_lengthInAll 20 = .ok (.istore_n 1, 1) := by decide +kernel
theorem dX4_lengthInAll_21 : decode cX4_lengthInAll 21 = .ok (.iinc 2 1, 3) := by decide +kernel
theorem dX4_lengthInAll_24 : decode cX4_lengthInAll 24 = .ok (.goto (-20), 3) := by decide +kernel
theorem dX4_lengthInAll_27 : decode cX4_lengthInAll 27 = .ok (.iload_n 1, 1) := by decide +kernel
theorem dX4_lengthInAll_28 : decode cX4_lengthInAll 28 = .ok (.ireturn, 1) := by decide +kernel
theorem dX4_squares_0 : decode cX4_squares 0 = .ok (.iconst 0, 1) := by decide +kernel
theorem dX4_squares_1 : decode cX4_squares 1 = .ok (.istore_n 1, 1) := by decide +kernel
theorem dX4_squares_2 : decode cX4_squares 2 = .ok (.iconst 0, 1) := by decide +kernel
theorem dX4_squares_3 : decode cX4_squares 3 = .ok (.istore_n 2, 1) := by decide +kernel
theorem dX4_squares_4 : decode cX4_squares 4 = .ok (.iload_n 2, 1) := by decide +kernel
theorem dX4_squares_5 : decode cX4_squares 5 = .ok (.aload_n 0, 1) := by decide +kernel
theorem dX4_squares_6 : decode cX4_squares 6 = .ok (.getfield 15, 3) := by decide +kernel
theorem dX4_squares_9 : decode cX4_squares 9 = .ok (.if_icmp .ge 25, 3) := by decide +kernel
theorem dX4_squares_12 : decode cX4_squares 12 = .ok (.iload_n 1, 1) := by decide +kernel
theorem dX4_squares_13 : decode cX4_squares 13 = .ok (.aload_n 0, 1) := by decide +kernel
theorem dX4_squares_14 : decode cX4_squares 14 = .ok (.getfield 11, 3) := by decide +kernel
theorem dX4_squares_17 : decode cX4_squares 17 = .ok (.iload_n 2, 1) := by decide +kernel
theorem dX4_squares_18 : decode cX4_squares 18 = .ok (.iaload, 1) := by decide +kernel
theorem dX4_squares_19 : decode cX4_squares 19 = .ok (.aload_n 0, 1) := by decide +kernel
theorem dX4_squares_20 : decode cX4_squares 20 = .ok (.getfield 11, 3) := by decide +kernel
theorem dX4_squares_23 : decode cX4_squares 23 = .ok (.iload_n 2, 1) := by decide +kernel
theorem dX4_squares_24 : decode cX4_squares 24 = .ok (.iaload, 1) := by decide +kernel
theorem dX4_squares_25 : decode cX4_squares 25 = .ok (.imul, 1) := by decide +kernel
theorem dX4_squares_26 : decode cX4_squares 26 = .ok (.iadd, 1) := by decide +kernel
theorem dX4_squares_27 : decode cX4_squares 27 = .ok (.istore_n 1, 1) := by decide +kernel
theorem dX4_squares_28 : decode cX4_squares 28 = .ok (.iinc 2 1, 3) := by decide +kernel
theorem dX4_squares_31 : decode cX4_squares 31 = .ok (.goto (-27), 3) := by decide +kernel
theorem dX4_squares_34 : decode cX4_squares 34 = .ok (.iload_n 1, 1) := by decide +kernel
theorem dX4_squares_35 : decode cX4_squares 35 = .ok (.ireturn, 1) := by decide +kernel
set_option maxRecDepth 20000 in
theorem ggX4_ways_X4_lengthInAll : GoodIn wsX4_ways wsX4_lengthInAll := goodIn_r _ [5, 6, 7, 11, 12] (by decide +kernel) (by decide +kernel)
set_option maxRecDepth 20000 in
theorem gX4_ways_X4_lengthInAll : GoodIn wsX4_ways (wsV RX4 19 RX4 yX4_lengthInAll wsX4_lengthInAll) := goodIn_app (goodIn_of _ (by decide +kernel)) ggX4_ways_X4_lengthInAll
set_option maxRecDepth 20000 in
theorem ggX4_ways_X4_power : GoodIn wsX4_ways wsX4_power := goodIn_r _ [10] (by decide +kernel) (by decide +kernel)
set_option maxRecDepth 20000 in
theorem gX4_ways_X4_power : GoodIn wsX4_ways (va_wsS RX4 23 yX4_power wsX4_power) := goodIn_app (goodIn_of _ (by decide +kernel)) ggX4_ways_X4_power
theorem dX4_ways_0 : decode cX4_ways 0 = .ok (.aload_n 0, 1) := by decide +kernel
theorem dX4_ways_1 : decode cX4_ways 1 = .ok (.invokevirtual 19, 3) := by decide +kernel
theorem dX4_ways_4 : decode cX4_ways 4 = .ok (.i2l, 1) := by decide +kernel
theorem dX4_ways_5 : decode cX4_ways 5 = .ok (.iload_n 1, 1) := by decide +kernel
theorem dX4_ways_6 : decode cX4_ways 6 = .ok (.invokestatic 23, 3) := by decide +kernel
theorem dX4_ways_9 : decode cX4_ways 9 = .ok (.lreturn, 1) := by decide +kernel
set_option maxRecDepth 20000 in
theorem ggX4_waysToHit_X4_ways : GoodIn wsX4_waysToHit wsX4_ways := goodIn_r _ [6, 7, 8, 9, 5, 10, 11, 1, 12, 13, 14, 15, 16] (by decide +kernel) (by decide +kernel)
set_option maxRecDepth 20000 in
theorem gX4_waysToHit_X4_ways : GoodIn wsX4_waysToHit (wsV RX4 27 RX4 yX4_ways wsX4_ways) := goodIn_app (goodIn_of _ (by decide +kernel)) ggX4_waysToHit_X4_ways
set_option maxRecDepth 20000 in
theorem ggX4_waysToHit_X4_lengthInAll : GoodIn wsX4_waysToHit wsX4_lengthInAll := goodIn_r _ [10, 11, 1, 15, 16] (by decide +kernel) (by decide +kernel)
set_option maxRecDepth 20000 in
theorem gX4_waysToHit_X4_lengthInAll : GoodIn wsX4_waysToHit (wsV RX4 19 RX4 yX4_lengthInAll wsX4_lengthInAll) := goodIn_app (goodIn_of _ (by decide +kernel)) ggX4_waysToHit_X4_lengthInAll
set_option maxRecDepth 20000 in
theorem ggX4_waysToHit_X4_power : GoodIn wsX4_waysToHit wsX4_power := goodIn_r _ [14] (by decide +kernel) (by decide +kernel)
set_option maxRecDepth 20000 in
theorem gX4_waysToHit_X4_power : GoodIn wsX4_waysToHit (va_wsS RX4 23 yX4_power wsX4_power) := goodIn_app (goodIn_of _ (by decide +kernel)) ggX4_waysToHit_X4_power
theorem dX4_waysToHit_0 : decode cX4_waysToHit 0 = .ok (.aload_n 0, 1) := by decide +kernel
theorem dX4_waysToHit_1 : decode cX4_waysToHit 1 = .ok (.iload_n 2, 1) := by decide +kernel
theorem dX4_waysToHit_2 : decode cX4_waysToHit 2 = .ok (.invokevirtual 27, 3) := by decide +kernel
theorem dX4_waysToHit_5 : decode cX4_waysToHit 5 = .ok (.aload_n 0, 1) := by decide +kernel
theorem dX4_waysToHit_6 : decode cX4_waysToHit 6 = .ok (.invokevirtual 19, 3) := by decide +kernel
theorem dX4_waysToHit_9 : decode cX4_waysToHit 9 = .ok (.aload_n 0, 1) := by decide +kernel
theorem dX4_waysToHit_10 : decode cX4_waysToHit 10 = .ok (.getfield 11, 3) := by decide +kernel
theorem dX4_waysToHit_13 : decode cX4_waysToHit 13 = .ok (.iload_n 1, 1) := by decide +kernel
theorem dX4_waysToHit_14 : decode cX4_waysToHit 14 = .ok (.iaload, 1) := by decide +kernel
theorem dX4_waysToHit_15 : decode cX4_waysToHit 15 = .ok (.isub, 1) := by decide +kernel
theorem dX4_waysToHit_16 : decode cX4_waysToHit 16 = .ok (.i2l, 1) := by decide +kernel
theorem dX4_waysToHit_17 : decode cX4_waysToHit 17 = .ok (.iload_n 2, 1) := by decide +kernel
theorem dX4_waysToHit_18 : decode cX4_waysToHit 18 = .ok (.invokestatic 23, 3) := by decide +kernel
theorem dX4_waysToHit_21 : decode cX4_waysToHit 21 = .ok (.lsub, 1) := by decide +kernel
theorem dX4_waysToHit_22 : decode cX4_waysToHit 22 = .ok (.lreturn, 1) := by decide +kernel
set_option maxRecDepth 20000 in
theorem ggX4_allWaysToHit_X4_waysToHit : GoodIn wsX4_allWaysToHit wsX4_waysToHit := goodIn_r _ [6, 7, 8, 9, 10, 5, 11, 12, 13, 14, 15, 1, 16, 17, 18, 19, 20] (by decide +kernel) (by decide +kernel)
set_option maxRecDepth 20000 in
theorem gX4_allWaysToHit_X4_waysToHit : GoodIn wsX4_allWaysToHit (wsV RX4 31 RX4 yX4_waysToHit wsX4_waysToHit) := goodIn_app (goodIn_of _ (by decide +kernel)) ggX4_allWaysToHit_X4_waysToHit
theorem dX4_allWaysToHit_0 : decode cX4_allWaysToHit 0 = .ok (.lconst 0, 1) := by decide +kernel
theorem dX4_allWaysToHit_1 : decode cX4_allWaysToHit 1 = .ok (.lstore_n 2, 1) := by decide +kernel
theorem dX4_allWaysToHit_2 : decode cX4_allWaysToHit 2 = .ok (.iconst 0, 1) := by decide +kernel
theorem dX4_allWaysToHit_3 : decode cX4_allWaysToHit 3 = .ok (.istore 4, 2) := by decide +kernel
theorem dX4_allWaysToHit_5 : decode cX4_allWaysToHit 5 = .ok (.iload 4, 2) := by decide +kernel
theorem dX4_allWaysToHit_7 : decode cX4_allWaysToHit 7 = .ok (.aload_n 0, 1) := by decide +kernel
theorem dX4_allWaysToHit_8 : decode cX4_allWaysToHit 8 = .ok (.getfield 15, 3) := by decide +kernel
theorem dX4_allWaysToHit_11 : decode cX4_allWaysToHit 11 = .ok (.if_icmp .ge 19, 3) := by decide +kernel
theorem dX4_allWaysToHit_14 : decode cX4_allWaysToHit 14 = .ok (.lload_n 2, 1) := by decide +kernel
theorem dX4_allWaysToHit_15 : decode cX4_allWaysToHit 15 = .ok (.aload_n 0, 1) := by decide +kernel
theorem dX4_allWaysToHit_16 : decode cX4_allWaysToHit 16 = .ok (.iload 4, 2) := by decide +kernel
theorem dX4_allWaysToHit_18 : decode cX4_allWaysToHit 18 = .ok (.iload_n 1, 1) := by decide +kernel
theorem dX4_allWaysToHit_19 : decode cX4_allWaysToHit 19 = .ok (.invokevirtual 31, 3) := by decide +kernel
theorem dX4_allWaysToHit_22 : decode cX4_allWaysToHit 22 = .ok (.ladd, 1) := by decide +kernel
theorem dX4_allWaysToHit_23 : decode cX4_allWaysToHit 23 = .ok (.lstore_n 2, 1) := by decide +kernel
theorem dX4_allWaysToHit_24 : decode cX4_allWaysToHit 24 = .ok (.iinc 4 1, 3) := by decide +kernel
theorem dX4_allWaysToHit_27 : decode cX4_allWaysToHit 27 = .ok (.goto (-22), 3) := by decide +kernel
theorem dX4_allWaysToHit_30 : decode cX4_allWaysToHit 30 = .ok (.lload_n 2, 1) := by decide +kernel
theorem dX4_allWaysToHit_31 : decode cX4_allWaysToHit 31 = .ok (.lreturn, 1) := by decide +kernel
set_option maxRecDepth 20000 in
theorem ggX4_waysToHitAll_X4_lengthWithout : GoodIn wsX4_waysToHitAll wsX4_lengthWithout := goodIn_r _ [6, 1, 7, 18, 19] (by decide +kernel) (by decide +kernel)
set_option maxRecDepth 20000 in
theorem gX4_waysToHitAll_X4_lengthWithout : GoodIn wsX4_waysToHitAll (wsV RX4 35 RX4 yX4_lengthWithout wsX4_lengthWithout) := goodIn_app (goodIn_of _ (by decide +kernel)) ggX4_waysToHitAll_X4_lengthWithout
set_option maxRecDepth 20000 in
theorem ggX4_waysToHitAll_X4_power : GoodIn wsX4_waysToHitAll wsX4_power := goodIn_r _ [10] (by decide +kernel) (by decide +kernel)
set_option maxRecDepth 20000 in
theorem gX4_waysToHitAll_X4_power : GoodIn wsX4_waysToHitAll (va_wsS RX4 23 yX4_power wsX4_power) := goodIn_app (goodIn_of _ (by decide +kernel)) ggX4_waysToHitAll_X4_power
set_option maxRecDepth 20000 in
theorem ggX4_waysToHitAll_J6_bitCount_0f7a4 : GoodIn wsX4_waysToHitAll wsJ6_bitCount_0f7a4 := goodIn_r _ [14, 15, 16, 17] (by decide +kernel) (by decide +kernel)
set_option maxRecDepth 20000 in
theorem gX4_waysToHitAll_J6_bitCount_0f7a4 : GoodIn wsX4_waysToHitAll (va_wsS RX4 39 yJ6_bitCount_0f7a4 wsJ6_bitCount_0f7a4) := goodIn_app (goodIn_of _ (by decide +kernel)) ggX4_waysToHitAll_J6_bitCount_0f7a4
theorem dX4_waysToHitAll_0 : decode cX4_waysToHitAll 0 = .ok (.lconst 0, 1) := by decide +kernel
theorem dX4_waysToHitAll_1 : decode cX4_waysToHitAll 1 = .ok (.lstore_n 2, 1) := by decide +kernel
theorem dX4_waysToHitAll_2 : decode cX4_waysToHitAll 2 = .ok (.iconst 0, 1) := by decide +kernel
theorem dX4_waysToHitAll_3 : decode cX4_waysToHitAll 3 = .ok (.istore 4, 2) := by decide +kernel
theorem dX4_waysToHitAll_5 : decode cX4_waysToHitAll 5 = .ok (.iload 4, 2) := by decide +kernel
theorem dX4_waysToHitAll_7 : decode cX4_waysToHitAll 7 = .ok (.iconst 1, 1) := by decide +kernel
theorem dX4_waysToHitAll_8 : decode cX4_waysToHitAll 8 = .ok (.aload_n 0, 1) := by decide +kernel
theorem dX4_waysToHitAll_9 : decode cX4_waysToHitAll 9 = .ok (.getfield 15, 3) := by decide +kernel
theorem dX4_waysToHitAll_12 : decode cX4_waysToHitAll 12 = .ok (.ishl, 1) := by decide +kernel
theorem dX4_waysToHitAll_13 : decode cX4_waysToHitAll 13 = .ok (.if_icmp .ge 43, 3) := by decide +kernel
theorem dX4_waysToHitAll_16 : decode cX4_waysToHitAll 16 = .ok (.aload_n 0, 1) := by decide +kernel
theorem dX4_waysToHitAll_17 : decode cX4_waysToHitAll 17 = .ok (.iload 4, 2) := by decide +kernel
theorem dX4_waysToHitAll_19 : decode cX4_waysToHitAll 19 = .ok (.invokevirtual 35, 3) := by decide +kernel
theorem dX4_waysToHitAll_22 : decode cX4_waysToHitAll 22 = .ok (.i2l, 1) := by decide +kernel
theorem dX4_waysToHitAll_23 : decode cX4_waysToHitAll 23 = .ok (.iload_n 1, 1) := by decide +kernel
theorem dX4_waysToHitAll_24 : decode cX4_waysToHitAll 24 = .ok (.invokestatic 23, 3) := by decide +kernel
theorem dX4_waysToHitAll_27 : decode cX4_waysToHitAll 27 = .ok (.lstore 5, 2) := by decide +kernel
theorem dX4_waysToHitAll_29 : decode cX4_waysToHitAll 29 = .ok (.lload_n 2, 1) := by decide +kernel
theorem dX4_waysToHitAll_30 : decode cX4_waysToHitAll 30 = .ok (.iload 4, 2) := by decide +kernel
theorem dX4_waysToHitAll_32 : decode cX4_waysToHitAll 32 = .ok (.invokestatic 39, 3) := by decide +kernel
theorem dX4_waysToHitAll_35 : decode cX4_waysToHitAll 35 = .ok (.iconst 2, 1) := by decide +kernel
theorem dX4_waysToHitAll_36 : decode cX4_waysToHitAll 36 = .ok (.irem, 1) := by decide +kernel
theorem dX4_waysToHitAll_37 : decode cX4_waysToHitAll 37 = .ok (.ifCond .ne 8, 3) := by decide +kernel
theorem dX4_waysToHitAll_40 : decode cX4_waysToHitAll 40 = .ok (.lload 5, 2) := by decide +kernel
theorem dX4_waysToHitAll_42 : decode cX4_waysToHitAll 42 = .ok (.goto 6, 3) := by decide +kernel
theorem dX4_waysToHitAll_45 : decode cX4_waysToHitAll 45 = .ok (.lload 5, 2) := by decide +kernel
theorem dX4_waysToHitAll_47 : decode cX4_waysToHitAll 47 = .ok (.lneg, 1) := by decide +kernel
theorem dX4_waysToHitAll_48 : decode cX4_waysToHitAll 48 = .ok (.ladd, 1) := by decide +kernel
theorem dX4_waysToHitAll_49 : decode cX4_waysToHitAll 49 = .ok (.lstore_n 2, 1) := by decide +kernel
theorem dX4_waysToHitAll_50 : decode cX4_waysToHitAll 50 = .ok (.iinc 4 1, 3) := by decide +kernel
theorem dX4_waysToHitAll_53 : decode cX4_waysToHitAll 53 = .ok (.goto (-48), 3) := by decide +kernel
theorem dX4_waysToHitAll_56 : decode cX4_waysToHitAll 56 = .ok (.lload_n 2, 1) := by decide +kernel
theorem dX4_waysToHitAll_57 : decode cX4_waysToHitAll 57 = .ok (.lreturn, 1) := by decide +kernel
theorem dX4_lengthWithout_0 : decode cX4_lengthWithout 0 = .ok (.iconst 0, 1) := by decide +kernel
theorem dX4_lengthWithout_1 : decode cX4_lengthWithout 1 = .ok (.istore_n 2, 1) := by decide +kernel
theorem dX4_lengthWithout_2 : decode cX4_lengthWithout 2 = .ok (.iconst 0, 1) := by decide +kernel
theorem dX4_lengthWithout_3 : decode cX4_lengthWithout 3 = .ok (.istore_n 3, 1) := by decide +kernel
theorem dX4_lengthWithout_4 : decode cX4_lengthWithout 4 = .ok (.iload_n 3, 1) := by decide +kernel
theorem dX4_lengthWithout_5 : decode cX4_lengthWithout 5 = .ok (.aload_n 0, 1) := by decide +kernel
theorem dX4_lengthWithout_6 : decode cX4_lengthWithout 6 = .ok (.getfield 15, 3) := by decide +kernel
theorem dX4_lengthWithout_9 : decode cX4_lengthWithout 9 = .ok (.if_icmp .ge 26, 3) := by decide +kernel
theorem dX4_lengthWithout_12 : decode cX4_lengthWithout 12 = .ok (.iload_n 1, 1) := by decide +kernel
theorem dX4_lengthWithout_13 : decode cX4_lengthWithout 13 = .ok (.iload_n 3, 1) := by decide +kernel
theorem dX4_lengthWithout_14 : decode cX4_lengthWithout 14 = .ok (.iushr, 1) := by decide +kernel
theorem dX4_lengthWithout_15 : decode cX4_lengthWithout 15 = .ok (.iconst 1, 1) := by decide +kernel
theorem dX4_lengthWithout_16 : decode cX4_lengthWithout 16 = .ok (.iand, 1) := by decide +kernel
theorem dX4_lengthWithout_17 : decode cX4_lengthWithout 17 = .ok (.ifCond .ne 12, 3) := by decide +kernel
theorem dX4_lengthWithout_20 : decode cX4_lengthWithout 20 = .ok (.iload_n 2, 1) := by decide +kernel
theorem dX4_lengthWithout_21 : decode cX4_lengthWithout 21 = .ok (.aload_n 0, 1) := by decide +kernel
theorem dX4_lengthWithout_22 : decode cX4_lengthWithout 22 = .ok (.getfield 11, 3) := by decide +kernel
theorem dX4_lengthWithout_25 : decode cX4_lengthWithout 25 = .ok (.iload_n 3, 1) := by decide +kernel
theorem dX4_lengthWithout_26 : decode cX4_lengthWithout 26 = .ok (.iaload, 1) := by decide +kernel
theorem dX4_lengthWithout_27 : decode cX4_lengthWithout 27 = .ok (.iadd, 1) := by decide +kernel
theorem dX4_lengthWithout_28 : decode cX4_lengthWithout 28 = .ok (.istore_n 2, 1) := by decide +kernel
theorem dX4_lengthWithout_29 : decode cX4_lengthWithout 29 = .ok (.iinc 3 1, 3) := by decide +kernel
theorem dX4_lengthWithout_32 : decode cX4_lengthWithout 32 = .ok (.goto (-28), 3) := by decide +kernel
theorem dX4_lengthWithout_35 : decode cX4_lengthWithout 35 = .ok (.iload_n 2, 1) := by decide +kernel
theorem dX4_lengthWithout_36 : decode cX4_lengthWithout 36 = .ok (.ireturn, 1) := by decide +kernel
theorem dX4_power_0 : decode cX4_power 0 = .ok (.lconst 1, 1) := by decide +kernel
theorem dX4_power_1 : decode cX4_power 1 = .ok (.lstore_n 3, 1) := by decide +kernel
theorem dX4_power_2 : decode cX4_power 2 = .ok (.iconst 0, 1) := by decide +kernel
theorem dX4_power_3 : decode cX4_power 3 = .ok (.istore 5, 2) := by decide +kernel
theorem dX4_power_5 : decode cX4_power 5 = .ok (.iload 5, 2) := by decide +kernel
theorem dX4_power_7 : decode cX4_power 7 = .ok (.iload_n 2, 1) := by decide +kernel
theorem dX4_power_8 : decode cX4_power 8 = .ok (.if_icmp .ge 13, 3) := by decide +kernel
theorem dX4_power_11 : decode cX4_power 11 = .ok (.lload_n 3, 1) := by decide +kernel
theorem dX4_power_12 : decode cX4_power 12 = .ok (.lload_n 0, 1) := by decide +kernel
theorem dX4_power_13 : decode cX4_power 13 = .ok (.lmul, 1) := by decide +kernel
theorem dX4_power_14 : decode cX4_power 14 = .ok (.lstore_n 3, 1) := by decide +kernel
theorem dX4_power_15 : decode cX4_power 15 = .ok (.iinc 5 1, 3) := by decide +kernel
theorem dX4_power_18 : decode cX4_power 18 = .ok (.goto (-13), 3) := by decide +kernel
theorem dX4_power_21 : decode cX4_power 21 = .ok (.lload_n 3, 1) := by decide +kernel
theorem dX4_power_22 : decode cX4_power 22 = .ok (.lreturn, 1) := by decide +kernel
theorem dX5_init_0 : decode cX5_init 0 = .ok (.aload_n 0, 1) := by decide +kernel
theorem dX5_init_1 : decode cX5_init 1 = .ok (.invokespecial 3, 3) := by decide +kernel
theorem dX5_init_4 : decode cX5_init 4 = .ok (.aload_n 0, 1) := by decide +kernel
theorem dX5_init_5 : decode cX5_init 5 = .ok (.iconst 4, 1) := by decide +kernel
theorem dX5_init_6 : decode cX5_init 6 = .ok (.bipush 60, 2) := by decide +kernel
theorem dX5_init_8 : decode cX5_init 8 = .ok (.multianewarray 9 2, 4) := by decide +kernel
theorem dX5_init_12 : decode cX5_init 12 = .ok (.putfield 11, 3) := by decide +kernel
theorem dX5_init_15 : decode cX5_init 15 = .ok (.aload_n 0, 1) := by decide +kernel
theorem dX5_init_16 : decode cX5_init 16 = .ok (.iconst 4, 1) := by decide +kernel
theorem dX5_init_17 : decode cX5_init 17 = .ok (.newarray .int, 2) := by decide +kernel
theorem dX5_init_19 : decode cX5_init 19 = .ok (.putfield 16, 3) := by decide +kernel
theorem dX5_init_22 : decode cX5_init 22 = .ok (.aload_n 0, 1) := by decide +kernel
theorem dX5_init_23 : decode cX5_init 23 = .ok (.iconst 4, 1) := by decide +kernel
theorem dX5_init_24 : decode cX5_init 24 = .ok (.newarray .int, 2) := by decide +kernel
theorem dX5_init_26 : decode cX5_init 26 = .ok (.putfield 20, 3) := by decide +kernel
theorem dX5_init_29 : decode cX5_init 29 = .ok (.aload_n 0, 1) := by decide +kernel
theorem dX5_init_30 : decode cX5_init 30 = .ok (.iconst 0, 1) := by decide +kernel
theorem dX5_init_31 : decode cX5_init 31 = .ok (.putfield 23, 3) := by decide +kernel
theorem dX5_init_34 : decode cX5_init 34 = .ok (.iconst 0, 1) := by decide +kernel
theorem dX5_init_35 : decode cX5_init 35 = .ok (.istore_n 1, 1) := by decide +kernel
theorem dX5_init_36 : decode cX5_init 36 = .ok (.iload_n 1, 1) := by decide +kernel
theorem dX5_init_37 : decode cX5_init 37 = .ok (.iconst 4, 1) := by decide +kernel
theorem dX5_init_38 : decode cX5_init 38 = .ok (.if_icmp .ge 16, 3) := by decide +kernel
theorem dX5_init_41 : decode cX5_init 41 = .ok (.aload_n 0, 1) := by decide +kernel
theorem dX5_init_42 : decode cX5_init 42 = .ok (.getfield 20, 3) := by decide +kernel
theorem dX5_init_45 : decode cX5_init 45 = .ok (.iload_n 1, 1) := by decide +kernel
theorem dX5_init_46 : decode cX5_init 46 = .ok (.iconst (-1), 1) := by decide +kernel
theorem dX5_init_47 : decode cX5_init 47 = .ok (.iastore, 1) := by decide +kernel
theorem dX5_init_48 : decode cX5_init 48 = .ok (.iinc 1 1, 3) := by decide +kernel
theorem dX5_init_51 : decode cX5_init 51 = .ok (.goto (-15), 3) := by decide +kernel
theorem dX5_init_54 : decode cX5_init 54 = .ok (.return_, 1) := by decide +kernel
theorem dX5_finding_0 : decode cX5_finding 0 = .ok (.aload_n 0, 1) := by decide +kernel
theorem dX5_finding_1 : decode cX5_finding 1 = .ok (.iload_n 1, 1) := by decide +kernel
theorem dX5_finding_2 : decode cX5_finding 2 = .ok (.putfield 23, 3) := by decide +kernel
theorem dX5_finding_5 : decode cX5_finding 5 = .ok (.bipush (-10), 2) := by decide +kernel
theorem dX5_finding_7 : decode cX5_finding 7 = .ok (.iload_n 1, 1) := by decide +kernel
theorem dX5_finding_8 : decode cX5_finding 8 = .ok (.isub, 1) := by decide +kernel
theorem dX5_finding_9 : decode cX5_finding 9 = .ok (.ireturn, 1) := by decide +kernel
theorem dX5_latestFinding_0 : decode cX5_latestFinding 0 = .ok (.aload_n 0, 1) := by decide +kernel
theorem dX5_latestFinding_1 : decode cX5_latestFinding 1 = .ok (.getfield 23, 3) := by decide +kernel
theorem dX5_latestFinding_4 : decode cX5_latestFinding 4 = .ok (.ireturn, 1) := by decide +kernel
theorem dX5_isLost_0 : decode cX5_isLost 0 = .ok (.aload_n 0, 1) := by decide +kernel
theorem dX5_isLost_1 : decode cX5_isLost 1 = .ok (.getfield 20, 3) := by decide +kernel
theorem dX5_isLost_4 : decode cX5_isLost 4 = .ok (.iload_n 1, 1) := by decide +kernel
theorem dX5_isLost_5 : decode cX5_isLost 5 = .ok (.iaload, 1) := by decide +kernel
theorem dX5_isLost_6 : decode cX5_isLost 6 = .ok (.iconst (-1), 1) := by decide +kernel
theorem dX5_isLost_7 : decode cX5_isLost 7 = .ok (.if_icmp .ne 7, 3) := by decide +kernel
theorem dX5_isLost_10 : decode cX5_isLost 10 = .ok (.iconst 1, 1) := by decide +kernel
theorem dX5_isLost_11 : decode cX5_isLost 11 = .ok (.goto 4, 3) := by decide +kernel
theorem dX5_isLost_14 : decode cX5_isLost 14 = .ok (.iconst 0, 1) := by decide +kernel
theorem dX5_isLost_15 : decode cX5_isLost 15 = .ok (.ireturn, 1) := by decide +kernel
theorem dX5_itemsOf_0 : decode cX5_itemsOf 0 = .ok (.aload_n 0, 1) := by decide +kernel
theorem dX5_itemsOf_1 : decode cX5_itemsOf 1 = .ok (.getfield 20, 3) := by decide +kernel
theorem dX5_itemsOf_4 : decode cX5_itemsOf 4 = .ok (.iload_n 1, 1) := by decide +kernel
theorem dX5_itemsOf_5 : decode cX5_itemsOf 5 = .ok (.iaload, 1) := by decide +kernel
theorem dX5_itemsOf_6 : decode cX5_itemsOf 6 = .ok (.ireturn, 1) := by decide +kernel
theorem dX5_renew_0 : decode cX5_renew 0 = .ok (.aload_n 0, 1) := by decide +kernel
theorem dX5_renew_1 : decode cX5_renew 1 = .ok (.getfield 16, 3) := by decide +kernel
theorem dX5_renew_4 : decode cX5_renew 4 = .ok (.iload_n 1, 1) := by decide +kernel
theorem dX5_renew_5 : decode cX5_renew 5 = .ok (.iload_n 2, 1) := by decide +kernel
theorem dX5_renew_6 : decode cX5_renew 6 = .ok (.iastore, 1) := by decide +kernel
theorem dX5_renew_7 : decode cX5_renew 7 = .ok (.aload_n 0, 1) := by decide +kernel
theorem dX5_renew_8 : decode cX5_renew 8 = .ok (.getfield 20, 3) := by decide +kernel
theorem dX5_renew_11 : decode cX5_renew 11 = .ok (.iload_n 1, 1) := by decide +kernel
theorem dX5_renew_12 : decode cX5_renew 12 = .ok (.iload_n 3, 1) := by decide +kernel
theorem dX5_renew_13 : decode cX5_renew 13 = .ok (.iastore, 1) := by decide +kernel
theorem dX5_renew_14 : decode cX5_renew 14 = .ok (.iconst 0, 1) := by decide +kernel
theorem dX5_renew_15 : decode cX5_renew 15 = .ok (.istore 4, 2) := by decide +kernel
theorem dX5_renew_17 : decode cX5_renew 17 = .ok (.iload 4, 2) := by decide +kernel
theorem dX5_renew_19 : decode cX5_renew 19 = .ok (.iload_n 3, 1) := by decide +kernel
theorem dX5_renew_20 : decode cX5_renew 20 = .ok (.if_icmp .ge 19, 3) := by decide +kernel
theorem dX5_renew_23 : decode cX5_renew 23 = .ok (.aload_n 0, 1) := by decide +kernel
theorem dX5_renew_24 : decode cX5_renew 24 = .ok (.getfield 11, 3) := by decide +kernel
theorem dX5_renew_27 : decode cX5_renew 27 = .ok (.iload_n 1, 1) := by decide +kernel
theorem dX5_renew_28 : decode cX5_renew 28 = .ok (.aaload, 1) := by decide +kernel
theorem dX5_renew_29 : decode cX5_renew 29 = .ok (.iload 4, 2) := by decide +kernel
theorem dX5_renew_31 : decode cX5_renew 31 = .ok (.iconst 0, 1) := by decide +kernel
theorem dX5_renew_32 : decode cX5_renew 32 = .ok (.iastore, 1) := by decide +kernel
theorem dX5_renew_33 : decode cX5_renew 33 = .ok (.iinc 4 1, 3) := by decide +kernel
theorem dX5_renew_36 : decode cX5_renew 36 = .ok (.goto (-19), 3) := by decide +kernel
theorem dX5_renew_39 : decode cX5_renew 39 = .ok (.return_, 1) := by decide +kernel
theorem dX5_drop_0 : decode cX5_drop 0 = .ok (.aload_n 0, 1) := by decide +kernel
theorem dX5_drop_1 : decode cX5_drop 1 = .ok (.getfield 20, 3) := by decide +kernel
theorem dX5_drop_4 : decode cX5_drop 4 = .ok (.iload_n 1, 1) := by decide +kernel
theorem dX5_drop_5 : decode cX5_drop 5 = .ok (.iaload, 1) := by decide +kernel
theorem dX5_drop_6 : decode cX5_drop 6 = .ok (.istore_n 2, 1) := by decide +kernel
theorem dX5_drop_7 : decode cX5_drop 7 = .ok (.aload_n 0, 1) := by decide +kernel
theorem dX5_drop_8 : decode cX5_drop 8 = .ok (.getfield 20, 3) := by decide +kernel
theorem dX5_drop_11 : decode cX5_drop 11 = .ok (.iload_n 1, 1) := by decide +kernel
theorem dX5_drop_12 : decode cX5_drop 12 = .ok (.iconst (-1), 1) := by decide +kernel
theorem dX5_drop_13 : decode cX5_drop 13 = .ok (.iastore, 1) := by decide +kernel
theorem dX5_drop_14 : decode cX5_drop 14 = .ok (.iload_n 2, 1) := by decide +kernel
theorem dX5_drop_15 : decode cX5_drop 15 = .ok (.ireturn, 1) := by decide +kernel
set_option maxRecDepth 20000 in
theorem ggX5_faultOf_X5_isLost : GoodIn wsX5_faultOf wsX5_isLost := goodIn_r _ [7, 2, 11, 12, 13, 14] (by decide +kernel) (by decide +kernel)
set_option maxRecDepth 20000 in
theorem gX5_faultOf_X5_isLost : GoodIn wsX5_faultOf (wsV RX5 27 RX5 yX5_isLost wsX5_isLost) := goodIn_app (goodIn_of _ (by decide +kernel)) ggX5_faultOf_X5_isLost
set_option maxRecDepth 20000 in
theorem ggX5_faultOf_X10_outside : GoodIn wsX5_faultOf wsX10_outside := goodIn_r _ [10] (by decide +kernel) (by decide +kernel)
set_option maxRecDepth 20000 in
theorem gX5_faultOf_X10_outside_n31 : GoodIn wsX5_faultOf (wsX10_outside) := ggX5_faultOf_X10_outside
theorem dX5_faultOf_0 : decode cX5_faultOf 0 = .ok (.aload_n 0, 1) := by decide +kernel
theorem dX5_faultOf_1 : decode cX5_faultOf 1 = .ok (.iload_n 1, 1) := by decide +kernel
theorem dX5_faultOf_2 : decode cX5_faultOf 2 = .ok (.invokevirtual 27, 3) := by decide +kernel
theorem dX5_faultOf_5 : decode cX5_faultOf 5 = .ok (.ifCond .eq 5, 3) := by decide +kernel
theorem dX5_faultOf_8 : decode cX5_faultOf 8 = .ok (.iconst 1, 1) := by decide +kernel
theorem dX5_faultOf_9 : decode cX5_faultOf 9 = .ok (.ireturn, 1) := by decide +kernel
theorem dX5_faultOf_10 : decode cX5_faultOf 10 = .ok (.aload_n 0, 1) := by decide +kernel
theorem dX5_faultOf_11 : decode cX5_faultOf 11 = .ok (.getfield 16, 3) := by decide +kernel
theorem dX5_faultOf_14 : decode cX5_faultOf 14 = .ok (.iload_n 1, 1) := by decide +kernel
theorem dX5_faultOf_15 : decode cX5_faultOf 15 = .ok (.iaload, 1) := by decide +kernel
theorem dX5_faultOf_16 : decode cX5_faultOf 16 = .ok (.iload_n 2, 1) := by decide +kernel
theorem dX5_faultOf_17 : decode cX5_faultOf 17 = .ok (.if_icmp .eq 5, 3) := by decide +kernel
theorem dX5_faultOf_20 : decode cX5_faultOf 20 = .ok (.iconst 3, 1) := by decide +kernel
theorem dX5_faultOf_21 : decode cX5_faultOf 21 = .ok (.ireturn, 1) := by decide +kernel
theorem dX5_faultOf_22 : decode cX5_faultOf 22 = .ok (.iload_n 3, 1) := by decide +kernel
theorem dX5_faultOf_23 : decode cX5_faultOf 23 = .ok (.iconst 0, 1) := by decide +kernel
theorem dX5_faultOf_24 : decode cX5_faultOf 24 = .ok (.aload_n 0, 1) := by decide +kernel
theorem dX5_faultOf_25 : decode cX5_faultOf 25 = .ok (.getfield 20, 3) := by decide +kernel
theorem dX5_faultOf_28 : decode cX5_faultOf 28 = .ok (.iload_n 1, 1) := by decide +kernel
theorem dX5_faultOf_29 : decode cX5_faultOf 29 = .ok (.iaload, 1) := by decide +kernel
theorem dX5_faultOf_30 : decode cX5_faultOf 30 = .ok (.iconst 1, 1) := by decide +kernel
theorem dX5_faultOf_31 : decode cX5_faultOf 31 = .ok (.isub, 1) := by decide +kernel
theorem dX5_faultOf_32 : decode cX5_faultOf 32 = .ok (.invokestatic 31, 3) := by decide +kernel
theorem dX5_faultOf_35 : decode cX5_faultOf 35 = .ok (.ifCond .eq 7, 3) := by decide +kernel
theorem dX5_faultOf_38 : decode cX5_faultOf 38 = .ok (.iconst 2, 1) := by decide +kernel
theorem dX5_faultOf_39 : decode cX5_faultOf 39 = .ok (.goto 4, 3) := by decide +kernel
theorem dX5_faultOf_42 : decode cX5_faultOf 42 = .ok (.iconst 0, 1) := by decide +kernel
theorem dX5_faultOf_43 : decode cX5_faultOf 43 = .ok (.ireturn, 1) := by decide +kernel
theorem dX5_itemAt_0 : decode cX5_itemAt 0 = .ok (.aload_n 0, 1) := by decide +kernel
theorem dX5_itemAt_1 : decode cX5_itemAt 1 = .ok (.getfield 11, 3) := by decide +kernel
theorem dX5_itemAt_4 : decode cX5_itemAt 4 = .ok (.iload_n 1, 1) := by decide +kernel
theorem dX5_itemAt_5 : decode cX5_itemAt 5 = .ok (.aaload, 1) := by decide +kernel
theorem dX5_itemAt_6 : decode cX5_itemAt 6 = .ok (.iload_n 2, 1) := by decide +kernel
theorem dX5_itemAt_7 : decode cX5_itemAt 7 = .ok (.iaload, 1) := by decide +kernel
theorem dX5_itemAt_8 : decode cX5_itemAt 8 = .ok (.ireturn, 1) := by decide +kernel
theorem dX5_setItem_0 : decode cX5_setItem 0 = .ok (.aload_n 0, 1) := by decide +kernel
theorem dX5_setItem_1 : decode cX5_setItem 1 = .ok (.getfield 11, 3) := by decide +kernel
theorem dX5_setItem_4 : decode cX5_setItem 4 = .ok (.iload_n 1, 1) := by decide +kernel
theorem dX5_setItem_5 : decode cX5_setItem 5 = .ok (.aaload, 1) := by decide +kernel
theorem dX5_setItem_6 : decode cX5_setItem 6 = .ok (.iload_n 2, 1) := by decide +kernel
theorem dX5_setItem_7 : decode cX5_setItem 7 = .ok (.aload_n 0, 1) := by decide +kernel
theorem dX5_setItem_8 : decode cX5_setItem 8 = .ok (.getfield 16, 3) := by decide +kernel
theorem dX5_setItem_11 : decode cX5_setItem 11 = .ok (.iload_n 1, 1) := by decide +kernel
theorem dX5_setItem_12 : decode cX5_setItem 12 = .ok (.iaload, 1) := by decide +kernel
theorem dX5_setItem_13 : decode cX5_setItem 13 = .ok (.ifCond .ne 8, 3) := by decide +kernel
theorem dX5_setItem_16 : decode cX5_setItem 16 = .ok (.iload_n 3, 1) := by decide +kernel
theorem dX5_setItem_17 : decode cX5_setItem 17 = .ok (.i2b, 1) := by decide +kernel
theorem dX5_setItem_18 : decode cX5_setItem 18 = .ok (.goto 19, 3) := by decide +kernel
theorem dX5_setItem_21 : decode cX5_setItem 21 = .ok (.aload_n 0, 1) := by decide +kernel
theorem dX5_setItem_22 : decode cX5_setItem 22 = .ok (.getfield 16, 3) := by decide +kernel
theorem dX5_setItem_25 : decode cX5_setItem 25 = .ok (.iload_n 1, 1) := by decide +kernel
theorem dX5_setItem_26 : decode cX5_setItem 26 = .ok (.iaload, 1) := by decide +kernel
theorem dX5_setItem_27 : decode cX5_setItem 27 = .ok (.iconst 1, 1) := by decide +kernel
theorem dX5_setItem_28 : decode cX5_setItem 28 = .ok (.if_icmp .ne 8, 3) := by decide +kernel
theorem dX5_setItem_31 : decode cX5_setItem 31 = .ok (.iload_n 3, 1) := by decide +kernel
theorem dX5_setItem_32 : decode cX5_setItem 32 = .ok (.i2s, 1) := by decide +kernel
theorem dX5_setItem_33 : decode cX5_setItem 33 = .ok (.goto 4, 3) := by decide +kernel
theorem dX5_setItem_36 : decode cX5_setItem 36 = .ok (.iload_n 3, 1) := by decide +kernel
theorem dX5_setItem_37 : decode cX5_setItem 37 = .ok (.iastore, 1) := by decide +kernel
theorem dX5_setItem_38 : decode cX5_setItem 38 = .ok (.return_, 1) := by decide +kernel
theorem dX5_areUnlike_0 : decode cX5_areUnlike 0 = .ok (.aload_n 0, 1) := by decide +kernel
theorem dX5_areUnlike_1 : decode cX5_areUnlike 1 = .ok (.getfield 16, 3) := by decide +kernel
theorem dX5_areUnlike_4 : decode cX5_areUnlike 4 = .ok (.iload_n 1, 1) := by decide +kernel
theorem dX5_areUnlike_5 : decode cX5_areUnlike 5 = .ok (.iaload, 1) := by decide +kernel
theorem dX5_areUnlike_6 : decode cX5_areUnlike 6 = .ok (.aload_n 0, 1) := by decide +kernel
theorem dX5_areUnlike_7 : decode cX5_areUnlike 7 = .ok (.getfield 16, 3) := by decide +kernel
theorem dX5_areUnlike_10 : decode cX5_areUnlike 10 = .ok (.iload_n 2, 1) := by decide +kernel
theorem dX5_areUnlike_11 : decode cX5_areUnlike 11 = .ok (.iaload, 1) := by decide +kernel
theorem dX5_areUnlike_12 : decode cX5_areUnlike 12 = .ok (.if_icmp .eq 7, 3) := by decide +kernel
theorem dX5_areUnlike_15 : decode cX5_areUnlike 15 = .ok (.iconst 1, 1) := by decide +kernel
theorem dX5_areUnlike_16 : decode cX5_areUnlike 16 = .ok (.goto 4, 3) := by decide +kernel
theorem dX5_areUnlike_19 : decode cX5_areUnlike 19 = .ok (.iconst 0, 1) := by decide +kernel
theorem dX5_areUnlike_20 : decode cX5_areUnlike 20 = .ok (.ireturn, 1) := by decide +kernel
set_option maxRecDepth 20000 in
theorem ggX5_hasNotSoMany_X10_outside : GoodIn wsX5_hasNotSoMany wsX10_outside := goodIn_r _ [4] (by decide +kernel) (by decide +kernel)
set_option maxRecDepth 20000 in
theorem gX5_hasNotSoMany_X10_outside_n31 : GoodIn wsX5_hasNotSoMany (wsX10_outside) := ggX5_hasNotSoMany_X10_outside
theorem dX5_hasNotSoMany_0 : decode cX5_hasNotSoMany 0 = .ok (.iload_n 2, 1) := by decide +kernel
theorem dX5_hasNotSoMany_1 : decode cX5_hasNotSoMany 1 = .ok (.iconst 0, 1) := by decide +kernel
theorem dX5_hasNotSoMany_2 : decode cX5_hasNotSoMany 2 = .ok (.aload_n 0, 1) := by decide +kernel
theorem dX5_hasNotSoMany_3 : decode cX5_hasNotSoMany 3 = .ok (.getfield 20, 3) := by decide +kernel
theorem dX5_hasNotSoMany_6 : decode cX5_hasNotSoMany 6 = .ok (.iload_n 1, 1) := by decide +kernel
theorem dX5_hasNotSoMany_7 : decode cX5_hasNotSoMany 7 = .ok (.iaload, 1) := by decide +kernel
theorem dX5_hasNotSoMany_8 : decode cX5_hasNotSoMany 8 = .ok (.invokestatic 31, 3) := by decide +kernel
theorem dX5_hasNotSoMany_11 : decode cX5_hasNotSoMany 11 = .ok (.ifCond .ne 19, 3) := by decide +kernel
theorem dX5_hasNotSoMany_14 : decode cX5_hasNotSoMany 14 = .ok (.iload_n 3, 1) := by decide +kernel
theorem dX5_hasNotSoMany_15 : decode cX5_hasNotSoMany 15 = .ok (.iconst 0, 1) := by decide +kernel
theorem dX5_hasNotSoMany_16 : decode cX5_hasNotSoMany 16 = .ok (.aload_n 0, 1) := by decide +kernel
theorem dX5_hasNotSoMany_17 : decode cX5_hasNotSoMany 17 = .ok (.getfield 20, 3) := by decide +kernel
theorem dX5_hasNotSoMany_20 : decode cX5_hasNotSoMany 20 = .ok (.iload_n 1, 1) := by decide +kernel
theorem dX5_hasNotSoMany_21 : decode cX5_hasNotSoMany 21 = .ok (.iaload, 1) := by decide +kernel
theorem dX5_hasNotSoMany_22 : decode cX5_hasNotSoMany 22 = .ok (.iload_n 2, 1) := by decide +kernel
theorem dX5_hasNotSoMany_23 : decode cX5_hasNotSoMany 23 = .ok (.isub, 1) := by decide +kernel
theorem dX5_hasNotSoMany_24 : decode cX5_hasNotSoMany 24 = .ok (.invokestatic 31, 3) := by decide +kernel
theorem dX5_hasNotSoMany_27 : decode cX5_hasNotSoMany 27 = .ok (.ifCond .eq 7, 3) := by decide +kernel
theorem dX5_hasNotSoMany_30 : decode cX5_hasNotSoMany 30 = .ok (.iconst 1, 1) := by decide +kernel
theorem dX5_hasNotSoMany_31 : decode cX5_hasNotSoMany 31 = .ok (.goto 4, 3) := by decide +kernel
theorem dX5_hasNotSoMany_34 : decode cX5_hasNotSoMany 34 = .ok (.iconst 0, 1) := by decide +kernel
theorem dX5_hasNotSoMany_35 : decode cX5_hasNotSoMany 35 = .ok (.ireturn, 1) := by decide +kernel
theorem dX5_move_0 : decode cX5_move 0 = .ok (.aload_n 0, 1) := by decide +kernel
theorem dX5_move_1 : decode cX5_move 1 = .ok (.getfield 11, 3) := by decide +kernel
theorem dX5_move_4 : decode cX5_move 4 = .ok (.iload_n 1, 1) := by decide +kernel
theorem dX5_move_5 : decode cX5_move 5 = .ok (.aaload, 1) := by decide +kernel
theorem dX5_move_6 : decode cX5_move 6 = .ok (.iload_n 2, 1) := by decide +kernel
theorem dX5_move_7 : decode cX5_move 7 = .ok (.aload_n 0, 1) := by decide +kernel
theorem dX5_move_8 : decode cX5_move 8 = .ok (.getfield 11, 3) := by decide +kernel
theorem dX5_move_11 : decode cX5_move 11 = .ok (.iload_n 3, 1) := by decide +kernel
theorem dX5_move_12 : decode cX5_move 12 = .ok (.aaload, 1) := by decide +kernel
theorem dX5_move_13 : decode cX5_move 13 = .ok (.iload 4, 2) := by decide +kernel
theorem dX5_move_15 : decode cX5_move 15 = .ok (.iload 5, 2) := by decide +kernel
theorem dX5_move_17 : decode cX5_move 17 = .ok (.invokestatic 35, 3) := by decide +kernel
theorem dX5_move_20 : decode cX5_move 20 = .ok (.return_, 1) := by decide +kernel
theorem dX6_init_0 : decode cX6_init 0 = .ok (.aload_n 0, 1) := by decide +kernel
theorem dX6_init_1 : decode cX6_init 1 = .ok (.invokespecial 3, 3) := by decide +kernel
theorem dX6_init_4 : decode cX6_init 4 = .ok (.aload_n 0, 1) := by decide +kernel
theorem dX6_init_5 : decode cX6_init 5 = .ok (.iconst 2, 1) := by decide +kernel
theorem dX6_init_6 : decode cX6_init 6 = .ok (.newarray .long, 2) := by decide +kernel
theorem dX6_init_8 : decode cX6_init 8 = .ok (.putfield 9, 3) := by decide +kernel
theorem dX6_init_11 : decode cX6_init 11 = .ok (.return_, 1) := by decide +kernel
theorem dX6_setLine_0 : decode cX6_setLine 0 = .ok (.aload_n 0, 1) := by decide +kernel
theorem dX6_setLine_1 : decode cX6_setLine 1 = .ok (.getfield 9, 3) := by decide +kernel
theorem dX6_setLine_4 : decode cX6_setLine 4 = .ok (.iload_n 1, 1) := by decide +kernel
theorem dX6_setLine_5 : decode cX6_setLine 5 = .ok (.lload_n 2, 1) := by decide +kernel
theorem dX6_setLine_6 : decode cX6_setLine 6 = .ok (.lastore, 1) := by decide +kernel
theorem dX6_setLine_7 : decode cX6_setLine 7 = .ok (.return_, 1) := by decide +kernel
theorem dX6_minutesOf_0 : decode cX6_minutesOf 0 = .ok (.iload_n 1, 1) := by decide +kernel
theorem dX6_minutesOf_1 : decode cX6_minutesOf 1 = .ok (.iconst 2, 1) := by decide +kernel
theorem dX6_minutesOf_2 : decode cX6_minutesOf 2 = .ok (.if_icmp .ne 19, 3) := by decide +kernel
theorem dX6_minutesOf_5 : decode cX6_minutesOf 5 = .ok (.aload_n 0, 1) := by decide +kernel
theorem dX6_minutesOf_6 : decode cX6_minutesOf 6 = .ok (.getfield 9, 3) := by decide +kernel
theorem dX6_minutesOf_9 : decode cX6_minutesOf 9 = .ok (.iconst 0, 1) := by decide +kernel
theorem dX6_minutesOf_10 : decode cX6_minutesOf 10 = .ok (.laload, 1) := by decide +kernel
theorem dX6_minutesOf_11 : decode cX6_minutesOf 11 = .ok (.aload_n 0, 1) := by decide +kernel
theorem dX6_minutesOf_12 : decode cX6_minutesOf 12 = .ok (.getfield 9, 3) := by decide +kernel
theorem dX6_minutesOf_15 : decode cX6_minutesOf 15 = .ok (.iconst 1, 1) := by decide +kernel
theorem dX6_minutesOf_16 : decode cX6_minutesOf 16 = .ok (.laload, 1) := by decide +kernel
theorem dX6_minutesOf_17 : decode cX6_minutesOf 17 = .ok (.lor, 1) := by decide +kernel
theorem dX6_minutesOf_18 : decode cX6_minutesOf 18 = .ok (.goto 9, 3) := by decide +kernel
theorem dX6_minutesOf_21 : decode cX6_minutesOf 21 = .ok (.aload_n 0, 1) := by decide +kernel
theorem dX6_minutesOf_22 : decode cX6_minutesOf 22 = .ok (.getfield 9, 3) := by decide +kernel
theorem dX6_minutesOf_25 : decode cX6_minutesOf 25 = .ok (.iload_n 1, 1) := by decide +kernel
theorem dX6_minutesOf_26 : decode cX6_minutesOf 26 = .ok (.laload, 1) := by decide +kernel
theorem dX6_minutesOf_27 : decode cX6_minutesOf 27 = .ok (.lreturn, 1) := by decide +kernel
set_option maxRecDepth 20000 in
theorem ggX6_busesOf_X6_minutesOf : GoodIn wsX6_busesOf wsX6_minutesOf := goodIn_r _ [5, 6, 14] (by decide +kernel) (by decide +kernel)
set_option maxRecDepth 20000 in
theorem gX6_busesOf_X6_minutesOf : GoodIn wsX6_busesOf (wsV RX6 15 RX6 yX6_minutesOf wsX6_minutesOf) := goodIn_app (goodIn_of _ (by decide +kernel)) ggX6_busesOf_X6_minutesOf
set_option maxRecDepth 20000 in
theorem ggX6_busesOf_J13_bitCount_95d88 : GoodIn wsX6_busesOf wsJ13_bitCount_95d88 := goodIn_r _ [10, 11, 12, 13] (by decide +kernel) (by decide +kernel)
set_option maxRecDepth 20000 in
theorem gX6_busesOf_J13_bitCount_95d88 : GoodIn wsX6_busesOf (va_wsS RX6 19 yJ13_bitCount_95d88 wsJ13_bitCount_95d88) := goodIn_app (goodIn_of _ (by decide +kernel)) ggX6_busesOf_J13_bitCount_95d88
theorem dX6_busesOf_0 : decode cX6_busesOf 0 = .ok (.aload_n 0, 1) := by decide +kernel
theorem dX6_busesOf_1 : decode cX6_busesOf 1 = .ok (.iload_n 1, 1) := by decide +kernel
theorem dX6_busesOf_2 : decode cX6_busesOf 2 = .ok (.invokevirtual 15, 3) := by decide +kernel
theorem dX6_busesOf_5 : decode cX6_busesOf 5 = .ok (.invokestatic 19, 3) := by decide +kernel
theorem dX6_busesOf_8 : decode cX6_busesOf 8 = .ok (.ireturn, 1) := by decide +kernel
set_option maxRecDepth 20000 in
theorem ggX6_waitAt_X6_minutesOf : GoodIn wsX6_waitAt wsX6_minutesOf := goodIn_r _ [5, 6, 10] (by decide +kernel) (by decide +kernel)
set_option maxRecDepth 20000 in
theorem gX6_waitAt_X6_minutesOf : GoodIn wsX6_waitAt (wsV RX6 15 RX6 yX6_minutesOf wsX6_minutesOf) := goodIn_app (goodIn_of _ (by decide +kernel)) ggX6_waitAt_X6_minutesOf
set_option maxRecDepth 20000 in
theorem ggX6_waitAt_X6_isIn : GoodIn wsX6_waitAt wsX6_isIn := goodIn_r _ [9] (by decide +kernel) (by decide +kernel)
set_option maxRecDepth 20000 in
theorem gX6_waitAt_X6_isIn : GoodIn wsX6_waitAt (va_wsS RX6 25 yX6_isIn wsX6_isIn) := goodIn_app (goodIn_of _ (by decide +kernel)) ggX6_waitAt_X6_isIn
theorem dX6_waitAt_0 : decode cX6_waitAt 0 = .ok (.aload_n 0, 1) := by decide +kernel
theorem dX6_waitAt_1 : decode cX6_waitAt 1 = .ok (.iload_n 1, 1) := by decide +kernel
theorem dX6_waitAt_2 : decode cX6_waitAt 2 = .ok (.invokevirtual 15, 3) := by decide +kernel
theorem dX6_waitAt_5 : decode cX6_waitAt 5 = .ok (.lstore_n 3, 1) := by decide +kernel
theorem dX6_waitAt_6 : decode cX6_waitAt 6 = .ok (.iconst 0, 1) := by decide +kernel
theorem dX6_waitAt_7 : decode cX6_waitAt 7 = .ok (.istore 5, 2) := by decide +kernel
theorem dX6_waitAt_9 : decode cX6_waitAt 9 = .ok (.iload 5, 2) := by decide +kernel
theorem dX6_waitAt_11 : decode cX6_waitAt 11 = .ok (.bipush 60, 2) := by decide +kernel
theorem dX6_waitAt_13 : decode cX6_waitAt 13 = .ok (.if_icmp .ge 26, 3) := by decide +kernel
theorem dX6_waitAt_16 : decode cX6_waitAt 16 = .ok (.lload_n 3, 1) := by decide +kernel
theorem dX6_waitAt_17 : decode cX6_waitAt 17 = .ok (.iload_n 2, 1) := by decide +kernel
theorem dX6_waitAt_18 : decode cX6_waitAt 18 = .ok (.iload 5, 2) := by decide +kernel
theorem dX6_waitAt_20 : decode cX6_waitAt 20 = .ok (.iadd, 1) := by decide +kernel
theorem dX6_waitAt_21 : decode cX6_waitAt 21 = .ok (.bipush 60, 2) := by decide +kernel
theorem dX6_waitAt_23 : decode cX6_waitAt 23 = .ok (.irem, 1) := by decide +kernel
theorem dX6_waitAt_24 : decode cX6_waitAt 24 = .ok (.invokestatic 25, 3) := by decide +kernel
theorem dX6_waitAt_27 : decode cX6_waitAt 27 = .ok (.ifCond .eq 6, 3) := by decide +kernel
theorem dX6_waitAt_30 : decode cX6_waitAt 30 = .ok (.iload 5, 2) := by decide +kernel
theorem dX6_waitAt_32 : decode cX6_waitAt 32 = .ok (.ireturn, 1) := by decide +kernel
theorem dX6_waitAt_33 : decode cX6_waitAt 33 = .ok (.iinc 5 1, 3) := by decide +kernel
theorem dX6_waitAt_36 : decode cX6_waitAt 36 = .ok (.goto (-27), 3) := by decide +kernel
theorem dX6_waitAt_39 : decode cX6_waitAt 39 = .ok (.bipush 60, 2) := by decide +kernel
theorem dX6_waitAt_41 : decode cX6_waitAt 41 = .ok (.ireturn, 1) := by decide +kernel
set_option maxRecDepth 20000 in
theorem ggX6_metBy_X6_minutesOf : GoodIn wsX6_metBy wsX6_minutesOf := goodIn_r _ [5, 6, 18] (by decide +kernel) (by decide +kernel)
set_option maxRecDepth 20000 in
theorem gX6_metBy_X6_minutesOf : GoodIn wsX6_metBy (wsV RX6 15 RX6 yX6_minutesOf wsX6_minutesOf) := goodIn_app (goodIn_of _ (by decide +kernel)) ggX6_metBy_X6_minutesOf
set_option maxRecDepth 20000 in
theorem ggX6_metBy_X6_isIn : GoodIn wsX6_metBy wsX6_isIn := goodIn_r _ [9] (by decide +kernel) (by decide +kernel)
set_option maxRecDepth 20000 in
theorem gX6_metBy_X6_isIn : GoodIn wsX6_metBy (va_wsS RX6 25 yX6_isIn wsX6_isIn) := goodIn_app (goodIn_of _ (by decide +kernel)) ggX6_metBy_X6_isIn
set_option maxRecDepth 20000 in
theorem ggX6_metBy_X6_gapBehind : GoodIn wsX6_metBy wsX6_gapBehind := goodIn_r _ [13, 14, 15, 16, 4, 17, 1, 2, 3, 5, 6, 7, 8, 9, 18] (by decide +kernel) (by decide +kernel)
set_option maxRecDepth 20000 in
theorem gX6_metBy_X6_gapBehind : GoodIn wsX6_metBy (wsV RX6 29 RX6 yX6_gapBehind wsX6_gapBehind) := goodIn_app (goodIn_of _ (by decide +kernel)) ggX6_metBy_X6_gapBehind
theorem dX6_metBy_0 : decode cX6_metBy 0 = .ok (.aload_n 0, 1) := by decide +kernel
theorem dX6_metBy_1 : decode cX6_metBy 1 = .ok (.iload_n 1, 1) := by decide +kernel
theorem dX6_metBy_2 : decode cX6_metBy 2 = .ok (.invokevirtual 15, 3) := by decide +kernel
theorem dX6_metBy_5 : decode cX6_metBy 5 = .ok (.lstore_n 3, 1) := by decide +kernel
theorem dX6_metBy_6 : decode cX6_metBy 6 = .ok (.iconst 0, 1) := by decide +kernel
theorem dX6_metBy_7 : decode cX6_metBy 7 = .ok (.istore 5, 2) := by decide +kernel
theorem dX6_metBy_9 : decode cX6_metBy 9 = .ok (.iconst 0, 1) := by decide +kernel
theorem dX6_metBy_10 : decode cX6_metBy 10 = .ok (.istore 6, 2) := by decide +kernel
theorem dX6_metBy_12 : decode cX6_metBy 12 = .ok (.iload 6, 2) := by decide +kernel
theorem dX6_metBy_14 : decode cX6_metBy 14 = .ok (.bipush 60, 2) := by decide +kernel
theorem dX6_metBy_16 : decode cX6_metBy 16 = .ok (.if_icmp .ge 35, 3) := by decide +kernel
theorem dX6_metBy_19 : decode cX6_metBy 19 = .ok (.lload_n 3, 1) := by decide +kernel
theorem dX6_metBy_20 : decode cX6_metBy 20 = .ok (.iload 6, 2) := by decide +kernel
theorem dX6_metBy_22 : decode cX6_metBy 22 = .ok (.invokestatic 25, 3) := by decide +kernel
theorem dX6_metBy_25 : decode cX6_metBy 25 = .ok (.ifCond .eq 20, 3) := by decide +kernel
theorem dX6_metBy_28 : decode cX6_metBy 28 = .ok (.aload_n 0, 1) := by decide +kernel
theorem dX6_metBy_29 : decode cX6_metBy 29 = .ok (.iload_n 1, 1) := by decide +kernel
theorem dX6_metBy_30 : decode cX6_metBy 30 = .ok (.iload 6, 2) := by decide +kernel
theorem dX6_metBy_32 : decode cX6_metBy 32 = .ok (.invokevirtual 29, 3) := by decide +kernel
theorem dX6_metBy_35 : decode cX6_metBy 35 = .ok (.iload_n 2, 1) := by decide +kernel
theorem dX6_metBy_36 : decode cX6_metBy 36 = .ok (.if_icmp .ne 9, 3) := by decide +kernel
theorem dX6_metBy_39 : decode cX6_metBy 39 = .ok (.iload 5, 2) := by decide +kernel
theorem dX6_metBy_41 : decode cX6_metBy 41 = .ok (.iload_n 2, 1) := by decide +kernel
theorem dX6_metBy_42 : decode cX6_metBy 42 = .ok (.iadd, 1) := by decide +kernel
theorem dX6_metBy_43 : decode cX6_metBy 43 = .ok (.istore 5, 2) := by decide +kernel
theorem dX6_metBy_45 : decode cX6_metBy 45 = .ok (.iinc 6 1, 3) := by decide +kernel
theorem dX6_metBy_48 : decode cX6_metBy 48 = .ok (.goto (-36), 3) := by decide +kernel
theorem dX6_metBy_51 : decode cX6_metBy 51 = .ok (.iload 5, 2) := by decide +kernel
theorem dX6_metBy_53 : decode cX6_metBy 53 = .ok (.ireturn, 1) := by decide +kernel
set_option maxRecDepth 20000 in
theorem ggX6_sumOfGaps_X6_minutesOf : GoodIn wsX6_sumOfGaps wsX6_minutesOf := goodIn_r _ [5, 6, 24] (by decide +kernel) (by decide +kernel)
set_option maxRecDepth 20000 in
theorem gX6_sumOfGaps_X6_minutesOf : GoodIn wsX6_sumOfGaps (wsV RX6 15 RX6 yX6_minutesOf wsX6_minutesOf) := goodIn_app (goodIn_of _ (by decide +kernel)) ggX6_sumOfGaps_X6_minutesOf
set_option maxRecDepth 20000 in
theorem ggX6_sumOfGaps_X6_isIn : GoodIn wsX6_sumOfGaps wsX6_isIn := goodIn_r _ [9] (by decide +kernel) (by decide +kernel)
set_option maxRecDepth 20000 in
theorem gX6_sumOfGaps_X6_isIn : GoodIn wsX6_sumOfGaps (va_wsS RX6 25 yX6_isIn wsX6_isIn) := goodIn_app (goodIn_of _ (by decide +kernel)) ggX6_sumOfGaps_X6_isIn
set_option maxRecDepth 20000 in
theorem ggX6_sumOfGaps_X6_gapBehind : GoodIn wsX6_sumOfGaps wsX6_gapBehind := goodIn_r _ [13, 14, 15, 16, 4, 17, 1, 2, 3, 5, 6, 7, 8, 9, 24] (by decide +kernel) (by decide +kernel)
set_option maxRecDepth 20000 in
theorem gX6_sumOfGaps_X6_gapBehind : GoodIn wsX6_sumOfGaps (wsV RX6 29 RX6 yX6_gapBehind wsX6_gapBehind) := goodIn_app (goodIn_of _ (by decide +kernel)) ggX6_sumOfGaps_X6_gapBehind
set_option maxRecDepth 20000 in
theorem ggX6_sumOfGaps_X6_weightOf : GoodIn wsX6_sumOfGaps wsX6_weightOf := goodIn_r _ [20, 21, 22, 4, 23] (by decide +kernel) (by decide +kernel)
set_option maxRecDepth 20000 in
theorem gX6_sumOfGaps_X6_weightOf : GoodIn wsX6_sumOfGaps (va_wsS RX6 33 yX6_weightOf wsX6_weightOf) := goodIn_app (goodIn_of _ (by decide +kernel)) ggX6_sumOfGaps_X6_weightOf
theorem dX6_sumOfGaps_0 : decode cX6_sumOfGaps 0 = .ok (.aload_n 0, 1) := by decide +kernel
theorem dX6_sumOfGaps_1 : decode cX6_sumOfGaps 1 = .ok (.iload_n 1, 1) := by decide +kernel
theorem dX6_sumOfGaps_2 : decode cX6_sumOfGaps 2 = .ok (.invokevirtual 15, 3) := by decide +kernel
theorem dX6_sumOfGaps_5 : decode cX6_sumOfGaps 5 = .ok (.lstore_n 3, 1) := by decide +kernel
theorem dX6_sumOfGaps_6 : decode cX6_sumOfGaps 6 = .ok (.iconst 0, 1) := by decide +kernel
theorem dX6_sumOfGaps_7 : decode cX6_sumOfGaps 7 = .ok (.istore 5, 2) := by decide +kernel
theorem dX6_sumOfGaps_9 : decode cX6_sumOfGaps 9 = .ok (.iconst 0, 1) := by decide +kernel
theorem dX6_sumOfGaps_10 : decode cX6_sumOfGaps 10 = .ok (.istore 6, 2) := by decide +kernel
theorem dX6_sumOfGaps_12 : decode cX6_sumOfGaps 12 = .ok (.iload 6, 2) := by decide +kernel
theorem dX6_sumOfGaps_14 : decode cX6_sumOfGaps 14 = .ok (.bipush 60, 2) := by decide +kernel
theorem dX6_sumOfGaps_16 : decode cX6_sumOfGaps 16 = .ok (.if_icmp .ge 34, 3) := by decide +kernel
theorem dX6_sumOfGaps_19 : decode cX6_sumOfGaps 19 = .ok (.lload_n 3, 1) := by decide +kernel
theorem dX6_sumOfGaps_20 : decode cX6_sumOfGaps 20 = .ok (.iload 6, 2) := by decide +kernel
theorem dX6_sumOfGaps_22 : decode cX6_sumOfGaps 22 = .ok (.invokestatic 25, 3) := by decide +kernel
theorem dX6_sumOfGaps_25 : decode cX6_sumOfGaps 25 = .ok (.ifCond .eq 19, 3) := by decide +kernel
theorem dX6_sumOfGaps_28 : decode cX6_sumOfGaps 28 = .ok (.iload 5, 2) := by decide +kernel
theorem dX6_sumOfGaps_30 : decode cX6_sumOfGaps 30 = .ok (.aload_n 0, 1) := by decide +kernel
theorem dX6_sumOfGaps_31 : decode cX6_sumOfGaps 31 = .ok (.iload_n 1, 1) := by decide +kernel
theorem dX6_sumOfGaps_32 : decode cX6_sumOfGaps 32 = .ok (.iload 6, 2) := by decide +kernel
theorem dX6_sumOfGaps_34 : decode cX6_sumOfGaps 34 = .ok (.invokevirtual 29, 3) := by decide +kernel
theorem dX6_sumOfGaps_37 : decode cX6_sumOfGaps 37 = .ok (.iload_n 2, 1) := by decide +kernel
theorem dX6_sumOfGaps_38 : decode cX6_sumOfGaps 38 = .ok (.invokestatic 33, 3) := by decide +kernel
theorem dX6_sumOfGaps_41 : decode cX6_sumOfGaps 41 = .ok (.iadd, 1) := by decide +kernel
theorem dX6_sumOfGaps_42 : decode cX6_sumOfGaps 42 = .ok (.istore 5, 2) := by decide +kernel
theorem dX6_sumOfGaps_44 : decode cX6_sumOfGaps 44 = .ok (.iinc 6 1, 3) := by decide +kernel
theorem dX6_sumOfGaps_47 : decode cX6_sumOfGaps 47 = .ok (.goto (-35), 3) := by decide +kernel
theorem dX6_sumOfGaps_50 : decode cX6_sumOfGaps 50 = .ok (.iload 5, 2) := by decide +kernel
theorem dX6_sumOfGaps_52 : decode cX6_sumOfGaps 52 = .ok (.ireturn, 1) := by decide +kernel
set_option maxRecDepth 20000 in
theorem ggX6_weightOf_X6_waitsIn : GoodIn wsX6_weightOf wsX6_waitsIn := goodIn_r _ [4] (by decide +kernel) (by decide +kernel)
set_option maxRecDepth 20000 in
theorem gX6_weightOf_X6_waitsIn : GoodIn wsX6_weightOf (va_wsS RX6 36 yX6_waitsIn wsX6_waitsIn) := goodIn_app (goodIn_of _ (by decide +kernel)) ggX6_weightOf_X6_waitsIn
theorem dX6_weightOf_0 : decode cX6_weightOf 0 = .ok (.iload_n 1, 1) := by decide +kernel
theorem dX6_weightOf_1 : decode cX6_weightOf 1 = .ok (.ifCond .ne 5, 3) := by decide +kernel
theorem dX6_weightOf_4 : decode cX6_weightOf 4 = .ok (.iload_n 0, 1) := by decide +kernel
theorem dX6_weightOf_5 : decode cX6_weightOf 5 = .ok (.ireturn, 1) := by decide +kernel
theorem dX6_weightOf_6 : decode cX6_weightOf 6 = .ok (.iload_n 1, 1) := by decide +kernel
theorem dX6_weightOf_7 : decode cX6_weightOf 7 = .ok (.iconst 1, 1) := by decide +kernel
theorem dX6_weightOf_8 : decode cX6_weightOf 8 = .ok (.if_icmp .ne 9, 3) := by decide +kernel
theorem dX6_weightOf_11 : decode cX6_weightOf 11 = .ok (.iload_n 0, 1) := by decide +kernel
theorem dX6_weightOf_12 : decode cX6_weightOf 12 = .ok (.iload_n 0, 1) := by decide +kernel
theorem dX6_weightOf_13 : decode cX6_weightOf 13 = .ok (.imul, 1) := by decide +kernel
theorem dX6_weightOf_14 : decode cX6_weightOf 14 = .ok (.goto 7, 3) := by decide +kernel
theorem dX6_weightOf_17 : decode cX6_weightOf 17 = .ok (.iload_n 0, 1) := by decide +kernel
theorem dX6_weightOf_18 : decode cX6_weightOf 18 = .ok (.invokestatic 36, 3) := by decide +kernel
theorem dX6_weightOf_21 : decode cX6_weightOf 21 = .ok (.ireturn, 1) := by decide +kernel
set_option maxRecDepth 20000 in
theorem ggX6_gapBehind_X6_waitAt : GoodIn wsX6_gapBehind wsX6_waitAt := goodIn_r _ [5, 6, 7, 8, 4, 9, 10, 11, 12, 13, 14] (by decide +kernel) (by decide +kernel)
set_option maxRecDepth 20000 in
theorem gX6_gapBehind_X6_waitAt : GoodIn wsX6_gapBehind (wsV RX6 40 RX6 yX6_waitAt wsX6_waitAt) := goodIn_app (goodIn_of _ (by decide +kernel)) ggX6_gapBehind_X6_waitAt
theorem dX6_gapBehind_0 : decode cX6_gapBehind 0 = .ok (.iconst 1, 1) := by decide +kernel
theorem dX6_gapBehind_1 : decode cX6_gapBehind 1 = .ok (.aload_n 0, 1) := by decide +kernel
theorem dX6_gapBehind_2 : decode cX6_gapBehind 2 = .ok (.iload_n 1, 1) := by decide +kernel
theorem dX6_gapBehind_3 : decode cX6_gapBehind 3 = .ok (.iload_n 2, 1) := by decide +kernel
theorem dX6_gapBehind_4 : decode cX6_gapBehind 4 = .ok (.iconst 1, 1) := by decide +kernel
theorem dX6_gapBehind_5 : decode cX6_gapBehind 5 = .ok (.iadd, 1) := by decide +kernel
theorem dX6_gapBehind_6 : decode cX6_gapBehind 6 = .ok (.bipush 60, 2) := by decide +kernel
theorem dX6_gapBehind_8 : decode cX6_gapBehind 8 = .ok (.irem, 1) := by decide +kernel
theorem dX6_gapBehind_9 : decode cX6_gapBehind 9 = .ok (.invokevirtual 40, 3) := by decide +kernel
theorem dX6_gapBehind_12 : decode cX6_gapBehind 12 = .ok (.iadd, 1) := by decide +kernel
theorem dX6_gapBehind_13 : decode cX6_gapBehind 13 = .ok (.ireturn, 1) := by decide +kernel
theorem dX6_isIn_0 : decode cX6_isIn 0 = .ok (.lload_n 0, 1) := by decide +kernel
theorem dX6_isIn_1 : decode cX6_isIn 1 = .ok (.iload_n 2, 1) := by decide +kernel
theorem dX6_isIn_2 : decode cX6_isIn 2 = .ok (.lushr, 1) := by decide +kernel
theorem dX6_isIn_3 : decode cX6_isIn 3 = .ok (.lconst 1, 1) := by decide +kernel
theorem dX6_isIn_4 : decode cX6_isIn 4 = .ok (.land, 1) := by decide +kernel
theorem dX6_isIn_5 : decode cX6_isIn 5 = .ok (.lconst 0, 1) := by decide +kernel
theorem dX6_isIn_6 : decode cX6_isIn 6 = .ok (.lcmp, 1) := by decide +kernel
theorem dX6_isIn_7 : decode cX6_isIn 7 = .ok (.ifCond .eq 7, 3) := by decide +kernel
theorem dX6_isIn_10 : decode cX6_isIn 10 = .ok (.iconst 1, 1) := by decide +kernel
theorem dX6_isIn_11 : decode cX6_isIn 11 = .ok (.goto 4, 3) := by decide +kernel
theorem dX6_isIn_14 : decode cX6_isIn 14 = .ok (.iconst 0, 1) := by decide +kernel
theorem dX6_isIn_15 : decode cX6_isIn 15 = .ok (.ireturn, 1) := by decide +kernel
theorem dX6_waitsIn_0 : decode cX6_waitsIn 0 = .ok (.iload_n 0, 1) := by decide +kernel
theorem dX6_waitsIn_1 : decode cX6_waitsIn 1 = .ok (.iload_n 0, 1) := by decide +kernel
theorem dX6_waitsIn_2 : decode cX6_waitsIn 2 = .ok (.iconst 1, 1) := by decide +kernel
theorem dX6_waitsIn_3 : decode cX6_waitsIn 3 = .ok (.isub, 1) := by decide +kernel
theorem dX6_waitsIn_4 : decode cX6_waitsIn 4 = .ok (.imul, 1) := by decide +kernel
theorem dX6_waitsIn_5 : decode cX6_waitsIn 5 = .ok (.iconst 2, 1) := by decide +kernel
theorem dX6_waitsIn_6 : decode cX6_waitsIn 6 = .ok (.idiv, 1) := by decide +kernel
theorem dX6_waitsIn_7 : decode cX6_waitsIn 7 = .ok (.ireturn, 1) := by decide +kernel
theorem dX7_init_0 : decode cX7_init 0 = .ok (.aload_n 0, 1) := by decide +kernel
theorem dX7_init_1 : decode cX7_init 1 = .ok (.invokespecial 3, 3) := by decide +kernel
theorem dX7_init_4 : decode cX7_init 4 = .ok (.aload_n 0, 1) := by decide +kernel
theorem dX7_init_5 : decode cX7_init 5 = .ok (.bipush 40, 2) := by decide +kernel
theorem dX7_init_7 : decode cX7_init 7 = .ok (.newarray .int, 2) := by decide +kernel
theorem dX7_init_9 : decode cX7_init 9 = .ok (.putfield 11, 3) := by decide +kernel
theorem dX7_init_12 : decode cX7_init 12 = .ok (.aload_n 0, 1) := by decide +kernel
theorem dX7_init_13 : decode cX7_init 13 = .ok (.bipush 40, 2) := by decide +kernel
theorem dX7_init_15 : decode cX7_init 15 = .ok (.newarray .int, 2) := by decide +kernel
theorem dX7_init_17 : decode cX7_init 17 = .ok (.putfield 15, 3) := by decide +kernel
theorem dX7_init_20 : decode cX7_init 20 = .ok (.aload_n 0, 1) := by decide +kernel
theorem dX7_init_21 : decode cX7_init 21 = .ok (.bipush 40, 2) := by decide +kernel
theorem dX7_init_23 : decode cX7_init 23 = .ok (.newarray .int, 2) := by decide +kernel
theorem dX7_init_25 : decode cX7_init 25 = .ok (.putfield 18, 3) := by decide +kernel
theorem dX7_init_28 : decode cX7_init 28 = .ok (.aload_n 0, 1) := by decide +kernel
theorem dX7_init_29 : decode cX7_init 29 = .ok (.iconst 0, 1) := by decide +kernel
theorem dX7_init_30 : decode cX7_init 30 = .ok (.putfield 21, 3) := by decide +kernel
theorem dX7_init_33 : decode cX7_init 33 = .ok (.aload_n 0, 1) := by decide +kernel
theorem dX7_init_34 : decode cX7_init 34 = .ok (.iconst 0, 1) := by decide +kernel
theorem dX7_init_35 : decode cX7_init 35 = .ok (.putfield 25, 3) := by decide +kernel
theorem dX7_init_38 : decode cX7_init 38 = .ok (.aload_n 0, 1) := by decide +kernel
theorem dX7_init_39 : decode cX7_init 39 = .ok (.sipush 999, 3) := by decide +kernel
theorem dX7_init_42 : decode cX7_init 42 = .ok (.putfield 28, 3) := by decide +kernel
theorem dX7_init_45 : decode cX7_init 45 = .ok (.return_, 1) := by decide +kernel
set_option maxRecDepth 20000 in
theorem ggX7_cannotBeNow_X10_outside : GoodIn wsX7_cannotBeNow wsX10_outside := goodIn_r _ [4] (by decide +kernel) (by decide +kernel)
set_option maxRecDepth 20000 in
theorem gX7_cannotBeNow_X10_outside_n31 : GoodIn wsX7_cannotBeNow (wsX10_outside) := ggX7_cannotBeNow_X10_outside
theorem dX7_cannotBeNow_0 : decode cX7_cannotBeNow 0 = .ok (.iload_n 1, 1) := by decide +kernel
theorem dX7_cannotBeNow_1 : decode cX7_cannotBeNow 1 = .ok (.aload_n 0, 1) := by decide +kernel
theorem dX7_cannotBeNow_2 : decode cX7_cannotBeNow 2 = .ok (.getfield 25, 3) := by decide +kernel
theorem dX7_cannotBeNow_5 : decode cX7_cannotBeNow 5 = .ok (.sipush 999, 3) := by decide +kernel
theorem dX7_cannotBeNow_8 : decode cX7_cannotBeNow 8 = .ok (.invokestatic 31, 3) := by decide +kernel
theorem dX7_cannotBeNow_11 : decode cX7_cannotBeNow 11 = .ok (.ireturn, 1) := by decide +kernel
theorem dX7_answer_0 : decode cX7_answer 0 = .ok (.aload_n 0, 1) := by decide +kernel
theorem dX7_answer_1 : decode cX7_answer 1 = .ok (.getfield 21, 3) := by decide +kernel
theorem dX7_answer_4 : decode cX7_answer 4 = .ok (.bipush 40, 2) := by decide +kernel
theorem dX7_answer_6 : decode cX7_answer 6 = .ok (.if_icmp .lt 6, 3) := by decide +kernel
theorem dX7_answer_9 : decode cX7_answer 9 = .ok (.bipush (-4), 2) := by decide +kernel
theorem dX7_answer_11 : decode cX7_answer 11 = .ok (.ireturn, 1) := by decide +kernel
theorem dX7_answer_12 : decode cX7_answer 12 = .ok (.aload_n 0, 1) := by decide +kernel
theorem dX7_answer_13 : decode cX7_answer 13 = .ok (.getfield 11, 3) := by decide +kernel
theorem dX7_answer_16 : decode cX7_answer 16 = .ok (.aload_n 0, 1) := by decide +kernel
theorem dX7_answer_17 : decode cX7_answer 17 = .ok (.getfield 21, 3) := by decide +kernel
theorem dX7_answer_20 : decode cX7_answer 20 = .ok (.iload_n 1, 1) := by decide +kernel
theorem dX7_answer_21 : decode cX7_answer 21 = .ok (.iastore, 1) := by decide +kernel
theorem dX7_answer_22 : decode cX7_answer 22 = .ok (.aload_n 0, 1) := by decide +kernel
theorem dX7_answer_23 : decode cX7_answer 23 = .ok (.getfield 15, 3) := by decide +kernel
theorem dX7_answer_26 : decode cX7_answer 26 = .ok (.aload_n 0, 1) := by decide +kernel
theorem dX7_answer_27 : decode cX7_answer 27 = .ok (.getfield 21, 3) := by decide +kernel
theorem dX7_answer_30 : decode cX7_answer 30 = .ok (.iload_n 2, 1) := by decide +kernel
theorem dX7_answer_31 : decode cX7_answer 31 = .ok (.iastore, 1) := by decide +kernel
theorem dX7_answer_32 : decode cX7_answer 32 = .ok (.aload_n 0, 1) := by decide +kernel
theorem dX7_answer_33 : decode cX7_answer 33 = .ok (.getfield 18, 3) := by decide +kernel
theorem dX7_answer_36 : decode cX7_answer 36 = .ok (.aload_n 0, 1) := by decide +kernel
theorem dX7_answer_37 : decode cX7_answer 37 = .ok (.getfield 21, 3) := by decide +kernel
theorem dX7_answer_40 : decode cX7_answer 40 = .ok (.sipush 1000, 3) := by decide +kernel
theorem dX7_answer_43 : decode cX7_answer 43 = .ok (.iastore, 1) := by decide +kernel
theorem dX7_answer_44 : decode cX7_answer 44 = .ok (.aload_n 0, 1) := by decide +kernel
theorem dX7_answer_45 : decode cX7_answer 45 = .ok (.iload_n 2, 1) := by decide +kernel
theorem dX7_answer_46 : decode cX7_answer 46 = .ok (.putfield 25, 3) := by decide +kernel
theorem dX7_answer_49 : decode cX7_answer 49 = .ok (.aload_n 0, 1) := by decide +kernel
theorem dX7_answer_50 : decode cX7_answer 50 = .ok (.dup, 1) := by decide +kernel
theorem dX7_answer_51 : decode cX7_answer 51 = .ok (.getfield 21, 3) := by decide +kernel
theorem dX7_answer_54 : decode cX7_answer 54 = .ok (.iconst 1, 1) := by decide +kernel
theorem dX7_answer_55 : decode cX7_answer 55 = .ok (.iadd, 1) := by decide +kernel
theorem dX7_answer_56 : decode cX7_answer 56 = .ok (.putfield 21, 3) := by decide +kernel
theorem dX7_answer_59 : decode cX7_answer 59 = .ok (.aload_n 0, 1) := by decide +kernel
theorem dX7_answer_60 : decode cX7_answer 60 = .ok (.getfield 21, 3) := by decide +kernel
theorem dX7_answer_63 : decode cX7_answer 63 = .ok (.iconst 1, 1) := by decide +kernel
theorem dX7_answer_64 : decode cX7_answer 64 = .ok (.isub, 1) := by decide +kernel
theorem dX7_answer_65 : decode cX7_answer 65 = .ok (.ireturn, 1) := by decide +kernel
theorem dX7_answersTold_0 : decode cX7_answersTold 0 = .ok (.aload_n 0, 1) := by decide +kernel
theorem dX7_answersTold_1 : decode cX7_answersTold 1 = .ok (.getfield 21, 3) := by decide +kernel
theorem dX7_answersTold_4 : decode cX7_answersTold 4 = .ok (.ireturn, 1) := by decide +kernel
theorem dX7_isTakenBack_0 : decode cX7_isTakenBack 0 = .ok (.aload_n 0, 1) := by decide +kernel
theorem dX7_isTakenBack_1 : decode cX7_isTakenBack 1 = .ok (.getfield 18, 3) := by decide +kernel
theorem dX7_isTakenBack_4 : decode cX7_isTakenBack 4 = .ok (.iload_n 1, 1) := by decide +kernel
theorem dX7_isTakenBack_5 : decode cX7_isTakenBack 5 = .ok (.iaload, 1) := by decide +kernel
theorem dX7_isTakenBack_6 : decode cX7_isTakenBack 6 = .ok (.sipush 1000, 3) := by decide +kernel
theorem dX7_isTakenBack_9 : decode cX7_isTakenBack 9 = .ok (.if_icmp .eq 7, 3) := by decide +kernel
theorem dX7_isTakenBack_12 : decode cX7_isTakenBack 12 = .ok (.iconst 1, 1) := by decide +kernel
theorem dX7_isTakenBack_13 : decode cX7_isTakenBack 13 = .ok (.goto 4, 3) := by decide +kernel
theorem dX7_isTakenBack_16 : decode cX7_isTakenBack 16 = .ok (.iconst 0, 1) := by decide +kernel
theorem dX7_isTakenBack_17 : decode cX7_isTakenBack 17 = .ok (.ireturn, 1) := by decide +kernel
theorem dX7_forget_0 : decode cX7_forget 0 = .ok (.aload_n 0, 1) := by decide +kernel
theorem dX7_forget_1 : decode cX7_forget 1 = .ok (.getfield 18, 3) := by decide +kernel
theorem dX7_forget_4 : decode cX7_forget 4 = .ok (.iload_n 1, 1) := by decide +kernel
theorem dX7_forget_5 : decode cX7_forget 5 = .ok (.iload_n 2, 1) := by decide +kernel
theorem dX7_forget_6 : decode cX7_forget 6 = .ok (.iastore, 1) := by decide +kernel
theorem dX7_forget_7 : decode cX7_forget 7 = .ok (.aload_n 0, 1) := by decide +kernel
theorem dX7_forget_8 : decode cX7_forget 8 = .ok (.iload_n 2, 1) := by decide +kernel
theorem dX7_forget_9 : decode cX7_forget 9 = .ok (.putfield 25, 3) := by decide +kernel
theorem dX7_forget_12 : decode cX7_forget 12 = .ok (.return_, 1) := by decide +kernel
theorem dX7_lookFrom_0 : decode cX7_lookFrom 0 = .ok (.aload_n 0, 1) := by decide +kernel
theorem dX7_lookFrom_1 : decode cX7_lookFrom 1 = .ok (.getfield 28, 3) := by decide +kernel
theorem dX7_lookFrom_4 : decode cX7_lookFrom 4 = .ok (.istore_n 2, 1) := by decide +kernel
theorem dX7_lookFrom_5 : decode cX7_lookFrom 5 = .ok (.aload_n 0, 1) := by decide +kernel
theorem dX7_lookFrom_6 : decode cX7_lookFrom 6 = .ok (.iload_n 1, 1) := by decide +kernel
theorem dX7_lookFrom_7 : decode cX7_lookFrom 7 = .ok (.putfield 28, 3) := by decide +kernel
theorem dX7_lookFrom_10 : decode cX7_lookFrom 10 = .ok (.iload_n 2, 1) := by decide +kernel
theorem dX7_lookFrom_11 : decode cX7_lookFrom 11 = .ok (.ireturn, 1) := by decide +kernel
set_option maxRecDepth 20000 in
theorem ggX7_saying_X7_counts : GoodIn wsX7_saying wsX7_counts := goodIn_r _ [7, 8, 9, 10, 11, 12, 13, 14, 15, 16] (by decide +kernel) (by decide +kernel)
set_option maxRecDepth 20000 in
theorem gX7_saying_X7_counts : GoodIn wsX7_saying (wsV RX7 35 RX7 yX7_counts wsX7_counts) := goodIn_app (goodIn_of _ (by decide +kernel)) ggX7_saying_X7_counts
theorem dX7_saying_0 : decode cX7_saying 0 = .ok (.iconst 0, 1) := by decide +kernel
theorem dX7_saying_1 : decode cX7_saying 1 = .ok (.istore_n 2, 1) := by decide +kernel
theorem dX7_saying_2 : decode cX7_saying 2 = .ok (.iconst 0, 1) := by decide +kernel
theorem dX7_saying_3 : decode cX7_saying 3 = .ok (.istore_n 3, 1) := by decide +kernel
theorem dX7_saying_4 : decode cX7_saying 4 = .ok (.iload_n 3, 1) := by decide +kernel
theorem dX7_saying_5 : decode cX7_saying 5 = .ok (.aload_n 0, 1) := by decide +kernel
theorem dX7_saying_6 : decode cX7_saying 6 = .ok (.getfield 21, 3) := by decide +kernel
theorem dX7_saying_9 : decode cX7_saying 9 = .ok (.if_icmp .ge 30, 3) := by decide +kernel
theorem dX7_saying_12 : decode cX7_saying 12 = .ok (.aload_n 0, 1) := by decide +kernel
theorem dX7_saying_13 : decode cX7_saying 13 = .ok (.getfield 11, 3) := by decide +kernel
theorem dX7_saying_16 : decode cX7_saying 16 = .ok (.iload_n 3, 1) := by decide +kernel
theorem dX7_saying_17 : decode cX7_saying 17 = .ok (.iaload, 1) := by decide +kernel
theorem dX7_saying_18 : decode cX7_saying 18 = .ok (.iload_n 1, 1) := by decide +kernel
theorem dX7_saying_19 : decode cX7_saying 19 = .ok (.if_icmp .ne 14, 3) := by decide +kernel
theorem dX7_saying_22 : decode cX7_saying 22 = .ok (.aload_n 0, 1) := by decide +kernel
theorem dX7_saying_23 : decode cX7_saying 23 = .ok (.iload_n 3, 1) := by decide +kernel
theorem dX7_saying_24 : decode cX7_saying 24 = .ok (.invokevirtual 35, 3) := by decide +kernel
theorem dX7_saying_27 : decode cX7_saying 27 = .ok (.ifCond .eq 6, 3) := by decide +kernel
theorem dX7_saying_30 : decode cX7_saying 30 = .ok (.iinc 2 1, 3) := by decide +kernel
theorem dX7_saying_33 : decode cX7_saying 33 = .ok (.iinc 3 1, 3) := by decide +kernel
theorem dX7_saying_36 : decode cX7_saying 36 = .ok (.goto (-32), 3) := by decide +kernel
theorem dX7_saying_39 : decode cX7_saying 39 = .ok (.iload_n 2, 1) := by decide +kernel
theorem dX7_saying_40 : decode cX7_saying 40 = .ok (.ireturn, 1) := by decide +kernel
set_option maxRecDepth 20000 in
theorem ggX7_counting_X7_counts : GoodIn wsX7_counting wsX7_counts := goodIn_r _ [6, 7, 8, 9, 10, 11, 12, 13, 14, 15] (by decide +kernel) (by decide +kernel)
set_option maxRecDepth 20000 in
theorem gX7_counting_X7_counts : GoodIn wsX7_counting (wsV RX7 35 RX7 yX7_counts wsX7_counts) := goodIn_app (goodIn_of _ (by decide +kernel)) ggX7_counting_X7_counts
theorem dX7_counting_0 : decode cX7_counting 0 = .ok (.iconst 0, 1) := by decide +kernel
theorem dX7_counting_1 : decode cX7_counting 1 = .ok (.istore_n 1, 1) := by decide +kernel
theorem dX7_counting_2 : decode cX7_counting 2 = .ok (.iconst 0, 1) := by decide +kernel
theorem dX7_counting_3 : decode cX7_counting 3 = .ok (.istore_n 2, 1) := by decide +kernel
theorem dX7_counting_4 : decode cX7_counting 4 = .ok (.iload_n 2, 1) := by decide +kernel
theorem dX7_counting_5 : decode cX7_counting 5 = .ok (.aload_n 0, 1) := by decide +kernel
theorem dX7_counting_6 : decode cX7_counting 6 = .ok (.getfield 21, 3) := by decide +kernel
theorem dX7_counting_9 : decode cX7_counting 9 = .ok (.if_icmp .ge 20, 3) := by decide +kernel
theorem dX7_counting_12 : decode cX7_counting 12 = .ok (.aload_n 0, 1) := by decide +kernel
theorem dX7_counting_13 : decode cX7_counting 13 = .ok (.iload_n 2, 1) := by decide +kernel
theorem dX7_counting_14 : decode cX7_counting 14 = .ok (.invokevirtual 35, 3) := by decide +kernel
theorem dX7_counting_17 : decode cX7_counting 17 = .ok (.ifCond .eq 6, 3) := by decide +kernel
theorem dX7_counting_20 : decode cX7_counting 20 = .ok (.iinc 1 1, 3) := by decide +kernel
theorem dX7_counting_23 : decode cX7_counting 23 = .ok (.iinc 2 1, 3) := by decide +kernel
theorem dX7_counting_26 : decode cX7_counting 26 = .ok (.goto (-22), 3) := by decide +kernel
theorem dX7_counting_29 : decode cX7_counting 29 = .ok (.iload_n 1, 1) := by decide +kernel
theorem dX7_counting_30 : decode cX7_counting 30 = .ok (.ireturn, 1) := by decide +kernel
set_option maxRecDepth 20000 in
theorem ggX7_childrenSaid_X7_saying : GoodIn wsX7_childrenSaid wsX7_saying := goodIn_r _ [5, 6, 7, 8, 9, 10, 4, 11, 12, 13, 14, 15, 16, 17, 18, 19, 20] (by decide +kernel) (by decide +kernel)
set_option maxRecDepth 20000 in
theorem gX7_childrenSaid_X7_saying : GoodIn wsX7_childrenSaid (wsV RX7 39 RX7 yX7_saying wsX7_saying) := goodIn_app (goodIn_of _ (by decide +kernel)) ggX7_childrenSaid_X7_saying
theorem dX7_childrenSaid_0 : decode cX7_childrenSaid 0 = .ok (.iconst 0, 1) := by decide +kernel
theorem dX7_childrenSaid_1 : decode cX7_childrenSaid 1 = .ok (.istore_n 1, 1) := by decide +kernel
theorem dX7_childrenSaid_2 : decode cX7_childrenSaid 2 = .ok (.iconst 1, 1) := by decide +kernel
theorem dX7_childrenSaid_3 : decode cX7_childrenSaid 3 = .ok (.istore_n 2, 1) := by decide +kernel
theorem dX7_childrenSaid_4 : decode cX7_childrenSaid 4 = .ok (.iload_n 2, 1) := by decide +kernel
theorem dX7_childrenSaid_5 : decode cX7_childrenSaid 5 = .ok (.bipush 8, 2) := by decide +kernel
theorem dX7_childrenSaid_7 : decode cX7_childrenSaid 7 = .ok (.if_icmp .gt 19, 3) := by decide +kernel
theorem dX7_childrenSaid_10 : decode cX7_childrenSaid 10 = .ok (.iload_n 1, 1) := by decide +kernel
theorem dX7_childrenSaid_11 : decode cX7_childrenSaid 11 = .ok (.iload_n 2, 1) := by decide +kernel
theorem dX7_childrenSaid_12 : decode cX7_childrenSaid 12 = .ok (.aload_n 0, 1) := by decide +kernel
theorem dX7_childrenSaid_13 : decode cX7_childrenSaid 13 = .ok (.iload_n 2, 1) := by decide +kernel
theorem dX7_childrenSaid_14 : decode cX7_childrenSaid 14 = .ok (.invokevirtual 39, 3) := by decide +kernel
theorem dX7_childrenSaid_17 : decode cX7_childrenSaid 17 = .ok (.imul, 1) := by decide +kernel
theorem dX7_childrenSaid_18 : decode cX7_childrenSaid 18 = .ok (.iadd, 1) := by decide +kernel
theorem dX7_childrenSaid_19 : decode cX7_childrenSaid 19 = .ok (.istore_n 1, 1) := by decide +kernel
theorem dX7_childrenSaid_20 : decode cX7_childrenSaid 20 = .ok (.iinc 2 1, 3) := by decide +kernel
theorem dX7_childrenSaid_23 : decode cX7_childrenSaid 23 = .ok (.goto (-19), 3) := by decide +kernel
theorem dX7_childrenSaid_26 : decode cX7_childrenSaid 26 = .ok (.iload_n 1, 1) := by decide +kernel
theorem dX7_childrenSaid_27 : decode cX7_childrenSaid 27 = .ok (.ireturn, 1) := by decide +kernel
set_option maxRecDepth 20000 in
theorem ggX7_familyParts_X7_saying : GoodIn wsX7_familyParts wsX7_saying := goodIn_r _ [5, 6, 7, 8, 9, 10, 4, 11, 12, 13, 14, 15, 16, 17, 18, 19, 20] (by decide +kernel) (by decide +kernel)
set_option maxRecDepth 20000 in
theorem gX7_familyParts_X7_saying : GoodIn wsX7_familyParts (wsV RX7 39 RX7 yX7_saying wsX7_saying) := goodIn_app (goodIn_of _ (by decide +kernel)) ggX7_familyParts_X7_saying
theorem dX7_familyParts_0 : decode cX7_familyParts 0 = .ok (.iload_n 1, 1) := by decide +kernel
theorem dX7_familyParts_1 : decode cX7_familyParts 1 = .ok (.ifCond .le 17, 3) := by decide +kernel
theorem dX7_familyParts_4 : decode cX7_familyParts 4 = .ok (.aload_n 0, 1) := by decide +kernel
theorem dX7_familyParts_5 : decode cX7_familyParts 5 = .ok (.iload_n 1, 1) := by decide +kernel
theorem dX7_familyParts_6 : decode cX7_familyParts 6 = .ok (.invokevirtual 39, 3) := by decide +kernel
theorem dX7_familyParts_9 : decode cX7_familyParts 9 = .ok (.sipush 840, 3) := by decide +kernel
theorem dX7_familyParts_12 : decode cX7_familyParts 12 = .ok (.iload_n 1, 1) := by decide +kernel
theorem dX7_familyParts_13 : decode cX7_familyParts 13 = .ok (.idiv, 1) := by decide +kernel
theorem dX7_familyParts_14 : decode cX7_familyParts 14 = .ok (.imul, 1) := by decide +kernel
theorem dX7_familyParts_15 : decode cX7_familyParts 15 = .ok (.goto 4, 3) := by decide +kernel
theorem dX7_familyParts_18 : decode cX7_familyParts 18 = .ok (.iconst 0, 1) := by decide +kernel
theorem dX7_familyParts_19 : decode cX7_familyParts 19 = .ok (.ireturn, 1) := by decide +kernel
set_option maxRecDepth 20000 in
theorem ggX7_allFamilyParts_X7_familyParts : GoodIn wsX7_allFamilyParts wsX7_familyParts := goodIn_r _ [5, 6, 7, 8, 4, 9, 10, 11, 12, 13, 14, 15, 16, 17, 18, 19, 20, 21, 22, 23, 24] (by decide +kernel) (by decide +kernel)
set_option maxRecDepth 20000 in
theorem gX7_allFamilyParts_X7_familyParts : GoodIn wsX7_allFamilyParts (wsV RX7 43 RX7 yX7_familyParts wsX7_familyParts) := goodIn_app (goodIn_of _ (by decide +kernel)) ggX7_allFamilyParts_X7_familyParts
theorem dX7_allFamilyParts_0 : decode cX7_allFamilyParts 0 = .ok (.iconst 0, 1) := by decide +kernel
theorem dX7_allFamilyParts_1 : decode cX7_allFamilyParts 1 = .ok (.istore_n 1, 1) := by decide +kernel
theorem dX7_allFamilyParts_2 : decode cX7_allFamilyParts 2 = .ok (.iconst 1, 1) := by decide +kernel
theorem dX7_allFamilyParts_3 : decode cX7_allFamilyParts 3 = .ok (.istore_n 2, 1) := by decide +kernel
theorem dX7_allFamilyParts_4 : decode cX7_allFamilyParts 4 = .ok (.iload_n 2, 1) := by decide +kernel
theorem dX7_allFamilyParts_5 : decode cX7_allFamilyParts 5 = .ok (.bipush 8, 2) := by decide +kernel
theorem dX7_allFamilyParts_7 : decode cX7_allFamilyParts 7 = .ok (.if_icmp .gt 17, 3) := by decide +kernel
theorem dX7_allFamilyParts_10 : decode cX7_allFamilyParts 10 = .ok (.iload_n 1, 1) := by decide +kernel
theorem dX7_allFamilyParts_11 : decode cX7_allFamilyParts 11 = .ok (.aload_n 0, 1) := by decide +kernel
theorem dX7_allFamilyParts_12 : decode cX7_allFamilyParts 12 = .ok (.iload_n 2, 1) := by decide +kernel
theorem dX7_allFamilyParts_13 : decode cX7_allFamilyParts 13 = .ok (.invokevirtual 43, 3) := by decide +kernel
theorem dX7_allFamilyParts_16 : decode cX7_allFamilyParts 16 = .ok (.iadd, 1) := by decide +kernel
theorem dX7_allFamilyParts_17 : decode cX7_allFamilyParts 17 = .ok (.istore_n 1, 1) := by decide +kernel
theorem dX7_allFamilyParts_18 : decode cX7_allFamilyParts 18 = .ok (.iinc 2 1, 3) := by decide +kernel
theorem dX7_allFamilyParts_21 : decode cX7_allFamilyParts 21 = .ok (.goto (-17), 3) := by decide +kernel
theorem dX7_allFamilyParts_24 : decode cX7_allFamilyParts 24 = .ok (.iload_n 1, 1) := by decide +kernel
theorem dX7_allFamilyParts_25 : decode cX7_allFamilyParts 25 = .ok (.ireturn, 1) := by decide +kernel
theorem dX7_counts_0 : decode cX7_counts 0 = .ok (.aload_n 0, 1) := by decide +kernel
theorem dX7_counts_1 : decode cX7_counts 1 = .ok (.getfield 15, 3) := by decide +kernel
theorem dX7_counts_4 : decode cX7_counts 4 = .ok (.iload_n 1, 1) := by decide +kernel
theorem dX7_counts_5 : decode cX7_counts 5 = .ok (.iaload, 1) := by decide +kernel
theorem dX7_counts_6 : decode cX7_counts 6 = .ok (.aload_n 0, 1) := by decide +kernel
theorem dX7_counts_7 : decode cX7_counts 7 = .ok (.getfield 28, 3) := by decide +kernel
theorem dX7_counts_10 : decode cX7_counts 10 = .ok (.if_icmp .gt 20, 3) := by decide +kernel
theorem dX7_counts_13 : decode cX7_counts 13 = .ok (.aload_n 0, 1) := by decide +kernel
theorem dX7_counts_14 : decode cX7_counts 14 = .ok (.getfield 18, 3) := by decide +kernel
theorem dX7_counts_17 : decode cX7_counts 17 = .ok (.iload_n 1, 1) := by decide +kernel
theorem dX7_counts_18 : decode cX7_counts 18 = .ok (.iaload, 1) := by decide +kernel
theorem dX7_counts_19 : decode cX7_counts 19 = .ok (.aload_n 0, 1) := by decide +kernel
theorem dX7_counts_20 : decode cX7_counts 20 = .ok (.getfield 28, 3) := by decide +kernel
theorem dX7_counts_23 : decode cX7_counts 23 = .ok (.if_icmp .le 7, 3) := by decide +kernel
theorem dX7_counts_26 : decode cX7_counts 26 = .ok (.iconst 1, 1) := by decide +kernel
theorem dX7_counts_27 : decode cX7_counts 27 = .ok (.goto 4, 3) := by decide +kernel
theorem dX7_counts_30 : decode cX7_counts 30 = .ok (.iconst 0, 1) := by decide +kernel
theorem dX7_counts_31 : decode cX7_counts 31 = .ok (.ireturn, 1) := by decide +kernel
theorem dX8_init_0 : decode cX8_init 0 = .ok (.aload_n 0, 1) := by decide +kernel
theorem dX8_init_1 : decode cX8_init 1 = .ok (.invokespecial 3, 3) := by decide +kernel
theorem dX8_init_4 : decode cX8_init 4 = .ok (.aload_n 0, 1) := by decide +kernel
theorem dX8_init_5 : decode cX8_init 5 = .ok (.bipush 40, 2) := by decide +kernel
theorem dX8_init_7 : decode cX8_init 7 = .ok (.newarray .int, 2) := by decide +kernel
theorem dX8_init_9 : decode cX8_init 9 = .ok (.putfield 11, 3) := by decide +kernel
theorem dX8_init_12 : decode cX8_init 12 = .ok (.aload_n 0, 1) := by decide +kernel
theorem dX8_init_13 : decode cX8_init 13 = .ok (.iconst 0, 1) := by decide +kernel
theorem dX8_init_14 : decode cX8_init 14 = .ok (.putfield 15, 3) := by decide +kernel
theorem dX8_init_17 : decode cX8_init 17 = .ok (.aload_n 0, 1) := by decide +kernel
theorem dX8_init_18 : decode cX8_init 18 = .ok (.iconst 0, 1) := by decide +kernel
theorem dX8_init_19 : decode cX8_init 19 = .ok (.putfield 19, 3) := by decide +kernel
theorem dX8_init_22 : decode cX8_init 22 = .ok (.aload_n 0, 1) := by decide +kernel
theorem dX8_init_23 : decode cX8_init 23 = .ok (.lconst 0, 1) := by decide +kernel
theorem dX8_init_24 : decode cX8_init 24 = .ok (.putfield 22, 3) := by decide +kernel
theorem dX8_init_27 : decode cX8_init 27 = .ok (.return_, 1) := by decide +kernel
theorem dX8_append_0 : decode cX8_append 0 = .ok (.aload_n 0, 1) := by decide +kernel
theorem dX8_append_1 : decode cX8_append 1 = .ok (.getfield 15, 3) := by decide +kernel
theorem dX8_append_4 : decode cX8_append 4 = .ok (.bipush 40, 2) := by decide +kernel
theorem dX8_append_6 : decode cX8_append 6 = .ok (.if_icmp .lt 6, 3) := by decide +kernel
theorem dX8_append_9 : decode cX8_append 9 = .ok (.bipush (-4), 2) := by decide +kernel
theorem dX8_append_11 : decode cX8_append 11 = .ok (.ireturn, 1) := by decide +kernel
theorem dX8_append_12 : decode cX8_append 12 = .ok (.aload_n 0, 1) := by decide +kernel
theorem dX8_append_13 : decode cX8_append 13 = .ok (.getfield 11, 3) := by decide +kernel
theorem dX8_append_16 : decode cX8_append 16 = .ok (.aload_n 0, 1) := by decide +kernel
theorem dX8_append_17 : decode cX8_append 17 = .ok (.getfield 15, 3) := by decide +kernel
theorem dX8_append_20 : decode cX8_append 20 = .ok (.iload_n 1, 1) := by decide +kernel
theorem dX8_append_21 : decode cX8_append 21 = .ok (.iastore, 1) := by decide +kernel
theorem dX8_append_22 : decode cX8_append 22 = .ok (.aload_n 0, 1) := by decide +kernel
theorem dX8_append_23 : decode cX8_append 23 = .ok (.dup, 1) := by decide +kernel
theorem dX8_append_24 : decode cX8_append 24 = .ok (.getfield 15, 3) := by decide +kernel
theorem dX8_append_27 : decode cX8_append 27 = .ok (.iconst 1, 1) := by decide +kernel
theorem dX8_append_28 : decode cX8_append 28 = .ok (.iadd, 1) := by decide +kernel
theorem dX8_append_29 : decode cX8_append 29 = .ok (.putfield 15, 3) := by decide +kernel
theorem dX8_append_32 : decode cX8_append 32 = .ok (.aload_n 0, 1) := by decide +kernel
theorem dX8_append_33 : decode cX8_append 33 = .ok (.getfield 15, 3) := by decide +kernel
theorem dX8_append_36 : decode cX8_append 36 = .ok (.ireturn, 1) := by decide +kernel
theorem dX8_empty_0 : decode cX8_empty 0 = .ok (.aload_n 0, 1) := by decide +kernel
theorem dX8_empty_1 : decode cX8_empty 1 = .ok (.getfield 15, 3) := by decide +kernel
theorem dX8_empty_4 : decode cX8_empty 4 = .ok (.istore_n 1, 1) := by decide +kernel
theorem dX8_empty_5 : decode cX8_empty 5 = .ok (.aload_n 0, 1) := by decide +kernel
theorem dX8_empty_6 : decode cX8_empty 6 = .ok (.iconst 0, 1) := by decide +kernel
theorem dX8_empty_7 : decode cX8_empty 7 = .ok (.putfield 15, 3) := by decide +kernel
theorem dX8_empty_10 : decode cX8_empty 10 = .ok (.iload_n 1, 1) := by decide +kernel
theorem dX8_empty_11 : decode cX8_empty 11 = .ok (.ireturn, 1) := by decide +kernel
theorem dX8_bytesTyped_0 : decode cX8_bytesTyped 0 = .ok (.aload_n 0, 1) := by decide +kernel
theorem dX8_bytesTyped_1 : decode cX8_bytesTyped 1 = .ok (.getfield 15, 3) := by decide +kernel
theorem dX8_bytesTyped_4 : decode cX8_bytesTyped 4 = .ok (.ireturn, 1) := by decide +kernel
theorem dX8_minutesScanned_0 : decode cX8_minutesScanned 0 = .ok (.aload_n 0, 1) := by decide +kernel
theorem dX8_minutesScanned_1 : decode cX8_minutesScanned 1 = .ok (.getfield 22, 3) := by decide +kernel
theorem dX8_minutesScanned_4 : decode cX8_minutesScanned 4 = .ok (.lreturn, 1) := by decide +kernel
set_option maxRecDepth 20000 in
theorem ggX8_scan_X8_scanPart : GoodIn wsX8_scan wsX8_scanPart := goodIn_r _ [7, 1, 2, 8, 9, 10, 6, 11, 12, 13, 14, 15, 16, 17, 18, 19, 20, 21, 22, 23, 24, 25, 26, 27, 28] (by decide +kernel) (by decide +kernel)
set_option maxRecDepth 20000 in
theorem gX8_scan_X8_scanPart : GoodIn wsX8_scan (wsV RX8 26 RX8 yX8_scanPart wsX8_scanPart) := goodIn_app (goodIn_of _ (by decide +kernel)) ggX8_scan_X8_scanPart
set_option maxRecDepth 20000 in
theorem ggX8_scan_X8_ahead : GoodIn wsX8_scan wsX8_ahead := goodIn_r _ [19, 1, 20, 21, 25, 26, 27, 28] (by decide +kernel) (by decide +kernel)
set_option maxRecDepth 20000 in
theorem gX8_scan_X8_ahead : GoodIn wsX8_scan (wsV RX8 30 RX8 yX8_ahead wsX8_ahead) := goodIn_app (goodIn_of _ (by decide +kernel)) ggX8_scan_X8_ahead
theorem dX8_scan_0 : decode cX8_scan 0 = .ok (.aload_n 0, 1) := by decide +kernel
theorem dX8_scan_1 : decode cX8_scan 1 = .ok (.iconst 0, 1) := by decide +kernel
theorem dX8_scan_2 : decode cX8_scan 2 = .ok (.putfield 19, 3) := by decide +kernel
theorem dX8_scan_5 : decode cX8_scan 5 = .ok (.aload_n 0, 1) := by decide +kernel
theorem dX8_scan_6 : decode cX8_scan 6 = .ok (.lconst 0, 1) := by decide +kernel
theorem dX8_scan_7 : decode cX8_scan 7 = .ok (.putfield 22, 3) := by decide +kernel
theorem dX8_scan_10 : decode cX8_scan 10 = .ok (.iconst 0, 1) := by decide +kernel
theorem dX8_scan_11 : decode cX8_scan 11 = .ok (.istore_n 1, 1) := by decide +kernel
theorem dX8_scan_12 : decode cX8_scan 12 = .ok (.iload_n 1, 1) := by decide +kernel
theorem dX8_scan_13 : decode cX8_scan 13 = .ok (.bipush 40, 2) := by decide +kernel
theorem dX8_scan_15 : decode cX8_scan 15 = .ok (.if_icmp .gt 55, 3) := by decide +kernel
theorem dX8_scan_18 : decode cX8_scan 18 = .ok (.aload_n 0, 1) := by decide +kernel
theorem dX8_scan_19 : decode cX8_scan 19 = .ok (.invokevirtual 26, 3) := by decide +kernel
theorem dX8_scan_22 : decode cX8_scan 22 = .ok (.istore_n 2, 1) := by decide +kernel
theorem dX8_scan_23 : decode cX8_scan 23 = .ok (.iload_n 2, 1) := by decide +kernel
theorem dX8_scan_24 : decode cX8_scan 24 = .ok (.iconst (-1), 1) := by decide +kernel
theorem dX8_scan_25 : decode cX8_scan 25 = .ok (.if_icmp .eq 5, 3) := by decide +kernel
theorem dX8_scan_28 : decode cX8_scan 28 = .ok (.iload_n 2, 1) := by decide +kernel
theorem dX8_scan_29 : decode cX8_scan 29 = .ok (.ireturn, 1) := by decide +kernel
theorem dX8_scan_30 : decode cX8_scan 30 = .ok (.aload_n 0, 1) := by decide +kernel
theorem dX8_scan_31 : decode cX8_scan 31 = .ok (.invokevirtual 30, 3) := by decide +kernel
theorem dX8_scan_34 : decode cX8_scan 34 = .ok (.iconst (-1), 1) := by decide +kernel
theorem dX8_scan_35 : decode cX8_scan 35 = .ok (.if_icmp .ne 5, 3) := by decide +kernel
theorem dX8_scan_38 : decode cX8_scan 38 = .ok (.iconst (-1), 1) := by decide +kernel
theorem dX8_scan_39 : decode cX8_scan 39 = .ok (.ireturn, 1) := by decide +kernel
theorem dX8_scan_40 : decode cX8_scan 40 = .ok (.aload_n 0, 1) := by decide +kernel
theorem dX8_scan_41 : decode cX8_scan 41 = .ok (.invokevirtual 30, 3) := by decide +kernel
theorem dX8_scan_44 : decode cX8_scan 44 = .ok (.bipush 44, 2) := by decide +kernel
theorem dX8_scan_46 : decode cX8_scan 46 = .ok (.if_icmp .eq 8, 3) := by decide +kernel
theorem dX8_scan_49 : decode cX8_scan 49 = .ok (.aload_n 0, 1) := by decide +kernel
theorem dX8_scan_50 : decode cX8_scan 50 = .ok (.getfield 19, 3) := by decide +kernel
theorem dX8_scan_53 : decode cX8_scan 53 = .ok (.ireturn, 1) := by decide +kernel
theorem dX8_scan_54 : decode cX8_scan 54 = .ok (.aload_n 0, 1) := by decide +kernel
theorem dX8_scan_55 : decode cX8_scan 55 = .ok (.dup, 1) := by decide +kernel
theorem dX8_scan_56 : decode cX8_scan 56 = .ok (.getfield 19, 3) := by decide +kernel
theorem dX8_scan_59 : decode cX8_scan 59 = .ok (.iconst 1, 1) := by decide +kernel
theorem dX8_scan_60 : decode cX8_scan 60 = .ok (.iadd, 1) := by decide +kernel
theorem dX8_scan_61 : decode cX8_scan 61 = .ok (.putfield 19, 3) := by decide +kernel
theorem dX8_scan_64 : decode cX8_scan 64 = .ok (.iinc 1 1, 3) := by decide +kernel
theorem dX8_scan_67 : decode cX8_scan 67 = .ok (.goto (-55), 3) := by decide +kernel
theorem dX8_scan_70 : decode cX8_scan 70 = .ok (.aload_n 0, 1) := by decide +kernel
theorem dX8_scan_71 : decode cX8_scan 71 = .ok (.getfield 19, 3) := by decide +kernel
theorem dX8_scan_74 : decode cX8_scan 74 = .ok (.ireturn, 1) := by decide +kernel
set_option maxRecDepth 20000 in
theorem ggX8_scanPart_X8_scanNumber : GoodIn wsX8_scanPart wsX8_scanNumber := goodIn_r _ [7, 8, 9, 10, 11, 1, 12, 13, 14, 6, 15, 16, 17, 18, 19, 20, 21, 22, 23, 24] (by decide +kernel) (by decide +kernel)
set_option maxRecDepth 20000 in
theorem gX8_scanPart_X8_scanNumber : GoodIn wsX8_scanPart (wsV RX8 33 RX8 yX8_scanNumber wsX8_scanNumber) := goodIn_app (goodIn_of _ (by decide +kernel)) ggX8_scanPart_X8_scanNumber
set_option maxRecDepth 20000 in
theorem ggX8_scanPart_X10_outside : GoodIn wsX8_scanPart wsX10_outside := goodIn_r _ [20] (by decide +kernel) (by decide +kernel)
set_option maxRecDepth 20000 in
theorem gX8_scanPart_X10_outside_n36 : GoodIn wsX8_scanPart (wsX10_outside) := ggX8_scanPart_X10_outside
set_option maxRecDepth 20000 in
theorem ggX8_scanPart_X8_ahead : GoodIn wsX8_scanPart wsX8_ahead := goodIn_r _ [15, 1, 16, 17, 21, 22, 23, 24] (by decide +kernel) (by decide +kernel)
set_option maxRecDepth 20000 in
theorem gX8_scanPart_X8_ahead : GoodIn wsX8_scanPart (wsV RX8 30 RX8 yX8_ahead wsX8_ahead) := goodIn_app (goodIn_of _ (by decide +kernel)) ggX8_scanPart_X8_ahead
theorem dX8_scanPart_0 : decode cX8_scanPart 0 = .ok (.aload_n 0, 1) := by decide +kernel
theorem dX8_scanPart_1 : decode cX8_scanPart 1 = .ok (.getfield 19, 3) := by decide +kernel
theorem dX8_scanPart_4 : decode cX8_scanPart 4 = .ok (.istore_n 1, 1) := by decide +kernel
theorem dX8_scanPart_5 : decode cX8_scanPart 5 = .ok (.aload_n 0, 1) := by decide +kernel
theorem dX8_scanPart_6 : decode cX8_scanPart 6 = .ok (.invokevirtual 33, 3) := by decide +kernel
theorem dX8_scanPart_9 : decode cX8_scanPart 9 = .ok (.istore_n 2, 1) := by decide +kernel
theorem dX8_scanPart_10 : decode cX8_scanPart 10 = .ok (.iload_n 2, 1) := by decide +kernel
theorem dX8_scanPart_11 : decode cX8_scanPart 11 = .ok (.iconst 0, 1) := by decide +kernel
theorem dX8_scanPart_12 : decode cX8_scanPart 12 = .ok (.bipush 59, 2) := by decide +kernel
theorem dX8_scanPart_14 : decode cX8_scanPart 14 = .ok (.invokestatic 36, 3) := by decide +kernel
theorem dX8_scanPart_17 : decode cX8_scanPart 17 = .ok (.ifCond .eq 5, 3) := by decide +kernel
theorem dX8_scanPart_20 : decode cX8_scanPart 20 = .ok (.iload_n 1, 1) := by decide +kernel
theorem dX8_scanPart_21 : decode cX8_scanPart 21 = .ok (.ireturn, 1) := by decide +kernel
theorem dX8_scanPart_22 : decode cX8_scanPart 22 = .ok (.aload_n 0, 1) := by decide +kernel
theorem dX8_scanPart_23 : decode cX8_scanPart 23 = .ok (.invokevirtual 30, 3) := by decide +kernel
theorem dX8_scanPart_26 : decode cX8_scanPart 26 = .ok (.bipush 43, 2) := by decide +kernel
theorem dX8_scanPart_28 : decode cX8_scanPart 28 = .ok (.if_icmp .eq 17, 3) := by decide +kernel
theorem dX8_scanPart_31 : decode cX8_scanPart 31 = .ok (.aload_n 0, 1) := by decide +kernel
theorem dX8_scanPart_32 : decode cX8_scanPart 32 = .ok (.dup, 1) := by decide +kernel
theorem dX8_scanPart_33 : decode cX8_scanPart 33 = .ok (.getfield 22, 3) := by decide +kernel
theorem dX8_scanPart_36 : decode cX8_scanPart 36 = .ok (.lconst 1, 1) := by decide +kernel
theorem dX8_scanPart_37 : decode cX8_scanPart 37 = .ok (.iload_n 2, 1) := by decide +kernel
theorem dX8_scanPart_38 : decode cX8_scanPart 38 = .ok (.lshl, 1) := by decide +kernel
theorem dX8_scanPart_39 : decode cX8_scanPart 39 = .ok (.lor, 1) := by decide +kernel
theorem dX8_scanPart_40 : decode cX8_scanPart 40 = .ok (.putfield 22, 3) := by decide +kernel
theorem dX8_scanPart_43 : decode cX8_scanPart 43 = .ok (.iconst (-1), 1) := by decide +kernel
theorem dX8_scanPart_44 : decode cX8_scanPart 44 = .ok (.ireturn, 1) := by decide +kernel
theorem dX8_scanPart_45 : decode cX8_scanPart 45 = .ok (.aload_n 0, 1) := by decide +kernel
theorem dX8_scanPart_46 : decode cX8_scanPart 46 = .ok (.dup, 1) := by decide +kernel
theorem dX8_scanPart_47 : decode cX8_scanPart 47 = .ok (.getfield 19, 3) := by decide +kernel
theorem dX8_scanPart_50 : decode cX8_scanPart 50 = .ok (.iconst 1, 1) := by decide +kernel
theorem dX8_scanPart_51 : decode cX8_scanPart 51 = .ok (.iadd, 1) := by decide +kernel
theorem dX8_scanPart_52 : decode cX8_scanPart 52 = .ok (.putfield 19, 3) := by decide +kernel
theorem dX8_scanPart_55 : decode cX8_scanPart 55 = .ok (.aload_n 0, 1) := by decide +kernel
theorem dX8_scanPart_56 : decode cX8_scanPart 56 = .ok (.getfield 19, 3) := by decide +kernel
theorem dX8_scanPart_59 : decode cX8_scanPart 59 = .ok (.istore_n 1, 1) := by decide +kernel
theorem dX8_scanPart_60 : decode cX8_scanPart 60 = .ok (.aload_n 0, 1) := by decide +kernel
theorem dX8_scanPart_61 : decode cX8_scanPart 61 = .ok (.invokevirtual 33, 3) := by decide +kernel
theorem dX8_scanPart_64 : decode cX8_scanPart 64 = .ok (.istore_n 3, 1) := by decide +kernel
theorem dX8_scanPart_65 : decode cX8_scanPart 65 = .ok (.iload_n 3, 1) := by decide +kernel
theorem dX8_scanPart_66 : decode cX8_scanPart 66 = .ok (.iconst 1, 1) := by decide +kernel
theorem dX8_scanPart_67 : decode cX8_scanPart 67 = .ok (.bipush 59, 2) := by decide +kernel
theorem dX8_scanPart_69 : decode cX8_scanPart 69 = .ok (.invokestatic 36, 3) := by decide +kernel
theorem dX8_scanPart_72 : decode cX8_scanPart 72 = .ok (.ifCond .eq 5, 3) := by decide +kernel
theorem dX8_scanPart_75 : decode cX8_scanPart 75 = .ok (.iload_n 1, 1) := by decide +kernel
theorem dX8_scanPart_76 : decode cX8_scanPart 76 = .ok (.ireturn, 1) := by decide +kernel
theorem dX8_scanPart_77 : decode cX8_scanPart 77 = .ok (.iload_n 2, 1) := by decide +kernel
theorem dX8_scanPart_78 : decode cX8_scanPart 78 = .ok (.istore 4, 2) := by decide +kernel
theorem dX8_scanPart_80 : decode cX8_scanPart 80 = .ok (.iload 4, 2) := by decide +kernel
theorem dX8_scanPart_82 : decode cX8_scanPart 82 = .ok (.bipush 60, 2) := by decide +kernel
theorem dX8_scanPart_84 : decode cX8_scanPart 84 = .ok (.if_icmp .ge 25, 3) := by decide +kernel
theorem dX8_scanPart_87 : decode cX8_scanPart 87 = .ok (.aload_n 0, 1) := by decide +kernel
theorem dX8_scanPart_88 : decode cX8_scanPart 88 = .ok (.dup, 1) := by decide +kernel
theorem dX8_scanPart_89 : decode cX8_scanPart 89 = .ok (.getfield 22, 3) := by decide +kernel
theorem dX8_scanPart_92 : decode cX8_scanPart 92 = .ok (.lconst 1, 1) := by decide +kernel
theorem dX8_scanPart_93 : decode cX8_scanPart 93 = .ok (.iload 4, 2) := by decide +kernel
theorem dX8_scanPart_95 : decode cX8_scanPart 95 = .ok (.lshl, 1) := by decide +kernel
theorem dX8_scanPart_96 : decode cX8_scanPart 96 = .ok (.lor, 1) := by decide +kernel
theorem dX8_scanPart_97 : decode cX8_scanPart 97 = .ok (.putfield 22, 3) := by decide +kernel
theorem dX8_scanPart_100 : decode cX8_scanPart 100 = .ok (.iload 4, 2) := by decide +kernel
theorem dX8_scanPart_102 : decode cX8_scanPart 102 = .ok (.iload_n 3, 1) := by decide +kernel
theorem dX8_scanPart_103 : decode cX8_scanPart 103 = .ok (.iadd, 1) := by decide +kernel
theorem dX8_scanPart_104 : decode cX8_scanPart 104 = .ok (.istore 4, 2) := by decide +kernel
theorem dX8_scanPart_106 : decode cX8_scanPart 106 = .ok (.goto (-26), 3) := by decide +kernel
theorem dX8_scanPart_109 : decode cX8_scanPart 109 = .ok (.iconst (-1), 1) := by decide +kernel
theorem dX8_scanPart_110 : decode cX8_scanPart 110 = .ok (.ireturn, 1) := by decide +kernel
set_option maxRecDepth 20000 in
theorem ggX8_scanNumber_X8_ahead : GoodIn wsX8_scanNumber wsX8_ahead := goodIn_r _ [10, 5, 11, 12, 16, 17, 18, 19] (by decide +kernel) (by decide +kernel)
set_option maxRecDepth 20000 in
theorem gX8_scanNumber_X8_ahead : GoodIn wsX8_scanNumber (wsV RX8 30 RX8 yX8_ahead wsX8_ahead) := goodIn_app (goodIn_of _ (by decide +kernel)) ggX8_scanNumber_X8_ahead
set_option maxRecDepth 20000 in
theorem ggX8_scanNumber_X10_outside : GoodIn wsX8_scanNumber wsX10_outside := goodIn_r _ [15] (by decide +kernel) (by decide +kernel)
set_option maxRecDepth 20000 in
theorem gX8_scanNumber_X10_outside_n36 : GoodIn wsX8_scanNumber (wsX10_outside) := ggX8_scanNumber_X10_outside
theorem dX8_scanNumber_0 : decode cX8_scanNumber 0 = .ok (.iconst (-1), 1) := by decide +kernel
theorem dX8_scanNumber_1 : decode cX8_scanNumber 1 = .ok (.istore_n 1, 1) := by decide +kernel
theorem dX8_scanNumber_2 : decode cX8_scanNumber 2 = .ok (.iconst 0, 1) := by decide +kernel
theorem dX8_scanNumber_3 : decode cX8_scanNumber 3 = .ok (.istore_n 2, 1) := by decide +kernel
theorem dX8_scanNumber_4 : decode cX8_scanNumber 4 = .ok (.iload_n 2, 1) := by decide +kernel
theorem dX8_scanNumber_5 : decode cX8_scanNumber 5 = .ok (.iconst 2, 1) := by decide +kernel
theorem dX8_scanNumber_6 : decode cX8_scanNumber 6 = .ok (.if_icmp .ge 50, 3) := by decide +kernel
theorem dX8_scanNumber_9 : decode cX8_scanNumber 9 = .ok (.aload_n 0, 1) := by decide +kernel
theorem dX8_scanNumber_10 : decode cX8_scanNumber 10 = .ok (.invokevirtual 30, 3) := by decide +kernel
theorem dX8_scanNumber_13 : decode cX8_scanNumber 13 = .ok (.bipush 48, 2) := by decide +kernel
theorem dX8_scanNumber_15 : decode cX8_scanNumber 15 = .ok (.bipush 57, 2) := by decide +kernel
theorem dX8_scanNumber_17 : decode cX8_scanNumber 17 = .ok (.invokestatic 36, 3) := by decide +kernel
theorem dX8_scanNumber_20 : decode cX8_scanNumber 20 = .ok (.ifCond .ne 36, 3) := by decide +kernel
theorem dX8_scanNumber_23 : decode cX8_scanNumber 23 = .ok (.bipush 10, 2) := by decide +kernel
theorem dX8_scanNumber_25 : decode cX8_scanNumber 25 = .ok (.iload_n 1, 1) := by decide +kernel
theorem dX8_scanNumber_26 : decode cX8_scanNumber 26 = .ok (.iconst 0, 1) := by decide +kernel
theorem dX8_scanNumber_27 : decode cX8_scanNumber 27 = .ok (.invokestatic 40, 3) := by decide +kernel
theorem dX8_scanNumber_30 : decode cX8_scanNumber 30 = .ok (.imul, 1) := by decide +kernel
theorem dX8_scanNumber_31 : decode cX8_scanNumber 31 = .ok (.aload_n 0, 1) := by decide +kernel
theorem dX8_scanNumber_32 : decode cX8_scanNumber 32 = .ok (.invokevirtual 30, 3) := by decide +kernel
theorem dX8_scanNumber_35 : decode cX8_scanNumber 35 = .ok (.iadd, 1) := by decide +kernel
theorem dX8_scanNumber_36 : decode cX8_scanNumber 36 = .ok (.bipush 48, 2) := by decide +kernel
theorem dX8_scanNumber_38 : decode cX8_scanNumber 38 = .ok (.isub, 1) := by decide +kernel
theorem dX8_scanNumber_39 : decode cX8_scanNumber 39 = .ok (.istore_n 1, 1) := by decide +kernel
theorem dX8_scanNumber_40 : decode cX8_scanNumber 40 = .ok (.aload_n 0, 1) := by decide +kernel
theorem dX8_scanNumber_41 : decode cX8_scanNumber 41 = .ok (.dup, 1) := by decide +kernel
theorem dX8_scanNumber_42 : decode cX8_scanNumber 42 = .ok (.getfield 19, 3) := by decide +kernel
theorem dX8_scanNumber_45 : decode cX8_scanNumber 45 = .ok (.iconst 1, 1) := by decide +kernel
theorem dX8_scanNumber_46 : decode cX8_scanNumber 46 = .ok (.iadd, 1) := by decide +kernel
theorem dX8_scanNumber_47 : decode cX8_scanNumber 47 = .ok (.putfield 19, 3) := by decide +kernel
theorem dX8_scanNumber_50 : decode cX8_scanNumber 50 = .ok (.iinc 2 1, 3) := by decide +kernel
theorem dX8_scanNumber_53 : decode cX8_scanNumber 53 = .ok (.goto (-49), 3) := by decide +kernel
theorem dX8_scanNumber_56 : decode cX8_scanNumber 56 = .ok (.iload_n 1, 1) := by decide +kernel
theorem dX8_scanNumber_57 : decode cX8_scanNumber 57 = .ok (.ireturn, 1) := by decide +kernel
theorem dX8_ahead_0 : decode cX8_ahead 0 = .ok (.aload_n 0, 1) := by decide +kernel
theorem dX8_ahead_1 : decode cX8_ahead 1 = .ok (.getfield 19, 3) := by decide +kernel
theorem dX8_ahead_4 : decode cX8_ahead 4 = .ok (.aload_n 0, 1) := by decide +kernel
theorem dX8_ahead_5 : decode cX8_ahead 5 = .ok (.getfield 15, 3) := by decide +kernel
theorem dX8_ahead_8 : decode cX8_ahead 8 = .ok (.if_icmp .ge 15, 3) := by decide +kernel
theorem dX8_ahead_11 : decode cX8_ahead 11 = .ok (.aload_n 0, 1) := by decide +kernel
theorem dX8_ahead_12 : decode cX8_ahead 12 = .ok (.getfield 11, 3) := by decide +kernel
theorem dX8_ahead_15 : decode cX8_ahead 15 = .ok (.aload_n 0, 1) := by decide +kernel
theorem dX8_ahead_16 : decode cX8_ahead 16 = .ok (.getfield 19, 3) := by decide +kernel
theorem dX8_ahead_19 : decode cX8_ahead 19 = .ok (.iaload, 1) := by decide +kernel
theorem dX8_ahead_20 : decode cX8_ahead 20 = .ok (.goto 4, 3) := by decide +kernel
theorem dX8_ahead_23 : decode cX8_ahead 23 = .ok (.iconst (-1), 1) := by decide +kernel
theorem dX8_ahead_24 : decode cX8_ahead 24 = .ok (.ireturn, 1) := by decide +kernel
theorem dX9_init_0 : decode cX9_init 0 = .ok (.aload_n 0, 1) := by decide +kernel
theorem dX9_init_1 : decode cX9_init 1 = .ok (.invokespecial 3, 3) := by decide +kernel
theorem dX9_init_4 : decode cX9_init 4 = .ok (.aload_n 0, 1) := by decide +kernel
theorem dX9_init_5 : decode cX9_init 5 = .ok (.bipush 24, 2) := by decide +kernel
theorem dX9_init_7 : decode cX9_init 7 = .ok (.newarray .int, 2) := by decide +kernel
theorem dX9_init_9 : decode cX9_init 9 = .ok (.putfield 11, 3) := by decide +kernel
theorem dX9_init_12 : decode cX9_init 12 = .ok (.aload_n 0, 1) := by decide +kernel
theorem dX9_init_13 : decode cX9_init 13 = .ok (.bipush 24, 2) := by decide +kernel
theorem dX9_init_15 : decode cX9_init 15 = .ok (.newarray .int, 2) := by decide +kernel
theorem dX9_init_17 : decode cX9_init 17 = .ok (.putfield 15, 3) := by decide +kernel
theorem dX9_init_20 : decode cX9_init 20 = .ok (.aload_n 0, 1) := by decide +kernel
theorem dX9_init_21 : decode cX9_init 21 = .ok (.iconst 0, 1) := by decide +kernel
theorem dX9_init_22 : decode cX9_init 22 = .ok (.putfield 18, 3) := by decide +kernel
theorem dX9_init_25 : decode cX9_init 25 = .ok (.return_, 1) := by decide +kernel
theorem dX9_admit_0 : decode cX9_admit 0 = .ok (.aload_n 0, 1) := by decide +kernel
theorem dX9_admit_1 : decode cX9_admit 1 = .ok (.getfield 18, 3) := by decide +kernel
theorem dX9_admit_4 : decode cX9_admit 4 = .ok (.bipush 24, 2) := by decide +kernel
theorem dX9_admit_6 : decode cX9_admit 6 = .ok (.if_icmp .lt 6, 3) := by decide +kernel
theorem dX9_admit_9 : decode cX9_admit 9 = .ok (.bipush (-4), 2) := by decide +kernel
theorem dX9_admit_11 : decode cX9_admit 11 = .ok (.ireturn, 1) := by decide +kernel
theorem dX9_admit_12 : decode cX9_admit 12 = .ok (.aload_n 0, 1) := by decide +kernel
theorem dX9_admit_13 : decode cX9_admit 13 = .ok (.getfield 11, 3) := by decide +kernel
theorem dX9_admit_16 : decode cX9_admit 16 = .ok (.aload_n 0, 1) := by decide +kernel
theorem dX9_admit_17 : decode cX9_admit 17 = .ok (.getfield 18, 3) := by decide +kernel
theorem dX9_admit_20 : decode cX9_admit 20 = .ok (.iload_n 1, 1) := by decide +kernel
theorem dX9_admit_21 : decode cX9_admit 21 = .ok (.iastore, 1) := by decide +kernel
theorem dX9_admit_22 : decode cX9_admit 22 = .ok (.aload_n 0, 1) := by decide +kernel
theorem dX9_admit_23 : decode cX9_admit 23 = .ok (.getfield 15, 3) := by decide +kernel
theorem dX9_admit_26 : decode cX9_admit 26 = .ok (.aload_n 0, 1) := by decide +kernel
theorem dX9_admit_27 : decode cX9_admit 27 = .ok (.getfield 18, 3) := by decide +kernel
theorem dX9_admit_30 : decode cX9_admit 30 = .ok (.iload_n 2, 1) := by decide +kernel
theorem dX9_admit_31 : decode cX9_admit 31 = .ok (.iastore, 1) := by decide +kernel
theorem dX9_admit_32 : decode cX9_admit 32 = .ok (.aload_n 0, 1) := by decide +kernel
theorem dX9_admit_33 : decode cX9_admit 33 = .ok (.dup, 1) := by decide +kernel
theorem dX9_admit_34 : decode cX9_admit 34 = .ok (.getfield 18, 3) := by decide +kernel
theorem dX9_admit_37 : decode cX9_admit 37 = .ok (.iconst 1, 1) := by decide +kernel
theorem dX9_admit_38 : decode cX9_admit 38 = .ok (.iadd, 1) := by decide +kernel
theorem dX9_admit_39 : decode cX9_admit 39 = .ok (.putfield 18, 3) := by decide +kernel
theorem dX9_admit_42 : decode cX9_admit 42 = .ok (.aload_n 0, 1) := by decide +kernel
theorem dX9_admit_43 : decode cX9_admit 43 = .ok (.getfield 18, 3) := by decide +kernel
theorem dX9_admit_46 : decode cX9_admit 46 = .ok (.iconst 1, 1) := by decide +kernel
theorem dX9_admit_47 : decode cX9_admit 47 = .ok (.isub, 1) := by decide +kernel
theorem dX9_admit_48 : decode cX9_admit 48 = .ok (.ireturn, 1) := by decide +kernel
theorem dX9_staysTold_0 : decode cX9_staysTold 0 = .ok (.aload_n 0, 1) := by decide +kernel
theorem dX9_staysTold_1 : decode cX9_staysTold 1 = .ok (.getfield 18, 3) := by decide +kernel
theorem dX9_staysTold_4 : decode cX9_staysTold 4 = .ok (.ireturn, 1) := by decide +kernel
theorem dX9_firstDay_0 : decode cX9_firstDay 0 = .ok (.aload_n 0, 1) := by decide +kernel
theorem dX9_firstDay_1 : decode cX9_firstDay 1 = .ok (.getfield 11, 3) := by decide +kernel
theorem dX9_firstDay_4 : decode cX9_firstDay 4 = .ok (.iload_n 1, 1) := by decide +kernel
theorem dX9_firstDay_5 : decode cX9_firstDay 5 = .ok (.iaload, 1) := by decide +kernel
theorem dX9_firstDay_6 : decode cX9_firstDay 6 = .ok (.ireturn, 1) := by decide +kernel
theorem dX9_endOn_0 : decode cX9_endOn 0 = .ok (.aload_n 0, 1) := by decide +kernel
theorem dX9_endOn_1 : decode cX9_endOn 1 = .ok (.getfield 15, 3) := by decide +kernel
theorem dX9_endOn_4 : decode cX9_endOn 4 = .ok (.iload_n 1, 1) := by decide +kernel
theorem dX9_endOn_5 : decode cX9_endOn 5 = .ok (.iaload, 1) := by decide +kernel
theorem dX9_endOn_6 : decode cX9_endOn 6 = .ok (.istore_n 3, 1) := by decide +kernel
theorem dX9_endOn_7 : decode cX9_endOn 7 = .ok (.aload_n 0, 1) := by decide +kernel
theorem dX9_endOn_8 : decode cX9_endOn 8 = .ok (.getfield 15, 3) := by decide +kernel
theorem dX9_endOn_11 : decode cX9_endOn 11 = .ok (.iload_n 1, 1) := by decide +kernel
theorem dX9_endOn_12 : decode cX9_endOn 12 = .ok (.iload_n 2, 1) := by decide +kernel
theorem dX9_endOn_13 : decode cX9_endOn 13 = .ok (.iastore, 1) := by decide +kernel
theorem dX9_endOn_14 : decode cX9_endOn 14 = .ok (.iload_n 3, 1) := by decide +kernel
theorem dX9_endOn_15 : decode cX9_endOn 15 = .ok (.ireturn, 1) := by decide +kernel
set_option maxRecDepth 20000 in
theorem ggX9_sum_X9_weight : GoodIn wsX9_sum wsX9_weight := goodIn_r _ [6, 7, 8, 9, 10, 11, 12, 13, 14, 15, 16, 17, 18, 19] (by decide +kernel) (by decide +kernel)
set_option maxRecDepth 20000 in
theorem gX9_sum_X9_weight : GoodIn wsX9_sum (wsV RX9 22 RX9 yX9_weight wsX9_weight) := goodIn_app (goodIn_of _ (by decide +kernel)) ggX9_sum_X9_weight
theorem dX9_sum_0 : decode cX9_sum 0 = .ok (.lconst 0, 1) := by decide +kernel
theorem dX9_sum_1 : decode cX9_sum 1 = .ok (.lstore 4, 2) := by decide +kernel
theorem dX9_sum_3 : decode cX9_sum 3 = .ok (.iconst 0, 1) := by decide +kernel
theorem dX9_sum_4 : decode cX9_sum 4 = .ok (.istore 6, 2) := by decide +kernel
theorem dX9_sum_6 : decode cX9_sum 6 = .ok (.iload 6, 2) := by decide +kernel
theorem dX9_sum_8 : decode cX9_sum 8 = .ok (.aload_n 0, 1) := by decide +kernel
theorem dX9_sum_9 : decode cX9_sum 9 = .ok (.getfield 18, 3) := by decide +kernel
theorem dX9_sum_12 : decode cX9_sum 12 = .ok (.if_icmp .ge 23, 3) := by decide +kernel
theorem dX9_sum_15 : decode cX9_sum 15 = .ok (.lload 4, 2) := by decide +kernel
theorem dX9_sum_17 : decode cX9_sum 17 = .ok (.aload_n 0, 1) := by decide +kernel
theorem dX9_sum_18 : decode cX9_sum 18 = .ok (.iload 6, 2) := by decide +kernel
theorem dX9_sum_20 : decode cX9_sum 20 = .ok (.iload_n 1, 1) := by decide +kernel
theorem dX9_sum_21 : decode cX9_sum 21 = .ok (.iload_n 2, 1) := by decide +kernel
theorem dX9_sum_22 : decode cX9_sum 22 = .ok (.iload_n 3, 1) := by decide +kernel
theorem dX9_sum_23 : decode cX9_sum 23 = .ok (.invokevirtual 22, 3) := by decide +kernel
theorem dX9_sum_26 : decode cX9_sum 26 = .ok (.ladd, 1) := by decide +kernel
theorem dX9_sum_27 : decode cX9_sum 27 = .ok (.lstore 4, 2) := by decide +kernel
theorem dX9_sum_29 : decode cX9_sum 29 = .ok (.iinc 6 1, 3) := by decide +kernel
theorem dX9_sum_32 : decode cX9_sum 32 = .ok (.goto (-26), 3) := by decide +kernel
theorem dX9_sum_35 : decode cX9_sum 35 = .ok (.lload 4, 2) := by decide +kernel
theorem dX9_sum_37 : decode cX9_sum 37 = .ok (.lreturn, 1) := by decide +kernel
theorem dX9_weight_0 : decode cX9_weight 0 = .ok (.aload_n 0, 1) := by decide +kernel
theorem dX9_weight_1 : decode cX9_weight 1 = .ok (.getfield 15, 3) := by decide +kernel
theorem dX9_weight_4 : decode cX9_weight 4 = .ok (.iload_n 1, 1) := by decide +kernel
theorem dX9_weight_5 : decode cX9_weight 5 = .ok (.iaload, 1) := by decide +kernel
theorem dX9_weight_6 : decode cX9_weight 6 = .ok (.aload_n 0, 1) := by decide +kernel
theorem dX9_weight_7 : decode cX9_weight 7 = .ok (.getfield 11, 3) := by decide +kernel
theorem dX9_weight_10 : decode cX9_weight 10 = .ok (.iload_n 1, 1) := by decide +kernel
theorem dX9_weight_11 : decode cX9_weight 11 = .ok (.iaload, 1) := by decide +kernel
theorem dX9_weight_12 : decode cX9_weight 12 = .ok (.isub, 1) := by decide +kernel
theorem dX9_weight_13 : decode cX9_weight 13 = .ok (.iconst 1, 1) := by decide +kernel
theorem dX9_weight_14 : decode cX9_weight 14 = .ok (.iadd, 1) := by decide +kernel
theorem dX9_weight_15 : decode cX9_weight 15 = .ok (.istore 5, 2) := by decide +kernel
theorem dX9_weight_17 : decode cX9_weight 17 = .ok (.aload_n 0, 1) := by decide +kernel
theorem dX9_weight_18 : decode cX9_weight 18 = .ok (.getfield 15, 3) := by decide +kernel
theorem dX9_weight_21 : decode cX9_weight 21 = .ok (.iload_n 1, 1) := by decide +kernel
theorem dX9_weight_22 : decode cX9_weight 22 = .ok (.iaload, 1) := by decide +kernel
theorem dX9_weight_23 : decode cX9_weight 23 = .ok (.iload_n 3, 1) := by decide +kernel
theorem dX9_weight_24 : decode cX9_weight 24 = .ok (.invokestatic 26, 3) := by decide +kernel
theorem dX9_weight_27 : decode cX9_weight 27 = .ok (.aload_n 0, 1) := by decide +kernel
theorem dX9_weight_28 : decode cX9_weight 28 = .ok (.getfield 11, 3) := by decide +kernel
theorem dX9_weight_31 : decode cX9_weight 31 = .ok (.iload_n 1, 1) := by decide +kernel
theorem dX9_weight_32 : decode cX9_weight 32 = .ok (.iaload, 1) := by decide +kernel
theorem dX9_weight_33 : decode cX9_weight 33 = .ok (.iload_n 2, 1) := by decide +kernel
theorem dX9_weight_34 : decode cX9_weight 34 = .ok (.invokestatic 32, 3) := by decide +kernel
theorem dX9_weight_37 : decode cX9_weight 37 = .ok (.isub, 1) := by decide +kernel
theorem dX9_weight_38 : decode cX9_weight 38 = .ok (.iconst 1, 1) := by decide +kernel
theorem dX9_weight_39 : decode cX9_weight 39 = .ok (.iadd, 1) := by decide +kernel
theorem dX9_weight_40 : decode cX9_weight 40 = .ok (.istore 6, 2) := by decide +kernel
theorem dX9_weight_42 : decode cX9_weight 42 = .ok (.iload 6, 2) := by decide +kernel
theorem dX9_weight_44 : decode cX9_weight 44 = .ok (.ifCond .le 8, 3) := by decide +kernel
theorem dX9_weight_47 : decode cX9_weight 47 = .ok (.iload 5, 2) := by decide +kernel
theorem dX9_weight_49 : decode cX9_weight 49 = .ok (.ifCond .gt 5, 3) := by decide +kernel
theorem dX9_weight_52 : decode cX9_weight 52 = .ok (.lconst 0, 1) := by decide +kernel
theorem dX9_weight_53 : decode cX9_weight 53 = .ok (.lreturn, 1) := by decide +kernel
theorem dX9_weight_54 : decode cX9_weight 54 = .ok (.aload_n 0, 1) := by decide +kernel
theorem dX9_weight_55 : decode cX9_weight 55 = .ok (.getfield 11, 3) := by decide +kernel
theorem dX9_weight_58 : decode cX9_weight 58 = .ok (.iload_n 1, 1) := by decide +kernel
theorem dX9_weight_59 : decode cX9_weight 59 = .ok (.iaload, 1) := by decide +kernel
theorem dX9_weight_60 : decode cX9_weight 60 = .ok (.iload_n 2, 1) := by decide +kernel
theorem dX9_weight_61 : decode cX9_weight 61 = .ok (.if_icmp .lt 7, 3) := by decide +kernel
theorem dX9_weight_64 : decode cX9_weight 64 = .ok (.iconst 1, 1) := by decide +kernel
theorem dX9_weight_65 : decode cX9_weight 65 = .ok (.goto 4, 3) := by decide +kernel
theorem dX9_weight_68 : decode cX9_weight 68 = .ok (.iconst 0, 1) := by decide +kernel
theorem dX9_weight_69 : decode cX9_weight 69 = .ok (.istore 7, 2) := by decide +kernel
theorem dX9_weight_71 : decode cX9_weight 71 = .ok (.iload 4, 2) := by decide +kernel
theorem dX9_weight_73 : decode cX9_weight 73 = .ok (.tableswitch 80 0 5 #[39, 50, 52, 56, 69, 73], 39) := by decide +kernel
theorem dX9_weight_112 : decode cX9_weight 112 = .ok (.iload 7, 2) := by decide +kernel
theorem dX9_weight_114 : decode cX9_weight 114 = .ok (.ifCond .eq 7, 3) := by decide +kernel
theorem dX9_weight_117 : decode cX9_weight 117 = .ok (.lconst 1, 1) := by decide +kernel
theorem dX9_weight_118 : decode cX9_weight 118 = .ok (.goto 4, 3) := by decide +kernel
theorem dX9_weight_121 : decode cX9_weight 121 = .ok (.lconst 0, 1) := by decide +kernel
theorem dX9_weight_122 : decode cX9_weight 122 = .ok (.lreturn, 1) := by decide +kernel
theorem dX9_weight_123 : decode cX9_weight 123 = .ok (.lconst 1, 1) := by decide +kernel
theorem dX9_weight_124 : decode cX9_weight 124 = .ok (.lreturn, 1) := by decide +kernel
theorem dX9_weight_125 : decode cX9_weight 125 = .ok (.iload 6, 2) := by decide +kernel
theorem dX9_weight_127 : decode cX9_weight 127 = .ok (.i2l, 1) := by decide +kernel
theorem dX9_weight_128 : decode cX9_weight 128 = .ok (.lreturn, 1) := by decide +kernel
theorem dX9_weight_129 : decode cX9_weight 129 = .ok (.iload 7, 2) := by decide +kernel
theorem dX9_weight_131 : decode cX9_weight 131 = .ok (.ifCond .eq 9, 3) := by decide +kernel
theorem dX9_weight_134 : decode cX9_weight 134 = .ok (.iload 5, 2) := by decide +kernel
theorem dX9_weight_136 : decode cX9_weight 136 = .ok (.i2l, 1) := by decide +kernel
theorem dX9_weight_137 : decode cX9_weight 137 = .ok (.goto 4, 3) := by decide +kernel
theorem dX9_weight_140 : decode cX9_weight 140 = .ok (.lconst 0, 1) := by decide +kernel
theorem dX9_weight_141 : decode cX9_weight 141 = .ok (.lreturn, 1) := by decide +kernel
theorem dX9_weight_142 : decode cX9_weight 142 = .ok (.iload 5, 2) := by decide +kernel
theorem dX9_weight_144 : decode cX9_weight 144 = .ok (.i2l, 1) := by decide +kernel
theorem dX9_weight_145 : decode cX9_weight 145 = .ok (.lreturn, 1) := by decide +kernel
theorem dX9_weight_146 : decode cX9_weight 146 = .ok (.iload 6, 2) := by decide +kernel
theorem dX9_weight_148 : decode cX9_weight 148 = .ok (.iload 5, 2) := by decide +kernel
theorem dX9_weight_150 : decode cX9_weight 150 = .ok (.imul, 1) := by decide +kernel
theorem dX9_weight_151 : decode cX9_weight 151 = .ok (.i2l, 1) := by decide +kernel
theorem dX9_weight_152 : decode cX9_weight 152 = .ok (.lreturn, 1) := by decide +kernel
theorem dX9_weight_153 : decode cX9_weight 153 = .ok (.iload 6, 2) := by decide +kernel
theorem dX9_weight_155 : decode cX9_weight 155 = .ok (.i2l, 1) := by decide +kernel
theorem dX9_weight_156 : decode cX9_weight 156 = .ok (.ldc2_w 35, 3) := by decide +kernel
theorem dX9_weight_159 : decode cX9_weight 159 = .ok (.iload 5, 2) := by decide +kernel
theorem dX9_weight_161 : decode cX9_weight 161 = .ok (.i2l, 1) := by decide +kernel
theorem dX9_weight_162 : decode cX9_weight 162 = .ok (.ldiv, 1) := by decide +kernel
theorem dX9_weight_163 : decode cX9_weight 163 = .ok (.lmul, 1) := by decide +kernel
theorem dX9_weight_164 : decode cX9_weight 164 = .ok (.lreturn, 1) := by decide +kernel
set_option maxRecDepth 20000 in
theorem ggX9_above_X9_sum : GoodIn wsX9_above wsX9_sum := goodIn_r _ [6, 7, 8, 9, 10, 5, 11, 12, 13, 14, 15, 16, 17, 18, 19, 20, 1, 21, 22, 23] (by decide +kernel) (by decide +kernel)
set_option maxRecDepth 20000 in
theorem gX9_above_X9_sum : GoodIn wsX9_above (wsV RX9 37 RX9 yX9_sum wsX9_sum) := goodIn_app (goodIn_of _ (by decide +kernel)) ggX9_above_X9_sum
theorem dX9_above_0 : decode cX9_above 0 = .ok (.iload_n 3, 1) := by decide +kernel
theorem dX9_above_1 : decode cX9_above 1 = .ok (.tableswitch 79 0 4 #[35, 43, 51, 59, 71], 35) := by decide +kernel
theorem dX9_above_36 : decode cX9_above 36 = .ok (.aload_n 0, 1) := by decide +kernel
theorem dX9_above_37 : decode cX9_above 37 = .ok (.iload_n 1, 1) := by decide +kernel
theorem dX9_above_38 : decode cX9_above 38 = .ok (.iload_n 2, 1) := by decide +kernel
theorem dX9_above_39 : decode cX9_above 39 = .ok (.iconst 3, 1) := by decide +kernel
theorem dX9_above_40 : decode cX9_above 40 = .ok (.invokevirtual 37, 3) := by decide +kernel
theorem dX9_above_43 : decode cX9_above 43 = .ok (.lreturn, 1) := by decide +kernel
theorem dX9_above_44 : decode cX9_above 44 = .ok (.aload_n 0, 1) := by decide +kernel
theorem dX9_above_45 : decode cX9_above 45 = .ok (.iload_n 1, 1) := by decide +kernel
theorem dX9_above_46 : decode cX9_above 46 = .ok (.iload_n 2, 1) := by decide +kernel
theorem dX9_above_47 : decode cX9_above 47 = .ok (.iconst 4, 1) := by decide +kernel
theorem dX9_above_48 : decode cX9_above 48 = .ok (.invokevirtual 37, 3) := by decide +kernel
theorem dX9_above_51 : decode cX9_above 51 = .ok (.lreturn, 1) := by decide +kernel
theorem dX9_above_52 : decode cX9_above 52 = .ok (.aload_n 0, 1) := by decide +kernel
theorem dX9_above_53 : decode cX9_above 53 = .ok (.iload_n 1, 1) := by decide +kernel
theorem dX9_above_54 : decode cX9_above 54 = .ok (.iload_n 2, 1) := by decide +kernel
theorem dX9_above_55 : decode cX9_above 55 = .ok (.iconst 5, 1) := by decide +kernel
theorem dX9_above_56 : decode cX9_above 56 = .ok (.invokevirtual 37, 3) := by decide +kernel
theorem dX9_above_59 : decode cX9_above 59 = .ok (.lreturn, 1) := by decide +kernel
theorem dX9_above_60 : decode cX9_above 60 = .ok (.aload_n 0, 1) := by decide +kernel
theorem dX9_above_61 : decode cX9_above 61 = .ok (.iload_n 1, 1) := by decide +kernel
theorem dX9_above_62 : decode cX9_above 62 = .ok (.iload_n 2, 1) := by decide +kernel
theorem dX9_above_63 : decode cX9_above 63 = .ok (.iconst 2, 1) := by decide +kernel
theorem dX9_above_64 : decode cX9_above 64 = .ok (.invokevirtual 37, 3) := by decide +kernel
theorem dX9_above_67 : decode cX9_above 67 = .ok (.ldc2_w 35, 3) := by decide +kernel
theorem dX9_above_70 : decode cX9_above 70 = .ok (.lmul, 1) := by decide +kernel
theorem dX9_above_71 : decode cX9_above 71 = .ok (.lreturn, 1) := by decide +kernel
theorem dX9_above_72 : decode cX9_above 72 = .ok (.aload_n 0, 1) := by decide +kernel
theorem dX9_above_73 : decode cX9_above 73 = .ok (.iload_n 1, 1) := by decide +kernel
theorem dX9_above_74 : decode cX9_above 74 = .ok (.iload_n 2, 1) := by decide +kernel
theorem dX9_above_75 : decode cX9_above 75 = .ok (.iconst 0, 1) := by decide +kernel
theorem dX9_above_76 : decode cX9_above 76 = .ok (.invokevirtual 37, 3) := by decide +kernel
theorem dX9_above_79 : decode cX9_above 79 = .ok (.lreturn, 1) := by decide +kernel
theorem dX9_above_80 : decode cX9_above 80 = .ok (.aload_n 0, 1) := by decide +kernel
theorem dX9_above_81 : decode cX9_above 81 = .ok (.iload_n 1, 1) := by decide +kernel
theorem dX9_above_82 : decode cX9_above 82 = .ok (.iload_n 2, 1) := by decide +kernel
theorem dX9_above_83 : decode cX9_above 83 = .ok (.iconst 2, 1) := by decide +kernel
theorem dX9_above_84 : decode cX9_above 84 = .ok (.invokevirtual 37, 3) := by decide +kernel
theorem dX9_above_87 : decode cX9_above 87 = .ok (.lreturn, 1) := by decide +kernel
set_option maxRecDepth 20000 in
theorem ggX9_below_X9_sum : GoodIn wsX9_below wsX9_sum := goodIn_r _ [5, 6, 7, 8, 9, 4, 10, 11, 12, 13, 14, 15, 16, 17, 18, 19, 20, 21, 22, 23] (by decide +kernel) (by decide +kernel)
set_option maxRecDepth 20000 in
theorem gX9_below_X9_sum : GoodIn wsX9_below (wsV RX9 37 RX9 yX9_sum wsX9_sum) := goodIn_app (goodIn_of _ (by decide +kernel)) ggX9_below_X9_sum
theorem dX9_below_0 : decode cX9_below 0 = .ok (.iload_n 3, 1) := by decide +kernel
theorem dX9_below_1 : decode cX9_below 1 = .ok (.tableswitch 64 0 3 #[31, 39, 47, 55], 31) := by decide +kernel
theorem dX9_below_32 : decode cX9_below 32 = .ok (.aload_n 0, 1) := by decide +kernel
theorem dX9_below_33 : decode cX9_below 33 = .ok (.iload_n 1, 1) := by decide +kernel
theorem dX9_below_34 : decode cX9_below 34 = .ok (.iload_n 2, 1) := by decide +kernel
theorem dX9_below_35 : decode cX9_below 35 = .ok (.iconst 0, 1) := by decide +kernel
theorem dX9_below_36 : decode cX9_below 36 = .ok (.invokevirtual 37, 3) := by decide +kernel
theorem dX9_below_39 : decode cX9_below 39 = .ok (.lreturn, 1) := by decide +kernel
theorem dX9_below_40 : decode cX9_below 40 = .ok (.aload_n 0, 1) := by decide +kernel
theorem dX9_below_41 : decode cX9_below 41 = .ok (.iload_n 1, 1) := by decide +kernel
theorem dX9_below_42 : decode cX9_below 42 = .ok (.iload_n 2, 1) := by decide +kernel
theorem dX9_below_43 : decode cX9_below 43 = .ok (.iconst 1, 1) := by decide +kernel
theorem dX9_below_44 : decode cX9_below 44 = .ok (.invokevirtual 37, 3) := by decide +kernel
theorem dX9_below_47 : decode cX9_below 47 = .ok (.lreturn, 1) := by decide +kernel
theorem dX9_below_48 : decode cX9_below 48 = .ok (.aload_n 0, 1) := by decide +kernel
theorem dX9_below_49 : decode cX9_below 49 = .ok (.iload_n 1, 1) := by decide +kernel
theorem dX9_below_50 : decode cX9_below 50 = .ok (.iload_n 2, 1) := by decide +kernel
theorem dX9_below_51 : decode cX9_below 51 = .ok (.iconst 2, 1) := by decide +kernel
theorem dX9_below_52 : decode cX9_below 52 = .ok (.invokevirtual 37, 3) := by decide +kernel
theorem dX9_below_55 : decode cX9_below 55 = .ok (.lreturn, 1) := by decide +kernel
theorem dX9_below_56 : decode cX9_below 56 = .ok (.aload_n 0, 1) := by decide +kernel
theorem dX9_below_57 : decode cX9_below 57 = .ok (.iload_n 1, 1) := by decide +kernel
theorem dX9_below_58 : decode cX9_below 58 = .ok (.iload_n 2, 1) := by decide +kernel
theorem dX9_below_59 : decode cX9_below 59 = .ok (.bipush 6, 2) := by decide +kernel
theorem dX9_below_61 : decode cX9_below 61 = .ok (.invokevirtual 37, 3) := by decide +kernel
theorem dX9_below_64 : decode cX9_below 64 = .ok (.lreturn, 1) := by decide +kernel
theorem dX9_below_65 : decode cX9_below 65 = .ok (.iload_n 2, 1) := by decide +kernel
theorem dX9_below_66 : decode cX9_below 66 = .ok (.iload_n 1, 1) := by decide +kernel
theorem dX9_below_67 : decode cX9_below 67 = .ok (.isub, 1) := by decide +kernel
theorem dX9_below_68 : decode cX9_below 68 = .ok (.iconst 1, 1) := by decide +kernel
theorem dX9_below_69 : decode cX9_below 69 = .ok (.iadd, 1) := by decide +kernel
theorem dX9_below_70 : decode cX9_below 70 = .ok (.i2l, 1) := by decide +kernel
theorem dX9_below_71 : decode cX9_below 71 = .ok (.lreturn, 1) := by decide +kernel
set_option maxRecDepth 20000 in
theorem ggX9_lyingOn_X9_sum : GoodIn wsX9_lyingOn wsX9_sum := goodIn_r _ [5, 6, 7, 8, 9, 4, 10, 11, 12, 13, 14, 15, 16, 17, 18, 19, 20, 21, 22, 23] (by decide +kernel) (by decide +kernel)
set_option maxRecDepth 20000 in
theorem gX9_lyingOn_X9_sum : GoodIn wsX9_lyingOn (wsV RX9 37 RX9 yX9_sum wsX9_sum) := goodIn_app (goodIn_of _ (by decide +kernel)) ggX9_lyingOn_X9_sum
theorem dX9_lyingOn_0 : decode cX9_lyingOn 0 = .ok (.aload_n 0, 1) := by decide +kernel
theorem dX9_lyingOn_1 : decode cX9_lyingOn 1 = .ok (.iload_n 1, 1) := by decide +kernel
theorem dX9_lyingOn_2 : decode cX9_lyingOn 2 = .ok (.iload_n 1, 1) := by decide +kernel
theorem dX9_lyingOn_3 : decode cX9_lyingOn 3 = .ok (.iconst 1, 1) := by decide +kernel
theorem dX9_lyingOn_4 : decode cX9_lyingOn 4 = .ok (.invokevirtual 37, 3) := by decide +kernel
theorem dX9_lyingOn_7 : decode cX9_lyingOn 7 = .ok (.l2i, 1) := by decide +kernel
theorem dX9_lyingOn_8 : decode cX9_lyingOn 8 = .ok (.ireturn, 1) := by decide +kernel
set_option maxRecDepth 20000 in
theorem ggX9_fullestDay_X9_lyingOn : GoodIn wsX9_fullestDay wsX9_lyingOn := goodIn_r _ [5, 6, 7, 8, 4, 9, 10, 11, 12, 13, 14, 15, 16, 17, 18, 19, 20, 21, 22, 23, 24, 25, 26, 27] (by decide +kernel) (by decide +kernel)
set_option maxRecDepth 20000 in
theorem gX9_fullestDay_X9_lyingOn : GoodIn wsX9_fullestDay (wsV RX9 41 RX9 yX9_lyingOn wsX9_lyingOn) := goodIn_app (goodIn_of _ (by decide +kernel)) ggX9_fullestDay_X9_lyingOn
theorem dX9_fullestDay_0 : decode cX9_fullestDay 0 = .ok (.iconst 0, 1) := by decide +kernel
theorem dX9_fullestDay_1 : decode cX9_fullestDay 1 = .ok (.istore_n 1, 1) := by decide +kernel
theorem dX9_fullestDay_2 : decode cX9_fullestDay 2 = .ok (.iconst 0, 1) := by decide +kernel
theorem dX9_fullestDay_3 : decode cX9_fullestDay 3 = .ok (.istore_n 2, 1) := by decide +kernel
theorem dX9_fullestDay_4 : decode cX9_fullestDay 4 = .ok (.iconst 0, 1) := by decide +kernel
theorem dX9_fullestDay_5 : decode cX9_fullestDay 5 = .ok (.istore_n 3, 1) := by decide +kernel
theorem dX9_fullestDay_6 : decode cX9_fullestDay 6 = .ok (.iload_n 3, 1) := by decide +kernel
theorem dX9_fullestDay_7 : decode cX9_fullestDay 7 = .ok (.bipush 99, 2) := by decide +kernel
theorem dX9_fullestDay_9 : decode cX9_fullestDay 9 = .ok (.if_icmp .gt 27, 3) := by decide +kernel
theorem dX9_fullestDay_12 : decode cX9_fullestDay 12 = .ok (.aload_n 0, 1) := by decide +kernel
theorem dX9_fullestDay_13 : decode cX9_fullestDay 13 = .ok (.iload_n 3, 1) := by decide +kernel
theorem dX9_fullestDay_14 : decode cX9_fullestDay 14 = .ok (.invokevirtual 41, 3) := by decide +kernel
theorem dX9_fullestDay_17 : decode cX9_fullestDay 17 = .ok (.istore 4, 2) := by decide +kernel
theorem dX9_fullestDay_19 : decode cX9_fullestDay 19 = .ok (.iload 4, 2) := by decide +kernel
theorem dX9_fullestDay_21 : decode cX9_fullestDay 21 = .ok (.iload_n 2, 1) := by decide +kernel
theorem dX9_fullestDay_22 : decode cX9_fullestDay 22 = .ok (.if_icmp .le 8, 3) := by decide +kernel
theorem dX9_fullestDay_25 : decode cX9_fullestDay 25 = .ok (.iload_n 3, 1) := by decide +kernel
theorem dX9_fullestDay_26 : decode cX9_fullestDay 26 = .ok (.istore_n 1, 1) := by decide +kernel
theorem dX9_fullestDay_27 : decode cX9_fullestDay 27 = .ok (.iload 4, 2) := by decide +kernel
theorem dX9_fullestDay_29 : decode cX9_fullestDay 29 = .ok (.istore_n 2, 1) := by decide +kernel
theorem dX9_fullestDay_30 : decode cX9_fullestDay 30 = .ok (.iinc 3 1, 3) := by decide +kernel
theorem dX9_fullestDay_33 : decode cX9_fullestDay 33 = .ok (.goto (-27), 3) := by decide +kernel
theorem dX9_fullestDay_36 : decode cX9_fullestDay 36 = .ok (.iload_n 1, 1) := by decide +kernel
theorem dX9_fullestDay_37 : decode cX9_fullestDay 37 = .ok (.ireturn, 1) := by decide +kernel
set_option maxRecDepth 20000 in
theorem ggX9_mostApart_X9_firstEnd : GoodIn wsX9_mostApart wsX9_firstEnd := goodIn_r _ [5, 6, 7, 8, 9, 10, 11] (by decide +kernel) (by decide +kernel)
set_option maxRecDepth 20000 in
theorem gX9_mostApart_X9_firstEnd : GoodIn wsX9_mostApart (wsV RX9 45 RX9 yX9_firstEnd wsX9_firstEnd) := goodIn_app (goodIn_of _ (by decide +kernel)) ggX9_mostApart_X9_firstEnd
theorem dX9_mostApart_0 : decode cX9_mostApart 0 = .ok (.iconst 0, 1) := by decide +kernel
theorem dX9_mostApart_1 : decode cX9_mostApart 1 = .ok (.istore_n 1, 1) := by decide +kernel
theorem dX9_mostApart_2 : decode cX9_mostApart 2 = .ok (.iconst 0, 1) := by decide +kernel
theorem dX9_mostApart_3 : decode cX9_mostApart 3 = .ok (.istore_n 2, 1) := by decide +kernel
theorem dX9_mostApart_4 : decode cX9_mostApart 4 = .ok (.iconst 0, 1) := by decide +kernel
theorem dX9_mostApart_5 : decode cX9_mostApart 5 = .ok (.istore_n 3, 1) := by decide +kernel
theorem dX9_mostApart_6 : decode cX9_mostApart 6 = .ok (.iload_n 3, 1) := by decide +kernel
theorem dX9_mostApart_7 : decode cX9_mostApart 7 = .ok (.bipush 24, 2) := by decide +kernel
theorem dX9_mostApart_9 : decode cX9_mostApart 9 = .ok (.if_icmp .ge 32, 3) := by decide +kernel
theorem dX9_mostApart_12 : decode cX9_mostApart 12 = .ok (.aload_n 0, 1) := by decide +kernel
theorem dX9_mostApart_13 : decode cX9_mostApart 13 = .ok (.iload_n 2, 1) := by decide +kernel
theorem dX9_mostApart_14 : decode cX9_mostApart 14 = .ok (.invokevirtual 45, 3) := by decide +kernel
theorem dX9_mostApart_17 : decode cX9_mostApart 17 = .ok (.istore 4, 2) := by decide +kernel
theorem dX9_mostApart_19 : decode cX9_mostApart 19 = .ok (.iload 4, 2) := by decide +kernel
theorem dX9_mostApart_21 : decode cX9_mostApart 21 = .ok (.iconst (-1), 1) := by decide +kernel
theorem dX9_mostApart_22 : decode cX9_mostApart 22 = .ok (.if_icmp .ne 5, 3) := by decide +kernel
theorem dX9_mostApart_25 : decode cX9_mostApart 25 = .ok (.iload_n 1, 1) := by decide +kernel
theorem dX9_mostApart_26 : decode cX9_mostApart 26 = .ok (.ireturn, 1) := by decide +kernel
theorem dX9_mostApart_27 : decode cX9_mostApart 27 = .ok (.iinc 1 1, 3) := by decide +kernel
theorem dX9_mostApart_30 : decode cX9_mostApart 30 = .ok (.iload 4, 2) := by decide +kernel
theorem dX9_mostApart_32 : decode cX9_mostApart 32 = .ok (.iconst 1, 1) := by decide +kernel
theorem dX9_mostApart_33 : decode cX9_mostApart 33 = .ok (.iadd, 1) := by decide +kernel
theorem dX9_mostApart_34 : decode cX9_mostApart 34 = .ok (.istore_n 2, 1) := by decide +kernel
theorem dX9_mostApart_35 : decode cX9_mostApart 35 = .ok (.iinc 3 1, 3) := by decide +kernel
theorem dX9_mostApart_38 : decode cX9_mostApart 38 = .ok (.goto (-32), 3) := by decide +kernel
theorem dX9_mostApart_41 : decode cX9_mostApart 41 = .ok (.iload_n 1, 1) := by decide +kernel
theorem dX9_mostApart_42 : decode cX9_mostApart 42 = .ok (.ireturn, 1) := by decide +kernel
theorem dX9_firstEnd_0 : decode cX9_firstEnd 0 = .ok (.iconst (-1), 1) := by decide +kernel
theorem dX9_firstEnd_1 : decode cX9_firstEnd 1 = .ok (.istore_n 2, 1) := by decide +kernel
theorem dX9_firstEnd_2 : decode cX9_firstEnd 2 = .ok (.iconst 0, 1) := by decide +kernel
theorem dX9_firstEnd_3 : decode cX9_firstEnd 3 = .ok (.istore_n 3, 1) := by decide +kernel
theorem dX9_firstEnd_4 : decode cX9_firstEnd 4 = .ok (.iload_n 3, 1) := by decide +kernel
theorem dX9_firstEnd_5 : decode cX9_firstEnd 5 = .ok (.aload_n 0, 1) := by decide +kernel
theorem dX9_firstEnd_6 : decode cX9_firstEnd 6 = .ok (.getfield 18, 3) := by decide +kernel
theorem dX9_firstEnd_9 : decode cX9_firstEnd 9 = .ok (.if_icmp .ge 41, 3) := by decide +kernel
theorem dX9_firstEnd_12 : decode cX9_firstEnd 12 = .ok (.aload_n 0, 1) := by decide +kernel
theorem dX9_firstEnd_13 : decode cX9_firstEnd 13 = .ok (.getfield 11, 3) := by decide +kernel
theorem dX9_firstEnd_16 : decode cX9_firstEnd 16 = .ok (.iload_n 3, 1) := by decide +kernel
theorem dX9_firstEnd_17 : decode cX9_firstEnd 17 = .ok (.iaload, 1) := by decide +kernel
theorem dX9_firstEnd_18 : decode cX9_firstEnd 18 = .ok (.iload_n 1, 1) := by decide +kernel
theorem dX9_firstEnd_19 : decode cX9_firstEnd 19 = .ok (.if_icmp .lt 25, 3) := by decide +kernel
theorem dX9_firstEnd_22 : decode cX9_firstEnd 22 = .ok (.iload_n 2, 1) := by decide +kernel
theorem dX9_firstEnd_23 : decode cX9_firstEnd 23 = .ok (.iconst (-1), 1) := by decide +kernel
theorem dX9_firstEnd_24 : decode cX9_firstEnd 24 = .ok (.if_icmp .eq 13, 3) := by decide +kernel
theorem dX9_firstEnd_27 : decode cX9_firstEnd 27 = .ok (.aload_n 0, 1) := by decide +kernel
theorem dX9_firstEnd_28 : decode cX9_firstEnd 28 = .ok (.getfield 15, 3) := by decide +kernel
theorem dX9_firstEnd_31 : decode cX9_firstEnd 31 = .ok (.iload_n 3, 1) := by decide +kernel
theorem dX9_firstEnd_32 : decode cX9_firstEnd 32 = .ok (.iaload, 1) := by decide +kernel
theorem dX9_firstEnd_33 : decode cX9_firstEnd 33 = .ok (.iload_n 2, 1) := by decide +kernel
theorem dX9_firstEnd_34 : decode cX9_firstEnd 34 = .ok (.if_icmp .ge 10, 3) := by decide +kernel
theorem dX9_firstEnd_37 : decode cX9_firstEnd 37 = .ok (.aload_n 0, 1) := by decide +kernel
theorem dX9_firstEnd_38 : decode cX9_firstEnd 38 = .ok (.getfield 15, 3) := by decide +kernel
theorem dX9_firstEnd_41 : decode cX9_firstEnd 41 = .ok (.iload_n 3, 1) := by decide +kernel
theorem dX9_firstEnd_42 : decode cX9_firstEnd 42 = .ok (.iaload, 1) := by decide +kernel
theorem dX9_firstEnd_43 : decode cX9_firstEnd 43 = .ok (.istore_n 2, 1) := by decide +kernel
theorem dX9_firstEnd_44 : decode cX9_firstEnd 44 = .ok (.iinc 3 1, 3) := by decide +kernel
theorem dX9_firstEnd_47 : decode cX9_firstEnd 47 = .ok (.goto (-43), 3) := by decide +kernel
theorem dX9_firstEnd_50 : decode cX9_firstEnd 50 = .ok (.iload_n 2, 1) := by decide +kernel
theorem dX9_firstEnd_51 : decode cX9_firstEnd 51 = .ok (.ireturn, 1) := by decide +kernel
theorem dJ6_bitCount_0f7a4_0 : decode cJ6_bitCount_0f7a4 0 = .ok (.iload_n 0, 1) := by decide +kernel
theorem dJ6_bitCount_0f7a4_1 : decode cJ6_bitCount_0f7a4 1 = .ok (.iload_n 0, 1) := by decide +kernel
theorem dJ6_bitCount_0f7a4_2 : decode cJ6_bitCount_0f7a4 2 = .ok (.iconst 1, 1) := by decide +kernel
theorem dJ6_bitCount_0f7a4_3 : decode cJ6_bitCount_0f7a4 3 = .ok (.iushr, 1) := by decide +kernel
theorem dJ6_bitCount_0f7a4_4 : decode cJ6_bitCount_0f7a4 4 = .ok (.ldc_w 265, 3) := by decide +kernel
theorem dJ6_bitCount_0f7a4_7 : decode cJ6_bitCount_0f7a4 7 = .ok (.iand, 1) := by decide +kernel
theorem dJ6_bitCount_0f7a4_8 : decode cJ6_bitCount_0f7a4 8 = .ok (.isub, 1) := by decide +kernel
theorem dJ6_bitCount_0f7a4_9 : decode cJ6_bitCount_0f7a4 9 = .ok (.istore_n 0, 1) := by decide +kernel
theorem dJ6_bitCount_0f7a4_10 : decode cJ6_bitCount_0f7a4 10 = .ok (.iload_n 0, 1) := by decide +kernel
theorem dJ6_bitCount_0f7a4_11 : decode cJ6_bitCount_0f7a4 11 = .ok (.ldc_w 266, 3) := by decide +kernel
theorem dJ6_bitCount_0f7a4_14 : decode cJ6_bitCount_0f7a4 14 = .ok (.iand, 1) := by decide +kernel
theorem dJ6_bitCount_0f7a4_15 : decode cJ6_bitCount_0f7a4 15 = .ok (.iload_n 0, 1) := by decide +kernel
theorem dJ6_bitCount_0f7a4_16 : decode cJ6_bitCount_0f7a4 16 = .ok (.iconst 2, 1) := by decide +kernel
theorem dJ6_bitCount_0f7a4_17 : decode cJ6_bitCount_0f7a4 17 = .ok (.iushr, 1) := by decide +kernel
theorem dJ6_bitCount_0f7a4_18 : decode cJ6_bitCount_0f7a4 18 = .ok (.ldc_w 266, 3) := by decide +kernel
theorem dJ6_bitCount_0f7a4_21 : decode cJ6_bitCount_0f7a4 21 = .ok (.iand, 1) := by decide +kernel
theorem dJ6_bitCount_0f7a4_22 : decode cJ6_bitCount_0f7a4 22 = .ok (.iadd, 1) := by decide +kernel
theorem dJ6_bitCount_0f7a4_23 : decode cJ6_bitCount_0f7a4 23 = .ok (.istore_n 0, 1) := by decide +kernel
theorem dJ6_bitCount_0f7a4_24 : decode cJ6_bitCount_0f7a4 24 = .ok (.iload_n 0, 1) := by decide +kernel
theorem dJ6_bitCount_0f7a4_25 : decode cJ6_bitCount_0f7a4 25 = .ok (.iload_n 0, 1) := by decide +kernel
theorem dJ6_bitCount_0f7a4_26 : decode cJ6_bitCount_0f7a4 26 = .ok (.iconst 4, 1) := by decide +kernel
theorem dJ6_bitCount_0f7a4_27 : decode cJ6_bitCount_0f7a4 27 = .ok (.iushr, 1) := by decide +kernel
theorem dJ6_bitCount_0f7a4_28 : decode cJ6_bitCount_0f7a4 28 = .ok (.iadd, 1) := by decide +kernel
theorem dJ6_bitCount_0f7a4_29 : decode cJ6_bitCount_0f7a4 29 = .ok (.ldc_w 267, 3) := by decide +kernel
theorem dJ6_bitCount_0f7a4_32 : decode cJ6_bitCount_0f7a4 32 = .ok (.iand, 1) := by decide +kernel
theorem dJ6_bitCount_0f7a4_33 : decode cJ6_bitCount_0f7a4 33 = .ok (.istore_n 0, 1) := by decide +kernel
theorem dJ6_bitCount_0f7a4_34 : decode cJ6_bitCount_0f7a4 34 = .ok (.iload_n 0, 1) := by decide +kernel
theorem dJ6_bitCount_0f7a4_35 : decode cJ6_bitCount_0f7a4 35 = .ok (.iload_n 0, 1) := by decide +kernel
theorem dJ6_bitCount_0f7a4_36 : decode cJ6_bitCount_0f7a4 36 = .ok (.bipush 8, 2) := by decide +kernel
theorem dJ6_bitCount_0f7a4_38 : decode cJ6_bitCount_0f7a4 38 = .ok (.iushr, 1) := by decide +kernel
theorem dJ6_bitCount_0f7a4_39 : decode cJ6_bitCount_0f7a4 39 = .ok (.iadd, 1) := by decide +kernel
theorem dJ6_bitCount_0f7a4_40 : decode cJ6_bitCount_0f7a4 40 = .ok (.istore_n 0, 1) := by decide +kernel
theorem dJ6_bitCount_0f7a4_41 : decode cJ6_bitCount_0f7a4 41 = .ok (.iload_n 0, 1) := by decide +kernel
theorem dJ6_bitCount_0f7a4_42 : decode cJ6_bitCount_0f7a4 42 = .ok (.iload_n 0, 1) := by decide +kernel
theorem dJ6_bitCount_0f7a4_43 : decode cJ6_bitCount_0f7a4 43 = .ok (.bipush 16, 2) := by decide +kernel
theorem dJ6_bitCount_0f7a4_45 : decode cJ6_bitCount_0f7a4 45 = .ok (.iushr, 1) := by decide +kernel
theorem dJ6_bitCount_0f7a4_46 : decode cJ6_bitCount_0f7a4 46 = .ok (.iadd, 1) := by decide +kernel
theorem dJ6_bitCount_0f7a4_47 : decode cJ6_bitCount_0f7a4 47 = .ok (.istore_n 0, 1) := by decide +kernel
theorem dJ6_bitCount_0f7a4_48 : decode cJ6_bitCount_0f7a4 48 = .ok (.iload_n 0, 1) := by decide +kernel
theorem dJ6_bitCount_0f7a4_49 : decode cJ6_bitCount_0f7a4 49 = .ok (.bipush 63, 2) := by decide +kernel
theorem dJ6_bitCount_0f7a4_51 : decode cJ6_bitCount_0f7a4 51 = .ok (.iand, 1) := by decide +kernel
theorem dJ6_bitCount_0f7a4_52 : decode cJ6_bitCount_0f7a4 52 = .ok (.ireturn, 1) := by decide +kernel
theorem dJ13_bitCount_95d88_0 : decode cJ13_bitCount_95d88 0 = .ok (.lload_n 0, 1) := by decide +kernel
theorem dJ13_bitCount_95d88_1 : decode cJ13_bitCount_95d88 1 = .ok (.lload_n 0, 1) := by decide +kernel
theorem dJ13_bitCount_95d88_2 : decode cJ13_bitCount_95d88 2 = .ok (.iconst 1, 1) := by decide +kernel
theorem dJ13_bitCount_95d88_3 : decode cJ13_bitCount_95d88 3 = .ok (.lushr, 1) := by decide +kernel
theorem dJ13_bitCount_95d88_4 : decode cJ13_bitCount_95d88 4 = .ok (.ldc2_w 314, 3) := by decide +kernel
theorem dJ13_bitCount_95d88_7 : decode cJ13_bitCount_95d88 7 = .ok (.land, 1) := by decide +kernel
theorem dJ13_bitCount_95d88_8 : decode cJ13_bitCount_95d88 8 = .ok (.lsub, 1) := by decide +kernel
theorem dJ13_bitCount_95d88_9 : decode cJ13_bitCount_95d88 9 = .ok (.lstore_n 0, 1) := by decide +kernel
theorem dJ13_bitCount_95d88_10 : decode cJ13_bitCount_95d88 10 = .ok (.lload_n 0, 1) := by decide +kernel
theorem dJ13_bitCount_95d88_11 : decode cJ13_bitCount_95d88 11 = .ok (.ldc2_w 316, 3) := by decide +kernel
theorem dJ13_bitCount_95d88_14 : decode cJ13_bitCount_95d88 14 = .ok (.land, 1) := by decide +kernel
theorem dJ13_bitCount_95d88_15 : decode cJ13_bitCount_95d88 15 = .ok (.lload_n 0, 1) := by decide +kernel
theorem dJ13_bitCount_95d88_16 : decode cJ13_bitCount_95d88 16 = .ok (.iconst 2, 1) := by decide +kernel
theorem dJ13_bitCount_95d88_17 : decode cJ13_bitCount_95d88 17 = .ok (.lushr, 1) := by decide +kernel
theorem dJ13_bitCount_95d88_18 : decode cJ13_bitCount_95d88 18 = .ok (.ldc2_w 316, 3) := by decide +kernel
theorem dJ13_bitCount_95d88_21 : decode cJ13_bitCount_95d88 21 = .ok (.land, 1) := by decide +kernel
theorem dJ13_bitCount_95d88_22 : decode cJ13_bitCount_95d88 22 = .ok (.ladd, 1) := by decide +kernel
theorem dJ13_bitCount_95d88_23 : decode cJ13_bitCount_95d88 23 = .ok (.lstore_n 0, 1) := by decide +kernel
theorem dJ13_bitCount_95d88_24 : decode cJ13_bitCount_95d88 24 = .ok (.lload_n 0, 1) := by decide +kernel
theorem dJ13_bitCount_95d88_25 : decode cJ13_bitCount_95d88 25 = .ok (.lload_n 0, 1) := by decide +kernel
theorem dJ13_bitCount_95d88_26 : decode cJ13_bitCount_95d88 26 = .ok (.iconst 4, 1) := by decide +kernel
theorem dJ13_bitCount_95d88_27 : decode cJ13_bitCount_95d88 27 = .ok (.lushr, 1) := by decide +kernel
theorem dJ13_bitCount_95d88_28 : decode cJ13_bitCount_95d88 28 = .ok (.ladd, 1) := by decide +kernel
theorem dJ13_bitCount_95d88_29 : decode cJ13_bitCount_95d88 29 = .ok (.ldc2_w 318, 3) := by decide +kernel
theorem dJ13_bitCount_95d88_32 : decode cJ13_bitCount_95d88 32 = .ok (.land, 1) := by decide +kernel
theorem dJ13_bitCount_95d88_33 : decode cJ13_bitCount_95d88 33 = .ok (.lstore_n 0, 1) := by decide +kernel
theorem dJ13_bitCount_95d88_34 : decode cJ13_bitCount_95d88 34 = .ok (.lload_n 0, 1) := by decide +kernel
theorem dJ13_bitCount_95d88_35 : decode cJ13_bitCount_95d88 35 = .ok (.lload_n 0, 1) := by decide +kernel
theorem dJ13_bitCount_95d88_36 : decode cJ13_bitCount_95d88 36 = .ok (.bipush 8, 2) := by decide +kernel
theorem dJ13_bitCount_95d88_38 : decode cJ13_bitCount_95d88 38 = .ok (.lushr, 1) := by decide +kernel
theorem dJ13_bitCount_95d88_39 : decode cJ13_bitCount_95d88 39 = .ok (.ladd, 1) := by decide +kernel
theorem dJ13_bitCount_95d88_40 : decode cJ13_bitCount_95d88 40 = .ok (.lstore_n 0, 1) := by decide +kernel
theorem dJ13_bitCount_95d88_41 : decode cJ13_bitCount_95d88 41 = .ok (.lload_n 0, 1) := by decide +kernel
theorem dJ13_bitCount_95d88_42 : decode cJ13_bitCount_95d88 42 = .ok (.lload_n 0, 1) := by decide +kernel
theorem dJ13_bitCount_95d88_43 : decode cJ13_bitCount_95d88 43 = .ok (.bipush 16, 2) := by decide +kernel
theorem dJ13_bitCount_95d88_45 : decode cJ13_bitCount_95d88 45 = .ok (.lushr, 1) := by decide +kernel
theorem dJ13_bitCount_95d88_46 : decode cJ13_bitCount_95d88 46 = .ok (.ladd, 1) := by decide +kernel
theorem dJ13_bitCount_95d88_47 : decode cJ13_bitCount_95d88 47 = .ok (.lstore_n 0, 1) := by decide +kernel
theorem dJ13_bitCount_95d88_48 : decode cJ13_bitCount_95d88 48 = .ok (.lload_n 0, 1) := by decide +kernel
theorem dJ13_bitCount_95d88_49 : decode cJ13_bitCount_95d88 49 = .ok (.lload_n 0, 1) := by decide +kernel
theorem dJ13_bitCount_95d88_50 : decode cJ13_bitCount_95d88 50 = .ok (.bipush 32, 2) := by decide +kernel
theorem dJ13_bitCount_95d88_52 : decode cJ13_bitCount_95d88 52 = .ok (.lushr, 1) := by decide +kernel
theorem dJ13_bitCount_95d88_53 : decode cJ13_bitCount_95d88 53 = .ok (.ladd, 1) := by decide +kernel
theorem dJ13_bitCount_95d88_54 : decode cJ13_bitCount_95d88 54 = .ok (.lstore_n 0, 1) := by decide +kernel
theorem dJ13_bitCount_95d88_55 : decode cJ13_bitCount_95d88 55 = .ok (.lload_n 0, 1) := by decide +kernel
theorem dJ13_bitCount_95d88_56 : decode cJ13_bitCount_95d88 56 = .ok (.l2i, 1) := by decide +kernel
theorem dJ13_bitCount_95d88_57 : decode cJ13_bitCount_95d88 57 = .ok (.bipush 127, 2) := by decide +kernel
theorem dJ13_bitCount_95d88_59 : decode cJ13_bitCount_95d88 59 = .ok (.iand, 1) := by decide +kernel
theorem dJ13_bitCount_95d88_60 : decode cJ13_bitCount_95d88 60 = .ok (.ireturn, 1) := by decide +kernel
theorem dJ9_max_7cf53_0 : decode cJ9_max_7cf53 0 = .ok (.iload_n 0, 1) := by decide +kernel
theorem dJ9_max_7cf53_1 : decode cJ9_max_7cf53 1 = .ok (.iload_n 1, 1) := by decide +kernel
theorem dJ9_max_7cf53_2 : decode cJ9_max_7cf53 2 = .ok (.if_icmp .lt 7, 3) := by decide +kernel
theorem dJ9_max_7cf53_5 : decode cJ9_max_7cf53 5 = .ok (.iload_n 0, 1) := by decide +kernel
theorem dJ9_max_7cf53_6 : decode cJ9_max_7cf53 6 = .ok (.goto 4, 3) := by decide +kernel
theorem dJ9_max_7cf53_9 : decode cJ9_max_7cf53 9 = .ok (.iload_n 1, 1) := by decide +kernel
theorem dJ9_max_7cf53_10 : decode cJ9_max_7cf53 10 = .ok (.ireturn, 1) := by decide +kernel
theorem dJ9_min_7cf53_0 : decode cJ9_min_7cf53 0 = .ok (.iload_n 0, 1) := by decide +kernel
theorem dJ9_min_7cf53_1 : decode cJ9_min_7cf53 1 = .ok (.iload_n 1, 1) := by decide +kernel
theorem dJ9_min_7cf53_2 : decode cJ9_min_7cf53 2 = .ok (.if_icmp .gt 7, 3) := by decide +kernel
theorem dJ9_min_7cf53_5 : decode cJ9_min_7cf53 5 = .ok (.iload_n 0, 1) := by decide +kernel
theorem dJ9_min_7cf53_6 : decode cJ9_min_7cf53 6 = .ok (.goto 4, 3) := by decide +kernel
theorem dJ9_min_7cf53_9 : decode cJ9_min_7cf53 9 = .ok (.iload_n 1, 1) := by decide +kernel
theorem dJ9_min_7cf53_10 : decode cJ9_min_7cf53 10 = .ok (.ireturn, 1) := by decide +kernel
