set_option maxRecDepth 100000 in
def F_X10_type (S : zSt) (a1 : Int32) : Option (Int32 × zSt) :=
 (F_X10_outside a1 (0 : Int32) (255 : Int32)).bind (fun r5 : Int32 =>
 if r5 = 0 then (b2 (F_X8_append S a1) (fun (r19 : Int32) (S19 : zSt) =>
 some (r19, S19))) else
 (some ((-2 : Int32), S)))
set_option maxRecDepth 100000 in
def F_X10_wipe (S : zSt) : Option (Int32 × zSt) :=
 b2 (F_X8_empty S) (fun (r4 : Int32) (S4 : zSt) =>
 some (r4, S4))
set_option maxRecDepth 100000 in
def F_X10_fault (S : zSt) : Option (Int32 × zSt) :=
 b2 (F_X8_scan S) (fun (r4 : Int32) (S4 : zSt) =>
 some (r4, S4))
set_option maxRecDepth 100000 in
def F_X10_line (S : zSt) (a1 : Int32) : Option (Int32 × zSt) :=
 (F_X10_outside a1 (0 : Int32) (1 : Int32)).bind (fun r3 : Int32 =>
 if r3 = 0 then (b2 (F_X8_scan S) (fun (r16 : Int32) (S16 : zSt) =>
 if r16 = (-1 : Int32) then ((F_X8_minutesScanned S16).bind (fun r35 : Int64 =>
 (F_X6_setLine S16 a1 r35).bind (fun S38 : zSt =>
 b2 (F_X8_empty S38) (fun (r45 : Int32) (S45 : zSt) =>
 (F_X6_busesOf S45 a1).bind (fun r54 : Int32 =>
 some (r54, S45)))))) else
 (some ((-3 : Int32), S16)))) else
 (some ((-2 : Int32), S)))
set_option maxRecDepth 100000 in
def F_X10_waits (S : zSt) (a1 : Int32) (a2 : Int32) : Option Int32 :=
 (F_X10_outside a1 (0 : Int32) (2 : Int32)).bind (fun r3 : Int32 =>
 if r3 = 0 then ((F_X10_outside a2 (0 : Int32) (59 : Int32)).bind (fun r13 : Int32 =>
 if r13 = 0 then ((F_X6_busesOf S a1).bind (fun r27 : Int32 =>
 if r27 = 0 then (some (-3 : Int32)) else
 ((F_X6_waitAt S a1 a2).bind (fun r42 : Int32 =>
 some r42)))) else
 (some (-2 : Int32)))) else
 (some (-2 : Int32)))
set_option maxRecDepth 100000 in
def F_X10_met (S : zSt) (a1 : Int32) (a2 : Int32) : Option Int32 :=
 (F_X10_outside a1 (0 : Int32) (2 : Int32)).bind (fun r3 : Int32 =>
 if r3 = 0 then ((F_X10_outside a2 (1 : Int32) (60 : Int32)).bind (fun r13 : Int32 =>
 if r13 = 0 then ((F_X6_metBy S a1 a2).bind (fun r28 : Int32 =>
 some r28)) else
 (some (-2 : Int32)))) else
 (some (-2 : Int32)))
set_option maxRecDepth 100000 in
def F_X10_gaps (S : zSt) (a1 : Int32) (a2 : Int32) (a3 : Int32) : Option Int64 :=
 (F_X10_outside a1 (0 : Int32) (2 : Int32)).bind (fun r3 : Int32 =>
 jn ((F_X2_refused (-2 : Int32)).bind (fun r29 : Int64 =>
 some r29)) (fun j27 : Option Int64 =>
 if r3 = 0 then ((F_X10_outside a2 (0 : Int32) (2 : Int32)).bind (fun r12 : Int32 =>
 if r12 = 0 then ((F_X10_outside a3 (0 : Int32) (1 : Int32)).bind (fun r21 : Int32 =>
 if r21 = 0 then ((F_X6_busesOf S a1).bind (fun r38 : Int32 =>
 if r38 = 0 then ((F_X2_refused (-3 : Int32)).bind (fun r46 : Int64 =>
 some r46)) else
 (jn (fun (y0_67 : Int32) =>
 lt y0_67 (fun x4_67 : Int32 =>
 (F_X6_sumOfGaps S a1 a2).bind (fun r75 : Int32 =>
 (F_X2_told (r75.toInt64) (x4_67.toInt64) a3).bind (fun r83 : Int64 =>
 some r83)))) (fun j67 : Int32 → Option Int64 =>
 if a2 = 0 then ((F_X6_busesOf S a1).bind (fun r59 : Int32 =>
 j67 r59)) else
 (j67 (60 : Int32)))))) else
 (j27))) else
 (j27))) else
 (j27)))
set_option maxRecDepth 100000 in
def F_X10_held (S : zSt) (a1 : Int32) (a2 : Int32) (a3 : Int32) : Option (Int32 × zSt) :=
 (F_X10_outside a1 (0 : Int32) (1 : Int32)).bind (fun r3 : Int32 =>
 if r3 = 0 then ((F_X10_outside a2 (0 : Int32) (5 : Int32)).bind (fun r12 : Int32 =>
 if r12 = 0 then ((F_X10_outside a3 (-1 : Int32) (59 : Int32)).bind (fun r22 : Int32 =>
 if r22 = 0 then ((F_X6_busesOf S a1).bind (fun r36 : Int32 =>
 lt r36 (fun x4_39 : Int32 =>
 if x4_39 = 0 then (some ((-3 : Int32), S)) else
 (if x4_39 ≤ (12 : Int32) then (if a3 < x4_39 then ((F_X6_minutesOf S a1).bind (fun r77 : Int64 =>
 b2 (F_X3_settle S r77 a2) (fun (r81 : Int32) (S81 : zSt) =>
 lt r81 (fun x5_84 : Int32 =>
 if a3 = (-1 : Int32) then (some (x5_84, S81)) else
 ((F_X3_laterOf S81 a3).bind (fun r101 : Int32 =>
 some (r101, S81))))))) else
 (some ((-3 : Int32), S))) else
 (some ((-4 : Int32), S)))))) else
 (some ((-2 : Int32), S)))) else
 (some ((-2 : Int32), S)))) else
 (some ((-2 : Int32), S)))
set_option maxRecDepth 100000 in
def F_X10_asked (S : zSt) (a1 : Int32) (a2 : Int32) : Option (Int32 × zSt) :=
 (F_X10_outside a1 (1 : Int32) (8 : Int32)).bind (fun r4 : Int32 =>
 if r4 = 0 then ((F_X7_cannotBeNow S a2).bind (fun r15 : Int32 =>
 if r15 = 0 then (b2 (F_X7_answer S a1 a2) (fun (r30 : Int32) (S30 : zSt) =>
 some (r30, S30))) else
 (some ((-2 : Int32), S)))) else
 (some ((-2 : Int32), S)))
set_option maxRecDepth 100000 in
def L_X10_read_55 (a1 : Int32) (a2 : Int32) (x3_51 : Int32) (k : zSt → Option (Int32 × zSt)) : Nat → zSt → Int32 → Option (Int32 × zSt)
  | 0, _, _ => none
  | n + 1, S55, v4_55 =>
    (if x3_51 ≤ v4_55 then (k S55) else
 ((F_X5_itemAt S55 a1 v4_55).bind (fun r69 : Int32 =>
 b2 (F_X10_asked S55 r69 a2) (fun (r73 : Int32) (S73 : zSt) =>
 if 0 ≤ r73 then (lt (v4_55 + (1 : Int32)) (fun x4_82 : Int32 =>
 L_X10_read_55 a1 a2 x3_51 k n S73 x4_82)) else
 (some (v4_55, S73))))))
set_option maxRecDepth 100000 in
def F_X10_read (S : zSt) (a1 : Int32) (a2 : Int32) : Option (Int32 × zSt) :=
 (F_X10_outside a1 (0 : Int32) (3 : Int32)).bind (fun r3 : Int32 =>
 if r3 = 0 then ((F_X7_cannotBeNow S a2).bind (fun r14 : Int32 =>
 if r14 = 0 then ((F_X5_isLost S a1).bind (fun r28 : Int32 =>
 if r28 = 0 then ((F_X5_itemsOf S a1).bind (fun r48 : Int32 =>
 lt r48 (fun x3_51 : Int32 =>
 lt (0 : Int32) (fun x4_53 : Int32 =>
 L_X10_read_55 a1 a2 x3_51 (fun (S55x_55 : zSt) =>
 some (x3_51, S55x_55)) 1000 S x4_53)))) else
 (b2 (F_X5_finding S (1 : Int32)) (fun (r39 : Int32) (S39 : zSt) =>
 some (r39, S39))))) else
 (some ((-2 : Int32), S)))) else
 (some ((-2 : Int32), S)))
set_option maxRecDepth 100000 in
def F_X10_takeBack (S : zSt) (a1 : Int32) (a2 : Int32) : Option (Int32 × zSt) :=
 (F_X7_answersTold S).bind (fun r6 : Int32 =>
 (F_X10_outside a1 (0 : Int32) (r6 - (1 : Int32))).bind (fun r11 : Int32 =>
 if r11 = 0 then ((F_X7_cannotBeNow S a2).bind (fun r22 : Int32 =>
 if r22 = 0 then ((F_X7_isTakenBack S a1).bind (fun r36 : Int32 =>
 if r36 = 0 then ((F_X7_forget S a1 a2).bind (fun S51 : zSt =>
 some ((1 : Int32), S51))) else
 (some ((-3 : Int32), S)))) else
 (some ((-2 : Int32), S)))) else
 (some ((-2 : Int32), S))))
set_option maxRecDepth 100000 in
def F_X10_asOf (S : zSt) (a1 : Int32) : Option (Int32 × zSt) :=
 (F_X10_outside a1 (0 : Int32) (999 : Int32)).bind (fun r5 : Int32 =>
 if r5 = 0 then (b2 (F_X7_lookFrom S a1) (fun (r19 : Int32) (S19 : zSt) =>
 some (r19, S19))) else
 (some ((-2 : Int32), S)))
set_option maxRecDepth 100000 in
def F_X10_said (S : zSt) (a1 : Int32) : Option Int32 :=
 (F_X10_outside a1 (1 : Int32) (8 : Int32)).bind (fun r4 : Int32 =>
 if r4 = 0 then ((F_X7_saying S a1).bind (fun r18 : Int32 =>
 some r18)) else
 (some (-2 : Int32)))
set_option maxRecDepth 100000 in
def F_X10_share (S : zSt) (a1 : Int32) (a2 : Int32) (a3 : Int32) : Option Int64 :=
 (F_X10_outside a1 (1 : Int32) (8 : Int32)).bind (fun r4 : Int32 =>
 jn ((F_X2_refused (-2 : Int32)).bind (fun r30 : Int64 =>
 some r30)) (fun j28 : Option Int64 =>
 if r4 = 0 then ((F_X10_outside a2 (0 : Int32) (1 : Int32)).bind (fun r13 : Int32 =>
 if r13 = 0 then ((F_X10_outside a3 (0 : Int32) (1 : Int32)).bind (fun r22 : Int32 =>
 if r22 = 0 then (if a2 = 0 then ((F_X7_saying S a1).bind (fun r43 : Int32 =>
 (F_X7_counting S).bind (fun r51 : Int32 =>
 (F_X2_told (r43.toInt64) (r51.toInt64) a3).bind (fun r56 : Int64 =>
 some r56)))) else
 ((F_X7_familyParts S a1).bind (fun r65 : Int32 =>
 (F_X7_allFamilyParts S).bind (fun r73 : Int32 =>
 (F_X2_told (r65.toInt64) (r73.toInt64) a3).bind (fun r78 : Int64 =>
 some r78))))) else
 (j28))) else
 (j28))) else
 (j28)))
set_option maxRecDepth 100000 in
def F_X10_size (S : zSt) (a1 : Int32) (a2 : Int32) : Option Int64 :=
 (F_X10_outside a1 (0 : Int32) (1 : Int32)).bind (fun r3 : Int32 =>
 jn ((F_X2_refused (-2 : Int32)).bind (fun r20 : Int64 =>
 some r20)) (fun j18 : Option Int64 =>
 if r3 = 0 then ((F_X10_outside a2 (0 : Int32) (1 : Int32)).bind (fun r12 : Int32 =>
 if r12 = 0 then (if a1 = 0 then ((F_X7_childrenSaid S).bind (fun r32 : Int32 =>
 (F_X7_counting S).bind (fun r40 : Int32 =>
 (F_X2_told (r32.toInt64) (r40.toInt64) a2).bind (fun r45 : Int64 =>
 some r45)))) else
 ((F_X7_counting S).bind (fun r53 : Int32 =>
 (F_X7_allFamilyParts S).bind (fun r65 : Int32 =>
 (F_X2_told ((r53.toInt64) * (840 : Int64)) (r65.toInt64) a2).bind (fun r70 : Int64 =>
 some r70))))) else
 (j18))) else
 (j18)))
set_option maxRecDepth 100000 in
def F_X10_families (S : zSt) (a1 : Int32) (a2 : Int32) (a3 : Int32) : Option (Int32 × zSt) :=
 (F_X10_outside a1 (0 : Int32) (3 : Int32)).bind (fun r3 : Int32 =>
 if r3 = 0 then ((F_X10_outside a2 (1 : Int32) (8 : Int32)).bind (fun r13 : Int32 =>
 if r13 = 0 then ((F_X10_outside a3 (0 : Int32) (9 : Int32)).bind (fun r23 : Int32 =>
 if r23 = 0 then (b2 (F_X1_setFamilies S a1 a2 a3) (fun (r39 : Int32) (S39 : zSt) =>
 some (r39, S39))) else
 (some ((-2 : Int32), S)))) else
 (some ((-2 : Int32), S)))) else
 (some ((-2 : Int32), S)))
set_option maxRecDepth 100000 in
def F_X10_chance (S : zSt) (a1 : Int32) (a2 : Int32) : Option Int64 :=
 (F_X10_outside a1 (0 : Int32) (3 : Int32)).bind (fun r3 : Int32 =>
 jn ((F_X2_refused (-2 : Int32)).bind (fun r20 : Int64 =>
 some r20)) (fun j18 : Option Int64 =>
 if r3 = 0 then ((F_X10_outside a2 (0 : Int32) (1 : Int32)).bind (fun r12 : Int32 =>
 if r12 = 0 then ((F_X7_counting S).bind (fun r28 : Int32 =>
 if r28 ≤ (8 : Int32) then ((F_X1_hasFewer S a1).bind (fun r51 : Int32 =>
 if r51 = 0 then ((F_X1_choicesThatFit S a1).bind (fun r72 : Int64 =>
 (F_X1_choices S a1).bind (fun r84 : Int64 =>
 (F_X2_told r72 r84 a2).bind (fun r88 : Int64 =>
 some r88)))) else
 ((F_X2_refused (-3 : Int32)).bind (fun r59 : Int64 =>
 some r59)))) else
 ((F_X2_refused (-4 : Int32)).bind (fun r38 : Int64 =>
 some r38)))) else
 (j18))) else
 (j18)))
set_option maxRecDepth 100000 in
def F_X10_likeliest (S : zSt) : Option Int32 :=
 (F_X7_counting S).bind (fun r4 : Int32 =>
 if r4 ≤ (8 : Int32) then ((F_X1_likeliestTown S).bind (fun r23 : Int32 =>
 some r23)) else
 (some (-4 : Int32)))
set_option maxRecDepth 100000 in
def F_X10_cannotEnd (a0 : Int32) (a1 : Int32) : Option Int32 :=
 (F_X10_outside a1 a0 (zmin (99 : Int32) (a0 + (19 : Int32)))).bind (fun r11 : Int32 =>
 zb r11 (some r11))
set_option maxRecDepth 100000 in
def F_X10_stay (S : zSt) (a1 : Int32) (a2 : Int32) : Option (Int32 × zSt) :=
 (F_X10_outside a1 (0 : Int32) (99 : Int32)).bind (fun r4 : Int32 =>
 if r4 = 0 then ((F_X10_cannotEnd a1 a2).bind (fun r12 : Int32 =>
 if r12 = 0 then (b2 (F_X9_admit S a1 a2) (fun (r27 : Int32) (S27 : zSt) =>
 some (r27, S27))) else
 (some ((-2 : Int32), S)))) else
 (some ((-2 : Int32), S)))
set_option maxRecDepth 100000 in
def F_X10_leaves (S : zSt) (a1 : Int32) (a2 : Int32) : Option (Int32 × zSt) :=
 (F_X9_staysTold S).bind (fun r6 : Int32 =>
 (F_X10_outside a1 (0 : Int32) (r6 - (1 : Int32))).bind (fun r11 : Int32 =>
 if r11 = 0 then ((F_X9_firstDay S a1).bind (fun r22 : Int32 =>
 (F_X10_cannotEnd r22 a2).bind (fun r26 : Int32 =>
 if r26 = 0 then (b2 (F_X9_endOn S a1 a2) (fun (r41 : Int32) (S41 : zSt) =>
 some (r41, S41))) else
 (some ((-2 : Int32), S))))) else
 (some ((-2 : Int32), S))))
set_option maxRecDepth 100000 in
def F_X10_isNoSpan (a0 : Int32) (a1 : Int32) : Option Int32 :=
 (F_X10_outside a0 (0 : Int32) (99 : Int32)).bind (fun r4 : Int32 =>
 if r4 = 0 then ((F_X10_outside a1 a0 (99 : Int32)).bind (fun r14 : Int32 =>
 if r14 = 0 then (some (0 : Int32)) else
 (some (1 : Int32)))) else
 (some (1 : Int32)))
set_option maxRecDepth 100000 in
def F_X10_ward (S : zSt) (a1 : Int32) (a2 : Int32) (a3 : Int32) : Option Int32 :=
 (F_X10_isNoSpan a1 a2).bind (fun r2 : Int32 =>
 if r2 = 0 then ((F_X10_outside a3 (0 : Int32) (3 : Int32)).bind (fun r11 : Int32 =>
 if r11 = 0 then (if a3 = 0 then ((F_X9_sum S a1 a2 (0 : Int32)).bind (fun r31 : Int64 =>
 some (r31.toInt32))) else
 (if a3 = (1 : Int32) then ((F_X9_sum S a1 a2 (1 : Int32)).bind (fun r48 : Int64 =>
 some (r48.toInt32))) else
 (if a3 = (2 : Int32) then ((F_X9_sum S a1 a2 (2 : Int32)).bind (fun r65 : Int64 =>
 some (r65.toInt32))) else
 ((F_X9_sum S a1 a2 (0 : Int32)).bind (fun r77 : Int64 =>
 if (lg_cmp r77 (0 : Int64)) = 0 then (some (-3 : Int32)) else
 ((F_X9_sum S a1 a2 (3 : Int32)).bind (fun r95 : Int64 =>
 (F_X9_sum S a1 a2 (2 : Int32)).bind (fun r105 : Int64 =>
 if (lg_cmp r95 r105) = 0 then (some (1 : Int32)) else
 (some (0 : Int32)))))))))) else
 (some (-2 : Int32)))) else
 (some (-2 : Int32)))
set_option maxRecDepth 100000 in
def F_X10_means (S : zSt) (a1 : Int32) (a2 : Int32) (a3 : Int32) (a4 : Int32) : Option Int64 :=
 (F_X10_isNoSpan a1 a2).bind (fun r2 : Int32 =>
 jn ((F_X2_refused (-2 : Int32)).bind (fun r29 : Int64 =>
 some r29)) (fun j27 : Option Int64 =>
 if r2 = 0 then ((F_X10_outside a3 (0 : Int32) (5 : Int32)).bind (fun r11 : Int32 =>
 if r11 = 0 then ((F_X10_outside a4 (0 : Int32) (1 : Int32)).bind (fun r21 : Int32 =>
 if r21 = 0 then ((F_X9_above S a1 a2 a3).bind (fun r40 : Int64 =>
 (F_X9_below S a1 a2 a3).bind (fun r50 : Int64 =>
 (F_X2_told r40 r50 a4).bind (fun r55 : Int64 =>
 some r55)))) else
 (j27))) else
 (j27))) else
 (j27)))
set_option maxRecDepth 100000 in
def F_X10_fullest (S : zSt) (a1 : Int32) : Option Int32 :=
 (F_X10_outside a1 (0 : Int32) (2 : Int32)).bind (fun r3 : Int32 =>
 if r3 = 0 then (if a1 = (2 : Int32) then ((F_X9_mostApart S).bind (fun r21 : Int32 =>
 some r21)) else
 ((F_X9_fullestDay S).bind (fun r29 : Int32 =>
 lt r29 (fun x2_32 : Int32 =>
 if a1 = 0 then (some x2_32) else
 ((F_X9_lyingOn S x2_32).bind (fun r46 : Int32 =>
 some r46)))))) else
 (some (-2 : Int32)))
set_option maxRecDepth 100000 in
def F_X10_friends (S : zSt) (a1 : Int32) (a2 : Int32) (a3 : Int32) : Option (Int32 × zSt) :=
 (F_X10_outside a1 (0 : Int32) (7 : Int32)).bind (fun r4 : Int32 =>
 if r4 = 0 then ((F_X10_outside a2 (0 : Int32) (7 : Int32)).bind (fun r14 : Int32 =>
 if r14 = 0 then ((F_X10_outside a3 (0 : Int32) (1 : Int32)).bind (fun r23 : Int32 =>
 if r23 = 0 then (if a1 = a2 then (some ((-2 : Int32), S)) else
 (b2 (F_X0_setFriends S a1 a2 a3) (fun (r44 : Int32) (S44 : zSt) =>
 some (r44, S44)))) else
 (some ((-2 : Int32), S)))) else
 (some ((-2 : Int32), S)))) else
 (some ((-2 : Int32), S)))
set_option maxRecDepth 100000 in
def F_X10_mean (S : zSt) (a1 : Int32) (a2 : Int32) : Option Int64 :=
 (F_X10_outside a1 (0 : Int32) (2 : Int32)).bind (fun r3 : Int32 =>
 jn ((F_X2_refused (-2 : Int32)).bind (fun r20 : Int64 =>
 some r20)) (fun j18 : Option Int64 =>
 if r3 = 0 then ((F_X10_outside a2 (0 : Int32) (1 : Int32)).bind (fun r12 : Int32 =>
 if r12 = 0 then (if a1 = 0 then ((F_X0_tellings S).bind (fun r32 : Int32 =>
 (F_X2_told (r32.toInt64) (8 : Int64) a2).bind (fun r40 : Int64 =>
 some r40))) else
 (if a1 = (1 : Int32) then ((F_X0_friendsOfFriends S).bind (fun r53 : Int32 =>
 (F_X0_tellings S).bind (fun r61 : Int32 =>
 (F_X2_told (r53.toInt64) (r61.toInt64) a2).bind (fun r66 : Int64 =>
 some r66)))) else
 ((F_X0_friendsOfPicked S).bind (fun r74 : Int32 =>
 (F_X2_told (r74.toInt64) (3360 : Int64) a2).bind (fun r82 : Int64 =>
 some r82))))) else
 (j18))) else
 (j18)))
set_option maxRecDepth 100000 in
def F_X10_fewer (S : zSt) : Option Int32 :=
 (F_X0_withFewer S).bind (fun r4 : Int32 =>
 some r4)
set_option maxRecDepth 100000 in
def F_X10_picked (S : zSt) (a1 : Int32) (a2 : Int32) : Option Int64 :=
 (F_X10_outside a1 (0 : Int32) (7 : Int32)).bind (fun r4 : Int32 =>
 jn ((F_X2_refused (-2 : Int32)).bind (fun r21 : Int64 =>
 some r21)) (fun j19 : Option Int64 =>
 if r4 = 0 then ((F_X10_outside a2 (0 : Int32) (1 : Int32)).bind (fun r13 : Int32 =>
 if r13 = 0 then ((F_X0_pickedParts S a1).bind (fun r30 : Int32 =>
 (F_X2_told (r30.toInt64) (3360 : Int64) a2).bind (fun r38 : Int64 =>
 some r38))) else
 (j19))) else
 (j19)))
set_option maxRecDepth 100000 in
def F_X10_best (S : zSt) (a1 : Int32) (a2 : Int32) : Option Int32 :=
 (F_X10_outside a1 (1 : Int32) (8 : Int32)).bind (fun r4 : Int32 =>
 if r4 = 0 then ((F_X10_outside a2 (0 : Int32) (1 : Int32)).bind (fun r13 : Int32 =>
 if r13 = 0 then ((F_X0_bestGroup S a1).bind (fun r27 : Int32 =>
 lt r27 (fun x3_30 : Int32 =>
 if a2 = 0 then (some x3_30) else
 ((F_X0_friendshipsOf S x3_30).bind (fun r44 : Int32 =>
 some r44))))) else
 (some (-2 : Int32)))) else
 (some (-2 : Int32)))
abbrev rm_X10_type : Room := { frames := 1, cells := 0, slots := 0, locals := 22 }
theorem y_X10_type : yX10_type.cls = RX10 ∧ yX10_type.cls ≠ "java/lang/invoke/MethodHandle" ∧ yX10_type.cls ≠ "java/lang/invoke/VarHandle" ∧ (parseMethodDescriptor yX10_type.desc).map (fun d => d.parameters.length) = some 1 := by decide +kernel
theorem m_X10_type_f10 : Cond.fieldLink RX10 10 "LongestMet" "text" "LLongestMet$Text;" ∈ wsX10_type := List.mem_cons_of_mem _ (List.mem_append_left _ (List.mem_append_left _ (List.mem_of_getElem? (i := 0) rfl)))
theorem m_X10_type_inX10 : ∀ x ∈ u_ws RX10 TX10 9, x ∈ wsX10_type := fun _ h => List.mem_cons_of_mem _ (List.mem_append_left _ (List.mem_append_right _ h))
set_option maxRecDepth 100000 in
set_option maxHeartbeats 4000000 in
theorem x_X10_type {E : zCx} {g : zGx} (B : zGood E (WX g) (zT g) cX10_type RX10 wsX10_type (some .int) rm_X10_type) (hE : E.2.2 = 2) (S : zSt) (a1 : Int32) : Xo E (WX g) eIw S 0 [(0, .ref (g.1 0)), (1, .int a1)] [] (F_X10_type S a1) := by
  unfold F_X10_type
  refine r_iload_n B 1 dX10_type_0 rfl rfl ?_
  refine r_iconst B (0 : Int32) dX10_type_1 (by decide) ?_
  refine r_sipush B (255 : Int32) dX10_type_2 (by decide) ?_
  refine r_cI (zrunS (As := [.int a1, .int (0 : Int32), .int (255 : Int32)]) (rest := []) B 3 (fun b hb => k_X10_outside B.2.2.1 hb) gX10_type_X10_outside rfl rfl rfl y_X10_outside ⟨Nat.le_of_ble_eq_true rfl, Nat.le_of_ble_eq_true rfl⟩ rfl rfl (Nat.le_of_ble_eq_true rfl) dX10_type_5) (fun r5 => ?_)
  refine r_if_eq B 14 dX10_type_8 (by decide) (fun _ => ?_) (fun _ => ?_)
  · refine r_aload_n B 0 dX10_type_14 rfl rfl ?_
    refine r_get B 0 9 0 (Nat.le_of_ble_eq_true rfl) rfl (cX_0 g _) rfl m_X10_type_inX10 (Nat.le_of_ble_eq_true rfl) m_X10_type_f10 rfl dX10_type_15 ?_
    refine r_iload_n B 1 dX10_type_18 rfl rfl ?_
    refine r_cIw (zrunV (As := [.int a1]) (rest := []) B 1 1 (fun b hb => k_X8_append B.2.2.1 hb) gX10_type_X8_append rfl rfl rfl y_X8_append ⟨Nat.le_of_ble_eq_true rfl, Nat.le_of_ble_eq_true rfl⟩ (Nat.le_of_ble_eq_true rfl) rfl (cX_1 g _) rfl rfl rfl (Nat.le_of_ble_eq_true rfl) dX10_type_19) (fun r19 S19 => ?_)
    exact r_iret B dX10_type_22 rfl
  · refine r_bipush B (-2 : Int32) dX10_type_11 (by decide) ?_
    exact r_iret B dX10_type_13 rfl
set_option maxRecDepth 20000 in
theorem k_X10_type {l : Launch} {D : va_G} {g : zGx} (hz : zin (WX g)) {S : zSt} {a1 : Int32} {b : (Int32 × zSt)} (h : F_X10_type S a1 = some b) : zMet l D (WX g) (zT g) yX10_type wsX10_type rm_X10_type S [.ref (g.1 0), .int a1] (eIw b) := zmet_of (by decide +kernel) rfl hz (Nat.le_of_ble_eq_true rfl) rfl (fun E _ _ hE B => x_X10_type B hE S a1) h
abbrev rm_X10_wipe : Room := { frames := 1, cells := 0, slots := 0, locals := 21 }
theorem y_X10_wipe : yX10_wipe.cls = RX10 ∧ yX10_wipe.cls ≠ "java/lang/invoke/MethodHandle" ∧ yX10_wipe.cls ≠ "java/lang/invoke/VarHandle" ∧ (parseMethodDescriptor yX10_wipe.desc).map (fun d => d.parameters.length) = some 0 := by decide +kernel
theorem m_X10_wipe_f10 : Cond.fieldLink RX10 10 "LongestMet" "text" "LLongestMet$Text;" ∈ wsX10_wipe := List.mem_cons_of_mem _ (List.mem_append_left _ (List.mem_append_left _ (List.mem_of_getElem? (i := 0) rfl)))
theorem m_X10_wipe_inX10 : ∀ x ∈ u_ws RX10 TX10 9, x ∈ wsX10_wipe := fun _ h => List.mem_cons_of_mem _ (List.mem_append_left _ (List.mem_append_right _ h))
set_option maxRecDepth 100000 in
set_option maxHeartbeats 4000000 in
theorem x_X10_wipe {E : zCx} {g : zGx} (B : zGood E (WX g) (zT g) cX10_wipe RX10 wsX10_wipe (some .int) rm_X10_wipe) (hE : E.2.2 = 1) (S : zSt) : Xo E (WX g) eIw S 0 [(0, .ref (g.1 0))] [] (F_X10_wipe S) := by
  unfold F_X10_wipe
  refine r_aload_n B 0 dX10_wipe_0 rfl rfl ?_
  refine r_get B 0 9 0 (Nat.le_of_ble_eq_true rfl) rfl (cX_0 g _) rfl m_X10_wipe_inX10 (Nat.le_of_ble_eq_true rfl) m_X10_wipe_f10 rfl dX10_wipe_1 ?_
  refine r_cIw (zrunV (As := []) (rest := []) B 0 1 (fun b hb => k_X8_empty B.2.2.1 hb) gX10_wipe_X8_empty rfl rfl rfl y_X8_empty ⟨Nat.le_of_ble_eq_true rfl, Nat.le_of_ble_eq_true rfl⟩ (Nat.le_of_ble_eq_true rfl) rfl (cX_1 g _) rfl rfl rfl (Nat.le_of_ble_eq_true rfl) dX10_wipe_4) (fun r4 S4 => ?_)
  exact r_iret B dX10_wipe_7 rfl
set_option maxRecDepth 20000 in
theorem k_X10_wipe {l : Launch} {D : va_G} {g : zGx} (hz : zin (WX g)) {S : zSt} {b : (Int32 × zSt)} (h : F_X10_wipe S = some b) : zMet l D (WX g) (zT g) yX10_wipe wsX10_wipe rm_X10_wipe S [.ref (g.1 0)] (eIw b) := zmet_of (by decide +kernel) rfl hz (Nat.le_of_ble_eq_true rfl) rfl (fun E _ _ hE B => x_X10_wipe B hE S) h
abbrev rm_X10_fault : Room := { frames := 4, cells := 0, slots := 0, locals := 90 }
theorem y_X10_fault : yX10_fault.cls = RX10 ∧ yX10_fault.cls ≠ "java/lang/invoke/MethodHandle" ∧ yX10_fault.cls ≠ "java/lang/invoke/VarHandle" ∧ (parseMethodDescriptor yX10_fault.desc).map (fun d => d.parameters.length) = some 0 := by decide +kernel
theorem m_X10_fault_f10 : Cond.fieldLink RX10 10 "LongestMet" "text" "LLongestMet$Text;" ∈ wsX10_fault := List.mem_cons_of_mem _ (List.mem_append_left _ (List.mem_append_left _ (List.mem_append_left _ (List.mem_of_getElem? (i := 0) rfl))))
theorem m_X10_fault_inX10 : ∀ x ∈ u_ws RX10 TX10 9, x ∈ wsX10_fault := fun _ h => List.mem_cons_of_mem _ (List.mem_append_left _ (List.mem_append_right _ h))
set_option maxRecDepth 100000 in
set_option maxHeartbeats 4000000 in
theorem x_X10_fault {E : zCx} {g : zGx} (B : zGood E (WX g) (zT g) cX10_fault RX10 wsX10_fault (some .int) rm_X10_fault) (hE : E.2.2 = 1) (S : zSt) : Xo E (WX g) eIw S 0 [(0, .ref (g.1 0))] [] (F_X10_fault S) := by
  unfold F_X10_fault
  refine r_aload_n B 0 dX10_fault_0 rfl rfl ?_
  refine r_get B 0 9 0 (Nat.le_of_ble_eq_true rfl) rfl (cX_0 g _) rfl m_X10_fault_inX10 (Nat.le_of_ble_eq_true rfl) m_X10_fault_f10 rfl dX10_fault_1 ?_
  refine r_cIw (zrunV (As := []) (rest := []) B 0 1 (fun b hb => k_X8_scan B.2.2.1 hb) gX10_fault_X8_scan rfl rfl rfl y_X8_scan ⟨Nat.le_of_ble_eq_true rfl, Nat.le_of_ble_eq_true rfl⟩ (Nat.le_of_ble_eq_true rfl) rfl (cX_1 g _) rfl rfl rfl (Nat.le_of_ble_eq_true rfl) dX10_fault_4) (fun r4 S4 => ?_)
  exact r_iret B dX10_fault_7 rfl
set_option maxRecDepth 20000 in
theorem k_X10_fault {l : Launch} {D : va_G} {g : zGx} (hz : zin (WX g)) {S : zSt} {b : (Int32 × zSt)} (h : F_X10_fault S = some b) : zMet l D (WX g) (zT g) yX10_fault wsX10_fault rm_X10_fault S [.ref (g.1 0)] (eIw b) := zmet_of (by decide +kernel) rfl hz (Nat.le_of_ble_eq_true rfl) rfl (fun E _ _ hE B => x_X10_fault B hE S) h
abbrev rm_X10_line : Room := { frames := 4, cells := 0, slots := 0, locals := 90 }
theorem y_X10_line : yX10_line.cls = RX10 ∧ yX10_line.cls ≠ "java/lang/invoke/MethodHandle" ∧ yX10_line.cls ≠ "java/lang/invoke/VarHandle" ∧ (parseMethodDescriptor yX10_line.desc).map (fun d => d.parameters.length) = some 1 := by decide +kernel
theorem m_X10_line_f10 : Cond.fieldLink RX10 10 "LongestMet" "text" "LLongestMet$Text;" ∈ wsX10_line := List.mem_cons_of_mem _ (List.mem_append_left _ (List.mem_append_left _ (List.mem_append_left _ (List.mem_append_left _ (List.mem_of_getElem? (i := 0) rfl)))))
theorem m_X10_line_inX10 : ∀ x ∈ u_ws RX10 TX10 9, x ∈ wsX10_line := fun _ h => List.mem_cons_of_mem _ (List.mem_append_left _ (List.mem_append_left _ (List.mem_append_right _ h)))
theorem m_X10_line_f19 : Cond.fieldLink RX10 19 "LongestMet" "stop" "LLongestMet$Stop;" ∈ wsX10_line := List.mem_cons_of_mem _ (List.mem_append_left _ (List.mem_append_left _ (List.mem_append_left _ (List.mem_append_left _ (List.mem_of_getElem? (i := 1) rfl)))))
set_option maxRecDepth 100000 in
set_option maxHeartbeats 4000000 in
theorem x_X10_line {E : zCx} {g : zGx} (B : zGood E (WX g) (zT g) cX10_line RX10 wsX10_line (some .int) rm_X10_line) (hE : E.2.2 = 2) (S : zSt) (a1 : Int32) : Xo E (WX g) eIw S 0 [(0, .ref (g.1 0)), (1, .int a1)] [] (F_X10_line S a1) := by
  unfold F_X10_line
  refine r_iload_n B 1 dX10_line_0 rfl rfl ?_
  refine r_iconst B (0 : Int32) dX10_line_1 (by decide) ?_
  refine r_iconst B (1 : Int32) dX10_line_2 (by decide) ?_
  refine r_cI (zrunS (As := [.int a1, .int (0 : Int32), .int (1 : Int32)]) (rest := []) B 3 (fun b hb => k_X10_outside B.2.2.1 hb) gX10_line_X10_outside rfl rfl rfl y_X10_outside ⟨Nat.le_of_ble_eq_true rfl, Nat.le_of_ble_eq_true rfl⟩ rfl rfl (Nat.le_of_ble_eq_true rfl) dX10_line_3) (fun r3 => ?_)
  refine r_if_eq B 12 dX10_line_6 (by decide) (fun _ => ?_) (fun _ => ?_)
  · refine r_aload_n B 0 dX10_line_12 rfl rfl ?_
    refine r_get B 0 9 0 (Nat.le_of_ble_eq_true rfl) rfl (cX_0 g _) rfl m_X10_line_inX10 (Nat.le_of_ble_eq_true rfl) m_X10_line_f10 rfl dX10_line_13 ?_
    refine r_cIw (zrunV (As := []) (rest := []) B 0 1 (fun b hb => k_X8_scan B.2.2.1 hb) gX10_line_X8_scan rfl rfl rfl y_X8_scan ⟨Nat.le_of_ble_eq_true rfl, Nat.le_of_ble_eq_true rfl⟩ (Nat.le_of_ble_eq_true rfl) rfl (cX_1 g _) rfl rfl rfl (Nat.le_of_ble_eq_true rfl) dX10_line_16) (fun r16 S16 => ?_)
    refine r_iconst B (-1 : Int32) dX10_line_19 (by decide) ?_
    refine r_icmp_eq B 26 dX10_line_20 (by decide) (fun _ => ?_) (fun _ => ?_)
    · refine r_aload_n B 0 dX10_line_26 rfl rfl ?_
      refine r_get B 0 9 1 (Nat.le_of_ble_eq_true rfl) rfl (cX_0 g _) rfl m_X10_line_inX10 (Nat.le_of_ble_eq_true rfl) m_X10_line_f19 rfl dX10_line_27 ?_
      refine r_iload_n B 1 dX10_line_30 rfl rfl ?_
      refine r_aload_n B 0 dX10_line_31 rfl rfl ?_
      refine r_get B 0 9 0 (Nat.le_of_ble_eq_true rfl) rfl (cX_0 g _) rfl m_X10_line_inX10 (Nat.le_of_ble_eq_true rfl) m_X10_line_f10 rfl dX10_line_32 ?_
      refine r_cL (zrunV (As := []) (rest := [.int a1, .ref (g.1 2)]) B 0 1 (fun b hb => k_X8_minutesScanned B.2.2.1 hb) gX10_line_X8_minutesScanned rfl rfl rfl y_X8_minutesScanned ⟨Nat.le_of_ble_eq_true rfl, Nat.le_of_ble_eq_true rfl⟩ (Nat.le_of_ble_eq_true rfl) rfl (cX_1 g _) rfl rfl rfl (Nat.le_of_ble_eq_true rfl) dX10_line_35) (fun r35 => ?_)
      refine r_cVw (zrunV (As := [.int a1, .long r35]) (rest := []) B 2 2 (fun b hb => k_X6_setLine B.2.2.1 hb) gX10_line_X6_setLine rfl rfl rfl y_X6_setLine ⟨Nat.le_of_ble_eq_true rfl, Nat.le_of_ble_eq_true rfl⟩ (Nat.le_of_ble_eq_true rfl) rfl (cX_2 g _) rfl rfl rfl (Nat.le_of_ble_eq_true rfl) dX10_line_38) (fun S38 => ?_)
      refine r_aload_n B 0 dX10_line_41 rfl rfl ?_
      refine r_get B 0 9 0 (Nat.le_of_ble_eq_true rfl) rfl (cX_0 g _) rfl m_X10_line_inX10 (Nat.le_of_ble_eq_true rfl) m_X10_line_f10 rfl dX10_line_42 ?_
      refine r_cIw (zrunV (As := []) (rest := []) B 0 1 (fun b hb => k_X8_empty B.2.2.1 hb) gX10_line_X8_empty rfl rfl rfl y_X8_empty ⟨Nat.le_of_ble_eq_true rfl, Nat.le_of_ble_eq_true rfl⟩ (Nat.le_of_ble_eq_true rfl) rfl (cX_1 g _) rfl rfl rfl (Nat.le_of_ble_eq_true rfl) dX10_line_45) (fun r45 S45 => ?_)
      refine r_pop B rfl dX10_line_48 ?_
      refine r_aload_n B 0 dX10_line_49 rfl rfl ?_
      refine r_get B 0 9 1 (Nat.le_of_ble_eq_true rfl) rfl (cX_0 g _) rfl m_X10_line_inX10 (Nat.le_of_ble_eq_true rfl) m_X10_line_f19 rfl dX10_line_50 ?_
      refine r_iload_n B 1 dX10_line_53 rfl rfl ?_
      refine r_cI (zrunV (As := [.int a1]) (rest := []) B 1 2 (fun b hb => k_X6_busesOf B.2.2.1 hb) gX10_line_X6_busesOf rfl rfl rfl y_X6_busesOf ⟨Nat.le_of_ble_eq_true rfl, Nat.le_of_ble_eq_true rfl⟩ (Nat.le_of_ble_eq_true rfl) rfl (cX_2 g _) rfl rfl rfl (Nat.le_of_ble_eq_true rfl) dX10_line_54) (fun r54 => ?_)
      exact r_iret B dX10_line_57 rfl
    · refine r_bipush B (-3 : Int32) dX10_line_23 (by decide) ?_
      exact r_iret B dX10_line_25 rfl
  · refine r_bipush B (-2 : Int32) dX10_line_9 (by decide) ?_
    exact r_iret B dX10_line_11 rfl
set_option maxRecDepth 20000 in
theorem k_X10_line {l : Launch} {D : va_G} {g : zGx} (hz : zin (WX g)) {S : zSt} {a1 : Int32} {b : (Int32 × zSt)} (h : F_X10_line S a1 = some b) : zMet l D (WX g) (zT g) yX10_line wsX10_line rm_X10_line S [.ref (g.1 0), .int a1] (eIw b) := zmet_of (by decide +kernel) rfl hz (Nat.le_of_ble_eq_true rfl) rfl (fun E _ _ hE B => x_X10_line B hE S a1) h
abbrev rm_X10_waits : Room := { frames := 2, cells := 0, slots := 0, locals := 47 }
theorem y_X10_waits : yX10_waits.cls = RX10 ∧ yX10_waits.cls ≠ "java/lang/invoke/MethodHandle" ∧ yX10_waits.cls ≠ "java/lang/invoke/VarHandle" ∧ (parseMethodDescriptor yX10_waits.desc).map (fun d => d.parameters.length) = some 2 := by decide +kernel
theorem m_X10_waits_f19 : Cond.fieldLink RX10 19 "LongestMet" "stop" "LLongestMet$Stop;" ∈ wsX10_waits := List.mem_cons_of_mem _ (List.mem_append_left _ (List.mem_append_left _ (List.mem_append_left _ (List.mem_of_getElem? (i := 0) rfl))))
theorem m_X10_waits_inX10 : ∀ x ∈ u_ws RX10 TX10 9, x ∈ wsX10_waits := fun _ h => List.mem_cons_of_mem _ (List.mem_append_left _ (List.mem_append_right _ h))
set_option maxRecDepth 100000 in
set_option maxHeartbeats 4000000 in
theorem x_X10_waits {E : zCx} {g : zGx} (B : zGood E (WX g) (zT g) cX10_waits RX10 wsX10_waits (some .int) rm_X10_waits) (hE : E.2.2 = 3) (S : zSt) (a1 : Int32) (a2 : Int32) : Xo E (WX g) (eI S) S 0 [(0, .ref (g.1 0)), (1, .int a1), (2, .int a2)] [] (F_X10_waits S a1 a2) := by
  unfold F_X10_waits
  refine r_iload_n B 1 dX10_waits_0 rfl rfl ?_
  refine r_iconst B (0 : Int32) dX10_waits_1 (by decide) ?_
  refine r_iconst B (2 : Int32) dX10_waits_2 (by decide) ?_
  refine r_cI (zrunS (As := [.int a1, .int (0 : Int32), .int (2 : Int32)]) (rest := []) B 3 (fun b hb => k_X10_outside B.2.2.1 hb) gX10_waits_X10_outside rfl rfl rfl y_X10_outside ⟨Nat.le_of_ble_eq_true rfl, Nat.le_of_ble_eq_true rfl⟩ rfl rfl (Nat.le_of_ble_eq_true rfl) dX10_waits_3) (fun r3 => ?_)
  refine r_if_ne B 19 dX10_waits_6 (by decide) (fun _ => ?_) (fun _ => ?_)
  · refine r_bipush B (-2 : Int32) dX10_waits_19 (by decide) ?_
    exact r_iret B dX10_waits_21 rfl
  · refine r_iload_n B 2 dX10_waits_9 rfl rfl ?_
    refine r_iconst B (0 : Int32) dX10_waits_10 (by decide) ?_
    refine r_bipush B (59 : Int32) dX10_waits_11 (by decide) ?_
    refine r_cI (zrunS (As := [.int a2, .int (0 : Int32), .int (59 : Int32)]) (rest := []) B 3 (fun b hb => k_X10_outside B.2.2.1 hb) gX10_waits_X10_outside rfl rfl rfl y_X10_outside ⟨Nat.le_of_ble_eq_true rfl, Nat.le_of_ble_eq_true rfl⟩ rfl rfl (Nat.le_of_ble_eq_true rfl) dX10_waits_13) (fun r13 => ?_)
    refine r_if_eq B 22 dX10_waits_16 (by decide) (fun _ => ?_) (fun _ => ?_)
    · refine r_aload_n B 0 dX10_waits_22 rfl rfl ?_
      refine r_get B 0 9 1 (Nat.le_of_ble_eq_true rfl) rfl (cX_0 g _) rfl m_X10_waits_inX10 (Nat.le_of_ble_eq_true rfl) m_X10_waits_f19 rfl dX10_waits_23 ?_
      refine r_iload_n B 1 dX10_waits_26 rfl rfl ?_
      refine r_cI (zrunV (As := [.int a1]) (rest := []) B 1 2 (fun b hb => k_X6_busesOf B.2.2.1 hb) gX10_waits_X6_busesOf rfl rfl rfl y_X6_busesOf ⟨Nat.le_of_ble_eq_true rfl, Nat.le_of_ble_eq_true rfl⟩ (Nat.le_of_ble_eq_true rfl) rfl (cX_2 g _) rfl rfl rfl (Nat.le_of_ble_eq_true rfl) dX10_waits_27) (fun r27 => ?_)
      refine r_if_ne B 36 dX10_waits_30 (by decide) (fun _ => ?_) (fun _ => ?_)
      · refine r_aload_n B 0 dX10_waits_36 rfl rfl ?_
        refine r_get B 0 9 1 (Nat.le_of_ble_eq_true rfl) rfl (cX_0 g _) rfl m_X10_waits_inX10 (Nat.le_of_ble_eq_true rfl) m_X10_waits_f19 rfl dX10_waits_37 ?_
        refine r_iload_n B 1 dX10_waits_40 rfl rfl ?_
        refine r_iload_n B 2 dX10_waits_41 rfl rfl ?_
        refine r_cI (zrunV (As := [.int a1, .int a2]) (rest := []) B 2 2 (fun b hb => k_X6_waitAt B.2.2.1 hb) gX10_waits_X6_waitAt rfl rfl rfl y_X6_waitAt ⟨Nat.le_of_ble_eq_true rfl, Nat.le_of_ble_eq_true rfl⟩ (Nat.le_of_ble_eq_true rfl) rfl (cX_2 g _) rfl rfl rfl (Nat.le_of_ble_eq_true rfl) dX10_waits_42) (fun r42 => ?_)
        exact r_iret B dX10_waits_45 rfl
      · refine r_bipush B (-3 : Int32) dX10_waits_33 (by decide) ?_
        exact r_iret B dX10_waits_35 rfl
    · refine r_bipush B (-2 : Int32) dX10_waits_19 (by decide) ?_
      exact r_iret B dX10_waits_21 rfl
set_option maxRecDepth 20000 in
theorem k_X10_waits {l : Launch} {D : va_G} {g : zGx} (hz : zin (WX g)) {S : zSt} {a1 : Int32} {a2 : Int32} {b : Int32} (h : F_X10_waits S a1 a2 = some b) : zMet l D (WX g) (zT g) yX10_waits wsX10_waits rm_X10_waits S [.ref (g.1 0), .int a1, .int a2] ((eI S) b) := zmet_of (by decide +kernel) rfl hz (Nat.le_of_ble_eq_true rfl) rfl (fun E _ _ hE B => x_X10_waits B hE S a1 a2) h
abbrev rm_X10_met : Room := { frames := 4, cells := 0, slots := 0, locals := 95 }
theorem y_X10_met : yX10_met.cls = RX10 ∧ yX10_met.cls ≠ "java/lang/invoke/MethodHandle" ∧ yX10_met.cls ≠ "java/lang/invoke/VarHandle" ∧ (parseMethodDescriptor yX10_met.desc).map (fun d => d.parameters.length) = some 2 := by decide +kernel
theorem m_X10_met_f19 : Cond.fieldLink RX10 19 "LongestMet" "stop" "LLongestMet$Stop;" ∈ wsX10_met := List.mem_cons_of_mem _ (List.mem_append_left _ (List.mem_append_left _ (List.mem_append_left _ (List.mem_of_getElem? (i := 0) rfl))))
theorem m_X10_met_inX10 : ∀ x ∈ u_ws RX10 TX10 9, x ∈ wsX10_met := fun _ h => List.mem_cons_of_mem _ (List.mem_append_left _ (List.mem_append_right _ h))
set_option maxRecDepth 100000 in
set_option maxHeartbeats 4000000 in
theorem x_X10_met {E : zCx} {g : zGx} (B : zGood E (WX g) (zT g) cX10_met RX10 wsX10_met (some .int) rm_X10_met) (hE : E.2.2 = 3) (S : zSt) (a1 : Int32) (a2 : Int32) : Xo E (WX g) (eI S) S 0 [(0, .ref (g.1 0)), (1, .int a1), (2, .int a2)] [] (F_X10_met S a1 a2) := by
  unfold F_X10_met
  refine r_iload_n B 1 dX10_met_0 rfl rfl ?_
  refine r_iconst B (0 : Int32) dX10_met_1 (by decide) ?_
  refine r_iconst B (2 : Int32) dX10_met_2 (by decide) ?_
  refine r_cI (zrunS (As := [.int a1, .int (0 : Int32), .int (2 : Int32)]) (rest := []) B 3 (fun b hb => k_X10_outside B.2.2.1 hb) gX10_met_X10_outside rfl rfl rfl y_X10_outside ⟨Nat.le_of_ble_eq_true rfl, Nat.le_of_ble_eq_true rfl⟩ rfl rfl (Nat.le_of_ble_eq_true rfl) dX10_met_3) (fun r3 => ?_)
  refine r_if_ne B 19 dX10_met_6 (by decide) (fun _ => ?_) (fun _ => ?_)
  · refine r_bipush B (-2 : Int32) dX10_met_19 (by decide) ?_
    exact r_iret B dX10_met_21 rfl
  · refine r_iload_n B 2 dX10_met_9 rfl rfl ?_
    refine r_iconst B (1 : Int32) dX10_met_10 (by decide) ?_
    refine r_bipush B (60 : Int32) dX10_met_11 (by decide) ?_
    refine r_cI (zrunS (As := [.int a2, .int (1 : Int32), .int (60 : Int32)]) (rest := []) B 3 (fun b hb => k_X10_outside B.2.2.1 hb) gX10_met_X10_outside rfl rfl rfl y_X10_outside ⟨Nat.le_of_ble_eq_true rfl, Nat.le_of_ble_eq_true rfl⟩ rfl rfl (Nat.le_of_ble_eq_true rfl) dX10_met_13) (fun r13 => ?_)
    refine r_if_eq B 22 dX10_met_16 (by decide) (fun _ => ?_) (fun _ => ?_)
    · refine r_aload_n B 0 dX10_met_22 rfl rfl ?_
      refine r_get B 0 9 1 (Nat.le_of_ble_eq_true rfl) rfl (cX_0 g _) rfl m_X10_met_inX10 (Nat.le_of_ble_eq_true rfl) m_X10_met_f19 rfl dX10_met_23 ?_
      refine r_iload_n B 1 dX10_met_26 rfl rfl ?_
      refine r_iload_n B 2 dX10_met_27 rfl rfl ?_
      refine r_cI (zrunV (As := [.int a1, .int a2]) (rest := []) B 2 2 (fun b hb => k_X6_metBy B.2.2.1 hb) gX10_met_X6_metBy rfl rfl rfl y_X6_metBy ⟨Nat.le_of_ble_eq_true rfl, Nat.le_of_ble_eq_true rfl⟩ (Nat.le_of_ble_eq_true rfl) rfl (cX_2 g _) rfl rfl rfl (Nat.le_of_ble_eq_true rfl) dX10_met_28) (fun r28 => ?_)
      exact r_iret B dX10_met_31 rfl
    · refine r_bipush B (-2 : Int32) dX10_met_19 (by decide) ?_
      exact r_iret B dX10_met_21 rfl
set_option maxRecDepth 20000 in
theorem k_X10_met {l : Launch} {D : va_G} {g : zGx} (hz : zin (WX g)) {S : zSt} {a1 : Int32} {a2 : Int32} {b : Int32} (h : F_X10_met S a1 a2 = some b) : zMet l D (WX g) (zT g) yX10_met wsX10_met rm_X10_met S [.ref (g.1 0), .int a1, .int a2] ((eI S) b) := zmet_of (by decide +kernel) rfl hz (Nat.le_of_ble_eq_true rfl) rfl (fun E _ _ hE B => x_X10_met B hE S a1 a2) h
abbrev rm_X10_gaps : Room := { frames := 4, cells := 0, slots := 0, locals := 95 }
theorem y_X10_gaps : yX10_gaps.cls = RX10 ∧ yX10_gaps.cls ≠ "java/lang/invoke/MethodHandle" ∧ yX10_gaps.cls ≠ "java/lang/invoke/VarHandle" ∧ (parseMethodDescriptor yX10_gaps.desc).map (fun d => d.parameters.length) = some 3 := by decide +kernel
theorem m_X10_gaps_f19 : Cond.fieldLink RX10 19 "LongestMet" "stop" "LLongestMet$Stop;" ∈ wsX10_gaps := List.mem_cons_of_mem _ (List.mem_append_left _ (List.mem_append_left _ (List.mem_append_left _ (List.mem_of_getElem? (i := 0) rfl))))
theorem m_X10_gaps_inX10 : ∀ x ∈ u_ws RX10 TX10 9, x ∈ wsX10_gaps := fun _ h => List.mem_cons_of_mem _ (List.mem_append_left _ (List.mem_append_right _ h))
set_option maxRecDepth 100000 in
set_option maxHeartbeats 4000000 in
theorem x_X10_gaps {E : zCx} {g : zGx} (B : zGood E (WX g) (zT g) cX10_gaps RX10 wsX10_gaps (some .long) rm_X10_gaps) (hE : E.2.2 = 5) (S : zSt) (a1 : Int32) (a2 : Int32) (a3 : Int32) : Xo E (WX g) (eL S) S 0 [(0, .ref (g.1 0)), (1, .int a1), (2, .int a2), (3, .int a3)] [] (F_X10_gaps S a1 a2 a3) := by
  have n4 : 4 < E.2.2 := by rw [hE]; decide
  unfold F_X10_gaps
  refine r_iload_n B 1 dX10_gaps_0 rfl rfl ?_
  refine r_iconst B (0 : Int32) dX10_gaps_1 (by decide) ?_
  refine r_iconst B (2 : Int32) dX10_gaps_2 (by decide) ?_
  refine r_cI (zrunS (As := [.int a1, .int (0 : Int32), .int (2 : Int32)]) (rest := []) B 3 (fun b hb => k_X10_outside B.2.2.1 hb) gX10_gaps_X10_outside rfl rfl rfl y_X10_outside ⟨Nat.le_of_ble_eq_true rfl, Nat.le_of_ble_eq_true rfl⟩ rfl rfl (Nat.le_of_ble_eq_true rfl) dX10_gaps_3) (fun r3 => ?_)
  refine r_jn2 (P := fun j27 : Option Int64 => Xo E (WX g) (eL S) S 27 [] [] (j27)) ?_ (fun j27 hj27 => ?_)
  · refine r_bipush B (-2 : Int32) dX10_gaps_27 (by decide) ?_
    refine r_cL (zrunS (As := [.int (-2 : Int32)]) (rest := []) B 1 (fun b hb => k_X2_refused B.2.2.1 hb) gX10_gaps_X2_refused rfl rfl rfl y_X2_refused ⟨Nat.le_of_ble_eq_true rfl, Nat.le_of_ble_eq_true rfl⟩ rfl rfl (Nat.le_of_ble_eq_true rfl) dX10_gaps_29) (fun r29 => ?_)
    exact r_lret B dX10_gaps_32 rfl
  refine r_if_ne B 27 dX10_gaps_6 (by decide) (fun _ => ?_) (fun _ => ?_)
  · refine r_sub [] rfl ?_
    exact hj27
  · refine r_iload_n B 2 dX10_gaps_9 rfl rfl ?_
    refine r_iconst B (0 : Int32) dX10_gaps_10 (by decide) ?_
    refine r_iconst B (2 : Int32) dX10_gaps_11 (by decide) ?_
    refine r_cI (zrunS (As := [.int a2, .int (0 : Int32), .int (2 : Int32)]) (rest := []) B 3 (fun b hb => k_X10_outside B.2.2.1 hb) gX10_gaps_X10_outside rfl rfl rfl y_X10_outside ⟨Nat.le_of_ble_eq_true rfl, Nat.le_of_ble_eq_true rfl⟩ rfl rfl (Nat.le_of_ble_eq_true rfl) dX10_gaps_12) (fun r12 => ?_)
    refine r_if_ne B 27 dX10_gaps_15 (by decide) (fun _ => ?_) (fun _ => ?_)
    · refine r_sub [] rfl ?_
      exact hj27
    · refine r_iload_n B 3 dX10_gaps_18 rfl rfl ?_
      refine r_iconst B (0 : Int32) dX10_gaps_19 (by decide) ?_
      refine r_iconst B (1 : Int32) dX10_gaps_20 (by decide) ?_
      refine r_cI (zrunS (As := [.int a3, .int (0 : Int32), .int (1 : Int32)]) (rest := []) B 3 (fun b hb => k_X10_outside B.2.2.1 hb) gX10_gaps_X10_outside rfl rfl rfl y_X10_outside ⟨Nat.le_of_ble_eq_true rfl, Nat.le_of_ble_eq_true rfl⟩ rfl rfl (Nat.le_of_ble_eq_true rfl) dX10_gaps_21) (fun r21 => ?_)
      refine r_if_eq B 33 dX10_gaps_24 (by decide) (fun _ => ?_) (fun _ => ?_)
      · refine r_aload_n B 0 dX10_gaps_33 rfl rfl ?_
        refine r_get B 0 9 1 (Nat.le_of_ble_eq_true rfl) rfl (cX_0 g _) rfl m_X10_gaps_inX10 (Nat.le_of_ble_eq_true rfl) m_X10_gaps_f19 rfl dX10_gaps_34 ?_
        refine r_iload_n B 1 dX10_gaps_37 rfl rfl ?_
        refine r_cI (zrunV (As := [.int a1]) (rest := []) B 1 2 (fun b hb => k_X6_busesOf B.2.2.1 hb) gX10_gaps_X6_busesOf rfl rfl rfl y_X6_busesOf ⟨Nat.le_of_ble_eq_true rfl, Nat.le_of_ble_eq_true rfl⟩ (Nat.le_of_ble_eq_true rfl) rfl (cX_2 g _) rfl rfl rfl (Nat.le_of_ble_eq_true rfl) dX10_gaps_38) (fun r38 => ?_)
        refine r_if_ne B 50 dX10_gaps_41 (by decide) (fun _ => ?_) (fun _ => ?_)
        · refine r_iload_n B 2 dX10_gaps_50 rfl rfl ?_
          refine r_jn2 (P := fun j67 : Int32 → Option Int64 => ∀ (y0_67 : Int32), Xo E (WX g) (eL S) S 67 [(0, .ref (g.1 0)), (1, .int a1), (2, .int a2), (3, .int a3)] [.int y0_67] (j67 y0_67)) ?_ (fun j67 hj67 => ?_)
          · intro y0_67
            refine r_istore (lv' := fun x4_67 => [(4, .int x4_67), (0, .ref (g.1 0)), (1, .int a1), (2, .int a2), (3, .int a3)]) B dX10_gaps_67 n4 (fun _ => rfl) (fun x4_67 => ?_)
            refine r_aload_n B 1 dX10_gaps_69 rfl rfl ?_
            refine r_get B 0 9 1 (Nat.le_of_ble_eq_true rfl) rfl (cX_0 g _) rfl m_X10_gaps_inX10 (Nat.le_of_ble_eq_true rfl) m_X10_gaps_f19 rfl dX10_gaps_70 ?_
            refine r_iload_n B 2 dX10_gaps_73 rfl rfl ?_
            refine r_iload_n B 3 dX10_gaps_74 rfl rfl ?_
            refine r_cI (zrunV (As := [.int a1, .int a2]) (rest := []) B 2 2 (fun b hb => k_X6_sumOfGaps B.2.2.1 hb) gX10_gaps_X6_sumOfGaps rfl rfl rfl y_X6_sumOfGaps ⟨Nat.le_of_ble_eq_true rfl, Nat.le_of_ble_eq_true rfl⟩ (Nat.le_of_ble_eq_true rfl) rfl (cX_2 g _) rfl rfl rfl (Nat.le_of_ble_eq_true rfl) dX10_gaps_75) (fun r75 => ?_)
            refine r_i2l B dX10_gaps_78 ?_
            refine r_iload B 0 dX10_gaps_79 rfl ?_
            refine r_i2l B dX10_gaps_81 ?_
            refine r_iload_n B 4 dX10_gaps_82 rfl rfl ?_
            refine r_cL (zrunS (As := [.long (r75.toInt64), .long (x4_67.toInt64), .int a3]) (rest := []) B 3 (fun b hb => k_X2_told B.2.2.1 hb) gX10_gaps_X2_told rfl rfl rfl y_X2_told ⟨Nat.le_of_ble_eq_true rfl, Nat.le_of_ble_eq_true rfl⟩ rfl rfl (Nat.le_of_ble_eq_true rfl) dX10_gaps_83) (fun r83 => ?_)
            exact r_lret B dX10_gaps_86 rfl
          refine r_if_ne B 65 dX10_gaps_51 (by decide) (fun _ => ?_) (fun _ => ?_)
          · refine r_bipush B (60 : Int32) dX10_gaps_65 (by decide) ?_
            exact hj67 (60 : Int32)
          · refine r_aload_n B 0 dX10_gaps_54 rfl rfl ?_
            refine r_get B 0 9 1 (Nat.le_of_ble_eq_true rfl) rfl (cX_0 g _) rfl m_X10_gaps_inX10 (Nat.le_of_ble_eq_true rfl) m_X10_gaps_f19 rfl dX10_gaps_55 ?_
            refine r_iload_n B 1 dX10_gaps_58 rfl rfl ?_
            refine r_cI (zrunV (As := [.int a1]) (rest := []) B 1 2 (fun b hb => k_X6_busesOf B.2.2.1 hb) gX10_gaps_X6_busesOf rfl rfl rfl y_X6_busesOf ⟨Nat.le_of_ble_eq_true rfl, Nat.le_of_ble_eq_true rfl⟩ (Nat.le_of_ble_eq_true rfl) rfl (cX_2 g _) rfl rfl rfl (Nat.le_of_ble_eq_true rfl) dX10_gaps_59) (fun r59 => ?_)
            refine r_goto B 67 dX10_gaps_62 (by decide) ?_
            exact hj67 r59
        · refine r_bipush B (-3 : Int32) dX10_gaps_44 (by decide) ?_
          refine r_cL (zrunS (As := [.int (-3 : Int32)]) (rest := []) B 1 (fun b hb => k_X2_refused B.2.2.1 hb) gX10_gaps_X2_refused rfl rfl rfl y_X2_refused ⟨Nat.le_of_ble_eq_true rfl, Nat.le_of_ble_eq_true rfl⟩ rfl rfl (Nat.le_of_ble_eq_true rfl) dX10_gaps_46) (fun r46 => ?_)
          exact r_lret B dX10_gaps_49 rfl
      · refine r_sub [] rfl ?_
        exact hj27
set_option maxRecDepth 20000 in
theorem k_X10_gaps {l : Launch} {D : va_G} {g : zGx} (hz : zin (WX g)) {S : zSt} {a1 : Int32} {a2 : Int32} {a3 : Int32} {b : Int64} (h : F_X10_gaps S a1 a2 a3 = some b) : zMet l D (WX g) (zT g) yX10_gaps wsX10_gaps rm_X10_gaps S [.ref (g.1 0), .int a1, .int a2, .int a3] ((eL S) b) := zmet_of (by decide +kernel) rfl hz (Nat.le_of_ble_eq_true rfl) rfl (fun E _ _ hE B => x_X10_gaps B hE S a1 a2 a3) h
abbrev rm_X10_held : Room := { frames := 5, cells := 0, slots := 0, locals := 121 }
theorem y_X10_held : yX10_held.cls = RX10 ∧ yX10_held.cls ≠ "java/lang/invoke/MethodHandle" ∧ yX10_held.cls ≠ "java/lang/invoke/VarHandle" ∧ (parseMethodDescriptor yX10_held.desc).map (fun d => d.parameters.length) = some 3 := by decide +kernel
theorem m_X10_held_f19 : Cond.fieldLink RX10 19 "LongestMet" "stop" "LLongestMet$Stop;" ∈ wsX10_held := List.mem_cons_of_mem _ (List.mem_append_left _ (List.mem_append_left _ (List.mem_append_left _ (List.mem_append_left _ (List.mem_of_getElem? (i := 0) rfl)))))
theorem m_X10_held_inX10 : ∀ x ∈ u_ws RX10 TX10 9, x ∈ wsX10_held := fun _ h => List.mem_cons_of_mem _ (List.mem_append_left _ (List.mem_append_left _ (List.mem_append_right _ h)))
theorem m_X10_held_f26 : Cond.fieldLink RX10 26 "LongestMet" "holding" "LLongestMet$Holding;" ∈ wsX10_held := List.mem_cons_of_mem _ (List.mem_append_left _ (List.mem_append_left _ (List.mem_append_left _ (List.mem_append_left _ (List.mem_of_getElem? (i := 1) rfl)))))
set_option maxRecDepth 100000 in
set_option maxHeartbeats 4000000 in
theorem x_X10_held {E : zCx} {g : zGx} (B : zGood E (WX g) (zT g) cX10_held RX10 wsX10_held (some .int) rm_X10_held) (hE : E.2.2 = 6) (S : zSt) (a1 : Int32) (a2 : Int32) (a3 : Int32) : Xo E (WX g) eIw S 0 [(0, .ref (g.1 0)), (1, .int a1), (2, .int a2), (3, .int a3)] [] (F_X10_held S a1 a2 a3) := by
  have n4 : 4 < E.2.2 := by rw [hE]; decide
  have n5 : 5 < E.2.2 := by rw [hE]; decide
  unfold F_X10_held
  refine r_iload_n B 1 dX10_held_0 rfl rfl ?_
  refine r_iconst B (0 : Int32) dX10_held_1 (by decide) ?_
  refine r_iconst B (1 : Int32) dX10_held_2 (by decide) ?_
  refine r_cI (zrunS (As := [.int a1, .int (0 : Int32), .int (1 : Int32)]) (rest := []) B 3 (fun b hb => k_X10_outside B.2.2.1 hb) gX10_held_X10_outside rfl rfl rfl y_X10_outside ⟨Nat.le_of_ble_eq_true rfl, Nat.le_of_ble_eq_true rfl⟩ rfl rfl (Nat.le_of_ble_eq_true rfl) dX10_held_3) (fun r3 => ?_)
  refine r_if_ne B 28 dX10_held_6 (by decide) (fun _ => ?_) (fun _ => ?_)
  · refine r_bipush B (-2 : Int32) dX10_held_28 (by decide) ?_
    exact r_iret B dX10_held_30 rfl
  · refine r_iload_n B 2 dX10_held_9 rfl rfl ?_
    refine r_iconst B (0 : Int32) dX10_held_10 (by decide) ?_
    refine r_iconst B (5 : Int32) dX10_held_11 (by decide) ?_
    refine r_cI (zrunS (As := [.int a2, .int (0 : Int32), .int (5 : Int32)]) (rest := []) B 3 (fun b hb => k_X10_outside B.2.2.1 hb) gX10_held_X10_outside rfl rfl rfl y_X10_outside ⟨Nat.le_of_ble_eq_true rfl, Nat.le_of_ble_eq_true rfl⟩ rfl rfl (Nat.le_of_ble_eq_true rfl) dX10_held_12) (fun r12 => ?_)
    refine r_if_ne B 28 dX10_held_15 (by decide) (fun _ => ?_) (fun _ => ?_)
    · refine r_bipush B (-2 : Int32) dX10_held_28 (by decide) ?_
      exact r_iret B dX10_held_30 rfl
    · refine r_iload_n B 3 dX10_held_18 rfl rfl ?_
      refine r_iconst B (-1 : Int32) dX10_held_19 (by decide) ?_
      refine r_bipush B (59 : Int32) dX10_held_20 (by decide) ?_
      refine r_cI (zrunS (As := [.int a3, .int (-1 : Int32), .int (59 : Int32)]) (rest := []) B 3 (fun b hb => k_X10_outside B.2.2.1 hb) gX10_held_X10_outside rfl rfl rfl y_X10_outside ⟨Nat.le_of_ble_eq_true rfl, Nat.le_of_ble_eq_true rfl⟩ rfl rfl (Nat.le_of_ble_eq_true rfl) dX10_held_22) (fun r22 => ?_)
      refine r_if_eq B 31 dX10_held_25 (by decide) (fun _ => ?_) (fun _ => ?_)
      · refine r_aload_n B 0 dX10_held_31 rfl rfl ?_
        refine r_get B 0 9 1 (Nat.le_of_ble_eq_true rfl) rfl (cX_0 g _) rfl m_X10_held_inX10 (Nat.le_of_ble_eq_true rfl) m_X10_held_f19 rfl dX10_held_32 ?_
        refine r_iload_n B 1 dX10_held_35 rfl rfl ?_
        refine r_cI (zrunV (As := [.int a1]) (rest := []) B 1 2 (fun b hb => k_X6_busesOf B.2.2.1 hb) gX10_held_X6_busesOf rfl rfl rfl y_X6_busesOf ⟨Nat.le_of_ble_eq_true rfl, Nat.le_of_ble_eq_true rfl⟩ (Nat.le_of_ble_eq_true rfl) rfl (cX_2 g _) rfl rfl rfl (Nat.le_of_ble_eq_true rfl) dX10_held_36) (fun r36 => ?_)
        refine r_istore (lv' := fun x4_39 => [(4, .int x4_39), (0, .ref (g.1 0)), (1, .int a1), (2, .int a2), (3, .int a3)]) B dX10_held_39 n4 (fun _ => rfl) (fun x4_39 => ?_)
        refine r_iload B 0 dX10_held_41 rfl ?_
        refine r_if_ne B 49 dX10_held_43 (by decide) (fun _ => ?_) (fun _ => ?_)
        · refine r_iload B 0 dX10_held_49 rfl ?_
          refine r_bipush B (12 : Int32) dX10_held_51 (by decide) ?_
          refine r_icmp_le B 59 dX10_held_53 (by decide) (fun _ => ?_) (fun _ => ?_)
          · refine r_iload_n B 4 dX10_held_59 rfl rfl ?_
            refine r_iload B 0 dX10_held_60 rfl ?_
            refine r_icmp_lt B 68 dX10_held_62 (by decide) (fun _ => ?_) (fun _ => ?_)
            · refine r_aload_n B 1 dX10_held_68 rfl rfl ?_
              refine r_get B 0 9 2 (Nat.le_of_ble_eq_true rfl) rfl (cX_0 g _) rfl m_X10_held_inX10 (Nat.le_of_ble_eq_true rfl) m_X10_held_f26 rfl dX10_held_69 ?_
              refine r_aload_n B 1 dX10_held_72 rfl rfl ?_
              refine r_get B 0 9 1 (Nat.le_of_ble_eq_true rfl) rfl (cX_0 g _) rfl m_X10_held_inX10 (Nat.le_of_ble_eq_true rfl) m_X10_held_f19 rfl dX10_held_73 ?_
              refine r_iload_n B 2 dX10_held_76 rfl rfl ?_
              refine r_cL (zrunV (As := [.int a1]) (rest := [.ref (g.1 3)]) B 1 2 (fun b hb => k_X6_minutesOf B.2.2.1 hb) gX10_held_X6_minutesOf rfl rfl rfl y_X6_minutesOf ⟨Nat.le_of_ble_eq_true rfl, Nat.le_of_ble_eq_true rfl⟩ (Nat.le_of_ble_eq_true rfl) rfl (cX_2 g _) rfl rfl rfl (Nat.le_of_ble_eq_true rfl) dX10_held_77) (fun r77 => ?_)
              refine r_iload_n B 3 dX10_held_80 rfl rfl ?_
              refine r_cIw (zrunV (As := [.long r77, .int a2]) (rest := []) B 2 3 (fun b hb => k_X3_settle B.2.2.1 hb) gX10_held_X3_settle rfl rfl rfl y_X3_settle ⟨Nat.le_of_ble_eq_true rfl, Nat.le_of_ble_eq_true rfl⟩ (Nat.le_of_ble_eq_true rfl) rfl (cX_3 g _) rfl rfl rfl (Nat.le_of_ble_eq_true rfl) dX10_held_81) (fun r81 S81 => ?_)
              refine r_istore (lv' := fun x5_84 => [(5, .int x5_84), (4, .int x4_39), (0, .ref (g.1 0)), (1, .int a1), (2, .int a2), (3, .int a3)]) B dX10_held_84 n5 (fun _ => rfl) (fun x5_84 => ?_)
              refine r_iload_n B 5 dX10_held_86 rfl rfl ?_
              refine r_iconst B (-1 : Int32) dX10_held_87 (by decide) ?_
              refine r_icmp_ne B 96 dX10_held_88 (by decide) (fun _ => ?_) (fun _ => ?_)
              · refine r_aload_n B 2 dX10_held_96 rfl rfl ?_
                refine r_get B 0 9 2 (Nat.le_of_ble_eq_true rfl) rfl (cX_0 g _) rfl m_X10_held_inX10 (Nat.le_of_ble_eq_true rfl) m_X10_held_f26 rfl dX10_held_97 ?_
                refine r_iload_n B 5 dX10_held_100 rfl rfl ?_
                refine r_cI (zrunV (As := [.int a3]) (rest := []) B 1 3 (fun b hb => k_X3_laterOf B.2.2.1 hb) gX10_held_X3_laterOf rfl rfl rfl y_X3_laterOf ⟨Nat.le_of_ble_eq_true rfl, Nat.le_of_ble_eq_true rfl⟩ (Nat.le_of_ble_eq_true rfl) rfl (cX_3 g _) rfl rfl rfl (Nat.le_of_ble_eq_true rfl) dX10_held_101) (fun r101 => ?_)
                exact r_iret B dX10_held_104 rfl
              · refine r_iload B 0 dX10_held_91 rfl ?_
                refine r_goto B 104 dX10_held_93 (by decide) ?_
                exact r_iret B dX10_held_104 rfl
            · refine r_bipush B (-3 : Int32) dX10_held_65 (by decide) ?_
              exact r_iret B dX10_held_67 rfl
          · refine r_bipush B (-4 : Int32) dX10_held_56 (by decide) ?_
            exact r_iret B dX10_held_58 rfl
        · refine r_bipush B (-3 : Int32) dX10_held_46 (by decide) ?_
          exact r_iret B dX10_held_48 rfl
      · refine r_bipush B (-2 : Int32) dX10_held_28 (by decide) ?_
        exact r_iret B dX10_held_30 rfl
set_option maxRecDepth 20000 in
theorem k_X10_held {l : Launch} {D : va_G} {g : zGx} (hz : zin (WX g)) {S : zSt} {a1 : Int32} {a2 : Int32} {a3 : Int32} {b : (Int32 × zSt)} (h : F_X10_held S a1 a2 a3 = some b) : zMet l D (WX g) (zT g) yX10_held wsX10_held rm_X10_held S [.ref (g.1 0), .int a1, .int a2, .int a3] (eIw b) := zmet_of (by decide +kernel) rfl hz (Nat.le_of_ble_eq_true rfl) rfl (fun E _ _ hE B => x_X10_held B hE S a1 a2 a3) h
abbrev rm_X10_asked : Room := { frames := 2, cells := 0, slots := 0, locals := 43 }
theorem y_X10_asked : yX10_asked.cls = RX10 ∧ yX10_asked.cls ≠ "java/lang/invoke/MethodHandle" ∧ yX10_asked.cls ≠ "java/lang/invoke/VarHandle" ∧ (parseMethodDescriptor yX10_asked.desc).map (fun d => d.parameters.length) = some 2 := by decide +kernel
theorem m_X10_asked_f33 : Cond.fieldLink RX10 33 "LongestMet" "survey" "LLongestMet$Survey;" ∈ wsX10_asked := List.mem_cons_of_mem _ (List.mem_append_left _ (List.mem_append_left _ (List.mem_of_getElem? (i := 0) rfl)))
theorem m_X10_asked_inX10 : ∀ x ∈ u_ws RX10 TX10 9, x ∈ wsX10_asked := fun _ h => List.mem_cons_of_mem _ (List.mem_append_left _ (List.mem_append_right _ h))
set_option maxRecDepth 100000 in
set_option maxHeartbeats 4000000 in
theorem x_X10_asked {E : zCx} {g : zGx} (B : zGood E (WX g) (zT g) cX10_asked RX10 wsX10_asked (some .int) rm_X10_asked) (hE : E.2.2 = 3) (S : zSt) (a1 : Int32) (a2 : Int32) : Xo E (WX g) eIw S 0 [(0, .ref (g.1 0)), (1, .int a1), (2, .int a2)] [] (F_X10_asked S a1 a2) := by
  unfold F_X10_asked
  refine r_iload_n B 1 dX10_asked_0 rfl rfl ?_
  refine r_iconst B (1 : Int32) dX10_asked_1 (by decide) ?_
  refine r_bipush B (8 : Int32) dX10_asked_2 (by decide) ?_
  refine r_cI (zrunS (As := [.int a1, .int (1 : Int32), .int (8 : Int32)]) (rest := []) B 3 (fun b hb => k_X10_outside B.2.2.1 hb) gX10_asked_X10_outside rfl rfl rfl y_X10_outside ⟨Nat.le_of_ble_eq_true rfl, Nat.le_of_ble_eq_true rfl⟩ rfl rfl (Nat.le_of_ble_eq_true rfl) dX10_asked_4) (fun r4 => ?_)
  refine r_if_ne B 21 dX10_asked_7 (by decide) (fun _ => ?_) (fun _ => ?_)
  · refine r_bipush B (-2 : Int32) dX10_asked_21 (by decide) ?_
    exact r_iret B dX10_asked_23 rfl
  · refine r_aload_n B 0 dX10_asked_10 rfl rfl ?_
    refine r_get B 0 9 3 (Nat.le_of_ble_eq_true rfl) rfl (cX_0 g _) rfl m_X10_asked_inX10 (Nat.le_of_ble_eq_true rfl) m_X10_asked_f33 rfl dX10_asked_11 ?_
    refine r_iload_n B 2 dX10_asked_14 rfl rfl ?_
    refine r_cI (zrunV (As := [.int a2]) (rest := []) B 1 4 (fun b hb => k_X7_cannotBeNow B.2.2.1 hb) gX10_asked_X7_cannotBeNow rfl rfl rfl y_X7_cannotBeNow ⟨Nat.le_of_ble_eq_true rfl, Nat.le_of_ble_eq_true rfl⟩ (Nat.le_of_ble_eq_true rfl) rfl (cX_4 g _) rfl rfl rfl (Nat.le_of_ble_eq_true rfl) dX10_asked_15) (fun r15 => ?_)
    refine r_if_eq B 24 dX10_asked_18 (by decide) (fun _ => ?_) (fun _ => ?_)
    · refine r_aload_n B 0 dX10_asked_24 rfl rfl ?_
      refine r_get B 0 9 3 (Nat.le_of_ble_eq_true rfl) rfl (cX_0 g _) rfl m_X10_asked_inX10 (Nat.le_of_ble_eq_true rfl) m_X10_asked_f33 rfl dX10_asked_25 ?_
      refine r_iload_n B 1 dX10_asked_28 rfl rfl ?_
      refine r_iload_n B 2 dX10_asked_29 rfl rfl ?_
      refine r_cIw (zrunV (As := [.int a1, .int a2]) (rest := []) B 2 4 (fun b hb => k_X7_answer B.2.2.1 hb) gX10_asked_X7_answer rfl rfl rfl y_X7_answer ⟨Nat.le_of_ble_eq_true rfl, Nat.le_of_ble_eq_true rfl⟩ (Nat.le_of_ble_eq_true rfl) rfl (cX_4 g _) rfl rfl rfl (Nat.le_of_ble_eq_true rfl) dX10_asked_30) (fun r30 S30 => ?_)
      exact r_iret B dX10_asked_33 rfl
    · refine r_bipush B (-2 : Int32) dX10_asked_21 (by decide) ?_
      exact r_iret B dX10_asked_23 rfl
set_option maxRecDepth 20000 in
theorem k_X10_asked {l : Launch} {D : va_G} {g : zGx} (hz : zin (WX g)) {S : zSt} {a1 : Int32} {a2 : Int32} {b : (Int32 × zSt)} (h : F_X10_asked S a1 a2 = some b) : zMet l D (WX g) (zT g) yX10_asked wsX10_asked rm_X10_asked S [.ref (g.1 0), .int a1, .int a2] (eIw b) := zmet_of (by decide +kernel) rfl hz (Nat.le_of_ble_eq_true rfl) rfl (fun E _ _ hE B => x_X10_asked B hE S a1 a2) h
abbrev rm_X10_read : Room := { frames := 3, cells := 0, slots := 0, locals := 65 }
theorem y_X10_read : yX10_read.cls = RX10 ∧ yX10_read.cls ≠ "java/lang/invoke/MethodHandle" ∧ yX10_read.cls ≠ "java/lang/invoke/VarHandle" ∧ (parseMethodDescriptor yX10_read.desc).map (fun d => d.parameters.length) = some 2 := by decide +kernel
theorem m_X10_read_f33 : Cond.fieldLink RX10 33 "LongestMet" "survey" "LLongestMet$Survey;" ∈ wsX10_read := List.mem_cons_of_mem _ (List.mem_append_left _ (List.mem_append_left _ (List.mem_append_left _ (List.mem_append_left _ (List.mem_of_getElem? (i := 0) rfl)))))
theorem m_X10_read_inX10 : ∀ x ∈ u_ws RX10 TX10 9, x ∈ wsX10_read := fun _ h => List.mem_cons_of_mem _ (List.mem_append_left _ (List.mem_append_left _ (List.mem_append_right _ h)))
theorem m_X10_read_f68 : Cond.fieldLink RX10 68 "LongestMet" "sheets" "LLongestMet$Sheets;" ∈ wsX10_read := List.mem_cons_of_mem _ (List.mem_append_left _ (List.mem_append_left _ (List.mem_append_left _ (List.mem_append_left _ (List.mem_of_getElem? (i := 1) rfl)))))
set_option maxRecDepth 100000 in
set_option maxHeartbeats 4000000 in
theorem xL_X10_read_55 {E : zCx} {g : zGx} (B : zGood E (WX g) (zT g) cX10_read RX10 wsX10_read (some .int) rm_X10_read) (hE : E.2.2 = 5) (a1 : Int32) (a2 : Int32) (x3_51 : Int32) (k : zSt → Option (Int32 × zSt)) (hk : ∀ (S55x : zSt), Xo E (WX g) eIw S55x 88 [(3, .int x3_51)] [] (k S55x)) : ∀ (n : Nat) (S55 : zSt) (v4_55 : Int32), Xo E (WX g) eIw S55 55 [(0, .ref (g.1 0)), (1, .int a1), (2, .int a2), (3, .int x3_51), (4, .int v4_55)] [] (L_X10_read_55 a1 a2 x3_51 k n S55 v4_55) := by
  have n3 : 3 < E.2.2 := by rw [hE]; decide
  have n4 : 4 < E.2.2 := by rw [hE]; decide
  intro n
  induction n with
  | zero =>
    intro _ _
    exact r_none
  | succ n ih =>
    intro S55 v4_55
    rw [L_X10_read_55]
    refine r_iload B 4 dX10_read_55 rfl ?_
    refine r_iload_n B 3 dX10_read_57 rfl rfl ?_
    refine r_icmp_ge B 88 dX10_read_58 (by decide) (fun _ => ?_) (fun _ => ?_)
    · refine r_sub [3] rfl ?_
      exact hk S55
    · refine r_aload_n B 0 dX10_read_61 rfl rfl ?_
      refine r_aload_n B 0 dX10_read_62 rfl rfl ?_
      refine r_get B 0 9 8 (Nat.le_of_ble_eq_true rfl) rfl (cX_0 g _) rfl m_X10_read_inX10 (Nat.le_of_ble_eq_true rfl) m_X10_read_f68 rfl dX10_read_63 ?_
      refine r_iload_n B 1 dX10_read_66 rfl rfl ?_
      refine r_iload B 4 dX10_read_67 rfl ?_
      refine r_cI (zrunV (As := [.int a1, .int v4_55]) (rest := [.ref (g.1 0)]) B 2 9 (fun b hb => k_X5_itemAt B.2.2.1 hb) gX10_read_X5_itemAt rfl rfl rfl y_X5_itemAt ⟨Nat.le_of_ble_eq_true rfl, Nat.le_of_ble_eq_true rfl⟩ (Nat.le_of_ble_eq_true rfl) rfl (cX_9 g _) rfl rfl rfl (Nat.le_of_ble_eq_true rfl) dX10_read_69) (fun r69 => ?_)
      refine r_iload_n B 2 dX10_read_72 rfl rfl ?_
      refine r_cIw (zrunV (As := [.int r69, .int a2]) (rest := []) B 2 0 (fun b hb => k_X10_asked B.2.2.1 hb) gX10_read_X10_asked rfl rfl rfl y_X10_asked ⟨Nat.le_of_ble_eq_true rfl, Nat.le_of_ble_eq_true rfl⟩ (Nat.le_of_ble_eq_true rfl) rfl (cX_0 g _) rfl rfl rfl (Nat.le_of_ble_eq_true rfl) dX10_read_73) (fun r73 S73 => ?_)
      refine r_if_ge B 82 dX10_read_76 (by decide) (fun _ => ?_) (fun _ => ?_)
      · refine r_iinc (lv' := fun x4_82 => [(4, .int x4_82), (0, .ref (g.1 0)), (1, .int a1), (2, .int a2), (3, .int x3_51)]) B 4 (1 : Int32) dX10_read_82 rfl (by decide) n4 (fun _ => rfl) (fun x4_82 => ?_)
        refine r_goto B 55 dX10_read_85 (by decide) ?_
        refine r_sub [1, 2, 3, 4, 0] rfl ?_
        exact ih S73 x4_82
      · refine r_iload B 4 dX10_read_79 rfl ?_
        exact r_iret B dX10_read_81 rfl
set_option maxRecDepth 100000 in
set_option maxHeartbeats 4000000 in
theorem x_X10_read {E : zCx} {g : zGx} (B : zGood E (WX g) (zT g) cX10_read RX10 wsX10_read (some .int) rm_X10_read) (hE : E.2.2 = 5) (S : zSt) (a1 : Int32) (a2 : Int32) : Xo E (WX g) eIw S 0 [(0, .ref (g.1 0)), (1, .int a1), (2, .int a2)] [] (F_X10_read S a1 a2) := by
  have n3 : 3 < E.2.2 := by rw [hE]; decide
  have n4 : 4 < E.2.2 := by rw [hE]; decide
  unfold F_X10_read
  refine r_iload_n B 1 dX10_read_0 rfl rfl ?_
  refine r_iconst B (0 : Int32) dX10_read_1 (by decide) ?_
  refine r_iconst B (3 : Int32) dX10_read_2 (by decide) ?_
  refine r_cI (zrunS (As := [.int a1, .int (0 : Int32), .int (3 : Int32)]) (rest := []) B 3 (fun b hb => k_X10_outside B.2.2.1 hb) gX10_read_X10_outside rfl rfl rfl y_X10_outside ⟨Nat.le_of_ble_eq_true rfl, Nat.le_of_ble_eq_true rfl⟩ rfl rfl (Nat.le_of_ble_eq_true rfl) dX10_read_3) (fun r3 => ?_)
  refine r_if_ne B 20 dX10_read_6 (by decide) (fun _ => ?_) (fun _ => ?_)
  · refine r_bipush B (-2 : Int32) dX10_read_20 (by decide) ?_
    exact r_iret B dX10_read_22 rfl
  · refine r_aload_n B 0 dX10_read_9 rfl rfl ?_
    refine r_get B 0 9 3 (Nat.le_of_ble_eq_true rfl) rfl (cX_0 g _) rfl m_X10_read_inX10 (Nat.le_of_ble_eq_true rfl) m_X10_read_f33 rfl dX10_read_10 ?_
    refine r_iload_n B 2 dX10_read_13 rfl rfl ?_
    refine r_cI (zrunV (As := [.int a2]) (rest := []) B 1 4 (fun b hb => k_X7_cannotBeNow B.2.2.1 hb) gX10_read_X7_cannotBeNow rfl rfl rfl y_X7_cannotBeNow ⟨Nat.le_of_ble_eq_true rfl, Nat.le_of_ble_eq_true rfl⟩ (Nat.le_of_ble_eq_true rfl) rfl (cX_4 g _) rfl rfl rfl (Nat.le_of_ble_eq_true rfl) dX10_read_14) (fun r14 => ?_)
    refine r_if_eq B 23 dX10_read_17 (by decide) (fun _ => ?_) (fun _ => ?_)
    · refine r_aload_n B 0 dX10_read_23 rfl rfl ?_
      refine r_get B 0 9 8 (Nat.le_of_ble_eq_true rfl) rfl (cX_0 g _) rfl m_X10_read_inX10 (Nat.le_of_ble_eq_true rfl) m_X10_read_f68 rfl dX10_read_24 ?_
      refine r_iload_n B 1 dX10_read_27 rfl rfl ?_
      refine r_cI (zrunV (As := [.int a1]) (rest := []) B 1 9 (fun b hb => k_X5_isLost B.2.2.1 hb) gX10_read_X5_isLost rfl rfl rfl y_X5_isLost ⟨Nat.le_of_ble_eq_true rfl, Nat.le_of_ble_eq_true rfl⟩ (Nat.le_of_ble_eq_true rfl) rfl (cX_9 g _) rfl rfl rfl (Nat.le_of_ble_eq_true rfl) dX10_read_28) (fun r28 => ?_)
      refine r_if_eq B 43 dX10_read_31 (by decide) (fun _ => ?_) (fun _ => ?_)
      · refine r_aload_n B 0 dX10_read_43 rfl rfl ?_
        refine r_get B 0 9 8 (Nat.le_of_ble_eq_true rfl) rfl (cX_0 g _) rfl m_X10_read_inX10 (Nat.le_of_ble_eq_true rfl) m_X10_read_f68 rfl dX10_read_44 ?_
        refine r_iload_n B 1 dX10_read_47 rfl rfl ?_
        refine r_cI (zrunV (As := [.int a1]) (rest := []) B 1 9 (fun b hb => k_X5_itemsOf B.2.2.1 hb) gX10_read_X5_itemsOf rfl rfl rfl y_X5_itemsOf ⟨Nat.le_of_ble_eq_true rfl, Nat.le_of_ble_eq_true rfl⟩ (Nat.le_of_ble_eq_true rfl) rfl (cX_9 g _) rfl rfl rfl (Nat.le_of_ble_eq_true rfl) dX10_read_48) (fun r48 => ?_)
        refine r_istore_n (lv' := fun x3_51 => [(3, .int x3_51), (0, .ref (g.1 0)), (1, .int a1), (2, .int a2)]) B dX10_read_51 rfl n3 (fun _ => rfl) (fun x3_51 => ?_)
        refine r_iconst B (0 : Int32) dX10_read_52 (by decide) ?_
        refine r_istore (lv' := fun x4_53 => [(4, .int x4_53), (3, .int x3_51), (0, .ref (g.1 0)), (1, .int a1), (2, .int a2)]) B dX10_read_53 n4 (fun _ => rfl) (fun x4_53 => ?_)
        refine r_sub [2, 3, 4, 1, 0] rfl ?_
        refine xL_X10_read_55 B hE a1 a2 x3_51 _ ?_ 1000 S x4_53
        intro S55x_55
        refine r_iload_n B 0 dX10_read_88 rfl rfl ?_
        exact r_iret B dX10_read_89 rfl
      · refine r_aload_n B 0 dX10_read_34 rfl rfl ?_
        refine r_get B 0 9 8 (Nat.le_of_ble_eq_true rfl) rfl (cX_0 g _) rfl m_X10_read_inX10 (Nat.le_of_ble_eq_true rfl) m_X10_read_f68 rfl dX10_read_35 ?_
        refine r_iconst B (1 : Int32) dX10_read_38 (by decide) ?_
        refine r_cIw (zrunV (As := [.int (1 : Int32)]) (rest := []) B 1 9 (fun b hb => k_X5_finding B.2.2.1 hb) gX10_read_X5_finding rfl rfl rfl y_X5_finding ⟨Nat.le_of_ble_eq_true rfl, Nat.le_of_ble_eq_true rfl⟩ (Nat.le_of_ble_eq_true rfl) rfl (cX_9 g _) rfl rfl rfl (Nat.le_of_ble_eq_true rfl) dX10_read_39) (fun r39 S39 => ?_)
        exact r_iret B dX10_read_42 rfl
    · refine r_bipush B (-2 : Int32) dX10_read_20 (by decide) ?_
      exact r_iret B dX10_read_22 rfl
set_option maxRecDepth 20000 in
theorem k_X10_read {l : Launch} {D : va_G} {g : zGx} (hz : zin (WX g)) {S : zSt} {a1 : Int32} {a2 : Int32} {b : (Int32 × zSt)} (h : F_X10_read S a1 a2 = some b) : zMet l D (WX g) (zT g) yX10_read wsX10_read rm_X10_read S [.ref (g.1 0), .int a1, .int a2] (eIw b) := zmet_of (by decide +kernel) rfl hz (Nat.le_of_ble_eq_true rfl) rfl (fun E _ _ hE B => x_X10_read B hE S a1 a2) h
abbrev rm_X10_takeBack : Room := { frames := 2, cells := 0, slots := 0, locals := 43 }
theorem y_X10_takeBack : yX10_takeBack.cls = RX10 ∧ yX10_takeBack.cls ≠ "java/lang/invoke/MethodHandle" ∧ yX10_takeBack.cls ≠ "java/lang/invoke/VarHandle" ∧ (parseMethodDescriptor yX10_takeBack.desc).map (fun d => d.parameters.length) = some 2 := by decide +kernel
theorem m_X10_takeBack_f33 : Cond.fieldLink RX10 33 "LongestMet" "survey" "LLongestMet$Survey;" ∈ wsX10_takeBack := List.mem_cons_of_mem _ (List.mem_append_left _ (List.mem_append_left _ (List.mem_append_left _ (List.mem_of_getElem? (i := 0) rfl))))
theorem m_X10_takeBack_inX10 : ∀ x ∈ u_ws RX10 TX10 9, x ∈ wsX10_takeBack := fun _ h => List.mem_cons_of_mem _ (List.mem_append_left _ (List.mem_append_right _ h))
set_option maxRecDepth 100000 in
set_option maxHeartbeats 4000000 in
theorem x_X10_takeBack {E : zCx} {g : zGx} (B : zGood E (WX g) (zT g) cX10_takeBack RX10 wsX10_takeBack (some .int) rm_X10_takeBack) (hE : E.2.2 = 3) (S : zSt) (a1 : Int32) (a2 : Int32) : Xo E (WX g) eIw S 0 [(0, .ref (g.1 0)), (1, .int a1), (2, .int a2)] [] (F_X10_takeBack S a1 a2) := by
  unfold F_X10_takeBack
  refine r_iload_n B 1 dX10_takeBack_0 rfl rfl ?_
  refine r_iconst B (0 : Int32) dX10_takeBack_1 (by decide) ?_
  refine r_aload_n B 0 dX10_takeBack_2 rfl rfl ?_
  refine r_get B 0 9 3 (Nat.le_of_ble_eq_true rfl) rfl (cX_0 g _) rfl m_X10_takeBack_inX10 (Nat.le_of_ble_eq_true rfl) m_X10_takeBack_f33 rfl dX10_takeBack_3 ?_
  refine r_cI (zrunV (As := []) (rest := [.int (0 : Int32), .int a1]) B 0 4 (fun b hb => k_X7_answersTold B.2.2.1 hb) gX10_takeBack_X7_answersTold rfl rfl rfl y_X7_answersTold ⟨Nat.le_of_ble_eq_true rfl, Nat.le_of_ble_eq_true rfl⟩ (Nat.le_of_ble_eq_true rfl) rfl (cX_4 g _) rfl rfl rfl (Nat.le_of_ble_eq_true rfl) dX10_takeBack_6) (fun r6 => ?_)
  refine r_iconst B (1 : Int32) dX10_takeBack_9 (by decide) ?_
  refine r_isub B dX10_takeBack_10 ?_
  refine r_cI (zrunS (As := [.int a1, .int (0 : Int32), .int (r6 - (1 : Int32))]) (rest := []) B 3 (fun b hb => k_X10_outside B.2.2.1 hb) gX10_takeBack_X10_outside rfl rfl rfl y_X10_outside ⟨Nat.le_of_ble_eq_true rfl, Nat.le_of_ble_eq_true rfl⟩ rfl rfl (Nat.le_of_ble_eq_true rfl) dX10_takeBack_11) (fun r11 => ?_)
  refine r_if_ne B 28 dX10_takeBack_14 (by decide) (fun _ => ?_) (fun _ => ?_)
  · refine r_bipush B (-2 : Int32) dX10_takeBack_28 (by decide) ?_
    exact r_iret B dX10_takeBack_30 rfl
  · refine r_aload_n B 0 dX10_takeBack_17 rfl rfl ?_
    refine r_get B 0 9 3 (Nat.le_of_ble_eq_true rfl) rfl (cX_0 g _) rfl m_X10_takeBack_inX10 (Nat.le_of_ble_eq_true rfl) m_X10_takeBack_f33 rfl dX10_takeBack_18 ?_
    refine r_iload_n B 2 dX10_takeBack_21 rfl rfl ?_
    refine r_cI (zrunV (As := [.int a2]) (rest := []) B 1 4 (fun b hb => k_X7_cannotBeNow B.2.2.1 hb) gX10_takeBack_X7_cannotBeNow rfl rfl rfl y_X7_cannotBeNow ⟨Nat.le_of_ble_eq_true rfl, Nat.le_of_ble_eq_true rfl⟩ (Nat.le_of_ble_eq_true rfl) rfl (cX_4 g _) rfl rfl rfl (Nat.le_of_ble_eq_true rfl) dX10_takeBack_22) (fun r22 => ?_)
    refine r_if_eq B 31 dX10_takeBack_25 (by decide) (fun _ => ?_) (fun _ => ?_)
    · refine r_aload_n B 0 dX10_takeBack_31 rfl rfl ?_
      refine r_get B 0 9 3 (Nat.le_of_ble_eq_true rfl) rfl (cX_0 g _) rfl m_X10_takeBack_inX10 (Nat.le_of_ble_eq_true rfl) m_X10_takeBack_f33 rfl dX10_takeBack_32 ?_
      refine r_iload_n B 1 dX10_takeBack_35 rfl rfl ?_
      refine r_cI (zrunV (As := [.int a1]) (rest := []) B 1 4 (fun b hb => k_X7_isTakenBack B.2.2.1 hb) gX10_takeBack_X7_isTakenBack rfl rfl rfl y_X7_isTakenBack ⟨Nat.le_of_ble_eq_true rfl, Nat.le_of_ble_eq_true rfl⟩ (Nat.le_of_ble_eq_true rfl) rfl (cX_4 g _) rfl rfl rfl (Nat.le_of_ble_eq_true rfl) dX10_takeBack_36) (fun r36 => ?_)
      refine r_if_eq B 45 dX10_takeBack_39 (by decide) (fun _ => ?_) (fun _ => ?_)
      · refine r_aload_n B 0 dX10_takeBack_45 rfl rfl ?_
        refine r_get B 0 9 3 (Nat.le_of_ble_eq_true rfl) rfl (cX_0 g _) rfl m_X10_takeBack_inX10 (Nat.le_of_ble_eq_true rfl) m_X10_takeBack_f33 rfl dX10_takeBack_46 ?_
        refine r_iload_n B 1 dX10_takeBack_49 rfl rfl ?_
        refine r_iload_n B 2 dX10_takeBack_50 rfl rfl ?_
        refine r_cVw (zrunV (As := [.int a1, .int a2]) (rest := []) B 2 4 (fun b hb => k_X7_forget B.2.2.1 hb) gX10_takeBack_X7_forget rfl rfl rfl y_X7_forget ⟨Nat.le_of_ble_eq_true rfl, Nat.le_of_ble_eq_true rfl⟩ (Nat.le_of_ble_eq_true rfl) rfl (cX_4 g _) rfl rfl rfl (Nat.le_of_ble_eq_true rfl) dX10_takeBack_51) (fun S51 => ?_)
        refine r_iconst B (1 : Int32) dX10_takeBack_54 (by decide) ?_
        exact r_iret B dX10_takeBack_55 rfl
      · refine r_bipush B (-3 : Int32) dX10_takeBack_42 (by decide) ?_
        exact r_iret B dX10_takeBack_44 rfl
    · refine r_bipush B (-2 : Int32) dX10_takeBack_28 (by decide) ?_
      exact r_iret B dX10_takeBack_30 rfl
set_option maxRecDepth 20000 in
theorem k_X10_takeBack {l : Launch} {D : va_G} {g : zGx} (hz : zin (WX g)) {S : zSt} {a1 : Int32} {a2 : Int32} {b : (Int32 × zSt)} (h : F_X10_takeBack S a1 a2 = some b) : zMet l D (WX g) (zT g) yX10_takeBack wsX10_takeBack rm_X10_takeBack S [.ref (g.1 0), .int a1, .int a2] (eIw b) := zmet_of (by decide +kernel) rfl hz (Nat.le_of_ble_eq_true rfl) rfl (fun E _ _ hE B => x_X10_takeBack B hE S a1 a2) h
abbrev rm_X10_asOf : Room := { frames := 1, cells := 0, slots := 0, locals := 22 }
theorem y_X10_asOf : yX10_asOf.cls = RX10 ∧ yX10_asOf.cls ≠ "java/lang/invoke/MethodHandle" ∧ yX10_asOf.cls ≠ "java/lang/invoke/VarHandle" ∧ (parseMethodDescriptor yX10_asOf.desc).map (fun d => d.parameters.length) = some 1 := by decide +kernel
theorem m_X10_asOf_f33 : Cond.fieldLink RX10 33 "LongestMet" "survey" "LLongestMet$Survey;" ∈ wsX10_asOf := List.mem_cons_of_mem _ (List.mem_append_left _ (List.mem_append_left _ (List.mem_of_getElem? (i := 0) rfl)))
theorem m_X10_asOf_inX10 : ∀ x ∈ u_ws RX10 TX10 9, x ∈ wsX10_asOf := fun _ h => List.mem_cons_of_mem _ (List.mem_append_left _ (List.mem_append_right _ h))
set_option maxRecDepth 100000 in
set_option maxHeartbeats 4000000 in
theorem x_X10_asOf {E : zCx} {g : zGx} (B : zGood E (WX g) (zT g) cX10_asOf RX10 wsX10_asOf (some .int) rm_X10_asOf) (hE : E.2.2 = 2) (S : zSt) (a1 : Int32) : Xo E (WX g) eIw S 0 [(0, .ref (g.1 0)), (1, .int a1)] [] (F_X10_asOf S a1) := by
  unfold F_X10_asOf
  refine r_iload_n B 1 dX10_asOf_0 rfl rfl ?_
  refine r_iconst B (0 : Int32) dX10_asOf_1 (by decide) ?_
  refine r_sipush B (999 : Int32) dX10_asOf_2 (by decide) ?_
  refine r_cI (zrunS (As := [.int a1, .int (0 : Int32), .int (999 : Int32)]) (rest := []) B 3 (fun b hb => k_X10_outside B.2.2.1 hb) gX10_asOf_X10_outside rfl rfl rfl y_X10_outside ⟨Nat.le_of_ble_eq_true rfl, Nat.le_of_ble_eq_true rfl⟩ rfl rfl (Nat.le_of_ble_eq_true rfl) dX10_asOf_5) (fun r5 => ?_)
  refine r_if_eq B 14 dX10_asOf_8 (by decide) (fun _ => ?_) (fun _ => ?_)
  · refine r_aload_n B 0 dX10_asOf_14 rfl rfl ?_
    refine r_get B 0 9 3 (Nat.le_of_ble_eq_true rfl) rfl (cX_0 g _) rfl m_X10_asOf_inX10 (Nat.le_of_ble_eq_true rfl) m_X10_asOf_f33 rfl dX10_asOf_15 ?_
    refine r_iload_n B 1 dX10_asOf_18 rfl rfl ?_
    refine r_cIw (zrunV (As := [.int a1]) (rest := []) B 1 4 (fun b hb => k_X7_lookFrom B.2.2.1 hb) gX10_asOf_X7_lookFrom rfl rfl rfl y_X7_lookFrom ⟨Nat.le_of_ble_eq_true rfl, Nat.le_of_ble_eq_true rfl⟩ (Nat.le_of_ble_eq_true rfl) rfl (cX_4 g _) rfl rfl rfl (Nat.le_of_ble_eq_true rfl) dX10_asOf_19) (fun r19 S19 => ?_)
    exact r_iret B dX10_asOf_22 rfl
  · refine r_bipush B (-2 : Int32) dX10_asOf_11 (by decide) ?_
    exact r_iret B dX10_asOf_13 rfl
set_option maxRecDepth 20000 in
theorem k_X10_asOf {l : Launch} {D : va_G} {g : zGx} (hz : zin (WX g)) {S : zSt} {a1 : Int32} {b : (Int32 × zSt)} (h : F_X10_asOf S a1 = some b) : zMet l D (WX g) (zT g) yX10_asOf wsX10_asOf rm_X10_asOf S [.ref (g.1 0), .int a1] (eIw b) := zmet_of (by decide +kernel) rfl hz (Nat.le_of_ble_eq_true rfl) rfl (fun E _ _ hE B => x_X10_asOf B hE S a1) h
abbrev rm_X10_said : Room := { frames := 2, cells := 0, slots := 0, locals := 44 }
theorem y_X10_said : yX10_said.cls = RX10 ∧ yX10_said.cls ≠ "java/lang/invoke/MethodHandle" ∧ yX10_said.cls ≠ "java/lang/invoke/VarHandle" ∧ (parseMethodDescriptor yX10_said.desc).map (fun d => d.parameters.length) = some 1 := by decide +kernel
theorem m_X10_said_f33 : Cond.fieldLink RX10 33 "LongestMet" "survey" "LLongestMet$Survey;" ∈ wsX10_said := List.mem_cons_of_mem _ (List.mem_append_left _ (List.mem_append_left _ (List.mem_of_getElem? (i := 0) rfl)))
theorem m_X10_said_inX10 : ∀ x ∈ u_ws RX10 TX10 9, x ∈ wsX10_said := fun _ h => List.mem_cons_of_mem _ (List.mem_append_left _ (List.mem_append_right _ h))
set_option maxRecDepth 100000 in
set_option maxHeartbeats 4000000 in
theorem x_X10_said {E : zCx} {g : zGx} (B : zGood E (WX g) (zT g) cX10_said RX10 wsX10_said (some .int) rm_X10_said) (hE : E.2.2 = 2) (S : zSt) (a1 : Int32) : Xo E (WX g) (eI S) S 0 [(0, .ref (g.1 0)), (1, .int a1)] [] (F_X10_said S a1) := by
  unfold F_X10_said
  refine r_iload_n B 1 dX10_said_0 rfl rfl ?_
  refine r_iconst B (1 : Int32) dX10_said_1 (by decide) ?_
  refine r_bipush B (8 : Int32) dX10_said_2 (by decide) ?_
  refine r_cI (zrunS (As := [.int a1, .int (1 : Int32), .int (8 : Int32)]) (rest := []) B 3 (fun b hb => k_X10_outside B.2.2.1 hb) gX10_said_X10_outside rfl rfl rfl y_X10_outside ⟨Nat.le_of_ble_eq_true rfl, Nat.le_of_ble_eq_true rfl⟩ rfl rfl (Nat.le_of_ble_eq_true rfl) dX10_said_4) (fun r4 => ?_)
  refine r_if_eq B 13 dX10_said_7 (by decide) (fun _ => ?_) (fun _ => ?_)
  · refine r_aload_n B 0 dX10_said_13 rfl rfl ?_
    refine r_get B 0 9 3 (Nat.le_of_ble_eq_true rfl) rfl (cX_0 g _) rfl m_X10_said_inX10 (Nat.le_of_ble_eq_true rfl) m_X10_said_f33 rfl dX10_said_14 ?_
    refine r_iload_n B 1 dX10_said_17 rfl rfl ?_
    refine r_cI (zrunV (As := [.int a1]) (rest := []) B 1 4 (fun b hb => k_X7_saying B.2.2.1 hb) gX10_said_X7_saying rfl rfl rfl y_X7_saying ⟨Nat.le_of_ble_eq_true rfl, Nat.le_of_ble_eq_true rfl⟩ (Nat.le_of_ble_eq_true rfl) rfl (cX_4 g _) rfl rfl rfl (Nat.le_of_ble_eq_true rfl) dX10_said_18) (fun r18 => ?_)
    exact r_iret B dX10_said_21 rfl
  · refine r_bipush B (-2 : Int32) dX10_said_10 (by decide) ?_
    exact r_iret B dX10_said_12 rfl
set_option maxRecDepth 20000 in
theorem k_X10_said {l : Launch} {D : va_G} {g : zGx} (hz : zin (WX g)) {S : zSt} {a1 : Int32} {b : Int32} (h : F_X10_said S a1 = some b) : zMet l D (WX g) (zT g) yX10_said wsX10_said rm_X10_said S [.ref (g.1 0), .int a1] ((eI S) b) := zmet_of (by decide +kernel) rfl hz (Nat.le_of_ble_eq_true rfl) rfl (fun E _ _ hE B => x_X10_said B hE S a1) h
abbrev rm_X10_share : Room := { frames := 4, cells := 0, slots := 0, locals := 87 }
theorem y_X10_share : yX10_share.cls = RX10 ∧ yX10_share.cls ≠ "java/lang/invoke/MethodHandle" ∧ yX10_share.cls ≠ "java/lang/invoke/VarHandle" ∧ (parseMethodDescriptor yX10_share.desc).map (fun d => d.parameters.length) = some 3 := by decide +kernel
theorem m_X10_share_f33 : Cond.fieldLink RX10 33 "LongestMet" "survey" "LLongestMet$Survey;" ∈ wsX10_share := List.mem_cons_of_mem _ (List.mem_append_left _ (List.mem_append_left _ (List.mem_append_left _ (List.mem_of_getElem? (i := 0) rfl))))
theorem m_X10_share_inX10 : ∀ x ∈ u_ws RX10 TX10 9, x ∈ wsX10_share := fun _ h => List.mem_cons_of_mem _ (List.mem_append_left _ (List.mem_append_right _ h))
set_option maxRecDepth 100000 in
set_option maxHeartbeats 4000000 in
theorem x_X10_share {E : zCx} {g : zGx} (B : zGood E (WX g) (zT g) cX10_share RX10 wsX10_share (some .long) rm_X10_share) (hE : E.2.2 = 4) (S : zSt) (a1 : Int32) (a2 : Int32) (a3 : Int32) : Xo E (WX g) (eL S) S 0 [(0, .ref (g.1 0)), (1, .int a1), (2, .int a2), (3, .int a3)] [] (F_X10_share S a1 a2 a3) := by
  unfold F_X10_share
  refine r_iload_n B 1 dX10_share_0 rfl rfl ?_
  refine r_iconst B (1 : Int32) dX10_share_1 (by decide) ?_
  refine r_bipush B (8 : Int32) dX10_share_2 (by decide) ?_
  refine r_cI (zrunS (As := [.int a1, .int (1 : Int32), .int (8 : Int32)]) (rest := []) B 3 (fun b hb => k_X10_outside B.2.2.1 hb) gX10_share_X10_outside rfl rfl rfl y_X10_outside ⟨Nat.le_of_ble_eq_true rfl, Nat.le_of_ble_eq_true rfl⟩ rfl rfl (Nat.le_of_ble_eq_true rfl) dX10_share_4) (fun r4 => ?_)
  refine r_jn2 (P := fun j28 : Option Int64 => Xo E (WX g) (eL S) S 28 [] [] (j28)) ?_ (fun j28 hj28 => ?_)
  · refine r_bipush B (-2 : Int32) dX10_share_28 (by decide) ?_
    refine r_cL (zrunS (As := [.int (-2 : Int32)]) (rest := []) B 1 (fun b hb => k_X2_refused B.2.2.1 hb) gX10_share_X2_refused rfl rfl rfl y_X2_refused ⟨Nat.le_of_ble_eq_true rfl, Nat.le_of_ble_eq_true rfl⟩ rfl rfl (Nat.le_of_ble_eq_true rfl) dX10_share_30) (fun r30 => ?_)
    exact r_lret B dX10_share_33 rfl
  refine r_if_ne B 28 dX10_share_7 (by decide) (fun _ => ?_) (fun _ => ?_)
  · refine r_sub [] rfl ?_
    exact hj28
  · refine r_iload_n B 2 dX10_share_10 rfl rfl ?_
    refine r_iconst B (0 : Int32) dX10_share_11 (by decide) ?_
    refine r_iconst B (1 : Int32) dX10_share_12 (by decide) ?_
    refine r_cI (zrunS (As := [.int a2, .int (0 : Int32), .int (1 : Int32)]) (rest := []) B 3 (fun b hb => k_X10_outside B.2.2.1 hb) gX10_share_X10_outside rfl rfl rfl y_X10_outside ⟨Nat.le_of_ble_eq_true rfl, Nat.le_of_ble_eq_true rfl⟩ rfl rfl (Nat.le_of_ble_eq_true rfl) dX10_share_13) (fun r13 => ?_)
    refine r_if_ne B 28 dX10_share_16 (by decide) (fun _ => ?_) (fun _ => ?_)
    · refine r_sub [] rfl ?_
      exact hj28
    · refine r_iload_n B 3 dX10_share_19 rfl rfl ?_
      refine r_iconst B (0 : Int32) dX10_share_20 (by decide) ?_
      refine r_iconst B (1 : Int32) dX10_share_21 (by decide) ?_
      refine r_cI (zrunS (As := [.int a3, .int (0 : Int32), .int (1 : Int32)]) (rest := []) B 3 (fun b hb => k_X10_outside B.2.2.1 hb) gX10_share_X10_outside rfl rfl rfl y_X10_outside ⟨Nat.le_of_ble_eq_true rfl, Nat.le_of_ble_eq_true rfl⟩ rfl rfl (Nat.le_of_ble_eq_true rfl) dX10_share_22) (fun r22 => ?_)
      refine r_if_eq B 34 dX10_share_25 (by decide) (fun _ => ?_) (fun _ => ?_)
      · refine r_iload_n B 2 dX10_share_34 rfl rfl ?_
        refine r_if_ne B 60 dX10_share_35 (by decide) (fun _ => ?_) (fun _ => ?_)
        · refine r_aload_n B 0 dX10_share_60 rfl rfl ?_
          refine r_get B 0 9 3 (Nat.le_of_ble_eq_true rfl) rfl (cX_0 g _) rfl m_X10_share_inX10 (Nat.le_of_ble_eq_true rfl) m_X10_share_f33 rfl dX10_share_61 ?_
          refine r_iload_n B 1 dX10_share_64 rfl rfl ?_
          refine r_cI (zrunV (As := [.int a1]) (rest := []) B 1 4 (fun b hb => k_X7_familyParts B.2.2.1 hb) gX10_share_X7_familyParts rfl rfl rfl y_X7_familyParts ⟨Nat.le_of_ble_eq_true rfl, Nat.le_of_ble_eq_true rfl⟩ (Nat.le_of_ble_eq_true rfl) rfl (cX_4 g _) rfl rfl rfl (Nat.le_of_ble_eq_true rfl) dX10_share_65) (fun r65 => ?_)
          refine r_i2l B dX10_share_68 ?_
          refine r_aload_n B 0 dX10_share_69 rfl rfl ?_
          refine r_get B 0 9 3 (Nat.le_of_ble_eq_true rfl) rfl (cX_0 g _) rfl m_X10_share_inX10 (Nat.le_of_ble_eq_true rfl) m_X10_share_f33 rfl dX10_share_70 ?_
          refine r_cI (zrunV (As := []) (rest := [.long (r65.toInt64)]) B 0 4 (fun b hb => k_X7_allFamilyParts B.2.2.1 hb) gX10_share_X7_allFamilyParts rfl rfl rfl y_X7_allFamilyParts ⟨Nat.le_of_ble_eq_true rfl, Nat.le_of_ble_eq_true rfl⟩ (Nat.le_of_ble_eq_true rfl) rfl (cX_4 g _) rfl rfl rfl (Nat.le_of_ble_eq_true rfl) dX10_share_73) (fun r73 => ?_)
          refine r_i2l B dX10_share_76 ?_
          refine r_iload_n B 3 dX10_share_77 rfl rfl ?_
          refine r_cL (zrunS (As := [.long (r65.toInt64), .long (r73.toInt64), .int a3]) (rest := []) B 3 (fun b hb => k_X2_told B.2.2.1 hb) gX10_share_X2_told rfl rfl rfl y_X2_told ⟨Nat.le_of_ble_eq_true rfl, Nat.le_of_ble_eq_true rfl⟩ rfl rfl (Nat.le_of_ble_eq_true rfl) dX10_share_78) (fun r78 => ?_)
          exact r_lret B dX10_share_81 rfl
        · refine r_aload_n B 0 dX10_share_38 rfl rfl ?_
          refine r_get B 0 9 3 (Nat.le_of_ble_eq_true rfl) rfl (cX_0 g _) rfl m_X10_share_inX10 (Nat.le_of_ble_eq_true rfl) m_X10_share_f33 rfl dX10_share_39 ?_
          refine r_iload_n B 1 dX10_share_42 rfl rfl ?_
          refine r_cI (zrunV (As := [.int a1]) (rest := []) B 1 4 (fun b hb => k_X7_saying B.2.2.1 hb) gX10_share_X7_saying rfl rfl rfl y_X7_saying ⟨Nat.le_of_ble_eq_true rfl, Nat.le_of_ble_eq_true rfl⟩ (Nat.le_of_ble_eq_true rfl) rfl (cX_4 g _) rfl rfl rfl (Nat.le_of_ble_eq_true rfl) dX10_share_43) (fun r43 => ?_)
          refine r_i2l B dX10_share_46 ?_
          refine r_aload_n B 0 dX10_share_47 rfl rfl ?_
          refine r_get B 0 9 3 (Nat.le_of_ble_eq_true rfl) rfl (cX_0 g _) rfl m_X10_share_inX10 (Nat.le_of_ble_eq_true rfl) m_X10_share_f33 rfl dX10_share_48 ?_
          refine r_cI (zrunV (As := []) (rest := [.long (r43.toInt64)]) B 0 4 (fun b hb => k_X7_counting B.2.2.1 hb) gX10_share_X7_counting rfl rfl rfl y_X7_counting ⟨Nat.le_of_ble_eq_true rfl, Nat.le_of_ble_eq_true rfl⟩ (Nat.le_of_ble_eq_true rfl) rfl (cX_4 g _) rfl rfl rfl (Nat.le_of_ble_eq_true rfl) dX10_share_51) (fun r51 => ?_)
          refine r_i2l B dX10_share_54 ?_
          refine r_iload_n B 3 dX10_share_55 rfl rfl ?_
          refine r_cL (zrunS (As := [.long (r43.toInt64), .long (r51.toInt64), .int a3]) (rest := []) B 3 (fun b hb => k_X2_told B.2.2.1 hb) gX10_share_X2_told rfl rfl rfl y_X2_told ⟨Nat.le_of_ble_eq_true rfl, Nat.le_of_ble_eq_true rfl⟩ rfl rfl (Nat.le_of_ble_eq_true rfl) dX10_share_56) (fun r56 => ?_)
          exact r_lret B dX10_share_59 rfl
      · refine r_sub [] rfl ?_
        exact hj28
set_option maxRecDepth 20000 in
theorem k_X10_share {l : Launch} {D : va_G} {g : zGx} (hz : zin (WX g)) {S : zSt} {a1 : Int32} {a2 : Int32} {a3 : Int32} {b : Int64} (h : F_X10_share S a1 a2 a3 = some b) : zMet l D (WX g) (zT g) yX10_share wsX10_share rm_X10_share S [.ref (g.1 0), .int a1, .int a2, .int a3] ((eL S) b) := zmet_of (by decide +kernel) rfl hz (Nat.le_of_ble_eq_true rfl) rfl (fun E _ _ hE B => x_X10_share B hE S a1 a2 a3) h
abbrev rm_X10_size : Room := { frames := 4, cells := 0, slots := 0, locals := 87 }
theorem y_X10_size : yX10_size.cls = RX10 ∧ yX10_size.cls ≠ "java/lang/invoke/MethodHandle" ∧ yX10_size.cls ≠ "java/lang/invoke/VarHandle" ∧ (parseMethodDescriptor yX10_size.desc).map (fun d => d.parameters.length) = some 2 := by decide +kernel
theorem m_X10_size_f33 : Cond.fieldLink RX10 33 "LongestMet" "survey" "LLongestMet$Survey;" ∈ wsX10_size := List.mem_cons_of_mem _ (List.mem_append_left _ (List.mem_append_left _ (List.mem_append_left _ (List.mem_of_getElem? (i := 0) rfl))))
theorem m_X10_size_inX10 : ∀ x ∈ u_ws RX10 TX10 9, x ∈ wsX10_size := fun _ h => List.mem_cons_of_mem _ (List.mem_append_left _ (List.mem_append_right _ h))
theorem m_X10_size_c178 : Cond.constantLong RX10 178 (840) ∈ wsX10_size := List.mem_cons_of_mem _ (List.mem_append_left _ (List.mem_append_left _ (List.mem_append_left _ (List.mem_of_getElem? (i := 1) rfl))))
set_option maxRecDepth 100000 in
set_option maxHeartbeats 4000000 in
theorem x_X10_size {E : zCx} {g : zGx} (B : zGood E (WX g) (zT g) cX10_size RX10 wsX10_size (some .long) rm_X10_size) (hE : E.2.2 = 3) (S : zSt) (a1 : Int32) (a2 : Int32) : Xo E (WX g) (eL S) S 0 [(0, .ref (g.1 0)), (1, .int a1), (2, .int a2)] [] (F_X10_size S a1 a2) := by
  unfold F_X10_size
  refine r_iload_n B 1 dX10_size_0 rfl rfl ?_
  refine r_iconst B (0 : Int32) dX10_size_1 (by decide) ?_
  refine r_iconst B (1 : Int32) dX10_size_2 (by decide) ?_
  refine r_cI (zrunS (As := [.int a1, .int (0 : Int32), .int (1 : Int32)]) (rest := []) B 3 (fun b hb => k_X10_outside B.2.2.1 hb) gX10_size_X10_outside rfl rfl rfl y_X10_outside ⟨Nat.le_of_ble_eq_true rfl, Nat.le_of_ble_eq_true rfl⟩ rfl rfl (Nat.le_of_ble_eq_true rfl) dX10_size_3) (fun r3 => ?_)
  refine r_jn2 (P := fun j18 : Option Int64 => Xo E (WX g) (eL S) S 18 [] [] (j18)) ?_ (fun j18 hj18 => ?_)
  · refine r_bipush B (-2 : Int32) dX10_size_18 (by decide) ?_
    refine r_cL (zrunS (As := [.int (-2 : Int32)]) (rest := []) B 1 (fun b hb => k_X2_refused B.2.2.1 hb) gX10_size_X2_refused rfl rfl rfl y_X2_refused ⟨Nat.le_of_ble_eq_true rfl, Nat.le_of_ble_eq_true rfl⟩ rfl rfl (Nat.le_of_ble_eq_true rfl) dX10_size_20) (fun r20 => ?_)
    exact r_lret B dX10_size_23 rfl
  refine r_if_ne B 18 dX10_size_6 (by decide) (fun _ => ?_) (fun _ => ?_)
  · refine r_sub [] rfl ?_
    exact hj18
  · refine r_iload_n B 2 dX10_size_9 rfl rfl ?_
    refine r_iconst B (0 : Int32) dX10_size_10 (by decide) ?_
    refine r_iconst B (1 : Int32) dX10_size_11 (by decide) ?_
    refine r_cI (zrunS (As := [.int a2, .int (0 : Int32), .int (1 : Int32)]) (rest := []) B 3 (fun b hb => k_X10_outside B.2.2.1 hb) gX10_size_X10_outside rfl rfl rfl y_X10_outside ⟨Nat.le_of_ble_eq_true rfl, Nat.le_of_ble_eq_true rfl⟩ rfl rfl (Nat.le_of_ble_eq_true rfl) dX10_size_12) (fun r12 => ?_)
    refine r_if_eq B 24 dX10_size_15 (by decide) (fun _ => ?_) (fun _ => ?_)
    · refine r_iload_n B 1 dX10_size_24 rfl rfl ?_
      refine r_if_ne B 49 dX10_size_25 (by decide) (fun _ => ?_) (fun _ => ?_)
      · refine r_aload_n B 0 dX10_size_49 rfl rfl ?_
        refine r_get B 0 9 3 (Nat.le_of_ble_eq_true rfl) rfl (cX_0 g _) rfl m_X10_size_inX10 (Nat.le_of_ble_eq_true rfl) m_X10_size_f33 rfl dX10_size_50 ?_
        refine r_cI (zrunV (As := []) (rest := []) B 0 4 (fun b hb => k_X7_counting B.2.2.1 hb) gX10_size_X7_counting rfl rfl rfl y_X7_counting ⟨Nat.le_of_ble_eq_true rfl, Nat.le_of_ble_eq_true rfl⟩ (Nat.le_of_ble_eq_true rfl) rfl (cX_4 g _) rfl rfl rfl (Nat.le_of_ble_eq_true rfl) dX10_size_53) (fun r53 => ?_)
        refine r_i2l B dX10_size_56 ?_
        refine r_ldc2 B (840 : Int64) m_X10_size_c178 dX10_size_57 ?_
        refine r_lmul B dX10_size_60 ?_
        refine r_aload_n B 0 dX10_size_61 rfl rfl ?_
        refine r_get B 0 9 3 (Nat.le_of_ble_eq_true rfl) rfl (cX_0 g _) rfl m_X10_size_inX10 (Nat.le_of_ble_eq_true rfl) m_X10_size_f33 rfl dX10_size_62 ?_
        refine r_cI (zrunV (As := []) (rest := [.long ((r53.toInt64) * (840 : Int64))]) B 0 4 (fun b hb => k_X7_allFamilyParts B.2.2.1 hb) gX10_size_X7_allFamilyParts rfl rfl rfl y_X7_allFamilyParts ⟨Nat.le_of_ble_eq_true rfl, Nat.le_of_ble_eq_true rfl⟩ (Nat.le_of_ble_eq_true rfl) rfl (cX_4 g _) rfl rfl rfl (Nat.le_of_ble_eq_true rfl) dX10_size_65) (fun r65 => ?_)
        refine r_i2l B dX10_size_68 ?_
        refine r_iload_n B 2 dX10_size_69 rfl rfl ?_
        refine r_cL (zrunS (As := [.long ((r53.toInt64) * (840 : Int64)), .long (r65.toInt64), .int a2]) (rest := []) B 3 (fun b hb => k_X2_told B.2.2.1 hb) gX10_size_X2_told rfl rfl rfl y_X2_told ⟨Nat.le_of_ble_eq_true rfl, Nat.le_of_ble_eq_true rfl⟩ rfl rfl (Nat.le_of_ble_eq_true rfl) dX10_size_70) (fun r70 => ?_)
        exact r_lret B dX10_size_73 rfl
      · refine r_aload_n B 0 dX10_size_28 rfl rfl ?_
        refine r_get B 0 9 3 (Nat.le_of_ble_eq_true rfl) rfl (cX_0 g _) rfl m_X10_size_inX10 (Nat.le_of_ble_eq_true rfl) m_X10_size_f33 rfl dX10_size_29 ?_
        refine r_cI (zrunV (As := []) (rest := []) B 0 4 (fun b hb => k_X7_childrenSaid B.2.2.1 hb) gX10_size_X7_childrenSaid rfl rfl rfl y_X7_childrenSaid ⟨Nat.le_of_ble_eq_true rfl, Nat.le_of_ble_eq_true rfl⟩ (Nat.le_of_ble_eq_true rfl) rfl (cX_4 g _) rfl rfl rfl (Nat.le_of_ble_eq_true rfl) dX10_size_32) (fun r32 => ?_)
        refine r_i2l B dX10_size_35 ?_
        refine r_aload_n B 0 dX10_size_36 rfl rfl ?_
        refine r_get B 0 9 3 (Nat.le_of_ble_eq_true rfl) rfl (cX_0 g _) rfl m_X10_size_inX10 (Nat.le_of_ble_eq_true rfl) m_X10_size_f33 rfl dX10_size_37 ?_
        refine r_cI (zrunV (As := []) (rest := [.long (r32.toInt64)]) B 0 4 (fun b hb => k_X7_counting B.2.2.1 hb) gX10_size_X7_counting rfl rfl rfl y_X7_counting ⟨Nat.le_of_ble_eq_true rfl, Nat.le_of_ble_eq_true rfl⟩ (Nat.le_of_ble_eq_true rfl) rfl (cX_4 g _) rfl rfl rfl (Nat.le_of_ble_eq_true rfl) dX10_size_40) (fun r40 => ?_)
        refine r_i2l B dX10_size_43 ?_
        refine r_iload_n B 2 dX10_size_44 rfl rfl ?_
        refine r_cL (zrunS (As := [.long (r32.toInt64), .long (r40.toInt64), .int a2]) (rest := []) B 3 (fun b hb => k_X2_told B.2.2.1 hb) gX10_size_X2_told rfl rfl rfl y_X2_told ⟨Nat.le_of_ble_eq_true rfl, Nat.le_of_ble_eq_true rfl⟩ rfl rfl (Nat.le_of_ble_eq_true rfl) dX10_size_45) (fun r45 => ?_)
        exact r_lret B dX10_size_48 rfl
    · refine r_sub [] rfl ?_
      exact hj18
set_option maxRecDepth 20000 in
theorem k_X10_size {l : Launch} {D : va_G} {g : zGx} (hz : zin (WX g)) {S : zSt} {a1 : Int32} {a2 : Int32} {b : Int64} (h : F_X10_size S a1 a2 = some b) : zMet l D (WX g) (zT g) yX10_size wsX10_size rm_X10_size S [.ref (g.1 0), .int a1, .int a2] ((eL S) b) := zmet_of (by decide +kernel) rfl hz (Nat.le_of_ble_eq_true rfl) rfl (fun E _ _ hE B => x_X10_size B hE S a1 a2) h
abbrev rm_X10_families : Room := { frames := 1, cells := 0, slots := 0, locals := 24 }
theorem y_X10_families : yX10_families.cls = RX10 ∧ yX10_families.cls ≠ "java/lang/invoke/MethodHandle" ∧ yX10_families.cls ≠ "java/lang/invoke/VarHandle" ∧ (parseMethodDescriptor yX10_families.desc).map (fun d => d.parameters.length) = some 3 := by decide +kernel
theorem m_X10_families_f40 : Cond.fieldLink RX10 40 "LongestMet" "country" "LLongestMet$Country;" ∈ wsX10_families := List.mem_cons_of_mem _ (List.mem_append_left _ (List.mem_append_left _ (List.mem_of_getElem? (i := 0) rfl)))
theorem m_X10_families_inX10 : ∀ x ∈ u_ws RX10 TX10 9, x ∈ wsX10_families := fun _ h => List.mem_cons_of_mem _ (List.mem_append_left _ (List.mem_append_right _ h))
set_option maxRecDepth 100000 in
set_option maxHeartbeats 4000000 in
theorem x_X10_families {E : zCx} {g : zGx} (B : zGood E (WX g) (zT g) cX10_families RX10 wsX10_families (some .int) rm_X10_families) (hE : E.2.2 = 4) (S : zSt) (a1 : Int32) (a2 : Int32) (a3 : Int32) : Xo E (WX g) eIw S 0 [(0, .ref (g.1 0)), (1, .int a1), (2, .int a2), (3, .int a3)] [] (F_X10_families S a1 a2 a3) := by
  unfold F_X10_families
  refine r_iload_n B 1 dX10_families_0 rfl rfl ?_
  refine r_iconst B (0 : Int32) dX10_families_1 (by decide) ?_
  refine r_iconst B (3 : Int32) dX10_families_2 (by decide) ?_
  refine r_cI (zrunS (As := [.int a1, .int (0 : Int32), .int (3 : Int32)]) (rest := []) B 3 (fun b hb => k_X10_outside B.2.2.1 hb) gX10_families_X10_outside rfl rfl rfl y_X10_outside ⟨Nat.le_of_ble_eq_true rfl, Nat.le_of_ble_eq_true rfl⟩ rfl rfl (Nat.le_of_ble_eq_true rfl) dX10_families_3) (fun r3 => ?_)
  refine r_if_ne B 29 dX10_families_6 (by decide) (fun _ => ?_) (fun _ => ?_)
  · refine r_bipush B (-2 : Int32) dX10_families_29 (by decide) ?_
    exact r_iret B dX10_families_31 rfl
  · refine r_iload_n B 2 dX10_families_9 rfl rfl ?_
    refine r_iconst B (1 : Int32) dX10_families_10 (by decide) ?_
    refine r_bipush B (8 : Int32) dX10_families_11 (by decide) ?_
    refine r_cI (zrunS (As := [.int a2, .int (1 : Int32), .int (8 : Int32)]) (rest := []) B 3 (fun b hb => k_X10_outside B.2.2.1 hb) gX10_families_X10_outside rfl rfl rfl y_X10_outside ⟨Nat.le_of_ble_eq_true rfl, Nat.le_of_ble_eq_true rfl⟩ rfl rfl (Nat.le_of_ble_eq_true rfl) dX10_families_13) (fun r13 => ?_)
    refine r_if_ne B 29 dX10_families_16 (by decide) (fun _ => ?_) (fun _ => ?_)
    · refine r_bipush B (-2 : Int32) dX10_families_29 (by decide) ?_
      exact r_iret B dX10_families_31 rfl
    · refine r_iload_n B 3 dX10_families_19 rfl rfl ?_
      refine r_iconst B (0 : Int32) dX10_families_20 (by decide) ?_
      refine r_bipush B (9 : Int32) dX10_families_21 (by decide) ?_
      refine r_cI (zrunS (As := [.int a3, .int (0 : Int32), .int (9 : Int32)]) (rest := []) B 3 (fun b hb => k_X10_outside B.2.2.1 hb) gX10_families_X10_outside rfl rfl rfl y_X10_outside ⟨Nat.le_of_ble_eq_true rfl, Nat.le_of_ble_eq_true rfl⟩ rfl rfl (Nat.le_of_ble_eq_true rfl) dX10_families_23) (fun r23 => ?_)
      refine r_if_eq B 32 dX10_families_26 (by decide) (fun _ => ?_) (fun _ => ?_)
      · refine r_aload_n B 0 dX10_families_32 rfl rfl ?_
        refine r_get B 0 9 4 (Nat.le_of_ble_eq_true rfl) rfl (cX_0 g _) rfl m_X10_families_inX10 (Nat.le_of_ble_eq_true rfl) m_X10_families_f40 rfl dX10_families_33 ?_
        refine r_iload_n B 1 dX10_families_36 rfl rfl ?_
        refine r_iload_n B 2 dX10_families_37 rfl rfl ?_
        refine r_iload_n B 3 dX10_families_38 rfl rfl ?_
        refine r_cIw (zrunV (As := [.int a1, .int a2, .int a3]) (rest := []) B 3 5 (fun b hb => k_X1_setFamilies B.2.2.1 hb) gX10_families_X1_setFamilies rfl rfl rfl y_X1_setFamilies ⟨Nat.le_of_ble_eq_true rfl, Nat.le_of_ble_eq_true rfl⟩ (Nat.le_of_ble_eq_true rfl) rfl (cX_5 g _) rfl rfl rfl (Nat.le_of_ble_eq_true rfl) dX10_families_39) (fun r39 S39 => ?_)
        exact r_iret B dX10_families_42 rfl
      · refine r_bipush B (-2 : Int32) dX10_families_29 (by decide) ?_
        exact r_iret B dX10_families_31 rfl
set_option maxRecDepth 20000 in
theorem k_X10_families {l : Launch} {D : va_G} {g : zGx} (hz : zin (WX g)) {S : zSt} {a1 : Int32} {a2 : Int32} {a3 : Int32} {b : (Int32 × zSt)} (h : F_X10_families S a1 a2 a3 = some b) : zMet l D (WX g) (zT g) yX10_families wsX10_families rm_X10_families S [.ref (g.1 0), .int a1, .int a2, .int a3] (eIw b) := zmet_of (by decide +kernel) rfl hz (Nat.le_of_ble_eq_true rfl) rfl (fun E _ _ hE B => x_X10_families B hE S a1 a2 a3) h
abbrev rm_X10_chance : Room := { frames := 3, cells := 0, slots := 0, locals := 69 }
theorem y_X10_chance : yX10_chance.cls = RX10 ∧ yX10_chance.cls ≠ "java/lang/invoke/MethodHandle" ∧ yX10_chance.cls ≠ "java/lang/invoke/VarHandle" ∧ (parseMethodDescriptor yX10_chance.desc).map (fun d => d.parameters.length) = some 2 := by decide +kernel
theorem m_X10_chance_f33 : Cond.fieldLink RX10 33 "LongestMet" "survey" "LLongestMet$Survey;" ∈ wsX10_chance := List.mem_cons_of_mem _ (List.mem_append_left _ (List.mem_append_left _ (List.mem_append_left _ (List.mem_append_left _ (List.mem_of_getElem? (i := 0) rfl)))))
theorem m_X10_chance_inX10 : ∀ x ∈ u_ws RX10 TX10 9, x ∈ wsX10_chance := fun _ h => List.mem_cons_of_mem _ (List.mem_append_left _ (List.mem_append_left _ (List.mem_append_right _ h)))
theorem m_X10_chance_f40 : Cond.fieldLink RX10 40 "LongestMet" "country" "LLongestMet$Country;" ∈ wsX10_chance := List.mem_cons_of_mem _ (List.mem_append_left _ (List.mem_append_left _ (List.mem_append_left _ (List.mem_append_left _ (List.mem_of_getElem? (i := 1) rfl)))))
set_option maxRecDepth 100000 in
set_option maxHeartbeats 4000000 in
theorem x_X10_chance {E : zCx} {g : zGx} (B : zGood E (WX g) (zT g) cX10_chance RX10 wsX10_chance (some .long) rm_X10_chance) (hE : E.2.2 = 3) (S : zSt) (a1 : Int32) (a2 : Int32) : Xo E (WX g) (eL S) S 0 [(0, .ref (g.1 0)), (1, .int a1), (2, .int a2)] [] (F_X10_chance S a1 a2) := by
  unfold F_X10_chance
  refine r_iload_n B 1 dX10_chance_0 rfl rfl ?_
  refine r_iconst B (0 : Int32) dX10_chance_1 (by decide) ?_
  refine r_iconst B (3 : Int32) dX10_chance_2 (by decide) ?_
  refine r_cI (zrunS (As := [.int a1, .int (0 : Int32), .int (3 : Int32)]) (rest := []) B 3 (fun b hb => k_X10_outside B.2.2.1 hb) gX10_chance_X10_outside rfl rfl rfl y_X10_outside ⟨Nat.le_of_ble_eq_true rfl, Nat.le_of_ble_eq_true rfl⟩ rfl rfl (Nat.le_of_ble_eq_true rfl) dX10_chance_3) (fun r3 => ?_)
  refine r_jn2 (P := fun j18 : Option Int64 => Xo E (WX g) (eL S) S 18 [] [] (j18)) ?_ (fun j18 hj18 => ?_)
  · refine r_bipush B (-2 : Int32) dX10_chance_18 (by decide) ?_
    refine r_cL (zrunS (As := [.int (-2 : Int32)]) (rest := []) B 1 (fun b hb => k_X2_refused B.2.2.1 hb) gX10_chance_X2_refused rfl rfl rfl y_X2_refused ⟨Nat.le_of_ble_eq_true rfl, Nat.le_of_ble_eq_true rfl⟩ rfl rfl (Nat.le_of_ble_eq_true rfl) dX10_chance_20) (fun r20 => ?_)
    exact r_lret B dX10_chance_23 rfl
  refine r_if_ne B 18 dX10_chance_6 (by decide) (fun _ => ?_) (fun _ => ?_)
  · refine r_sub [] rfl ?_
    exact hj18
  · refine r_iload_n B 2 dX10_chance_9 rfl rfl ?_
    refine r_iconst B (0 : Int32) dX10_chance_10 (by decide) ?_
    refine r_iconst B (1 : Int32) dX10_chance_11 (by decide) ?_
    refine r_cI (zrunS (As := [.int a2, .int (0 : Int32), .int (1 : Int32)]) (rest := []) B 3 (fun b hb => k_X10_outside B.2.2.1 hb) gX10_chance_X10_outside rfl rfl rfl y_X10_outside ⟨Nat.le_of_ble_eq_true rfl, Nat.le_of_ble_eq_true rfl⟩ rfl rfl (Nat.le_of_ble_eq_true rfl) dX10_chance_12) (fun r12 => ?_)
    refine r_if_eq B 24 dX10_chance_15 (by decide) (fun _ => ?_) (fun _ => ?_)
    · refine r_aload_n B 0 dX10_chance_24 rfl rfl ?_
      refine r_get B 0 9 3 (Nat.le_of_ble_eq_true rfl) rfl (cX_0 g _) rfl m_X10_chance_inX10 (Nat.le_of_ble_eq_true rfl) m_X10_chance_f33 rfl dX10_chance_25 ?_
      refine r_cI (zrunV (As := []) (rest := []) B 0 4 (fun b hb => k_X7_counting B.2.2.1 hb) gX10_chance_X7_counting rfl rfl rfl y_X7_counting ⟨Nat.le_of_ble_eq_true rfl, Nat.le_of_ble_eq_true rfl⟩ (Nat.le_of_ble_eq_true rfl) rfl (cX_4 g _) rfl rfl rfl (Nat.le_of_ble_eq_true rfl) dX10_chance_28) (fun r28 => ?_)
      refine r_bipush B (8 : Int32) dX10_chance_31 (by decide) ?_
      refine r_icmp_le B 42 dX10_chance_33 (by decide) (fun _ => ?_) (fun _ => ?_)
      · refine r_aload_n B 0 dX10_chance_42 rfl rfl ?_
        refine r_get B 0 9 4 (Nat.le_of_ble_eq_true rfl) rfl (cX_0 g _) rfl m_X10_chance_inX10 (Nat.le_of_ble_eq_true rfl) m_X10_chance_f40 rfl dX10_chance_43 ?_
        refine r_iload_n B 1 dX10_chance_46 rfl rfl ?_
        refine r_aload_n B 0 dX10_chance_47 rfl rfl ?_
        refine r_get B 0 9 3 (Nat.le_of_ble_eq_true rfl) rfl (cX_0 g _) rfl m_X10_chance_inX10 (Nat.le_of_ble_eq_true rfl) m_X10_chance_f33 rfl dX10_chance_48 ?_
        refine r_cI (zrunV (As := [.int a1, .ref (g.1 4)]) (rest := []) B 2 5 (fun b hb => k_X1_hasFewer B.2.2.1 hb) gX10_chance_X1_hasFewer rfl rfl rfl y_X1_hasFewer ⟨Nat.le_of_ble_eq_true rfl, Nat.le_of_ble_eq_true rfl⟩ (Nat.le_of_ble_eq_true rfl) rfl (cX_5 g _) rfl rfl rfl (Nat.le_of_ble_eq_true rfl) dX10_chance_51) (fun r51 => ?_)
        refine r_if_eq B 63 dX10_chance_54 (by decide) (fun _ => ?_) (fun _ => ?_)
        · refine r_aload_n B 0 dX10_chance_63 rfl rfl ?_
          refine r_get B 0 9 4 (Nat.le_of_ble_eq_true rfl) rfl (cX_0 g _) rfl m_X10_chance_inX10 (Nat.le_of_ble_eq_true rfl) m_X10_chance_f40 rfl dX10_chance_64 ?_
          refine r_iload_n B 1 dX10_chance_67 rfl rfl ?_
          refine r_aload_n B 0 dX10_chance_68 rfl rfl ?_
          refine r_get B 0 9 3 (Nat.le_of_ble_eq_true rfl) rfl (cX_0 g _) rfl m_X10_chance_inX10 (Nat.le_of_ble_eq_true rfl) m_X10_chance_f33 rfl dX10_chance_69 ?_
          refine r_cL (zrunV (As := [.int a1, .ref (g.1 4)]) (rest := []) B 2 5 (fun b hb => k_X1_choicesThatFit B.2.2.1 hb) gX10_chance_X1_choicesThatFit rfl rfl rfl y_X1_choicesThatFit ⟨Nat.le_of_ble_eq_true rfl, Nat.le_of_ble_eq_true rfl⟩ (Nat.le_of_ble_eq_true rfl) rfl (cX_5 g _) rfl rfl rfl (Nat.le_of_ble_eq_true rfl) dX10_chance_72) (fun r72 => ?_)
          refine r_aload_n B 0 dX10_chance_75 rfl rfl ?_
          refine r_get B 0 9 4 (Nat.le_of_ble_eq_true rfl) rfl (cX_0 g _) rfl m_X10_chance_inX10 (Nat.le_of_ble_eq_true rfl) m_X10_chance_f40 rfl dX10_chance_76 ?_
          refine r_iload_n B 1 dX10_chance_79 rfl rfl ?_
          refine r_aload_n B 0 dX10_chance_80 rfl rfl ?_
          refine r_get B 0 9 3 (Nat.le_of_ble_eq_true rfl) rfl (cX_0 g _) rfl m_X10_chance_inX10 (Nat.le_of_ble_eq_true rfl) m_X10_chance_f33 rfl dX10_chance_81 ?_
          refine r_cL (zrunV (As := [.int a1, .ref (g.1 4)]) (rest := [.long r72]) B 2 5 (fun b hb => k_X1_choices B.2.2.1 hb) gX10_chance_X1_choices rfl rfl rfl y_X1_choices ⟨Nat.le_of_ble_eq_true rfl, Nat.le_of_ble_eq_true rfl⟩ (Nat.le_of_ble_eq_true rfl) rfl (cX_5 g _) rfl rfl rfl (Nat.le_of_ble_eq_true rfl) dX10_chance_84) (fun r84 => ?_)
          refine r_iload_n B 2 dX10_chance_87 rfl rfl ?_
          refine r_cL (zrunS (As := [.long r72, .long r84, .int a2]) (rest := []) B 3 (fun b hb => k_X2_told B.2.2.1 hb) gX10_chance_X2_told rfl rfl rfl y_X2_told ⟨Nat.le_of_ble_eq_true rfl, Nat.le_of_ble_eq_true rfl⟩ rfl rfl (Nat.le_of_ble_eq_true rfl) dX10_chance_88) (fun r88 => ?_)
          exact r_lret B dX10_chance_91 rfl
        · refine r_bipush B (-3 : Int32) dX10_chance_57 (by decide) ?_
          refine r_cL (zrunS (As := [.int (-3 : Int32)]) (rest := []) B 1 (fun b hb => k_X2_refused B.2.2.1 hb) gX10_chance_X2_refused rfl rfl rfl y_X2_refused ⟨Nat.le_of_ble_eq_true rfl, Nat.le_of_ble_eq_true rfl⟩ rfl rfl (Nat.le_of_ble_eq_true rfl) dX10_chance_59) (fun r59 => ?_)
          exact r_lret B dX10_chance_62 rfl
      · refine r_bipush B (-4 : Int32) dX10_chance_36 (by decide) ?_
        refine r_cL (zrunS (As := [.int (-4 : Int32)]) (rest := []) B 1 (fun b hb => k_X2_refused B.2.2.1 hb) gX10_chance_X2_refused rfl rfl rfl y_X2_refused ⟨Nat.le_of_ble_eq_true rfl, Nat.le_of_ble_eq_true rfl⟩ rfl rfl (Nat.le_of_ble_eq_true rfl) dX10_chance_38) (fun r38 => ?_)
        exact r_lret B dX10_chance_41 rfl
    · refine r_sub [] rfl ?_
      exact hj18
set_option maxRecDepth 20000 in
theorem k_X10_chance {l : Launch} {D : va_G} {g : zGx} (hz : zin (WX g)) {S : zSt} {a1 : Int32} {a2 : Int32} {b : Int64} (h : F_X10_chance S a1 a2 = some b) : zMet l D (WX g) (zT g) yX10_chance wsX10_chance rm_X10_chance S [.ref (g.1 0), .int a1, .int a2] ((eL S) b) := zmet_of (by decide +kernel) rfl hz (Nat.le_of_ble_eq_true rfl) rfl (fun E _ _ hE B => x_X10_chance B hE S a1 a2) h
abbrev rm_X10_likeliest : Room := { frames := 4, cells := 0, slots := 0, locals := 100 }
theorem y_X10_likeliest : yX10_likeliest.cls = RX10 ∧ yX10_likeliest.cls ≠ "java/lang/invoke/MethodHandle" ∧ yX10_likeliest.cls ≠ "java/lang/invoke/VarHandle" ∧ (parseMethodDescriptor yX10_likeliest.desc).map (fun d => d.parameters.length) = some 0 := by decide +kernel
theorem m_X10_likeliest_f33 : Cond.fieldLink RX10 33 "LongestMet" "survey" "LLongestMet$Survey;" ∈ wsX10_likeliest := List.mem_cons_of_mem _ (List.mem_append_left _ (List.mem_append_left _ (List.mem_append_left _ (List.mem_append_left _ (List.mem_of_getElem? (i := 0) rfl)))))
theorem m_X10_likeliest_inX10 : ∀ x ∈ u_ws RX10 TX10 9, x ∈ wsX10_likeliest := fun _ h => List.mem_cons_of_mem _ (List.mem_append_left _ (List.mem_append_left _ (List.mem_append_right _ h)))
theorem m_X10_likeliest_f40 : Cond.fieldLink RX10 40 "LongestMet" "country" "LLongestMet$Country;" ∈ wsX10_likeliest := List.mem_cons_of_mem _ (List.mem_append_left _ (List.mem_append_left _ (List.mem_append_left _ (List.mem_append_left _ (List.mem_of_getElem? (i := 1) rfl)))))
set_option maxRecDepth 100000 in
set_option maxHeartbeats 4000000 in
theorem x_X10_likeliest {E : zCx} {g : zGx} (B : zGood E (WX g) (zT g) cX10_likeliest RX10 wsX10_likeliest (some .int) rm_X10_likeliest) (hE : E.2.2 = 1) (S : zSt) : Xo E (WX g) (eI S) S 0 [(0, .ref (g.1 0))] [] (F_X10_likeliest S) := by
  unfold F_X10_likeliest
  refine r_aload_n B 0 dX10_likeliest_0 rfl rfl ?_
  refine r_get B 0 9 3 (Nat.le_of_ble_eq_true rfl) rfl (cX_0 g _) rfl m_X10_likeliest_inX10 (Nat.le_of_ble_eq_true rfl) m_X10_likeliest_f33 rfl dX10_likeliest_1 ?_
  refine r_cI (zrunV (As := []) (rest := []) B 0 4 (fun b hb => k_X7_counting B.2.2.1 hb) gX10_likeliest_X7_counting rfl rfl rfl y_X7_counting ⟨Nat.le_of_ble_eq_true rfl, Nat.le_of_ble_eq_true rfl⟩ (Nat.le_of_ble_eq_true rfl) rfl (cX_4 g _) rfl rfl rfl (Nat.le_of_ble_eq_true rfl) dX10_likeliest_4) (fun r4 => ?_)
  refine r_bipush B (8 : Int32) dX10_likeliest_7 (by decide) ?_
  refine r_icmp_le B 15 dX10_likeliest_9 (by decide) (fun _ => ?_) (fun _ => ?_)
  · refine r_aload_n B 0 dX10_likeliest_15 rfl rfl ?_
    refine r_get B 0 9 4 (Nat.le_of_ble_eq_true rfl) rfl (cX_0 g _) rfl m_X10_likeliest_inX10 (Nat.le_of_ble_eq_true rfl) m_X10_likeliest_f40 rfl dX10_likeliest_16 ?_
    refine r_aload_n B 0 dX10_likeliest_19 rfl rfl ?_
    refine r_get B 0 9 3 (Nat.le_of_ble_eq_true rfl) rfl (cX_0 g _) rfl m_X10_likeliest_inX10 (Nat.le_of_ble_eq_true rfl) m_X10_likeliest_f33 rfl dX10_likeliest_20 ?_
    refine r_cI (zrunV (As := [.ref (g.1 4)]) (rest := []) B 1 5 (fun b hb => k_X1_likeliestTown B.2.2.1 hb) gX10_likeliest_X1_likeliestTown rfl rfl rfl y_X1_likeliestTown ⟨Nat.le_of_ble_eq_true rfl, Nat.le_of_ble_eq_true rfl⟩ (Nat.le_of_ble_eq_true rfl) rfl (cX_5 g _) rfl rfl rfl (Nat.le_of_ble_eq_true rfl) dX10_likeliest_23) (fun r23 => ?_)
    exact r_iret B dX10_likeliest_26 rfl
  · refine r_bipush B (-4 : Int32) dX10_likeliest_12 (by decide) ?_
    exact r_iret B dX10_likeliest_14 rfl
set_option maxRecDepth 20000 in
theorem k_X10_likeliest {l : Launch} {D : va_G} {g : zGx} (hz : zin (WX g)) {S : zSt} {b : Int32} (h : F_X10_likeliest S = some b) : zMet l D (WX g) (zT g) yX10_likeliest wsX10_likeliest rm_X10_likeliest S [.ref (g.1 0)] ((eI S) b) := zmet_of (by decide +kernel) rfl hz (Nat.le_of_ble_eq_true rfl) rfl (fun E _ _ hE B => x_X10_likeliest B hE S) h
abbrev rm_X10_cannotEnd : Room := { frames := 1, cells := 0, slots := 0, locals := 22 }
theorem y_X10_cannotEnd : yX10_cannotEnd.cls ≠ "java/lang/invoke/MethodHandle" ∧ yX10_cannotEnd.cls ≠ "java/lang/invoke/VarHandle" ∧ (parseMethodDescriptor yX10_cannotEnd.desc).map (fun d => d.parameters.length) = some 2 := by decide +kernel
theorem m_X10_cannotEnd_q373 : Cond.methodLink RX10 373 Lib.Math.min.name ∈ wsX10_cannotEnd := List.mem_cons_of_mem _ (List.mem_of_getElem? (i := 0) rfl)
theorem m_X10_cannotEnd_qsmin : Cond.static Lib.Math.min.name ∈ wsX10_cannotEnd := List.mem_cons_of_mem _ (List.mem_of_getElem? (i := 1) rfl)
theorem m_X10_cannotEnd_qi : Cond.initialized "java/lang/Math" ∈ wsX10_cannotEnd := List.mem_cons_of_mem _ (List.mem_of_getElem? (i := 2) rfl)
theorem m_X10_cannotEnd_qcmin : Cond.code Lib.Math.min.name Lib.Math.min.code 2 (some .int) ∈ wsX10_cannotEnd := List.mem_cons_of_mem _ (List.mem_of_getElem? (i := 3) rfl)
set_option maxRecDepth 100000 in
set_option maxHeartbeats 4000000 in
theorem x_X10_cannotEnd {E : zCx} {g : zGx} (B : zGood E (WX g) (zT g) cX10_cannotEnd RX10 wsX10_cannotEnd (some .boolean) rm_X10_cannotEnd) (hE : E.2.2 = 2) (S : zSt) (a0 : Int32) (a1 : Int32) : Xo E (WX g) (eI S) S 0 [(0, .int a0), (1, .int a1)] [] (F_X10_cannotEnd a0 a1) := by
  unfold F_X10_cannotEnd
  refine r_iload_n B 1 dX10_cannotEnd_0 rfl rfl ?_
  refine r_iload_n B 0 dX10_cannotEnd_1 rfl rfl ?_
  refine r_bipush B (99 : Int32) dX10_cannotEnd_2 (by decide) ?_
  refine r_iload_n B 0 dX10_cannotEnd_4 rfl rfl ?_
  refine r_bipush B (19 : Int32) dX10_cannotEnd_5 (by decide) ?_
  refine r_iadd B dX10_cannotEnd_7 ?_
  refine r_mmin B m_X10_cannotEnd_q373 m_X10_cannotEnd_qsmin m_X10_cannotEnd_qi m_X10_cannotEnd_qcmin (Nat.le_of_ble_eq_true rfl) (Nat.le_of_ble_eq_true rfl) dX10_cannotEnd_8 ?_
  refine r_cI (zrunS (As := [.int a1, .int a0, .int (zmin (99 : Int32) (a0 + (19 : Int32)))]) (rest := []) B 3 (fun b hb => k_X10_outside B.2.2.1 hb) gX10_cannotEnd_X10_outside rfl rfl rfl y_X10_outside ⟨Nat.le_of_ble_eq_true rfl, Nat.le_of_ble_eq_true rfl⟩ rfl rfl (Nat.le_of_ble_eq_true rfl) dX10_cannotEnd_11) (fun r11 => ?_)
  exact r_zret B dX10_cannotEnd_14 rfl
set_option maxRecDepth 20000 in
theorem k_X10_cannotEnd {l : Launch} {D : va_G} {g : zGx} (hz : zin (WX g)) {S : zSt} {a0 : Int32} {a1 : Int32} {b : Int32} (h : F_X10_cannotEnd a0 a1 = some b) : zMet l D (WX g) (zT g) yX10_cannotEnd wsX10_cannotEnd rm_X10_cannotEnd S [.int a0, .int a1] ((eI S) b) := zmet_of (by decide +kernel) rfl hz (Nat.le_of_ble_eq_true rfl) rfl (fun E _ _ hE B => x_X10_cannotEnd B hE S a0 a1) h
abbrev rm_X10_stay : Room := { frames := 2, cells := 0, slots := 0, locals := 43 }
theorem y_X10_stay : yX10_stay.cls = RX10 ∧ yX10_stay.cls ≠ "java/lang/invoke/MethodHandle" ∧ yX10_stay.cls ≠ "java/lang/invoke/VarHandle" ∧ (parseMethodDescriptor yX10_stay.desc).map (fun d => d.parameters.length) = some 2 := by decide +kernel
theorem m_X10_stay_f47 : Cond.fieldLink RX10 47 "LongestMet" "beds" "LLongestMet$Ward;" ∈ wsX10_stay := List.mem_cons_of_mem _ (List.mem_append_left _ (List.mem_append_left _ (List.mem_of_getElem? (i := 0) rfl)))
theorem m_X10_stay_inX10 : ∀ x ∈ u_ws RX10 TX10 9, x ∈ wsX10_stay := fun _ h => List.mem_cons_of_mem _ (List.mem_append_left _ (List.mem_append_right _ h))
set_option maxRecDepth 100000 in
set_option maxHeartbeats 4000000 in
theorem x_X10_stay {E : zCx} {g : zGx} (B : zGood E (WX g) (zT g) cX10_stay RX10 wsX10_stay (some .int) rm_X10_stay) (hE : E.2.2 = 3) (S : zSt) (a1 : Int32) (a2 : Int32) : Xo E (WX g) eIw S 0 [(0, .ref (g.1 0)), (1, .int a1), (2, .int a2)] [] (F_X10_stay S a1 a2) := by
  unfold F_X10_stay
  refine r_iload_n B 1 dX10_stay_0 rfl rfl ?_
  refine r_iconst B (0 : Int32) dX10_stay_1 (by decide) ?_
  refine r_bipush B (99 : Int32) dX10_stay_2 (by decide) ?_
  refine r_cI (zrunS (As := [.int a1, .int (0 : Int32), .int (99 : Int32)]) (rest := []) B 3 (fun b hb => k_X10_outside B.2.2.1 hb) gX10_stay_X10_outside rfl rfl rfl y_X10_outside ⟨Nat.le_of_ble_eq_true rfl, Nat.le_of_ble_eq_true rfl⟩ rfl rfl (Nat.le_of_ble_eq_true rfl) dX10_stay_4) (fun r4 => ?_)
  refine r_if_ne B 18 dX10_stay_7 (by decide) (fun _ => ?_) (fun _ => ?_)
  · refine r_bipush B (-2 : Int32) dX10_stay_18 (by decide) ?_
    exact r_iret B dX10_stay_20 rfl
  · refine r_iload_n B 1 dX10_stay_10 rfl rfl ?_
    refine r_iload_n B 2 dX10_stay_11 rfl rfl ?_
    refine r_cI (zrunS (As := [.int a1, .int a2]) (rest := []) B 2 (fun b hb => k_X10_cannotEnd B.2.2.1 hb) gX10_stay_X10_cannotEnd rfl rfl rfl y_X10_cannotEnd ⟨Nat.le_of_ble_eq_true rfl, Nat.le_of_ble_eq_true rfl⟩ rfl rfl (Nat.le_of_ble_eq_true rfl) dX10_stay_12) (fun r12 => ?_)
    refine r_if_eq B 21 dX10_stay_15 (by decide) (fun _ => ?_) (fun _ => ?_)
    · refine r_aload_n B 0 dX10_stay_21 rfl rfl ?_
      refine r_get B 0 9 5 (Nat.le_of_ble_eq_true rfl) rfl (cX_0 g _) rfl m_X10_stay_inX10 (Nat.le_of_ble_eq_true rfl) m_X10_stay_f47 rfl dX10_stay_22 ?_
      refine r_iload_n B 1 dX10_stay_25 rfl rfl ?_
      refine r_iload_n B 2 dX10_stay_26 rfl rfl ?_
      refine r_cIw (zrunV (As := [.int a1, .int a2]) (rest := []) B 2 6 (fun b hb => k_X9_admit B.2.2.1 hb) gX10_stay_X9_admit rfl rfl rfl y_X9_admit ⟨Nat.le_of_ble_eq_true rfl, Nat.le_of_ble_eq_true rfl⟩ (Nat.le_of_ble_eq_true rfl) rfl (cX_6 g _) rfl rfl rfl (Nat.le_of_ble_eq_true rfl) dX10_stay_27) (fun r27 S27 => ?_)
      exact r_iret B dX10_stay_30 rfl
    · refine r_bipush B (-2 : Int32) dX10_stay_18 (by decide) ?_
      exact r_iret B dX10_stay_20 rfl
set_option maxRecDepth 20000 in
theorem k_X10_stay {l : Launch} {D : va_G} {g : zGx} (hz : zin (WX g)) {S : zSt} {a1 : Int32} {a2 : Int32} {b : (Int32 × zSt)} (h : F_X10_stay S a1 a2 = some b) : zMet l D (WX g) (zT g) yX10_stay wsX10_stay rm_X10_stay S [.ref (g.1 0), .int a1, .int a2] (eIw b) := zmet_of (by decide +kernel) rfl hz (Nat.le_of_ble_eq_true rfl) rfl (fun E _ _ hE B => x_X10_stay B hE S a1 a2) h
abbrev rm_X10_leaves : Room := { frames := 2, cells := 0, slots := 0, locals := 43 }
theorem y_X10_leaves : yX10_leaves.cls = RX10 ∧ yX10_leaves.cls ≠ "java/lang/invoke/MethodHandle" ∧ yX10_leaves.cls ≠ "java/lang/invoke/VarHandle" ∧ (parseMethodDescriptor yX10_leaves.desc).map (fun d => d.parameters.length) = some 2 := by decide +kernel
theorem m_X10_leaves_f47 : Cond.fieldLink RX10 47 "LongestMet" "beds" "LLongestMet$Ward;" ∈ wsX10_leaves := List.mem_cons_of_mem _ (List.mem_append_left _ (List.mem_append_left _ (List.mem_append_left _ (List.mem_of_getElem? (i := 0) rfl))))
theorem m_X10_leaves_inX10 : ∀ x ∈ u_ws RX10 TX10 9, x ∈ wsX10_leaves := fun _ h => List.mem_cons_of_mem _ (List.mem_append_left _ (List.mem_append_right _ h))
set_option maxRecDepth 100000 in
set_option maxHeartbeats 4000000 in
theorem x_X10_leaves {E : zCx} {g : zGx} (B : zGood E (WX g) (zT g) cX10_leaves RX10 wsX10_leaves (some .int) rm_X10_leaves) (hE : E.2.2 = 3) (S : zSt) (a1 : Int32) (a2 : Int32) : Xo E (WX g) eIw S 0 [(0, .ref (g.1 0)), (1, .int a1), (2, .int a2)] [] (F_X10_leaves S a1 a2) := by
  unfold F_X10_leaves
  refine r_iload_n B 1 dX10_leaves_0 rfl rfl ?_
  refine r_iconst B (0 : Int32) dX10_leaves_1 (by decide) ?_
  refine r_aload_n B 0 dX10_leaves_2 rfl rfl ?_
  refine r_get B 0 9 5 (Nat.le_of_ble_eq_true rfl) rfl (cX_0 g _) rfl m_X10_leaves_inX10 (Nat.le_of_ble_eq_true rfl) m_X10_leaves_f47 rfl dX10_leaves_3 ?_
  refine r_cI (zrunV (As := []) (rest := [.int (0 : Int32), .int a1]) B 0 6 (fun b hb => k_X9_staysTold B.2.2.1 hb) gX10_leaves_X9_staysTold rfl rfl rfl y_X9_staysTold ⟨Nat.le_of_ble_eq_true rfl, Nat.le_of_ble_eq_true rfl⟩ (Nat.le_of_ble_eq_true rfl) rfl (cX_6 g _) rfl rfl rfl (Nat.le_of_ble_eq_true rfl) dX10_leaves_6) (fun r6 => ?_)
  refine r_iconst B (1 : Int32) dX10_leaves_9 (by decide) ?_
  refine r_isub B dX10_leaves_10 ?_
  refine r_cI (zrunS (As := [.int a1, .int (0 : Int32), .int (r6 - (1 : Int32))]) (rest := []) B 3 (fun b hb => k_X10_outside B.2.2.1 hb) gX10_leaves_X10_outside rfl rfl rfl y_X10_outside ⟨Nat.le_of_ble_eq_true rfl, Nat.le_of_ble_eq_true rfl⟩ rfl rfl (Nat.le_of_ble_eq_true rfl) dX10_leaves_11) (fun r11 => ?_)
  refine r_if_ne B 32 dX10_leaves_14 (by decide) (fun _ => ?_) (fun _ => ?_)
  · refine r_bipush B (-2 : Int32) dX10_leaves_32 (by decide) ?_
    exact r_iret B dX10_leaves_34 rfl
  · refine r_aload_n B 0 dX10_leaves_17 rfl rfl ?_
    refine r_get B 0 9 5 (Nat.le_of_ble_eq_true rfl) rfl (cX_0 g _) rfl m_X10_leaves_inX10 (Nat.le_of_ble_eq_true rfl) m_X10_leaves_f47 rfl dX10_leaves_18 ?_
    refine r_iload_n B 1 dX10_leaves_21 rfl rfl ?_
    refine r_cI (zrunV (As := [.int a1]) (rest := []) B 1 6 (fun b hb => k_X9_firstDay B.2.2.1 hb) gX10_leaves_X9_firstDay rfl rfl rfl y_X9_firstDay ⟨Nat.le_of_ble_eq_true rfl, Nat.le_of_ble_eq_true rfl⟩ (Nat.le_of_ble_eq_true rfl) rfl (cX_6 g _) rfl rfl rfl (Nat.le_of_ble_eq_true rfl) dX10_leaves_22) (fun r22 => ?_)
    refine r_iload_n B 2 dX10_leaves_25 rfl rfl ?_
    refine r_cI (zrunS (As := [.int r22, .int a2]) (rest := []) B 2 (fun b hb => k_X10_cannotEnd B.2.2.1 hb) gX10_leaves_X10_cannotEnd rfl rfl rfl y_X10_cannotEnd ⟨Nat.le_of_ble_eq_true rfl, Nat.le_of_ble_eq_true rfl⟩ rfl rfl (Nat.le_of_ble_eq_true rfl) dX10_leaves_26) (fun r26 => ?_)
    refine r_if_eq B 35 dX10_leaves_29 (by decide) (fun _ => ?_) (fun _ => ?_)
    · refine r_aload_n B 0 dX10_leaves_35 rfl rfl ?_
      refine r_get B 0 9 5 (Nat.le_of_ble_eq_true rfl) rfl (cX_0 g _) rfl m_X10_leaves_inX10 (Nat.le_of_ble_eq_true rfl) m_X10_leaves_f47 rfl dX10_leaves_36 ?_
      refine r_iload_n B 1 dX10_leaves_39 rfl rfl ?_
      refine r_iload_n B 2 dX10_leaves_40 rfl rfl ?_
      refine r_cIw (zrunV (As := [.int a1, .int a2]) (rest := []) B 2 6 (fun b hb => k_X9_endOn B.2.2.1 hb) gX10_leaves_X9_endOn rfl rfl rfl y_X9_endOn ⟨Nat.le_of_ble_eq_true rfl, Nat.le_of_ble_eq_true rfl⟩ (Nat.le_of_ble_eq_true rfl) rfl (cX_6 g _) rfl rfl rfl (Nat.le_of_ble_eq_true rfl) dX10_leaves_41) (fun r41 S41 => ?_)
      exact r_iret B dX10_leaves_44 rfl
    · refine r_bipush B (-2 : Int32) dX10_leaves_32 (by decide) ?_
      exact r_iret B dX10_leaves_34 rfl
set_option maxRecDepth 20000 in
theorem k_X10_leaves {l : Launch} {D : va_G} {g : zGx} (hz : zin (WX g)) {S : zSt} {a1 : Int32} {a2 : Int32} {b : (Int32 × zSt)} (h : F_X10_leaves S a1 a2 = some b) : zMet l D (WX g) (zT g) yX10_leaves wsX10_leaves rm_X10_leaves S [.ref (g.1 0), .int a1, .int a2] (eIw b) := zmet_of (by decide +kernel) rfl hz (Nat.le_of_ble_eq_true rfl) rfl (fun E _ _ hE B => x_X10_leaves B hE S a1 a2) h
abbrev rm_X10_isNoSpan : Room := { frames := 1, cells := 0, slots := 0, locals := 22 }
theorem y_X10_isNoSpan : yX10_isNoSpan.cls ≠ "java/lang/invoke/MethodHandle" ∧ yX10_isNoSpan.cls ≠ "java/lang/invoke/VarHandle" ∧ (parseMethodDescriptor yX10_isNoSpan.desc).map (fun d => d.parameters.length) = some 2 := by decide +kernel
set_option maxRecDepth 100000 in
set_option maxHeartbeats 4000000 in
theorem x_X10_isNoSpan {E : zCx} {g : zGx} (B : zGood E (WX g) (zT g) cX10_isNoSpan RX10 wsX10_isNoSpan (some .boolean) rm_X10_isNoSpan) (hE : E.2.2 = 2) (S : zSt) (a0 : Int32) (a1 : Int32) : Xo E (WX g) (eI S) S 0 [(0, .int a0), (1, .int a1)] [] (F_X10_isNoSpan a0 a1) := by
  unfold F_X10_isNoSpan
  refine r_iload_n B 0 dX10_isNoSpan_0 rfl rfl ?_
  refine r_iconst B (0 : Int32) dX10_isNoSpan_1 (by decide) ?_
  refine r_bipush B (99 : Int32) dX10_isNoSpan_2 (by decide) ?_
  refine r_cI (zrunS (As := [.int a0, .int (0 : Int32), .int (99 : Int32)]) (rest := []) B 3 (fun b hb => k_X10_outside B.2.2.1 hb) gX10_isNoSpan_X10_outside rfl rfl rfl y_X10_outside ⟨Nat.le_of_ble_eq_true rfl, Nat.le_of_ble_eq_true rfl⟩ rfl rfl (Nat.le_of_ble_eq_true rfl) dX10_isNoSpan_4) (fun r4 => ?_)
  refine r_if_ne B 20 dX10_isNoSpan_7 (by decide) (fun _ => ?_) (fun _ => ?_)
  · refine r_iconst B (1 : Int32) dX10_isNoSpan_20 (by decide) ?_
    refine r_goto B 25 dX10_isNoSpan_21 (by decide) ?_
    exact r_zret1 B dX10_isNoSpan_25 rfl
  · refine r_iload_n B 1 dX10_isNoSpan_10 rfl rfl ?_
    refine r_iload_n B 0 dX10_isNoSpan_11 rfl rfl ?_
    refine r_bipush B (99 : Int32) dX10_isNoSpan_12 (by decide) ?_
    refine r_cI (zrunS (As := [.int a1, .int a0, .int (99 : Int32)]) (rest := []) B 3 (fun b hb => k_X10_outside B.2.2.1 hb) gX10_isNoSpan_X10_outside rfl rfl rfl y_X10_outside ⟨Nat.le_of_ble_eq_true rfl, Nat.le_of_ble_eq_true rfl⟩ rfl rfl (Nat.le_of_ble_eq_true rfl) dX10_isNoSpan_14) (fun r14 => ?_)
    refine r_if_eq B 24 dX10_isNoSpan_17 (by decide) (fun _ => ?_) (fun _ => ?_)
    · refine r_iconst B (0 : Int32) dX10_isNoSpan_24 (by decide) ?_
      exact r_zret0 B dX10_isNoSpan_25 rfl
    · refine r_iconst B (1 : Int32) dX10_isNoSpan_20 (by decide) ?_
      refine r_goto B 25 dX10_isNoSpan_21 (by decide) ?_
      exact r_zret1 B dX10_isNoSpan_25 rfl
set_option maxRecDepth 20000 in
theorem k_X10_isNoSpan {l : Launch} {D : va_G} {g : zGx} (hz : zin (WX g)) {S : zSt} {a0 : Int32} {a1 : Int32} {b : Int32} (h : F_X10_isNoSpan a0 a1 = some b) : zMet l D (WX g) (zT g) yX10_isNoSpan wsX10_isNoSpan rm_X10_isNoSpan S [.int a0, .int a1] ((eI S) b) := zmet_of (by decide +kernel) rfl hz (Nat.le_of_ble_eq_true rfl) rfl (fun E _ _ hE B => x_X10_isNoSpan B hE S a0 a1) h
abbrev rm_X10_ward : Room := { frames := 3, cells := 0, slots := 0, locals := 74 }
theorem y_X10_ward : yX10_ward.cls = RX10 ∧ yX10_ward.cls ≠ "java/lang/invoke/MethodHandle" ∧ yX10_ward.cls ≠ "java/lang/invoke/VarHandle" ∧ (parseMethodDescriptor yX10_ward.desc).map (fun d => d.parameters.length) = some 3 := by decide +kernel
theorem m_X10_ward_f47 : Cond.fieldLink RX10 47 "LongestMet" "beds" "LLongestMet$Ward;" ∈ wsX10_ward := List.mem_cons_of_mem _ (List.mem_append_left _ (List.mem_append_left _ (List.mem_append_left _ (List.mem_of_getElem? (i := 0) rfl))))
theorem m_X10_ward_inX10 : ∀ x ∈ u_ws RX10 TX10 9, x ∈ wsX10_ward := fun _ h => List.mem_cons_of_mem _ (List.mem_append_left _ (List.mem_append_right _ h))
set_option maxRecDepth 100000 in
set_option maxHeartbeats 4000000 in
theorem x_X10_ward {E : zCx} {g : zGx} (B : zGood E (WX g) (zT g) cX10_ward RX10 wsX10_ward (some .int) rm_X10_ward) (hE : E.2.2 = 4) (S : zSt) (a1 : Int32) (a2 : Int32) (a3 : Int32) : Xo E (WX g) (eI S) S 0 [(0, .ref (g.1 0)), (1, .int a1), (2, .int a2), (3, .int a3)] [] (F_X10_ward S a1 a2 a3) := by
  unfold F_X10_ward
  refine r_iload_n B 1 dX10_ward_0 rfl rfl ?_
  refine r_iload_n B 2 dX10_ward_1 rfl rfl ?_
  refine r_cI (zrunS (As := [.int a1, .int a2]) (rest := []) B 2 (fun b hb => k_X10_isNoSpan B.2.2.1 hb) gX10_ward_X10_isNoSpan rfl rfl rfl y_X10_isNoSpan ⟨Nat.le_of_ble_eq_true rfl, Nat.le_of_ble_eq_true rfl⟩ rfl rfl (Nat.le_of_ble_eq_true rfl) dX10_ward_2) (fun r2 => ?_)
  refine r_if_ne B 17 dX10_ward_5 (by decide) (fun _ => ?_) (fun _ => ?_)
  · refine r_bipush B (-2 : Int32) dX10_ward_17 (by decide) ?_
    exact r_iret B dX10_ward_19 rfl
  · refine r_iload_n B 3 dX10_ward_8 rfl rfl ?_
    refine r_iconst B (0 : Int32) dX10_ward_9 (by decide) ?_
    refine r_iconst B (3 : Int32) dX10_ward_10 (by decide) ?_
    refine r_cI (zrunS (As := [.int a3, .int (0 : Int32), .int (3 : Int32)]) (rest := []) B 3 (fun b hb => k_X10_outside B.2.2.1 hb) gX10_ward_X10_outside rfl rfl rfl y_X10_outside ⟨Nat.le_of_ble_eq_true rfl, Nat.le_of_ble_eq_true rfl⟩ rfl rfl (Nat.le_of_ble_eq_true rfl) dX10_ward_11) (fun r11 => ?_)
    refine r_if_eq B 20 dX10_ward_14 (by decide) (fun _ => ?_) (fun _ => ?_)
    · refine r_iload_n B 3 dX10_ward_20 rfl rfl ?_
      refine r_if_ne B 36 dX10_ward_21 (by decide) (fun _ => ?_) (fun _ => ?_)
      · refine r_iload_n B 3 dX10_ward_36 rfl rfl ?_
        refine r_iconst B (1 : Int32) dX10_ward_37 (by decide) ?_
        refine r_icmp_ne B 53 dX10_ward_38 (by decide) (fun _ => ?_) (fun _ => ?_)
        · refine r_iload_n B 3 dX10_ward_53 rfl rfl ?_
          refine r_iconst B (2 : Int32) dX10_ward_54 (by decide) ?_
          refine r_icmp_ne B 70 dX10_ward_55 (by decide) (fun _ => ?_) (fun _ => ?_)
          · refine r_aload_n B 0 dX10_ward_70 rfl rfl ?_
            refine r_get B 0 9 5 (Nat.le_of_ble_eq_true rfl) rfl (cX_0 g _) rfl m_X10_ward_inX10 (Nat.le_of_ble_eq_true rfl) m_X10_ward_f47 rfl dX10_ward_71 ?_
            refine r_iload_n B 1 dX10_ward_74 rfl rfl ?_
            refine r_iload_n B 2 dX10_ward_75 rfl rfl ?_
            refine r_iconst B (0 : Int32) dX10_ward_76 (by decide) ?_
            refine r_cL (zrunV (As := [.int a1, .int a2, .int (0 : Int32)]) (rest := []) B 3 6 (fun b hb => k_X9_sum B.2.2.1 hb) gX10_ward_X9_sum rfl rfl rfl y_X9_sum ⟨Nat.le_of_ble_eq_true rfl, Nat.le_of_ble_eq_true rfl⟩ (Nat.le_of_ble_eq_true rfl) rfl (cX_6 g _) rfl rfl rfl (Nat.le_of_ble_eq_true rfl) dX10_ward_77) (fun r77 => ?_)
            refine r_lconst B (0 : Int64) dX10_ward_80 (by decide) ?_
            refine r_lcmp B dX10_ward_81 ?_
            refine r_if_ne B 88 dX10_ward_82 (by decide) (fun _ => ?_) (fun _ => ?_)
            · refine r_aload_n B 0 dX10_ward_88 rfl rfl ?_
              refine r_get B 0 9 5 (Nat.le_of_ble_eq_true rfl) rfl (cX_0 g _) rfl m_X10_ward_inX10 (Nat.le_of_ble_eq_true rfl) m_X10_ward_f47 rfl dX10_ward_89 ?_
              refine r_iload_n B 1 dX10_ward_92 rfl rfl ?_
              refine r_iload_n B 2 dX10_ward_93 rfl rfl ?_
              refine r_iconst B (3 : Int32) dX10_ward_94 (by decide) ?_
              refine r_cL (zrunV (As := [.int a1, .int a2, .int (3 : Int32)]) (rest := []) B 3 6 (fun b hb => k_X9_sum B.2.2.1 hb) gX10_ward_X9_sum rfl rfl rfl y_X9_sum ⟨Nat.le_of_ble_eq_true rfl, Nat.le_of_ble_eq_true rfl⟩ (Nat.le_of_ble_eq_true rfl) rfl (cX_6 g _) rfl rfl rfl (Nat.le_of_ble_eq_true rfl) dX10_ward_95) (fun r95 => ?_)
              refine r_aload_n B 0 dX10_ward_98 rfl rfl ?_
              refine r_get B 0 9 5 (Nat.le_of_ble_eq_true rfl) rfl (cX_0 g _) rfl m_X10_ward_inX10 (Nat.le_of_ble_eq_true rfl) m_X10_ward_f47 rfl dX10_ward_99 ?_
              refine r_iload_n B 1 dX10_ward_102 rfl rfl ?_
              refine r_iload_n B 2 dX10_ward_103 rfl rfl ?_
              refine r_iconst B (2 : Int32) dX10_ward_104 (by decide) ?_
              refine r_cL (zrunV (As := [.int a1, .int a2, .int (2 : Int32)]) (rest := [.long r95]) B 3 6 (fun b hb => k_X9_sum B.2.2.1 hb) gX10_ward_X9_sum rfl rfl rfl y_X9_sum ⟨Nat.le_of_ble_eq_true rfl, Nat.le_of_ble_eq_true rfl⟩ (Nat.le_of_ble_eq_true rfl) rfl (cX_6 g _) rfl rfl rfl (Nat.le_of_ble_eq_true rfl) dX10_ward_105) (fun r105 => ?_)
              refine r_lcmp B dX10_ward_108 ?_
              refine r_if_ne B 116 dX10_ward_109 (by decide) (fun _ => ?_) (fun _ => ?_)
              · refine r_iconst B (0 : Int32) dX10_ward_116 (by decide) ?_
                exact r_iret B dX10_ward_117 rfl
              · refine r_iconst B (1 : Int32) dX10_ward_112 (by decide) ?_
                refine r_goto B 117 dX10_ward_113 (by decide) ?_
                exact r_iret B dX10_ward_117 rfl
            · refine r_bipush B (-3 : Int32) dX10_ward_85 (by decide) ?_
              exact r_iret B dX10_ward_87 rfl
          · refine r_aload_n B 0 dX10_ward_58 rfl rfl ?_
            refine r_get B 0 9 5 (Nat.le_of_ble_eq_true rfl) rfl (cX_0 g _) rfl m_X10_ward_inX10 (Nat.le_of_ble_eq_true rfl) m_X10_ward_f47 rfl dX10_ward_59 ?_
            refine r_iload_n B 1 dX10_ward_62 rfl rfl ?_
            refine r_iload_n B 2 dX10_ward_63 rfl rfl ?_
            refine r_iconst B (2 : Int32) dX10_ward_64 (by decide) ?_
            refine r_cL (zrunV (As := [.int a1, .int a2, .int (2 : Int32)]) (rest := []) B 3 6 (fun b hb => k_X9_sum B.2.2.1 hb) gX10_ward_X9_sum rfl rfl rfl y_X9_sum ⟨Nat.le_of_ble_eq_true rfl, Nat.le_of_ble_eq_true rfl⟩ (Nat.le_of_ble_eq_true rfl) rfl (cX_6 g _) rfl rfl rfl (Nat.le_of_ble_eq_true rfl) dX10_ward_65) (fun r65 => ?_)
            refine r_l2i B dX10_ward_68 ?_
            exact r_iret B dX10_ward_69 rfl
        · refine r_aload_n B 0 dX10_ward_41 rfl rfl ?_
          refine r_get B 0 9 5 (Nat.le_of_ble_eq_true rfl) rfl (cX_0 g _) rfl m_X10_ward_inX10 (Nat.le_of_ble_eq_true rfl) m_X10_ward_f47 rfl dX10_ward_42 ?_
          refine r_iload_n B 1 dX10_ward_45 rfl rfl ?_
          refine r_iload_n B 2 dX10_ward_46 rfl rfl ?_
          refine r_iconst B (1 : Int32) dX10_ward_47 (by decide) ?_
          refine r_cL (zrunV (As := [.int a1, .int a2, .int (1 : Int32)]) (rest := []) B 3 6 (fun b hb => k_X9_sum B.2.2.1 hb) gX10_ward_X9_sum rfl rfl rfl y_X9_sum ⟨Nat.le_of_ble_eq_true rfl, Nat.le_of_ble_eq_true rfl⟩ (Nat.le_of_ble_eq_true rfl) rfl (cX_6 g _) rfl rfl rfl (Nat.le_of_ble_eq_true rfl) dX10_ward_48) (fun r48 => ?_)
          refine r_l2i B dX10_ward_51 ?_
          exact r_iret B dX10_ward_52 rfl
      · refine r_aload_n B 0 dX10_ward_24 rfl rfl ?_
        refine r_get B 0 9 5 (Nat.le_of_ble_eq_true rfl) rfl (cX_0 g _) rfl m_X10_ward_inX10 (Nat.le_of_ble_eq_true rfl) m_X10_ward_f47 rfl dX10_ward_25 ?_
        refine r_iload_n B 1 dX10_ward_28 rfl rfl ?_
        refine r_iload_n B 2 dX10_ward_29 rfl rfl ?_
        refine r_iconst B (0 : Int32) dX10_ward_30 (by decide) ?_
        refine r_cL (zrunV (As := [.int a1, .int a2, .int (0 : Int32)]) (rest := []) B 3 6 (fun b hb => k_X9_sum B.2.2.1 hb) gX10_ward_X9_sum rfl rfl rfl y_X9_sum ⟨Nat.le_of_ble_eq_true rfl, Nat.le_of_ble_eq_true rfl⟩ (Nat.le_of_ble_eq_true rfl) rfl (cX_6 g _) rfl rfl rfl (Nat.le_of_ble_eq_true rfl) dX10_ward_31) (fun r31 => ?_)
        refine r_l2i B dX10_ward_34 ?_
        exact r_iret B dX10_ward_35 rfl
    · refine r_bipush B (-2 : Int32) dX10_ward_17 (by decide) ?_
      exact r_iret B dX10_ward_19 rfl
set_option maxRecDepth 20000 in
theorem k_X10_ward {l : Launch} {D : va_G} {g : zGx} (hz : zin (WX g)) {S : zSt} {a1 : Int32} {a2 : Int32} {a3 : Int32} {b : Int32} (h : F_X10_ward S a1 a2 a3 = some b) : zMet l D (WX g) (zT g) yX10_ward wsX10_ward rm_X10_ward S [.ref (g.1 0), .int a1, .int a2, .int a3] ((eI S) b) := zmet_of (by decide +kernel) rfl hz (Nat.le_of_ble_eq_true rfl) rfl (fun E _ _ hE B => x_X10_ward B hE S a1 a2 a3) h
abbrev rm_X10_means : Room := { frames := 4, cells := 0, slots := 0, locals := 97 }
theorem y_X10_means : yX10_means.cls = RX10 ∧ yX10_means.cls ≠ "java/lang/invoke/MethodHandle" ∧ yX10_means.cls ≠ "java/lang/invoke/VarHandle" ∧ (parseMethodDescriptor yX10_means.desc).map (fun d => d.parameters.length) = some 4 := by decide +kernel
theorem m_X10_means_f47 : Cond.fieldLink RX10 47 "LongestMet" "beds" "LLongestMet$Ward;" ∈ wsX10_means := List.mem_cons_of_mem _ (List.mem_append_left _ (List.mem_append_left _ (List.mem_append_left _ (List.mem_of_getElem? (i := 0) rfl))))
theorem m_X10_means_inX10 : ∀ x ∈ u_ws RX10 TX10 9, x ∈ wsX10_means := fun _ h => List.mem_cons_of_mem _ (List.mem_append_left _ (List.mem_append_right _ h))
set_option maxRecDepth 100000 in
set_option maxHeartbeats 4000000 in
theorem x_X10_means {E : zCx} {g : zGx} (B : zGood E (WX g) (zT g) cX10_means RX10 wsX10_means (some .long) rm_X10_means) (hE : E.2.2 = 5) (S : zSt) (a1 : Int32) (a2 : Int32) (a3 : Int32) (a4 : Int32) : Xo E (WX g) (eL S) S 0 [(0, .ref (g.1 0)), (1, .int a1), (2, .int a2), (3, .int a3), (4, .int a4)] [] (F_X10_means S a1 a2 a3 a4) := by
  unfold F_X10_means
  refine r_iload_n B 1 dX10_means_0 rfl rfl ?_
  refine r_iload_n B 2 dX10_means_1 rfl rfl ?_
  refine r_cI (zrunS (As := [.int a1, .int a2]) (rest := []) B 2 (fun b hb => k_X10_isNoSpan B.2.2.1 hb) gX10_means_X10_isNoSpan rfl rfl rfl y_X10_isNoSpan ⟨Nat.le_of_ble_eq_true rfl, Nat.le_of_ble_eq_true rfl⟩ rfl rfl (Nat.le_of_ble_eq_true rfl) dX10_means_2) (fun r2 => ?_)
  refine r_jn2 (P := fun j27 : Option Int64 => Xo E (WX g) (eL S) S 27 [] [] (j27)) ?_ (fun j27 hj27 => ?_)
  · refine r_bipush B (-2 : Int32) dX10_means_27 (by decide) ?_
    refine r_cL (zrunS (As := [.int (-2 : Int32)]) (rest := []) B 1 (fun b hb => k_X2_refused B.2.2.1 hb) gX10_means_X2_refused rfl rfl rfl y_X2_refused ⟨Nat.le_of_ble_eq_true rfl, Nat.le_of_ble_eq_true rfl⟩ rfl rfl (Nat.le_of_ble_eq_true rfl) dX10_means_29) (fun r29 => ?_)
    exact r_lret B dX10_means_32 rfl
  refine r_if_ne B 27 dX10_means_5 (by decide) (fun _ => ?_) (fun _ => ?_)
  · refine r_sub [] rfl ?_
    exact hj27
  · refine r_iload_n B 3 dX10_means_8 rfl rfl ?_
    refine r_iconst B (0 : Int32) dX10_means_9 (by decide) ?_
    refine r_iconst B (5 : Int32) dX10_means_10 (by decide) ?_
    refine r_cI (zrunS (As := [.int a3, .int (0 : Int32), .int (5 : Int32)]) (rest := []) B 3 (fun b hb => k_X10_outside B.2.2.1 hb) gX10_means_X10_outside rfl rfl rfl y_X10_outside ⟨Nat.le_of_ble_eq_true rfl, Nat.le_of_ble_eq_true rfl⟩ rfl rfl (Nat.le_of_ble_eq_true rfl) dX10_means_11) (fun r11 => ?_)
    refine r_if_ne B 27 dX10_means_14 (by decide) (fun _ => ?_) (fun _ => ?_)
    · refine r_sub [] rfl ?_
      exact hj27
    · refine r_iload B 4 dX10_means_17 rfl ?_
      refine r_iconst B (0 : Int32) dX10_means_19 (by decide) ?_
      refine r_iconst B (1 : Int32) dX10_means_20 (by decide) ?_
      refine r_cI (zrunS (As := [.int a4, .int (0 : Int32), .int (1 : Int32)]) (rest := []) B 3 (fun b hb => k_X10_outside B.2.2.1 hb) gX10_means_X10_outside rfl rfl rfl y_X10_outside ⟨Nat.le_of_ble_eq_true rfl, Nat.le_of_ble_eq_true rfl⟩ rfl rfl (Nat.le_of_ble_eq_true rfl) dX10_means_21) (fun r21 => ?_)
      refine r_if_eq B 33 dX10_means_24 (by decide) (fun _ => ?_) (fun _ => ?_)
      · refine r_aload_n B 0 dX10_means_33 rfl rfl ?_
        refine r_get B 0 9 5 (Nat.le_of_ble_eq_true rfl) rfl (cX_0 g _) rfl m_X10_means_inX10 (Nat.le_of_ble_eq_true rfl) m_X10_means_f47 rfl dX10_means_34 ?_
        refine r_iload_n B 1 dX10_means_37 rfl rfl ?_
        refine r_iload_n B 2 dX10_means_38 rfl rfl ?_
        refine r_iload_n B 3 dX10_means_39 rfl rfl ?_
        refine r_cL (zrunV (As := [.int a1, .int a2, .int a3]) (rest := []) B 3 6 (fun b hb => k_X9_above B.2.2.1 hb) gX10_means_X9_above rfl rfl rfl y_X9_above ⟨Nat.le_of_ble_eq_true rfl, Nat.le_of_ble_eq_true rfl⟩ (Nat.le_of_ble_eq_true rfl) rfl (cX_6 g _) rfl rfl rfl (Nat.le_of_ble_eq_true rfl) dX10_means_40) (fun r40 => ?_)
        refine r_aload_n B 0 dX10_means_43 rfl rfl ?_
        refine r_get B 0 9 5 (Nat.le_of_ble_eq_true rfl) rfl (cX_0 g _) rfl m_X10_means_inX10 (Nat.le_of_ble_eq_true rfl) m_X10_means_f47 rfl dX10_means_44 ?_
        refine r_iload_n B 1 dX10_means_47 rfl rfl ?_
        refine r_iload_n B 2 dX10_means_48 rfl rfl ?_
        refine r_iload_n B 3 dX10_means_49 rfl rfl ?_
        refine r_cL (zrunV (As := [.int a1, .int a2, .int a3]) (rest := [.long r40]) B 3 6 (fun b hb => k_X9_below B.2.2.1 hb) gX10_means_X9_below rfl rfl rfl y_X9_below ⟨Nat.le_of_ble_eq_true rfl, Nat.le_of_ble_eq_true rfl⟩ (Nat.le_of_ble_eq_true rfl) rfl (cX_6 g _) rfl rfl rfl (Nat.le_of_ble_eq_true rfl) dX10_means_50) (fun r50 => ?_)
        refine r_iload B 4 dX10_means_53 rfl ?_
        refine r_cL (zrunS (As := [.long r40, .long r50, .int a4]) (rest := []) B 3 (fun b hb => k_X2_told B.2.2.1 hb) gX10_means_X2_told rfl rfl rfl y_X2_told ⟨Nat.le_of_ble_eq_true rfl, Nat.le_of_ble_eq_true rfl⟩ rfl rfl (Nat.le_of_ble_eq_true rfl) dX10_means_55) (fun r55 => ?_)
        exact r_lret B dX10_means_58 rfl
      · refine r_sub [] rfl ?_
        exact hj27
set_option maxRecDepth 20000 in
theorem k_X10_means {l : Launch} {D : va_G} {g : zGx} (hz : zin (WX g)) {S : zSt} {a1 : Int32} {a2 : Int32} {a3 : Int32} {a4 : Int32} {b : Int64} (h : F_X10_means S a1 a2 a3 a4 = some b) : zMet l D (WX g) (zT g) yX10_means wsX10_means rm_X10_means S [.ref (g.1 0), .int a1, .int a2, .int a3, .int a4] ((eL S) b) := zmet_of (by decide +kernel) rfl hz (Nat.le_of_ble_eq_true rfl) rfl (fun E _ _ hE B => x_X10_means B hE S a1 a2 a3 a4) h
abbrev rm_X10_fullest : Room := { frames := 5, cells := 0, slots := 0, locals := 119 }
theorem y_X10_fullest : yX10_fullest.cls = RX10 ∧ yX10_fullest.cls ≠ "java/lang/invoke/MethodHandle" ∧ yX10_fullest.cls ≠ "java/lang/invoke/VarHandle" ∧ (parseMethodDescriptor yX10_fullest.desc).map (fun d => d.parameters.length) = some 1 := by decide +kernel
theorem m_X10_fullest_f47 : Cond.fieldLink RX10 47 "LongestMet" "beds" "LLongestMet$Ward;" ∈ wsX10_fullest := List.mem_cons_of_mem _ (List.mem_append_left _ (List.mem_append_left _ (List.mem_append_left _ (List.mem_of_getElem? (i := 0) rfl))))
theorem m_X10_fullest_inX10 : ∀ x ∈ u_ws RX10 TX10 9, x ∈ wsX10_fullest := fun _ h => List.mem_cons_of_mem _ (List.mem_append_left _ (List.mem_append_right _ h))
set_option maxRecDepth 100000 in
set_option maxHeartbeats 4000000 in
theorem x_X10_fullest {E : zCx} {g : zGx} (B : zGood E (WX g) (zT g) cX10_fullest RX10 wsX10_fullest (some .int) rm_X10_fullest) (hE : E.2.2 = 3) (S : zSt) (a1 : Int32) : Xo E (WX g) (eI S) S 0 [(0, .ref (g.1 0)), (1, .int a1)] [] (F_X10_fullest S a1) := by
  have n2 : 2 < E.2.2 := by rw [hE]; decide
  unfold F_X10_fullest
  refine r_iload_n B 1 dX10_fullest_0 rfl rfl ?_
  refine r_iconst B (0 : Int32) dX10_fullest_1 (by decide) ?_
  refine r_iconst B (2 : Int32) dX10_fullest_2 (by decide) ?_
  refine r_cI (zrunS (As := [.int a1, .int (0 : Int32), .int (2 : Int32)]) (rest := []) B 3 (fun b hb => k_X10_outside B.2.2.1 hb) gX10_fullest_X10_outside rfl rfl rfl y_X10_outside ⟨Nat.le_of_ble_eq_true rfl, Nat.le_of_ble_eq_true rfl⟩ rfl rfl (Nat.le_of_ble_eq_true rfl) dX10_fullest_3) (fun r3 => ?_)
  refine r_if_eq B 12 dX10_fullest_6 (by decide) (fun _ => ?_) (fun _ => ?_)
  · refine r_iload_n B 1 dX10_fullest_12 rfl rfl ?_
    refine r_iconst B (2 : Int32) dX10_fullest_13 (by decide) ?_
    refine r_icmp_ne B 25 dX10_fullest_14 (by decide) (fun _ => ?_) (fun _ => ?_)
    · refine r_aload_n B 0 dX10_fullest_25 rfl rfl ?_
      refine r_get B 0 9 5 (Nat.le_of_ble_eq_true rfl) rfl (cX_0 g _) rfl m_X10_fullest_inX10 (Nat.le_of_ble_eq_true rfl) m_X10_fullest_f47 rfl dX10_fullest_26 ?_
      refine r_cI (zrunV (As := []) (rest := []) B 0 6 (fun b hb => k_X9_fullestDay B.2.2.1 hb) gX10_fullest_X9_fullestDay rfl rfl rfl y_X9_fullestDay ⟨Nat.le_of_ble_eq_true rfl, Nat.le_of_ble_eq_true rfl⟩ (Nat.le_of_ble_eq_true rfl) rfl (cX_6 g _) rfl rfl rfl (Nat.le_of_ble_eq_true rfl) dX10_fullest_29) (fun r29 => ?_)
      refine r_istore_n (lv' := fun x2_32 => [(2, .int x2_32), (0, .ref (g.1 0)), (1, .int a1)]) B dX10_fullest_32 rfl n2 (fun _ => rfl) (fun x2_32 => ?_)
      refine r_iload_n B 2 dX10_fullest_33 rfl rfl ?_
      refine r_if_ne B 41 dX10_fullest_34 (by decide) (fun _ => ?_) (fun _ => ?_)
      · refine r_aload_n B 1 dX10_fullest_41 rfl rfl ?_
        refine r_get B 0 9 5 (Nat.le_of_ble_eq_true rfl) rfl (cX_0 g _) rfl m_X10_fullest_inX10 (Nat.le_of_ble_eq_true rfl) m_X10_fullest_f47 rfl dX10_fullest_42 ?_
        refine r_iload_n B 0 dX10_fullest_45 rfl rfl ?_
        refine r_cI (zrunV (As := [.int x2_32]) (rest := []) B 1 6 (fun b hb => k_X9_lyingOn B.2.2.1 hb) gX10_fullest_X9_lyingOn rfl rfl rfl y_X9_lyingOn ⟨Nat.le_of_ble_eq_true rfl, Nat.le_of_ble_eq_true rfl⟩ (Nat.le_of_ble_eq_true rfl) rfl (cX_6 g _) rfl rfl rfl (Nat.le_of_ble_eq_true rfl) dX10_fullest_46) (fun r46 => ?_)
        exact r_iret B dX10_fullest_49 rfl
      · refine r_iload_n B 0 dX10_fullest_37 rfl rfl ?_
        refine r_goto B 49 dX10_fullest_38 (by decide) ?_
        exact r_iret B dX10_fullest_49 rfl
    · refine r_aload_n B 0 dX10_fullest_17 rfl rfl ?_
      refine r_get B 0 9 5 (Nat.le_of_ble_eq_true rfl) rfl (cX_0 g _) rfl m_X10_fullest_inX10 (Nat.le_of_ble_eq_true rfl) m_X10_fullest_f47 rfl dX10_fullest_18 ?_
      refine r_cI (zrunV (As := []) (rest := []) B 0 6 (fun b hb => k_X9_mostApart B.2.2.1 hb) gX10_fullest_X9_mostApart rfl rfl rfl y_X9_mostApart ⟨Nat.le_of_ble_eq_true rfl, Nat.le_of_ble_eq_true rfl⟩ (Nat.le_of_ble_eq_true rfl) rfl (cX_6 g _) rfl rfl rfl (Nat.le_of_ble_eq_true rfl) dX10_fullest_21) (fun r21 => ?_)
      exact r_iret B dX10_fullest_24 rfl
  · refine r_bipush B (-2 : Int32) dX10_fullest_9 (by decide) ?_
    exact r_iret B dX10_fullest_11 rfl
set_option maxRecDepth 20000 in
theorem k_X10_fullest {l : Launch} {D : va_G} {g : zGx} (hz : zin (WX g)) {S : zSt} {a1 : Int32} {b : Int32} (h : F_X10_fullest S a1 = some b) : zMet l D (WX g) (zT g) yX10_fullest wsX10_fullest rm_X10_fullest S [.ref (g.1 0), .int a1] ((eI S) b) := zmet_of (by decide +kernel) rfl hz (Nat.le_of_ble_eq_true rfl) rfl (fun E _ _ hE B => x_X10_fullest B hE S a1) h
abbrev rm_X10_friends : Room := { frames := 1, cells := 0, slots := 0, locals := 24 }
theorem y_X10_friends : yX10_friends.cls = RX10 ∧ yX10_friends.cls ≠ "java/lang/invoke/MethodHandle" ∧ yX10_friends.cls ≠ "java/lang/invoke/VarHandle" ∧ (parseMethodDescriptor yX10_friends.desc).map (fun d => d.parameters.length) = some 3 := by decide +kernel
theorem m_X10_friends_f54 : Cond.fieldLink RX10 54 "LongestMet" "circle" "LLongestMet$Circle;" ∈ wsX10_friends := List.mem_cons_of_mem _ (List.mem_append_left _ (List.mem_append_left _ (List.mem_of_getElem? (i := 0) rfl)))
theorem m_X10_friends_inX10 : ∀ x ∈ u_ws RX10 TX10 9, x ∈ wsX10_friends := fun _ h => List.mem_cons_of_mem _ (List.mem_append_left _ (List.mem_append_right _ h))
set_option maxRecDepth 100000 in
set_option maxHeartbeats 4000000 in
theorem x_X10_friends {E : zCx} {g : zGx} (B : zGood E (WX g) (zT g) cX10_friends RX10 wsX10_friends (some .int) rm_X10_friends) (hE : E.2.2 = 4) (S : zSt) (a1 : Int32) (a2 : Int32) (a3 : Int32) : Xo E (WX g) eIw S 0 [(0, .ref (g.1 0)), (1, .int a1), (2, .int a2), (3, .int a3)] [] (F_X10_friends S a1 a2 a3) := by
  unfold F_X10_friends
  refine r_iload_n B 1 dX10_friends_0 rfl rfl ?_
  refine r_iconst B (0 : Int32) dX10_friends_1 (by decide) ?_
  refine r_bipush B (7 : Int32) dX10_friends_2 (by decide) ?_
  refine r_cI (zrunS (As := [.int a1, .int (0 : Int32), .int (7 : Int32)]) (rest := []) B 3 (fun b hb => k_X10_outside B.2.2.1 hb) gX10_friends_X10_outside rfl rfl rfl y_X10_outside ⟨Nat.le_of_ble_eq_true rfl, Nat.le_of_ble_eq_true rfl⟩ rfl rfl (Nat.le_of_ble_eq_true rfl) dX10_friends_4) (fun r4 => ?_)
  refine r_if_ne B 34 dX10_friends_7 (by decide) (fun _ => ?_) (fun _ => ?_)
  · refine r_bipush B (-2 : Int32) dX10_friends_34 (by decide) ?_
    exact r_iret B dX10_friends_36 rfl
  · refine r_iload_n B 2 dX10_friends_10 rfl rfl ?_
    refine r_iconst B (0 : Int32) dX10_friends_11 (by decide) ?_
    refine r_bipush B (7 : Int32) dX10_friends_12 (by decide) ?_
    refine r_cI (zrunS (As := [.int a2, .int (0 : Int32), .int (7 : Int32)]) (rest := []) B 3 (fun b hb => k_X10_outside B.2.2.1 hb) gX10_friends_X10_outside rfl rfl rfl y_X10_outside ⟨Nat.le_of_ble_eq_true rfl, Nat.le_of_ble_eq_true rfl⟩ rfl rfl (Nat.le_of_ble_eq_true rfl) dX10_friends_14) (fun r14 => ?_)
    refine r_if_ne B 34 dX10_friends_17 (by decide) (fun _ => ?_) (fun _ => ?_)
    · refine r_bipush B (-2 : Int32) dX10_friends_34 (by decide) ?_
      exact r_iret B dX10_friends_36 rfl
    · refine r_iload_n B 3 dX10_friends_20 rfl rfl ?_
      refine r_iconst B (0 : Int32) dX10_friends_21 (by decide) ?_
      refine r_iconst B (1 : Int32) dX10_friends_22 (by decide) ?_
      refine r_cI (zrunS (As := [.int a3, .int (0 : Int32), .int (1 : Int32)]) (rest := []) B 3 (fun b hb => k_X10_outside B.2.2.1 hb) gX10_friends_X10_outside rfl rfl rfl y_X10_outside ⟨Nat.le_of_ble_eq_true rfl, Nat.le_of_ble_eq_true rfl⟩ rfl rfl (Nat.le_of_ble_eq_true rfl) dX10_friends_23) (fun r23 => ?_)
      refine r_if_ne B 34 dX10_friends_26 (by decide) (fun _ => ?_) (fun _ => ?_)
      · refine r_bipush B (-2 : Int32) dX10_friends_34 (by decide) ?_
        exact r_iret B dX10_friends_36 rfl
      · refine r_iload_n B 1 dX10_friends_29 rfl rfl ?_
        refine r_iload_n B 2 dX10_friends_30 rfl rfl ?_
        refine r_icmp_ne B 37 dX10_friends_31 (by decide) (fun _ => ?_) (fun _ => ?_)
        · refine r_aload_n B 0 dX10_friends_37 rfl rfl ?_
          refine r_get B 0 9 6 (Nat.le_of_ble_eq_true rfl) rfl (cX_0 g _) rfl m_X10_friends_inX10 (Nat.le_of_ble_eq_true rfl) m_X10_friends_f54 rfl dX10_friends_38 ?_
          refine r_iload_n B 1 dX10_friends_41 rfl rfl ?_
          refine r_iload_n B 2 dX10_friends_42 rfl rfl ?_
          refine r_iload_n B 3 dX10_friends_43 rfl rfl ?_
          refine r_cIw (zrunV (As := [.int a1, .int a2, .int a3]) (rest := []) B 3 7 (fun b hb => k_X0_setFriends B.2.2.1 hb) gX10_friends_X0_setFriends rfl rfl rfl y_X0_setFriends ⟨Nat.le_of_ble_eq_true rfl, Nat.le_of_ble_eq_true rfl⟩ (Nat.le_of_ble_eq_true rfl) rfl (cX_7 g _) rfl rfl rfl (Nat.le_of_ble_eq_true rfl) dX10_friends_44) (fun r44 S44 => ?_)
          exact r_iret B dX10_friends_47 rfl
        · refine r_bipush B (-2 : Int32) dX10_friends_34 (by decide) ?_
          exact r_iret B dX10_friends_36 rfl
set_option maxRecDepth 20000 in
theorem k_X10_friends {l : Launch} {D : va_G} {g : zGx} (hz : zin (WX g)) {S : zSt} {a1 : Int32} {a2 : Int32} {a3 : Int32} {b : (Int32 × zSt)} (h : F_X10_friends S a1 a2 a3 = some b) : zMet l D (WX g) (zT g) yX10_friends wsX10_friends rm_X10_friends S [.ref (g.1 0), .int a1, .int a2, .int a3] (eIw b) := zmet_of (by decide +kernel) rfl hz (Nat.le_of_ble_eq_true rfl) rfl (fun E _ _ hE B => x_X10_friends B hE S a1 a2 a3) h
abbrev rm_X10_mean : Room := { frames := 4, cells := 0, slots := 0, locals := 86 }
theorem y_X10_mean : yX10_mean.cls = RX10 ∧ yX10_mean.cls ≠ "java/lang/invoke/MethodHandle" ∧ yX10_mean.cls ≠ "java/lang/invoke/VarHandle" ∧ (parseMethodDescriptor yX10_mean.desc).map (fun d => d.parameters.length) = some 2 := by decide +kernel
theorem m_X10_mean_f54 : Cond.fieldLink RX10 54 "LongestMet" "circle" "LLongestMet$Circle;" ∈ wsX10_mean := List.mem_cons_of_mem _ (List.mem_append_left _ (List.mem_append_left _ (List.mem_append_left _ (List.mem_of_getElem? (i := 0) rfl))))
theorem m_X10_mean_inX10 : ∀ x ∈ u_ws RX10 TX10 9, x ∈ wsX10_mean := fun _ h => List.mem_cons_of_mem _ (List.mem_append_left _ (List.mem_append_right _ h))
theorem m_X10_mean_c251 : Cond.constantLong RX10 251 (3360) ∈ wsX10_mean := List.mem_cons_of_mem _ (List.mem_append_left _ (List.mem_append_left _ (List.mem_append_left _ (List.mem_of_getElem? (i := 2) rfl))))
theorem m_X10_mean_c243 : Cond.constantLong RX10 243 (8) ∈ wsX10_mean := List.mem_cons_of_mem _ (List.mem_append_left _ (List.mem_append_left _ (List.mem_append_left _ (List.mem_of_getElem? (i := 1) rfl))))
set_option maxRecDepth 100000 in
set_option maxHeartbeats 4000000 in
theorem x_X10_mean {E : zCx} {g : zGx} (B : zGood E (WX g) (zT g) cX10_mean RX10 wsX10_mean (some .long) rm_X10_mean) (hE : E.2.2 = 3) (S : zSt) (a1 : Int32) (a2 : Int32) : Xo E (WX g) (eL S) S 0 [(0, .ref (g.1 0)), (1, .int a1), (2, .int a2)] [] (F_X10_mean S a1 a2) := by
  unfold F_X10_mean
  refine r_iload_n B 1 dX10_mean_0 rfl rfl ?_
  refine r_iconst B (0 : Int32) dX10_mean_1 (by decide) ?_
  refine r_iconst B (2 : Int32) dX10_mean_2 (by decide) ?_
  refine r_cI (zrunS (As := [.int a1, .int (0 : Int32), .int (2 : Int32)]) (rest := []) B 3 (fun b hb => k_X10_outside B.2.2.1 hb) gX10_mean_X10_outside rfl rfl rfl y_X10_outside ⟨Nat.le_of_ble_eq_true rfl, Nat.le_of_ble_eq_true rfl⟩ rfl rfl (Nat.le_of_ble_eq_true rfl) dX10_mean_3) (fun r3 => ?_)
  refine r_jn2 (P := fun j18 : Option Int64 => Xo E (WX g) (eL S) S 18 [] [] (j18)) ?_ (fun j18 hj18 => ?_)
  · refine r_bipush B (-2 : Int32) dX10_mean_18 (by decide) ?_
    refine r_cL (zrunS (As := [.int (-2 : Int32)]) (rest := []) B 1 (fun b hb => k_X2_refused B.2.2.1 hb) gX10_mean_X2_refused rfl rfl rfl y_X2_refused ⟨Nat.le_of_ble_eq_true rfl, Nat.le_of_ble_eq_true rfl⟩ rfl rfl (Nat.le_of_ble_eq_true rfl) dX10_mean_20) (fun r20 => ?_)
    exact r_lret B dX10_mean_23 rfl
  refine r_if_ne B 18 dX10_mean_6 (by decide) (fun _ => ?_) (fun _ => ?_)
  · refine r_sub [] rfl ?_
    exact hj18
  · refine r_iload_n B 2 dX10_mean_9 rfl rfl ?_
    refine r_iconst B (0 : Int32) dX10_mean_10 (by decide) ?_
    refine r_iconst B (1 : Int32) dX10_mean_11 (by decide) ?_
    refine r_cI (zrunS (As := [.int a2, .int (0 : Int32), .int (1 : Int32)]) (rest := []) B 3 (fun b hb => k_X10_outside B.2.2.1 hb) gX10_mean_X10_outside rfl rfl rfl y_X10_outside ⟨Nat.le_of_ble_eq_true rfl, Nat.le_of_ble_eq_true rfl⟩ rfl rfl (Nat.le_of_ble_eq_true rfl) dX10_mean_12) (fun r12 => ?_)
    refine r_if_eq B 24 dX10_mean_15 (by decide) (fun _ => ?_) (fun _ => ?_)
    · refine r_iload_n B 1 dX10_mean_24 rfl rfl ?_
      refine r_if_ne B 44 dX10_mean_25 (by decide) (fun _ => ?_) (fun _ => ?_)
      · refine r_iload_n B 1 dX10_mean_44 rfl rfl ?_
        refine r_iconst B (1 : Int32) dX10_mean_45 (by decide) ?_
        refine r_icmp_ne B 70 dX10_mean_46 (by decide) (fun _ => ?_) (fun _ => ?_)
        · refine r_aload_n B 0 dX10_mean_70 rfl rfl ?_
          refine r_get B 0 9 6 (Nat.le_of_ble_eq_true rfl) rfl (cX_0 g _) rfl m_X10_mean_inX10 (Nat.le_of_ble_eq_true rfl) m_X10_mean_f54 rfl dX10_mean_71 ?_
          refine r_cI (zrunV (As := []) (rest := []) B 0 7 (fun b hb => k_X0_friendsOfPicked B.2.2.1 hb) gX10_mean_X0_friendsOfPicked rfl rfl rfl y_X0_friendsOfPicked ⟨Nat.le_of_ble_eq_true rfl, Nat.le_of_ble_eq_true rfl⟩ (Nat.le_of_ble_eq_true rfl) rfl (cX_7 g _) rfl rfl rfl (Nat.le_of_ble_eq_true rfl) dX10_mean_74) (fun r74 => ?_)
          refine r_i2l B dX10_mean_77 ?_
          refine r_ldc2 B (3360 : Int64) m_X10_mean_c251 dX10_mean_78 ?_
          refine r_iload_n B 2 dX10_mean_81 rfl rfl ?_
          refine r_cL (zrunS (As := [.long (r74.toInt64), .long (3360 : Int64), .int a2]) (rest := []) B 3 (fun b hb => k_X2_told B.2.2.1 hb) gX10_mean_X2_told rfl rfl rfl y_X2_told ⟨Nat.le_of_ble_eq_true rfl, Nat.le_of_ble_eq_true rfl⟩ rfl rfl (Nat.le_of_ble_eq_true rfl) dX10_mean_82) (fun r82 => ?_)
          exact r_lret B dX10_mean_85 rfl
        · refine r_aload_n B 0 dX10_mean_49 rfl rfl ?_
          refine r_get B 0 9 6 (Nat.le_of_ble_eq_true rfl) rfl (cX_0 g _) rfl m_X10_mean_inX10 (Nat.le_of_ble_eq_true rfl) m_X10_mean_f54 rfl dX10_mean_50 ?_
          refine r_cI (zrunV (As := []) (rest := []) B 0 7 (fun b hb => k_X0_friendsOfFriends B.2.2.1 hb) gX10_mean_X0_friendsOfFriends rfl rfl rfl y_X0_friendsOfFriends ⟨Nat.le_of_ble_eq_true rfl, Nat.le_of_ble_eq_true rfl⟩ (Nat.le_of_ble_eq_true rfl) rfl (cX_7 g _) rfl rfl rfl (Nat.le_of_ble_eq_true rfl) dX10_mean_53) (fun r53 => ?_)
          refine r_i2l B dX10_mean_56 ?_
          refine r_aload_n B 0 dX10_mean_57 rfl rfl ?_
          refine r_get B 0 9 6 (Nat.le_of_ble_eq_true rfl) rfl (cX_0 g _) rfl m_X10_mean_inX10 (Nat.le_of_ble_eq_true rfl) m_X10_mean_f54 rfl dX10_mean_58 ?_
          refine r_cI (zrunV (As := []) (rest := [.long (r53.toInt64)]) B 0 7 (fun b hb => k_X0_tellings B.2.2.1 hb) gX10_mean_X0_tellings rfl rfl rfl y_X0_tellings ⟨Nat.le_of_ble_eq_true rfl, Nat.le_of_ble_eq_true rfl⟩ (Nat.le_of_ble_eq_true rfl) rfl (cX_7 g _) rfl rfl rfl (Nat.le_of_ble_eq_true rfl) dX10_mean_61) (fun r61 => ?_)
          refine r_i2l B dX10_mean_64 ?_
          refine r_iload_n B 2 dX10_mean_65 rfl rfl ?_
          refine r_cL (zrunS (As := [.long (r53.toInt64), .long (r61.toInt64), .int a2]) (rest := []) B 3 (fun b hb => k_X2_told B.2.2.1 hb) gX10_mean_X2_told rfl rfl rfl y_X2_told ⟨Nat.le_of_ble_eq_true rfl, Nat.le_of_ble_eq_true rfl⟩ rfl rfl (Nat.le_of_ble_eq_true rfl) dX10_mean_66) (fun r66 => ?_)
          exact r_lret B dX10_mean_69 rfl
      · refine r_aload_n B 0 dX10_mean_28 rfl rfl ?_
        refine r_get B 0 9 6 (Nat.le_of_ble_eq_true rfl) rfl (cX_0 g _) rfl m_X10_mean_inX10 (Nat.le_of_ble_eq_true rfl) m_X10_mean_f54 rfl dX10_mean_29 ?_
        refine r_cI (zrunV (As := []) (rest := []) B 0 7 (fun b hb => k_X0_tellings B.2.2.1 hb) gX10_mean_X0_tellings rfl rfl rfl y_X0_tellings ⟨Nat.le_of_ble_eq_true rfl, Nat.le_of_ble_eq_true rfl⟩ (Nat.le_of_ble_eq_true rfl) rfl (cX_7 g _) rfl rfl rfl (Nat.le_of_ble_eq_true rfl) dX10_mean_32) (fun r32 => ?_)
        refine r_i2l B dX10_mean_35 ?_
        refine r_ldc2 B (8 : Int64) m_X10_mean_c243 dX10_mean_36 ?_
        refine r_iload_n B 2 dX10_mean_39 rfl rfl ?_
        refine r_cL (zrunS (As := [.long (r32.toInt64), .long (8 : Int64), .int a2]) (rest := []) B 3 (fun b hb => k_X2_told B.2.2.1 hb) gX10_mean_X2_told rfl rfl rfl y_X2_told ⟨Nat.le_of_ble_eq_true rfl, Nat.le_of_ble_eq_true rfl⟩ rfl rfl (Nat.le_of_ble_eq_true rfl) dX10_mean_40) (fun r40 => ?_)
        exact r_lret B dX10_mean_43 rfl
    · refine r_sub [] rfl ?_
      exact hj18
set_option maxRecDepth 20000 in
theorem k_X10_mean {l : Launch} {D : va_G} {g : zGx} (hz : zin (WX g)) {S : zSt} {a1 : Int32} {a2 : Int32} {b : Int64} (h : F_X10_mean S a1 a2 = some b) : zMet l D (WX g) (zT g) yX10_mean wsX10_mean rm_X10_mean S [.ref (g.1 0), .int a1, .int a2] ((eL S) b) := zmet_of (by decide +kernel) rfl hz (Nat.le_of_ble_eq_true rfl) rfl (fun E _ _ hE B => x_X10_mean B hE S a1 a2) h
abbrev rm_X10_fewer : Room := { frames := 4, cells := 0, slots := 0, locals := 86 }
theorem y_X10_fewer : yX10_fewer.cls = RX10 ∧ yX10_fewer.cls ≠ "java/lang/invoke/MethodHandle" ∧ yX10_fewer.cls ≠ "java/lang/invoke/VarHandle" ∧ (parseMethodDescriptor yX10_fewer.desc).map (fun d => d.parameters.length) = some 0 := by decide +kernel
theorem m_X10_fewer_f54 : Cond.fieldLink RX10 54 "LongestMet" "circle" "LLongestMet$Circle;" ∈ wsX10_fewer := List.mem_cons_of_mem _ (List.mem_append_left _ (List.mem_append_left _ (List.mem_append_left _ (List.mem_of_getElem? (i := 0) rfl))))
theorem m_X10_fewer_inX10 : ∀ x ∈ u_ws RX10 TX10 9, x ∈ wsX10_fewer := fun _ h => List.mem_cons_of_mem _ (List.mem_append_left _ (List.mem_append_right _ h))
set_option maxRecDepth 100000 in
set_option maxHeartbeats 4000000 in
theorem x_X10_fewer {E : zCx} {g : zGx} (B : zGood E (WX g) (zT g) cX10_fewer RX10 wsX10_fewer (some .int) rm_X10_fewer) (hE : E.2.2 = 1) (S : zSt) : Xo E (WX g) (eI S) S 0 [(0, .ref (g.1 0))] [] (F_X10_fewer S) := by
  unfold F_X10_fewer
  refine r_aload_n B 0 dX10_fewer_0 rfl rfl ?_
  refine r_get B 0 9 6 (Nat.le_of_ble_eq_true rfl) rfl (cX_0 g _) rfl m_X10_fewer_inX10 (Nat.le_of_ble_eq_true rfl) m_X10_fewer_f54 rfl dX10_fewer_1 ?_
  refine r_cI (zrunV (As := []) (rest := []) B 0 7 (fun b hb => k_X0_withFewer B.2.2.1 hb) gX10_fewer_X0_withFewer rfl rfl rfl y_X0_withFewer ⟨Nat.le_of_ble_eq_true rfl, Nat.le_of_ble_eq_true rfl⟩ (Nat.le_of_ble_eq_true rfl) rfl (cX_7 g _) rfl rfl rfl (Nat.le_of_ble_eq_true rfl) dX10_fewer_4) (fun r4 => ?_)
  exact r_iret B dX10_fewer_7 rfl
set_option maxRecDepth 20000 in
theorem k_X10_fewer {l : Launch} {D : va_G} {g : zGx} (hz : zin (WX g)) {S : zSt} {b : Int32} (h : F_X10_fewer S = some b) : zMet l D (WX g) (zT g) yX10_fewer wsX10_fewer rm_X10_fewer S [.ref (g.1 0)] ((eI S) b) := zmet_of (by decide +kernel) rfl hz (Nat.le_of_ble_eq_true rfl) rfl (fun E _ _ hE B => x_X10_fewer B hE S) h
abbrev rm_X10_picked : Room := { frames := 3, cells := 0, slots := 0, locals := 64 }
theorem y_X10_picked : yX10_picked.cls = RX10 ∧ yX10_picked.cls ≠ "java/lang/invoke/MethodHandle" ∧ yX10_picked.cls ≠ "java/lang/invoke/VarHandle" ∧ (parseMethodDescriptor yX10_picked.desc).map (fun d => d.parameters.length) = some 2 := by decide +kernel
theorem m_X10_picked_f54 : Cond.fieldLink RX10 54 "LongestMet" "circle" "LLongestMet$Circle;" ∈ wsX10_picked := List.mem_cons_of_mem _ (List.mem_append_left _ (List.mem_append_left _ (List.mem_append_left _ (List.mem_of_getElem? (i := 0) rfl))))
theorem m_X10_picked_inX10 : ∀ x ∈ u_ws RX10 TX10 9, x ∈ wsX10_picked := fun _ h => List.mem_cons_of_mem _ (List.mem_append_left _ (List.mem_append_right _ h))
theorem m_X10_picked_c251 : Cond.constantLong RX10 251 (3360) ∈ wsX10_picked := List.mem_cons_of_mem _ (List.mem_append_left _ (List.mem_append_left _ (List.mem_append_left _ (List.mem_of_getElem? (i := 1) rfl))))
set_option maxRecDepth 100000 in
set_option maxHeartbeats 4000000 in
theorem x_X10_picked {E : zCx} {g : zGx} (B : zGood E (WX g) (zT g) cX10_picked RX10 wsX10_picked (some .long) rm_X10_picked) (hE : E.2.2 = 3) (S : zSt) (a1 : Int32) (a2 : Int32) : Xo E (WX g) (eL S) S 0 [(0, .ref (g.1 0)), (1, .int a1), (2, .int a2)] [] (F_X10_picked S a1 a2) := by
  unfold F_X10_picked
  refine r_iload_n B 1 dX10_picked_0 rfl rfl ?_
  refine r_iconst B (0 : Int32) dX10_picked_1 (by decide) ?_
  refine r_bipush B (7 : Int32) dX10_picked_2 (by decide) ?_
  refine r_cI (zrunS (As := [.int a1, .int (0 : Int32), .int (7 : Int32)]) (rest := []) B 3 (fun b hb => k_X10_outside B.2.2.1 hb) gX10_picked_X10_outside rfl rfl rfl y_X10_outside ⟨Nat.le_of_ble_eq_true rfl, Nat.le_of_ble_eq_true rfl⟩ rfl rfl (Nat.le_of_ble_eq_true rfl) dX10_picked_4) (fun r4 => ?_)
  refine r_jn2 (P := fun j19 : Option Int64 => Xo E (WX g) (eL S) S 19 [] [] (j19)) ?_ (fun j19 hj19 => ?_)
  · refine r_bipush B (-2 : Int32) dX10_picked_19 (by decide) ?_
    refine r_cL (zrunS (As := [.int (-2 : Int32)]) (rest := []) B 1 (fun b hb => k_X2_refused B.2.2.1 hb) gX10_picked_X2_refused rfl rfl rfl y_X2_refused ⟨Nat.le_of_ble_eq_true rfl, Nat.le_of_ble_eq_true rfl⟩ rfl rfl (Nat.le_of_ble_eq_true rfl) dX10_picked_21) (fun r21 => ?_)
    exact r_lret B dX10_picked_24 rfl
  refine r_if_ne B 19 dX10_picked_7 (by decide) (fun _ => ?_) (fun _ => ?_)
  · refine r_sub [] rfl ?_
    exact hj19
  · refine r_iload_n B 2 dX10_picked_10 rfl rfl ?_
    refine r_iconst B (0 : Int32) dX10_picked_11 (by decide) ?_
    refine r_iconst B (1 : Int32) dX10_picked_12 (by decide) ?_
    refine r_cI (zrunS (As := [.int a2, .int (0 : Int32), .int (1 : Int32)]) (rest := []) B 3 (fun b hb => k_X10_outside B.2.2.1 hb) gX10_picked_X10_outside rfl rfl rfl y_X10_outside ⟨Nat.le_of_ble_eq_true rfl, Nat.le_of_ble_eq_true rfl⟩ rfl rfl (Nat.le_of_ble_eq_true rfl) dX10_picked_13) (fun r13 => ?_)
    refine r_if_eq B 25 dX10_picked_16 (by decide) (fun _ => ?_) (fun _ => ?_)
    · refine r_aload_n B 0 dX10_picked_25 rfl rfl ?_
      refine r_get B 0 9 6 (Nat.le_of_ble_eq_true rfl) rfl (cX_0 g _) rfl m_X10_picked_inX10 (Nat.le_of_ble_eq_true rfl) m_X10_picked_f54 rfl dX10_picked_26 ?_
      refine r_iload_n B 1 dX10_picked_29 rfl rfl ?_
      refine r_cI (zrunV (As := [.int a1]) (rest := []) B 1 7 (fun b hb => k_X0_pickedParts B.2.2.1 hb) gX10_picked_X0_pickedParts rfl rfl rfl y_X0_pickedParts ⟨Nat.le_of_ble_eq_true rfl, Nat.le_of_ble_eq_true rfl⟩ (Nat.le_of_ble_eq_true rfl) rfl (cX_7 g _) rfl rfl rfl (Nat.le_of_ble_eq_true rfl) dX10_picked_30) (fun r30 => ?_)
      refine r_i2l B dX10_picked_33 ?_
      refine r_ldc2 B (3360 : Int64) m_X10_picked_c251 dX10_picked_34 ?_
      refine r_iload_n B 2 dX10_picked_37 rfl rfl ?_
      refine r_cL (zrunS (As := [.long (r30.toInt64), .long (3360 : Int64), .int a2]) (rest := []) B 3 (fun b hb => k_X2_told B.2.2.1 hb) gX10_picked_X2_told rfl rfl rfl y_X2_told ⟨Nat.le_of_ble_eq_true rfl, Nat.le_of_ble_eq_true rfl⟩ rfl rfl (Nat.le_of_ble_eq_true rfl) dX10_picked_38) (fun r38 => ?_)
      exact r_lret B dX10_picked_41 rfl
    · refine r_sub [] rfl ?_
      exact hj19
set_option maxRecDepth 20000 in
theorem k_X10_picked {l : Launch} {D : va_G} {g : zGx} (hz : zin (WX g)) {S : zSt} {a1 : Int32} {a2 : Int32} {b : Int64} (h : F_X10_picked S a1 a2 = some b) : zMet l D (WX g) (zT g) yX10_picked wsX10_picked rm_X10_picked S [.ref (g.1 0), .int a1, .int a2] ((eL S) b) := zmet_of (by decide +kernel) rfl hz (Nat.le_of_ble_eq_true rfl) rfl (fun E _ _ hE B => x_X10_picked B hE S a1 a2) h
abbrev rm_X10_best : Room := { frames := 4, cells := 0, slots := 0, locals := 88 }
theorem y_X10_best : yX10_best.cls = RX10 ∧ yX10_best.cls ≠ "java/lang/invoke/MethodHandle" ∧ yX10_best.cls ≠ "java/lang/invoke/VarHandle" ∧ (parseMethodDescriptor yX10_best.desc).map (fun d => d.parameters.length) = some 2 := by decide +kernel
theorem m_X10_best_f54 : Cond.fieldLink RX10 54 "LongestMet" "circle" "LLongestMet$Circle;" ∈ wsX10_best := List.mem_cons_of_mem _ (List.mem_append_left _ (List.mem_append_left _ (List.mem_append_left _ (List.mem_of_getElem? (i := 0) rfl))))
theorem m_X10_best_inX10 : ∀ x ∈ u_ws RX10 TX10 9, x ∈ wsX10_best := fun _ h => List.mem_cons_of_mem _ (List.mem_append_left _ (List.mem_append_right _ h))
set_option maxRecDepth 100000 in
set_option maxHeartbeats 4000000 in
theorem x_X10_best {E : zCx} {g : zGx} (B : zGood E (WX g) (zT g) cX10_best RX10 wsX10_best (some .int) rm_X10_best) (hE : E.2.2 = 4) (S : zSt) (a1 : Int32) (a2 : Int32) : Xo E (WX g) (eI S) S 0 [(0, .ref (g.1 0)), (1, .int a1), (2, .int a2)] [] (F_X10_best S a1 a2) := by
  have n3 : 3 < E.2.2 := by rw [hE]; decide
  unfold F_X10_best
  refine r_iload_n B 1 dX10_best_0 rfl rfl ?_
  refine r_iconst B (1 : Int32) dX10_best_1 (by decide) ?_
  refine r_bipush B (8 : Int32) dX10_best_2 (by decide) ?_
  refine r_cI (zrunS (As := [.int a1, .int (1 : Int32), .int (8 : Int32)]) (rest := []) B 3 (fun b hb => k_X10_outside B.2.2.1 hb) gX10_best_X10_outside rfl rfl rfl y_X10_outside ⟨Nat.le_of_ble_eq_true rfl, Nat.le_of_ble_eq_true rfl⟩ rfl rfl (Nat.le_of_ble_eq_true rfl) dX10_best_4) (fun r4 => ?_)
  refine r_if_ne B 19 dX10_best_7 (by decide) (fun _ => ?_) (fun _ => ?_)
  · refine r_bipush B (-2 : Int32) dX10_best_19 (by decide) ?_
    exact r_iret B dX10_best_21 rfl
  · refine r_iload_n B 2 dX10_best_10 rfl rfl ?_
    refine r_iconst B (0 : Int32) dX10_best_11 (by decide) ?_
    refine r_iconst B (1 : Int32) dX10_best_12 (by decide) ?_
    refine r_cI (zrunS (As := [.int a2, .int (0 : Int32), .int (1 : Int32)]) (rest := []) B 3 (fun b hb => k_X10_outside B.2.2.1 hb) gX10_best_X10_outside rfl rfl rfl y_X10_outside ⟨Nat.le_of_ble_eq_true rfl, Nat.le_of_ble_eq_true rfl⟩ rfl rfl (Nat.le_of_ble_eq_true rfl) dX10_best_13) (fun r13 => ?_)
    refine r_if_eq B 22 dX10_best_16 (by decide) (fun _ => ?_) (fun _ => ?_)
    · refine r_aload_n B 0 dX10_best_22 rfl rfl ?_
      refine r_get B 0 9 6 (Nat.le_of_ble_eq_true rfl) rfl (cX_0 g _) rfl m_X10_best_inX10 (Nat.le_of_ble_eq_true rfl) m_X10_best_f54 rfl dX10_best_23 ?_
      refine r_iload_n B 1 dX10_best_26 rfl rfl ?_
      refine r_cI (zrunV (As := [.int a1]) (rest := []) B 1 7 (fun b hb => k_X0_bestGroup B.2.2.1 hb) gX10_best_X0_bestGroup rfl rfl rfl y_X0_bestGroup ⟨Nat.le_of_ble_eq_true rfl, Nat.le_of_ble_eq_true rfl⟩ (Nat.le_of_ble_eq_true rfl) rfl (cX_7 g _) rfl rfl rfl (Nat.le_of_ble_eq_true rfl) dX10_best_27) (fun r27 => ?_)
      refine r_istore_n (lv' := fun x3_30 => [(3, .int x3_30), (0, .ref (g.1 0)), (1, .int a1), (2, .int a2)]) B dX10_best_30 rfl n3 (fun _ => rfl) (fun x3_30 => ?_)
      refine r_iload_n B 3 dX10_best_31 rfl rfl ?_
      refine r_if_ne B 39 dX10_best_32 (by decide) (fun _ => ?_) (fun _ => ?_)
      · refine r_aload_n B 1 dX10_best_39 rfl rfl ?_
        refine r_get B 0 9 6 (Nat.le_of_ble_eq_true rfl) rfl (cX_0 g _) rfl m_X10_best_inX10 (Nat.le_of_ble_eq_true rfl) m_X10_best_f54 rfl dX10_best_40 ?_
        refine r_iload_n B 0 dX10_best_43 rfl rfl ?_
        refine r_cI (zrunV (As := [.int x3_30]) (rest := []) B 1 7 (fun b hb => k_X0_friendshipsOf B.2.2.1 hb) gX10_best_X0_friendshipsOf rfl rfl rfl y_X0_friendshipsOf ⟨Nat.le_of_ble_eq_true rfl, Nat.le_of_ble_eq_true rfl⟩ (Nat.le_of_ble_eq_true rfl) rfl (cX_7 g _) rfl rfl rfl (Nat.le_of_ble_eq_true rfl) dX10_best_44) (fun r44 => ?_)
        exact r_iret B dX10_best_47 rfl
      · refine r_iload_n B 0 dX10_best_35 rfl rfl ?_
        refine r_goto B 47 dX10_best_36 (by decide) ?_
        exact r_iret B dX10_best_47 rfl
    · refine r_bipush B (-2 : Int32) dX10_best_19 (by decide) ?_
      exact r_iret B dX10_best_21 rfl
set_option maxRecDepth 20000 in
theorem k_X10_best {l : Launch} {D : va_G} {g : zGx} (hz : zin (WX g)) {S : zSt} {a1 : Int32} {a2 : Int32} {b : Int32} (h : F_X10_best S a1 a2 = some b) : zMet l D (WX g) (zT g) yX10_best wsX10_best rm_X10_best S [.ref (g.1 0), .int a1, .int a2] ((eI S) b) := zmet_of (by decide +kernel) rfl hz (Nat.le_of_ble_eq_true rfl) rfl (fun E _ _ hE B => x_X10_best B hE S a1 a2) h
