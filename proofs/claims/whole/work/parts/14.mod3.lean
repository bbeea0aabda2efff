set_option maxRecDepth 100000 in
def L_X11_meanNow_11 (S : zSt) (a1 : Int32) (a2 : Int32) (k : Int32 → Int32 → Int32 → Option Int64) : Nat → Int32 → Int32 → Int32 → Int32 → Option Int64
  | 0, _, _, _, _ => none
  | n + 1, v3_11, v4_11, v5_11, v6_11 =>
    (if (8 : Int32) ≤ v6_11 then (k v3_11 v4_11 v5_11) else
 (ibd v6_11 8 ((F_X11_ones (zA S 13 v6_11.toNatClampNeg)).bind (fun r25 : Int32 =>
 lt r25 (fun x7_28 : Int32 =>
 lt (v3_11 + x7_28) (fun x3_34 : Int32 =>
 lt (v4_11 + (x7_28 * x7_28)) (fun x4_43 : Int32 =>
 (F_X11_pickedParts S v6_11).bind (fun r52 : Int32 =>
 lt (v5_11 + (x7_28 * r52)) (fun x5_57 : Int32 =>
 lt (v6_11 + (1 : Int32)) (fun x6_59 : Int32 =>
 L_X11_meanNow_11 S a1 a2 k n x3_34 x4_43 x5_57 x6_59))))))))))
set_option maxRecDepth 100000 in
def F_X11_meanNow (S : zSt) (a1 : Int32) (a2 : Int32) : Option Int64 :=
 lt (0 : Int32) (fun x3_1 : Int32 =>
 lt (0 : Int32) (fun x4_3 : Int32 =>
 lt (0 : Int32) (fun x5_6 : Int32 =>
 lt (0 : Int32) (fun x6_9 : Int32 =>
 L_X11_meanNow_11 S a1 a2 (fun (w3_11 : Int32) (w4_11 : Int32) (w5_11 : Int32) =>
 if a1 = (1 : Int32) then (if w3_11 = 0 then ((F_X11_no (-3 : Int32)).bind (fun r76 : Int64 =>
 some r76)) else
 ((F_X11_lowest (w4_11.toInt64) (w3_11.toInt64) a2).bind (fun r88 : Int64 =>
 some r88))) else
 (if a1 = 0 then ((F_X11_lowest (w3_11.toInt64) (8 : Int64) a2).bind (fun r102 : Int64 =>
 some r102)) else
 ((F_X11_lowest (w5_11.toInt64) (3360 : Int64) a2).bind (fun r115 : Int64 =>
 some r115)))) 1000 x3_1 x4_3 x5_6 x6_9))))
set_option maxRecDepth 100000 in
def F_X11_mean (S : zSt) (a1 : Int32) (a2 : Int32) : Option Int64 :=
 (F_X11_in a1 (0 : Int32) (2 : Int32)).bind (fun r3 : Int32 =>
 jn ((F_X11_no (-2 : Int32)).bind (fun r29 : Int64 =>
 some r29)) (fun j27 : Option Int64 =>
 if r3 = 0 then (j27) else
 ((F_X11_in a2 (0 : Int32) (1 : Int32)).bind (fun r12 : Int32 =>
 if r12 = 0 then (j27) else
 ((F_X11_meanNow S a1 a2).bind (fun r21 : Int64 =>
 some r21))))))
set_option maxRecDepth 100000 in
def L_X11_fewerNow_26 (S : zSt) (v1_4 : Int32) (v2_4 : Int32) (x3_19 : Int32) (k : Int32 → Option Int32) : Nat → Int32 → Int32 → Option Int32
  | 0, _, _ => none
  | n + 1, v4_26, v5_26 =>
    (if (8 : Int32) ≤ v5_26 then (k v4_26) else
 (ibd v2_4 8 ((F_X11_has (zA S 13 v2_4.toNatClampNeg) v5_26).bind (fun r43 : Int32 =>
 if r43 = 0 then (lt (v4_26 + (0 : Int32)) (fun x4_64 : Int32 =>
 lt (v5_26 + (1 : Int32)) (fun x5_66 : Int32 =>
 L_X11_fewerNow_26 S v1_4 v2_4 x3_19 k n x4_64 x5_66))) else
 (ibd v5_26 8 ((F_X11_ones (zA S 13 v5_26.toNatClampNeg)).bind (fun r56 : Int32 =>
 lt (v4_26 + r56) (fun x4_64 : Int32 =>
 lt (v5_26 + (1 : Int32)) (fun x5_66 : Int32 =>
 L_X11_fewerNow_26 S v1_4 v2_4 x3_19 k n x4_64 x5_66)))))))))
set_option maxRecDepth 100000 in
def L_X11_fewerNow_4 (S : zSt) (k : Int32 → Option Int32) : Nat → Int32 → Int32 → Option Int32
  | 0, _, _ => none
  | n + 1, v1_4, v2_4 =>
    (if (8 : Int32) ≤ v2_4 then (k v1_4) else
 (ibd v2_4 8 ((F_X11_ones (zA S 13 v2_4.toNatClampNeg)).bind (fun r16 : Int32 =>
 lt r16 (fun x3_19 : Int32 =>
 lt (0 : Int32) (fun x4_21 : Int32 =>
 lt (0 : Int32) (fun x5_24 : Int32 =>
 L_X11_fewerNow_26 S v1_4 v2_4 x3_19 (fun (w4_26 : Int32) =>
 if w4_26 ≤ (x3_19 * x3_19) then (lt (v1_4 ||| (0 : Int32)) (fun x1_89 : Int32 =>
 lt (v2_4 + (1 : Int32)) (fun x2_90 : Int32 =>
 L_X11_fewerNow_4 S k n x1_89 x2_90))) else
 (lt (v1_4 ||| ((1 : Int32) <<< (v2_4 &&& 31))) (fun x1_89 : Int32 =>
 lt (v2_4 + (1 : Int32)) (fun x2_90 : Int32 =>
 L_X11_fewerNow_4 S k n x1_89 x2_90)))) 1000 x4_21 x5_24)))))))
set_option maxRecDepth 100000 in
def F_X11_fewerNow (S : zSt) : Option Int32 :=
 lt (0 : Int32) (fun x1_1 : Int32 =>
 lt (0 : Int32) (fun x2_3 : Int32 =>
 L_X11_fewerNow_4 S (fun (w1_4 : Int32) =>
 some w1_4) 1000 x1_1 x2_3))
set_option maxRecDepth 100000 in
def F_X11_fewer (S : zSt) : Option Int32 :=
 (F_X11_fewerNow S).bind (fun r1 : Int32 =>
 some r1)
set_option maxRecDepth 100000 in
def F_X11_picked (S : zSt) (a1 : Int32) (a2 : Int32) : Option Int64 :=
 (F_X11_in a1 (0 : Int32) (7 : Int32)).bind (fun r4 : Int32 =>
 jn ((F_X11_no (-2 : Int32)).bind (fun r37 : Int64 =>
 some r37)) (fun j35 : Option Int64 =>
 if r4 = 0 then (j35) else
 ((F_X11_in a2 (0 : Int32) (1 : Int32)).bind (fun r13 : Int32 =>
 if r13 = 0 then (j35) else
 ((F_X11_pickedParts S a1).bind (fun r21 : Int32 =>
 (F_X11_lowest (r21.toInt64) (3360 : Int64) a2).bind (fun r29 : Int64 =>
 some r29)))))))
set_option maxRecDepth 100000 in
def L_X11_bestNow_32 (S : zSt) (a1 : Int32) (a2 : Int32) (v3_8 : Int32) (v4_8 : Int32) (v5_8 : Int32) (v7_22 : Int32) (k : Int32 → Option Int32) : Nat → Int32 → Int32 → Option Int32
  | 0, _, _ => none
  | n + 1, v6_32, v8_32 =>
    (if v7_22 ≤ v8_32 then (k v6_32) else
 (ibd v7_22 8 ((F_X11_has (zA S 13 v7_22.toNatClampNeg) v8_32).bind (fun r50 : Int32 =>
 if r50 = 0 then (lt (v6_32 + (0 : Int32)) (fun x6_82 : Int32 =>
 lt (v8_32 + (1 : Int32)) (fun x8_84 : Int32 =>
 L_X11_bestNow_32 S a1 a2 v3_8 v4_8 v5_8 v7_22 k n x6_82 x8_84))) else
 ((F_X11_has v5_8 v7_22).bind (fun r60 : Int32 =>
 if r60 = 0 then ((F_X11_has v5_8 v8_32).bind (fun r70 : Int32 =>
 if r70 = 0 then (lt (v6_32 + (0 : Int32)) (fun x6_82 : Int32 =>
 lt (v8_32 + (1 : Int32)) (fun x8_84 : Int32 =>
 L_X11_bestNow_32 S a1 a2 v3_8 v4_8 v5_8 v7_22 k n x6_82 x8_84))) else
 (lt (v6_32 + (1 : Int32)) (fun x6_82 : Int32 =>
 lt (v8_32 + (1 : Int32)) (fun x8_84 : Int32 =>
 L_X11_bestNow_32 S a1 a2 v3_8 v4_8 v5_8 v7_22 k n x6_82 x8_84))))) else
 (lt (v6_32 + (1 : Int32)) (fun x6_82 : Int32 =>
 lt (v8_32 + (1 : Int32)) (fun x8_84 : Int32 =>
 L_X11_bestNow_32 S a1 a2 v3_8 v4_8 v5_8 v7_22 k n x6_82 x8_84)))))))))
set_option maxRecDepth 100000 in
def L_X11_bestNow_22 (S : zSt) (a1 : Int32) (a2 : Int32) (v3_8 : Int32) (v4_8 : Int32) (v5_8 : Int32) (k : Int32 → Option Int32) : Nat → Int32 → Int32 → Option Int32
  | 0, _, _ => none
  | n + 1, v6_22, v7_22 =>
    (if (8 : Int32) ≤ v7_22 then (k v6_22) else
 (lt (0 : Int32) (fun x8_30 : Int32 =>
 L_X11_bestNow_32 S a1 a2 v3_8 v4_8 v5_8 v7_22 (fun (w6_32 : Int32) =>
 lt (v7_22 + (1 : Int32)) (fun x7_90 : Int32 =>
 L_X11_bestNow_22 S a1 a2 v3_8 v4_8 v5_8 k n w6_32 x7_90)) 1000 v6_22 x8_30)))
set_option maxRecDepth 100000 in
def L_X11_bestNow_8 (S : zSt) (a1 : Int32) (a2 : Int32) (k : Int32 → Int32 → Option Int32) : Nat → Int32 → Int32 → Int32 → Option Int32
  | 0, _, _, _ => none
  | n + 1, v3_8, v4_8, v5_8 =>
    (if (256 : Int32) ≤ v5_8 then (k v3_8 v4_8) else
 (lt (0 : Int32) (fun x6_17 : Int32 =>
 lt (0 : Int32) (fun x7_20 : Int32 =>
 L_X11_bestNow_22 S a1 a2 v3_8 v4_8 v5_8 (fun (w6_22 : Int32) =>
 (F_X11_ones v5_8).bind (fun r98 : Int32 =>
 if r98 = a1 then (if w6_22 ≤ v4_8 then (lt (v5_8 + (1 : Int32)) (fun x5_119 : Int32 =>
 L_X11_bestNow_8 S a1 a2 k n v3_8 v4_8 x5_119)) else
 (lt v5_8 (fun x3_114 : Int32 =>
 lt w6_22 (fun x4_117 : Int32 =>
 lt (v5_8 + (1 : Int32)) (fun x5_119 : Int32 =>
 L_X11_bestNow_8 S a1 a2 k n x3_114 x4_117 x5_119))))) else
 (lt (v5_8 + (1 : Int32)) (fun x5_119 : Int32 =>
 L_X11_bestNow_8 S a1 a2 k n v3_8 v4_8 x5_119)))) 1000 x6_17 x7_20))))
set_option maxRecDepth 100000 in
def F_X11_bestNow (S : zSt) (a1 : Int32) (a2 : Int32) : Option Int32 :=
 lt (0 : Int32) (fun x3_1 : Int32 =>
 lt (-1 : Int32) (fun x4_3 : Int32 =>
 lt (0 : Int32) (fun x5_6 : Int32 =>
 L_X11_bestNow_8 S a1 a2 (fun (w3_8 : Int32) (w4_8 : Int32) =>
 if a2 = 0 then (some w3_8) else
 (some w4_8)) 1000 x3_1 x4_3 x5_6)))
set_option maxRecDepth 100000 in
def F_X11_best (S : zSt) (a1 : Int32) (a2 : Int32) : Option Int32 :=
 (F_X11_in a1 (1 : Int32) (8 : Int32)).bind (fun r4 : Int32 =>
 if r4 = 0 then (some (-2 : Int32)) else
 ((F_X11_in a2 (0 : Int32) (1 : Int32)).bind (fun r13 : Int32 =>
 if r13 = 0 then (some (-2 : Int32)) else
 ((F_X11_bestNow S a1 a2).bind (fun r22 : Int32 =>
 some r22)))))
set_option maxRecDepth 100000 in
def F_X11_piece (S : zSt) (a1 : Int32) : Option (Int32 × zSt) :=
 (F_X11_in a1 (1 : Int32) (20 : Int32)).bind (fun r4 : Int32 =>
 if r4 = 0 then (some ((-2 : Int32), S)) else
 (if (zI S 6) = (8 : Int32) then (some ((-4 : Int32), S)) else
 (ibd (zI S 6) 8 (lt (sA S 14 (upd (zA S 14) (zI S 6).toNatClampNeg a1)) (fun S34 : zSt =>
 lt (sI S34 6 ((zI S34 6) + (1 : Int32))) (fun S42 : zSt =>
 some ((zI S42 6), S42)))))))
set_option maxRecDepth 100000 in
def F_X11_snap (S : zSt) : Option (Int32 × zSt) :=
 lt (zI S 6) (fun x1_4 : Int32 =>
 lt (sI S 6 (0 : Int32)) (fun S7 : zSt =>
 some (x1_4, S7)))
set_option maxRecDepth 100000 in
def L_X11_whole_4 (S : zSt) (k : Int32 → Option Int32) : Nat → Int32 → Int32 → Option Int32
  | 0, _, _ => none
  | n + 1, v1_4, v2_4 =>
    (if (zI S 6) ≤ v2_4 then (k v1_4) else
 (ibd v2_4 8 (lt (v1_4 + (zA S 14 v2_4.toNatClampNeg)) (fun x1_20 : Int32 =>
 lt (v2_4 + (1 : Int32)) (fun x2_21 : Int32 =>
 L_X11_whole_4 S k n x1_20 x2_21)))))
set_option maxRecDepth 100000 in
def F_X11_whole (S : zSt) : Option Int32 :=
 lt (0 : Int32) (fun x1_1 : Int32 =>
 lt (0 : Int32) (fun x2_3 : Int32 =>
 L_X11_whole_4 S (fun (w1_4 : Int32) =>
 some w1_4) 1000 x1_1 x2_3))
set_option maxRecDepth 100000 in
def L_X11_power_5 (a0 : Int32) (a1 : Int32) (k : Int64 → Option Int64) : Nat → Int64 → Int32 → Option Int64
  | 0, _, _ => none
  | n + 1, v2_5, v4_5 =>
    (if a1 ≤ v4_5 then (k v2_5) else
 (lt (v2_5 * (a0.toInt64)) (fun x2_15 : Int64 =>
 lt (v4_5 + (1 : Int32)) (fun x4_16 : Int32 =>
 L_X11_power_5 a0 a1 k n x2_15 x4_16))))
set_option maxRecDepth 100000 in
def F_X11_power (a0 : Int32) (a1 : Int32) : Option Int64 :=
 lt (1 : Int64) (fun x2_1 : Int64 =>
 lt (0 : Int32) (fun x4_3 : Int32 =>
 L_X11_power_5 a0 a1 (fun (w2_5 : Int64) =>
 some w2_5) 1000 x2_1 x4_3))
set_option maxRecDepth 100000 in
def F_X11_hit (S : zSt) (a1 : Int32) (a2 : Int32) (a3 : Int32) : Option Int64 :=
 (F_X11_in a1 (0 : Int32) ((zI S 6) - (1 : Int32))).bind (fun r8 : Int32 =>
 jn ((F_X11_no (-2 : Int32)).bind (fun r34 : Int64 =>
 some r34)) (fun j32 : Option Int64 =>
 if r8 = 0 then (j32) else
 ((F_X11_in a2 (1 : Int32) (5 : Int32)).bind (fun r17 : Int32 =>
 if r17 = 0 then (j32) else
 ((F_X11_in a3 (0 : Int32) (1 : Int32)).bind (fun r26 : Int32 =>
 if r26 = 0 then (j32) else
 ((F_X11_whole S).bind (fun r39 : Int32 =>
 (F_X11_power r39 a2).bind (fun r43 : Int64 =>
 lt r43 (fun x4_46 : Int64 =>
 (F_X11_whole S).bind (fun r51 : Int32 =>
 ibd a1 8 ((F_X11_power (r51 - (zA S 14 a1.toNatClampNeg)) a2).bind (fun r62 : Int64 =>
 (F_X11_lowest (x4_46 - r62) x4_46 a3).bind (fun r69 : Int64 =>
 some r69))))))))))))))
set_option maxRecDepth 100000 in
def L_X11_stickNow_158 (S : zSt) (a2 : Int32) (a3 : Int32) (x4_17 : Int32) (v5_140 : Int64) (v7_140 : Int32) (k : Int32 → Option Int64) : Nat → Int32 → Int32 → Option Int64
  | 0, _, _ => none
  | n + 1, v8_158, v9_158 =>
    (if (zI S 6) ≤ v9_158 then (k v8_158) else
 ((F_X11_has v7_140 v9_158).bind (fun r173 : Int32 =>
 if r173 = 0 then (lt (v8_158 - (0 : Int32)) (fun x8_191 : Int32 =>
 lt (v9_158 + (1 : Int32)) (fun x9_193 : Int32 =>
 L_X11_stickNow_158 S a2 a3 x4_17 v5_140 v7_140 k n x8_191 x9_193))) else
 (ibd v9_158 8 (lt (v8_158 - (zA S 14 v9_158.toNatClampNeg)) (fun x8_191 : Int32 =>
 lt (v9_158 + (1 : Int32)) (fun x9_193 : Int32 =>
 L_X11_stickNow_158 S a2 a3 x4_17 v5_140 v7_140 k n x8_191 x9_193)))))))
set_option maxRecDepth 100000 in
def L_X11_stickNow_140 (S : zSt) (a2 : Int32) (a3 : Int32) (x4_17 : Int32) (k : Int64 → Option Int64) : Nat → Int64 → Int32 → Option Int64
  | 0, _, _ => none
  | n + 1, v5_140, v7_140 =>
    (if ((1 : Int32) <<< ((zI S 6) &&& 31)) ≤ v7_140 then (k v5_140) else
 (lt x4_17 (fun x8_153 : Int32 =>
 lt (0 : Int32) (fun x9_156 : Int32 =>
 L_X11_stickNow_158 S a2 a3 x4_17 v5_140 v7_140 (fun (w8_158 : Int32) =>
 (F_X11_ones v7_140).bind (fun r203 : Int32 =>
 nz (2 : Int32) (if (r203 - r203 / (2 : Int32) * (2 : Int32)) = 0 then ((F_X11_power w8_158 a2).bind (fun r214 : Int64 =>
 lt (v5_140 + r214) (fun x5_228 : Int64 =>
 lt (v7_140 + (1 : Int32)) (fun x7_230 : Int32 =>
 L_X11_stickNow_140 S a2 a3 x4_17 k n x5_228 x7_230)))) else
 ((F_X11_power w8_158 a2).bind (fun r223 : Int64 =>
 lt (v5_140 + (-r223)) (fun x5_228 : Int64 =>
 lt (v7_140 + (1 : Int32)) (fun x7_230 : Int32 =>
 L_X11_stickNow_140 S a2 a3 x4_17 k n x5_228 x7_230))))))) 1000 x8_153 x9_156))))
set_option maxRecDepth 100000 in
def L_X11_stickNow_83 (S : zSt) (a2 : Int32) (a3 : Int32) (x4_17 : Int32) (k : Int64 → Option Int64) : Nat → Int64 → Int32 → Option Int64
  | 0, _, _ => none
  | n + 1, v5_83, v7_83 =>
    (if (zI S 6) ≤ v7_83 then (k v5_83) else
 ((F_X11_power x4_17 a2).bind (fun r97 : Int64 =>
 ibd v7_83 8 ((F_X11_power (x4_17 - (zA S 14 v7_83.toNatClampNeg)) a2).bind (fun r111 : Int64 =>
 lt (v5_83 + (r97 - r111)) (fun x5_116 : Int64 =>
 lt (v7_83 + (1 : Int32)) (fun x7_118 : Int32 =>
 L_X11_stickNow_83 S a2 a3 x4_17 k n x5_116 x7_118)))))))
set_option maxRecDepth 100000 in
def L_X11_stickNow_29 (S : zSt) (a3 : Int32) (x4_17 : Int32) (k : Int64 → Option Int64) : Nat → Int64 → Int32 → Option Int64
  | 0, _, _ => none
  | n + 1, v5_29, v7_29 =>
    (if (zI S 6) ≤ v7_29 then (k v5_29) else
 (ibd v7_29 8 (ibd v7_29 8 (lt (v5_29 + (((zA S 14 v7_29.toNatClampNeg) * (zA S 14 v7_29.toNatClampNeg)).toInt64)) (fun x5_57 : Int64 =>
 lt (v7_29 + (1 : Int32)) (fun x7_59 : Int32 =>
 L_X11_stickNow_29 S a3 x4_17 k n x5_57 x7_59))))))
set_option maxRecDepth 100000 in
def F_X11_stickNow (S : zSt) (a1 : Int32) (a2 : Int32) (a3 : Int32) : Option Int64 :=
 if (zI S 6) = 0 then ((F_X11_no (-3 : Int32)).bind (fun r9 : Int64 =>
 some r9)) else
 ((F_X11_whole S).bind (fun r14 : Int32 =>
 lt r14 (fun x4_17 : Int32 =>
 lt (0 : Int64) (fun x5_20 : Int64 =>
 if a1 = 0 then (lt (0 : Int32) (fun x7_27 : Int32 =>
 L_X11_stickNow_29 S a3 x4_17 (fun (w5_29 : Int64) =>
 (F_X11_lowest w5_29 (x4_17.toInt64) a3).bind (fun r71 : Int64 =>
 some r71)) 1000 x5_20 x7_27)) else
 (if a1 = (1 : Int32) then (lt (0 : Int32) (fun x7_81 : Int32 =>
 L_X11_stickNow_83 S a2 a3 x4_17 (fun (w5_83 : Int64) =>
 (F_X11_power x4_17 a2).bind (fun r129 : Int64 =>
 (F_X11_lowest w5_83 r129 a3).bind (fun r133 : Int64 =>
 some r133))) 1000 x5_20 x7_81)) else
 (lt (0 : Int32) (fun x7_138 : Int32 =>
 L_X11_stickNow_140 S a2 a3 x4_17 (fun (w5_140 : Int64) =>
 (F_X11_power x4_17 a2).bind (fun r241 : Int64 =>
 (F_X11_lowest w5_140 r241 a3).bind (fun r245 : Int64 =>
 some r245))) 1000 x5_20 x7_138)))))))
set_option maxRecDepth 100000 in
def F_X11_stick (S : zSt) (a1 : Int32) (a2 : Int32) (a3 : Int32) : Option Int64 :=
 (F_X11_in a1 (0 : Int32) (2 : Int32)).bind (fun r3 : Int32 =>
 jn ((F_X11_no (-2 : Int32)).bind (fun r47 : Int64 =>
 some r47)) (fun j45 : Option Int64 =>
 if r3 = 0 then (j45) else
 (jn (fun (y0_20 : Int32) =>
 (F_X11_in a2 (1 : Int32) y0_20).bind (fun r20 : Int32 =>
 if r20 = 0 then (j45) else
 ((F_X11_in a3 (0 : Int32) (1 : Int32)).bind (fun r29 : Int32 =>
 if r29 = 0 then (j45) else
 ((F_X11_stickNow S a1 a2 a3).bind (fun r39 : Int64 =>
 some r39)))))) (fun j20 : Int32 → Option Int64 =>
 if a1 = 0 then (j20 (1 : Int32)) else
 (j20 (5 : Int32))))))
set_option maxRecDepth 100000 in
def L_X11_sheet_59 (a1 : Int32) (a3 : Int32) (k : zSt → Option (Int32 × zSt)) : Nat → zSt → Int32 → Option (Int32 × zSt)
  | 0, _, _ => none
  | n + 1, S59, v4_59 =>
    (if (60 : Int32) ≤ v4_59 then (k S59) else
 (ibd (((60 : Int32) * a1) + v4_59) 240 (lt (sA S59 18 (upd (zA S59 18) (((60 : Int32) * a1) + v4_59).toNatClampNeg (0 : Int32))) (fun S78 : zSt =>
 lt (v4_59 + (1 : Int32)) (fun x4_79 : Int32 =>
 L_X11_sheet_59 a1 a3 k n S78 x4_79)))))
set_option maxRecDepth 100000 in
def F_X11_sheet (S : zSt) (a1 : Int32) (a2 : Int32) (a3 : Int32) : Option (Int32 × zSt) :=
 (F_X11_isSheet a1).bind (fun r1 : Int32 =>
 if r1 = 0 then (some ((-2 : Int32), S)) else
 ((F_X11_in a2 (0 : Int32) (2 : Int32)).bind (fun r10 : Int32 =>
 if r10 = 0 then (some ((-2 : Int32), S)) else
 (if a3 ≤ (60 : Int32) then (if 0 ≤ a3 then (ibd a1 4 (lt (sA S 15 (upd (zA S 15) a1.toNatClampNeg (1 : Int32))) (fun S41 : zSt =>
 ibd a1 4 (lt (sA S41 16 (upd (zA S41 16) a1.toNatClampNeg a2)) (fun S48 : zSt =>
 ibd a1 4 (lt (sA S48 17 (upd (zA S48 17) a1.toNatClampNeg a3)) (fun S55 : zSt =>
 lt (0 : Int32) (fun x4_57 : Int32 =>
 L_X11_sheet_59 a1 a3 (fun (S59x_59 : zSt) =>
 some (a3, S59x_59)) 1000 S55 x4_57)))))))) else
 (b2 (F_X11_meets S (5 : Int32)) (fun (r31 : Int32) (S31 : zSt) =>
 some (r31, S31)))) else
 (some ((-2 : Int32), S))))))
set_option maxRecDepth 100000 in
def F_X11_lose (S : zSt) (a1 : Int32) : Option (Int32 × zSt) :=
 (F_X11_isSheet a1).bind (fun r1 : Int32 =>
 if r1 = 0 then (some ((-2 : Int32), S)) else
 (ibd a1 4 (if (zA S 15 a1.toNatClampNeg) = 0 then (b2 (F_X11_meets S (1 : Int32)) (fun (r21 : Int32) (S21 : zSt) =>
 some (r21, S21))) else
 (ibd a1 4 (lt (sA S 15 (upd (zA S 15) a1.toNatClampNeg (0 : Int32))) (fun S31 : zSt =>
 ibd a1 4 (some ((zA S31 17 a1.toNatClampNeg), S31))))))))
set_option maxRecDepth 100000 in
def F_X11_lacks (S : zSt) (a1 : Int32) (a2 : Int32) (a3 : Int32) : Option Int32 :=
 ibd a1 4 (if (zA S 15 a1.toNatClampNeg) = 0 then (some (1 : Int32)) else
 (ibd a1 4 (if (zA S 16 a1.toNatClampNeg) = a2 then (ibd a1 4 ((F_X11_in a3 (0 : Int32) ((zA S 17 a1.toNatClampNeg) - (1 : Int32))).bind (fun r37 : Int32 =>
 if r37 = 0 then (some (2 : Int32)) else
 (some (0 : Int32))))) else
 (some (3 : Int32)))))
set_option maxRecDepth 100000 in
def F_X11_keep (S : zSt) (a1 : Int32) (a2 : Int32) (a3 : Int32) : Option zSt :=
 ibd a1 4 (if (zA S 16 a1.toNatClampNeg) = 0 then (ibd (((60 : Int32) * a1) + a2) 240 (lt (sA S 18 (upd (zA S 18) (((60 : Int32) * a1) + a2).toNatClampNeg (a3.toInt8.toInt32))) (fun S40 : zSt =>
 some S40))) else
 (ibd a1 4 (if (zA S 16 a1.toNatClampNeg) = (1 : Int32) then (ibd (((60 : Int32) * a1) + a2) 240 (lt (sA S 18 (upd (zA S 18) (((60 : Int32) * a1) + a2).toNatClampNeg (a3.toInt16.toInt32))) (fun S40 : zSt =>
 some S40))) else
 (ibd (((60 : Int32) * a1) + a2) 240 (lt (sA S 18 (upd (zA S 18) (((60 : Int32) * a1) + a2).toNatClampNeg a3)) (fun S40 : zSt =>
 some S40))))))
set_option maxRecDepth 100000 in
def F_X11_put (S : zSt) (a1 : Int32) (a2 : Int32) (a3 : Int32) (a4 : Int32) : Option (Int32 × zSt) :=
 (F_X11_isSheet a1).bind (fun r1 : Int32 =>
 if r1 = 0 then (some ((-2 : Int32), S)) else
 ((F_X11_in a2 (0 : Int32) (2 : Int32)).bind (fun r10 : Int32 =>
 if r10 = 0 then (some ((-2 : Int32), S)) else
 ((F_X11_lacks S a1 a2 a3).bind (fun r23 : Int32 =>
 lt r23 (fun x5_26 : Int32 =>
 if x5_26 ≤ 0 then ((F_X11_keep S a1 a3 a4).bind (fun S45 : zSt =>
 some ((1 : Int32), S45))) else
 (b2 (F_X11_meets S x5_26) (fun (r36 : Int32) (S36 : zSt) =>
 some (r36, S36)))))))))
set_option maxRecDepth 100000 in
def F_X11_get (S : zSt) (a1 : Int32) (a2 : Int32) (a3 : Int32) : Option (Int32 × zSt) :=
 (F_X11_isSheet a1).bind (fun r1 : Int32 =>
 if r1 = 0 then (some ((-2147483648 : Int32), S)) else
 ((F_X11_in a2 (0 : Int32) (2 : Int32)).bind (fun r10 : Int32 =>
 if r10 = 0 then (some ((-2147483648 : Int32), S)) else
 ((F_X11_lacks S a1 a2 a3).bind (fun r23 : Int32 =>
 lt r23 (fun x4_26 : Int32 =>
 if x4_26 ≤ 0 then (ibd (((60 : Int32) * a1) + a3) 240 (some ((zA S 18 (((60 : Int32) * a1) + a3).toNatClampNeg), S))) else
 (lt (sI S 7 x4_26) (fun S36 : zSt =>
 some ((-2147483648 : Int32), S36)))))))))
set_option maxRecDepth 100000 in
def L_X11_copy_120 (a1 : Int32) (a2 : Int32) (a3 : Int32) (a4 : Int32) (a5 : Int32) (k : zSt → Option (Int32 × zSt)) : Nat → zSt → Int32 → Option (Int32 × zSt)
  | 0, _, _ => none
  | n + 1, S120, v6_120 =>
    (if a5 ≤ v6_120 then (k S120) else
 (ibd ((((60 : Int32) * a1) + a2) + v6_120) 240 (ibd v6_120 60 (lt (sA S120 19 (upd (zA S120 19) v6_120.toNatClampNeg (zA S120 18 ((((60 : Int32) * a1) + a2) + v6_120).toNatClampNeg))) (fun S147 : zSt =>
 lt (v6_120 + (1 : Int32)) (fun x6_148 : Int32 =>
 L_X11_copy_120 a1 a2 a3 a4 a5 k n S147 x6_148))))))
set_option maxRecDepth 100000 in
def L_X11_copy_157 (a3 : Int32) (a4 : Int32) (a5 : Int32) (k : zSt → Option (Int32 × zSt)) : Nat → zSt → Int32 → Option (Int32 × zSt)
  | 0, _, _ => none
  | n + 1, S157, v6_157 =>
    (if a5 ≤ v6_157 then (k S157) else
 (ibd v6_157 60 (ibd ((((60 : Int32) * a3) + a4) + v6_157) 240 (lt (sA S157 18 (upd (zA S157 18) ((((60 : Int32) * a3) + a4) + v6_157).toNatClampNeg (zA S157 19 v6_157.toNatClampNeg))) (fun S185 : zSt =>
 lt (v6_157 + (1 : Int32)) (fun x6_186 : Int32 =>
 L_X11_copy_157 a3 a4 a5 k n S185 x6_186))))))
set_option maxRecDepth 100000 in
def F_X11_copy (S : zSt) (a1 : Int32) (a2 : Int32) (a3 : Int32) (a4 : Int32) (a5 : Int32) : Option (Int32 × zSt) :=
 (F_X11_isSheet a1).bind (fun r1 : Int32 =>
 if r1 = 0 then (some ((-2 : Int32), S)) else
 ((F_X11_isSheet a3).bind (fun r8 : Int32 =>
 if r8 = 0 then (some ((-2 : Int32), S)) else
 (ibd a1 4 (jn (b2 (F_X11_meets S (1 : Int32)) (fun (r37 : Int32) (S37 : zSt) =>
 some (r37, S37))) (fun j35 : Option (Int32 × zSt) =>
 if (zA S 15 a1.toNatClampNeg) = 0 then (j35) else
 (ibd a3 4 (if (zA S 15 a3.toNatClampNeg) = 0 then (j35) else
 (ibd a1 4 (ibd a3 4 (if (zA S 16 a1.toNatClampNeg) = (zA S 16 a3.toNatClampNeg) then (jn (b2 (F_X11_meets S (2 : Int32)) (fun (r113 : Int32) (S113 : zSt) =>
 some (r113, S113))) (fun j111 : Option (Int32 × zSt) =>
 if a2 < 0 then (j111) else
 (if a4 < 0 then (j111) else
 (if a5 < 0 then (j111) else
 (ibd a1 4 (if 0 < (lg_cmp ((a2.toInt64) + (a5.toInt64)) ((zA S 17 a1.toNatClampNeg).toInt64)) then (j111) else
 (ibd a3 4 (if (lg_cmp ((a4.toInt64) + (a5.toInt64)) ((zA S 17 a3.toNatClampNeg).toInt64)) ≤ 0 then (lt (0 : Int32) (fun x6_118 : Int32 =>
 L_X11_copy_120 a1 a2 a3 a4 a5 (fun (S120x_120 : zSt) =>
 lt (0 : Int32) (fun x6_155 : Int32 =>
 L_X11_copy_157 a3 a4 a5 (fun (S157x_157 : zSt) =>
 some ((1 : Int32), S157x_157)) 1000 S120x_120 x6_155)) 1000 S x6_118)) else
 (j111))))))))) else
 (b2 (F_X11_meets S (4 : Int32)) (fun (r58 : Int32) (S58 : zSt) =>
 some (r58, S58))))))))))))))
set_option maxRecDepth 100000 in
def L_X11_write_47 (a1 : Int32) (a2 : Int32) (k : zSt → Int32 → Option (Int32 × zSt)) : Nat → zSt → Int32 → Option (Int32 × zSt)
  | 0, _, _ => none
  | n + 1, S47, v3_47 =>
    (ibd a2 4 (if (zA S47 17 a2.toNatClampNeg) ≤ v3_47 then (k S47 v3_47) else
 (if (60 : Int32) ≤ v3_47 then (k S47 v3_47) else
 ((F_X11_waitOf S47 a1 v3_47).bind (fun r69 : Int32 =>
 (F_X11_keep S47 a2 v3_47 r69).bind (fun S72 : zSt =>
 lt (v3_47 + (1 : Int32)) (fun x3_75 : Int32 =>
 L_X11_write_47 a1 a2 k n S72 x3_75)))))))
set_option maxRecDepth 100000 in
def F_X11_write (S : zSt) (a1 : Int32) (a2 : Int32) : Option (Int32 × zSt) :=
 (F_X11_in a1 (0 : Int32) (2 : Int32)).bind (fun r3 : Int32 =>
 if r3 = 0 then (some ((-2 : Int32), S)) else
 ((F_X11_isSheet a2).bind (fun r10 : Int32 =>
 if r10 = 0 then (some ((-2 : Int32), S)) else
 (ibd a2 4 (if (zA S 15 a2.toNatClampNeg) = 0 then (b2 (F_X11_meets S (1 : Int32)) (fun (r30 : Int32) (S30 : zSt) =>
 some (r30, S30))) else
 ((F_X11_many S a1).bind (fun r36 : Int32 =>
 if r36 = 0 then (some ((-3 : Int32), S)) else
 (lt (0 : Int32) (fun x3_46 : Int32 =>
 L_X11_write_47 a1 a2 (fun (S47x_47 : zSt) (w3_47 : Int32) =>
 some (w3_47, S47x_47)) 1000 S x3_46)))))))))
set_option maxRecDepth 100000 in
def L_X11_friendships_4 (S : zSt) (k : Int32 → Option Int32) : Nat → Int32 → Int32 → Option Int32
  | 0, _, _ => none
  | n + 1, v1_4, v2_4 =>
    (if (8 : Int32) ≤ v2_4 then (k v1_4) else
 (ibd v2_4 8 ((F_X11_ones (zA S 13 v2_4.toNatClampNeg)).bind (fun r17 : Int32 =>
 lt (v1_4 + r17) (fun x1_21 : Int32 =>
 lt (v2_4 + (1 : Int32)) (fun x2_22 : Int32 =>
 L_X11_friendships_4 S k n x1_21 x2_22))))))
set_option maxRecDepth 100000 in
def F_X11_friendships (S : zSt) : Option Int32 :=
 lt (0 : Int32) (fun x1_1 : Int32 =>
 lt (0 : Int32) (fun x2_3 : Int32 =>
 L_X11_friendships_4 S (fun (w1_4 : Int32) =>
 nz (2 : Int32) (some (w1_4 / (2 : Int32)))) 1000 x1_1 x2_3))
set_option maxRecDepth 100000 in
def F_X11_count (S : zSt) (a1 : Int32) : Option Int32 :=
 if a1 = (0 : Int32) then ((F_X11_many S a1).bind (fun r54 : Int32 =>
 some r54)) else
 if a1 = (1 : Int32) then ((F_X11_many S a1).bind (fun r54 : Int32 =>
 some r54)) else
 if a1 = (2 : Int32) then (some (zI S 0)) else
 if a1 = (3 : Int32) then (some (zI S 2)) else
 if a1 = (4 : Int32) then ((F_X11_saidOf S (0 : Int32)).bind (fun r70 : Int32 =>
 some r70)) else
 if a1 = (5 : Int32) then (some (zI S 5)) else
 if a1 = (6 : Int32) then ((F_X11_friendships S).bind (fun r80 : Int32 =>
 some r80)) else
 if a1 = (7 : Int32) then ((F_X11_whole S).bind (fun r85 : Int32 =>
 some r85)) else
 if a1 = (8 : Int32) then (some (zI S 7)) else
 (some (-2 : Int32))
set_option maxRecDepth 100000 in
def L_X11_digest_6 (S : zSt) (k : Int64 → Option (Int64 × zSt)) : Nat → Int64 → Int32 → Option (Int64 × zSt)
  | 0, _, _ => none
  | n + 1, v1_6, v3_6 =>
    (if (8 : Int32) ≤ v3_6 then (k v1_6) else
 ((F_X11_count S v3_6).bind (fun r19 : Int32 =>
 lt (((31 : Int64) * v1_6) + (r19.toInt64)) (fun x1_24 : Int64 =>
 lt (v3_6 + (1 : Int32)) (fun x3_25 : Int32 =>
 L_X11_digest_6 S k n x1_24 x3_25)))))
set_option maxRecDepth 100000 in
def L_X11_digest_53 (S37 : zSt) (v3_45 : Int32) (k : Int64 → Option (Int64 × zSt)) : Nat → Int64 → Int32 → Option (Int64 × zSt)
  | 0, _, _ => none
  | n + 1, v1_53, v4_53 =>
    (if (3 : Int32) ≤ v4_53 then (k v1_53) else
 ((F_X11_gapsNow S37 v3_45 v4_53 (0 : Int32)).bind (fun r69 : Int64 =>
 lt (((31 : Int64) * v1_53) + r69) (fun x1_73 : Int64 =>
 (F_X11_gapsNow S37 v3_45 v4_53 (1 : Int32)).bind (fun r84 : Int64 =>
 lt (((31 : Int64) * x1_73) + r84) (fun x1_88 : Int64 =>
 lt (v4_53 + (1 : Int32)) (fun x4_89 : Int32 =>
 L_X11_digest_53 S37 v3_45 k n x1_88 x4_89)))))))
set_option maxRecDepth 100000 in
def L_X11_digest_45 (S37 : zSt) (k : Int64 → Option (Int64 × zSt)) : Nat → Int64 → Int32 → Option (Int64 × zSt)
  | 0, _, _ => none
  | n + 1, v1_45, v3_45 =>
    (if (3 : Int32) ≤ v3_45 then (k v1_45) else
 (lt (0 : Int32) (fun x4_51 : Int32 =>
 L_X11_digest_53 S37 v3_45 (fun (w1_53 : Int64) =>
 lt (v3_45 + (1 : Int32)) (fun x3_95 : Int32 =>
 L_X11_digest_45 S37 k n w1_53 x3_95)) 1000 v1_45 x4_51)))
set_option maxRecDepth 100000 in
def L_X11_digest_133 (S125 : zSt) (k : Int64 → Option (Int64 × zSt)) : Nat → Int64 → Int32 → Option (Int64 × zSt)
  | 0, _, _ => none
  | n + 1, v1_133, v3_133 =>
    (if (2 : Int32) ≤ v3_133 then (k v1_133) else
 ((F_X11_sizeNow S125 v3_133 (0 : Int32)).bind (fun r146 : Int64 =>
 lt (((31 : Int64) * v1_133) + r146) (fun x1_150 : Int64 =>
 (F_X11_sizeNow S125 v3_133 (1 : Int32)).bind (fun r159 : Int64 =>
 lt (((31 : Int64) * x1_150) + r159) (fun x1_163 : Int64 =>
 lt (v3_133 + (1 : Int32)) (fun x3_164 : Int32 =>
 L_X11_digest_133 S125 k n x1_163 x3_164)))))))
set_option maxRecDepth 100000 in
def L_X11_digest_184 (S125 : zSt) (k : Int64 → Option (Int64 × zSt)) : Nat → Int64 → Int32 → Option (Int64 × zSt)
  | 0, _, _ => none
  | n + 1, v1_184, v3_184 =>
    (if (4 : Int32) ≤ v3_184 then (k v1_184) else
 ((F_X11_wardNow S125 (10 : Int32) (30 : Int32) v3_184).bind (fun r200 : Int32 =>
 lt (((31 : Int64) * v1_184) + (r200.toInt64)) (fun x1_205 : Int64 =>
 lt (v3_184 + (1 : Int32)) (fun x3_206 : Int32 =>
 L_X11_digest_184 S125 k n x1_205 x3_206)))))
set_option maxRecDepth 100000 in
def L_X11_digest_214 (S125 : zSt) (k : Int64 → Option (Int64 × zSt)) : Nat → Int64 → Int32 → Option (Int64 × zSt)
  | 0, _, _ => none
  | n + 1, v1_214, v3_214 =>
    (if (6 : Int32) ≤ v3_214 then (k v1_214) else
 ((F_X11_meansNow S125 (10 : Int32) (30 : Int32) v3_214 (0 : Int32)).bind (fun r232 : Int64 =>
 lt (((31 : Int64) * v1_214) + r232) (fun x1_236 : Int64 =>
 (F_X11_meansNow S125 (10 : Int32) (30 : Int32) v3_214 (1 : Int32)).bind (fun r249 : Int64 =>
 lt (((31 : Int64) * x1_236) + r249) (fun x1_253 : Int64 =>
 lt (v3_214 + (1 : Int32)) (fun x3_254 : Int32 =>
 L_X11_digest_214 S125 k n x1_253 x3_254)))))))
set_option maxRecDepth 100000 in
def L_X11_digest_262 (S125 : zSt) (k : Int64 → Option (Int64 × zSt)) : Nat → Int64 → Int32 → Option (Int64 × zSt)
  | 0, _, _ => none
  | n + 1, v1_262, v3_262 =>
    (if (3 : Int32) ≤ v3_262 then (k v1_262) else
 ((F_X11_fullestNow S125 v3_262).bind (fun r274 : Int32 =>
 lt (((31 : Int64) * v1_262) + (r274.toInt64)) (fun x1_279 : Int64 =>
 lt (v3_262 + (1 : Int32)) (fun x3_280 : Int32 =>
 L_X11_digest_262 S125 k n x1_279 x3_280)))))
set_option maxRecDepth 100000 in
def L_X11_digest_288 (S125 : zSt) (k : Int64 → Option (Int64 × zSt)) : Nat → Int64 → Int32 → Option (Int64 × zSt)
  | 0, _, _ => none
  | n + 1, v1_288, v3_288 =>
    (if (3 : Int32) ≤ v3_288 then (k v1_288) else
 ((F_X11_meanNow S125 v3_288 (0 : Int32)).bind (fun r301 : Int64 =>
 lt (((31 : Int64) * v1_288) + r301) (fun x1_305 : Int64 =>
 (F_X11_meanNow S125 v3_288 (1 : Int32)).bind (fun r314 : Int64 =>
 lt (((31 : Int64) * x1_305) + r314) (fun x1_318 : Int64 =>
 lt (v3_288 + (1 : Int32)) (fun x3_319 : Int32 =>
 L_X11_digest_288 S125 k n x1_318 x3_319)))))))
set_option maxRecDepth 100000 in
def L_X11_digest_353 (S125 : zSt) (k : Int64 → Option (Int64 × zSt)) : Nat → Int64 → Int32 → Option (Int64 × zSt)
  | 0, _, _ => none
  | n + 1, v1_353, v3_353 =>
    (if (3 : Int32) ≤ v3_353 then (k v1_353) else
 ((F_X11_stickNow S125 v3_353 (1 : Int32) (0 : Int32)).bind (fun r367 : Int64 =>
 lt (((31 : Int64) * v1_353) + r367) (fun x1_371 : Int64 =>
 (F_X11_stickNow S125 v3_353 (1 : Int32) (1 : Int32)).bind (fun r381 : Int64 =>
 lt (((31 : Int64) * x1_371) + r381) (fun x1_385 : Int64 =>
 lt (v3_353 + (1 : Int32)) (fun x3_386 : Int32 =>
 L_X11_digest_353 S125 k n x1_385 x3_386)))))))
set_option maxRecDepth 100000 in
def F_X11_digest (S : zSt) : Option (Int64 × zSt) :=
 lt (17 : Int64) (fun x1_3 : Int64 =>
 lt (0 : Int32) (fun x3_5 : Int32 =>
 L_X11_digest_6 S (fun (w1_6 : Int64) =>
 b2 (F_X11_faultNow S) (fun (r37 : Int32) (S37 : zSt) =>
 lt (((31 : Int64) * w1_6) + (r37.toInt64)) (fun x1_42 : Int64 =>
 lt (0 : Int32) (fun x3_44 : Int32 =>
 L_X11_digest_45 S37 (fun (w1_45 : Int64) =>
 b2 (F_X11_heldNow S37 (0 : Int32) (2 : Int32) (-1 : Int32)) (fun (r110 : Int32) (S110 : zSt) =>
 lt (((31 : Int64) * w1_45) + (r110.toInt64)) (fun x1_115 : Int64 =>
 b2 (F_X11_heldNow S110 (1 : Int32) (2 : Int32) (-1 : Int32)) (fun (r125 : Int32) (S125 : zSt) =>
 lt (((31 : Int64) * x1_115) + (r125.toInt64)) (fun x1_130 : Int64 =>
 lt (0 : Int32) (fun x3_132 : Int32 =>
 L_X11_digest_133 S125 (fun (w1_133 : Int64) =>
 (F_X11_likeliestNow S125).bind (fun r176 : Int32 =>
 lt (((31 : Int64) * w1_133) + (r176.toInt64)) (fun x1_181 : Int64 =>
 lt (0 : Int32) (fun x3_183 : Int32 =>
 L_X11_digest_184 S125 (fun (w1_184 : Int64) =>
 lt (0 : Int32) (fun x3_213 : Int32 =>
 L_X11_digest_214 S125 (fun (w1_214 : Int64) =>
 lt (0 : Int32) (fun x3_261 : Int32 =>
 L_X11_digest_262 S125 (fun (w1_262 : Int64) =>
 lt (0 : Int32) (fun x3_287 : Int32 =>
 L_X11_digest_288 S125 (fun (w1_288 : Int64) =>
 (F_X11_fewerNow S125).bind (fun r331 : Int32 =>
 lt (((31 : Int64) * w1_288) + (r331.toInt64)) (fun x1_336 : Int64 =>
 (F_X11_bestNow S125 (2 : Int32) (0 : Int32)).bind (fun r345 : Int32 =>
 lt (((31 : Int64) * x1_336) + (r345.toInt64)) (fun x1_350 : Int64 =>
 lt (0 : Int32) (fun x3_352 : Int32 =>
 L_X11_digest_353 S125 (fun (w1_353 : Int64) =>
 some (w1_353, S125)) 1000 x1_350 x3_352)))))) 1000 w1_262 x3_287)) 1000 w1_214 x3_261)) 1000 w1_184 x3_213)) 1000 x1_181 x3_183)))) 1000 x1_130 x3_132)))))) 1000 x1_42 x3_44)))) 1000 x1_3 x3_5))
abbrev rm_X11_meanNow : Room := { frames := 2, cells := 0, slots := 0, locals := 45 }
theorem y_X11_meanNow : yX11_meanNow.cls = RX11 ∧ yX11_meanNow.cls ≠ "java/lang/invoke/MethodHandle" ∧ yX11_meanNow.cls ≠ "java/lang/invoke/VarHandle" ∧ (parseMethodDescriptor yX11_meanNow.desc).map (fun d => d.parameters.length) = some 2 := by decide +kernel
theorem m_X11_meanNow_f50 : Cond.fieldLink RX11 50 "LongestMetModel" "friendsOf" "[I" ∈ wsX11_meanNow := List.mem_cons_of_mem _ (List.mem_append_left _ (List.mem_of_getElem? (i := 0) rfl))
theorem m_X11_meanNow_inX11 : ∀ x ∈ u_ws RX11 TX11 27, x ∈ wsX11_meanNow := fun _ h => List.mem_cons_of_mem _ (List.mem_append_right _ h)
theorem m_X11_meanNow_c217 : Cond.constantLong RX11 217 (3360) ∈ wsX11_meanNow := List.mem_cons_of_mem _ (List.mem_append_left _ (List.mem_of_getElem? (i := 2) rfl))
theorem m_X11_meanNow_c215 : Cond.constantLong RX11 215 (8) ∈ wsX11_meanNow := List.mem_cons_of_mem _ (List.mem_append_left _ (List.mem_of_getElem? (i := 1) rfl))
set_option maxRecDepth 100000 in
set_option maxHeartbeats 4000000 in
theorem xL_X11_meanNow_11 {E : zCx} {g : zGx} (B : zGood E (WM g) (zT g) cX11_meanNow RX11 wsX11_meanNow (some .long) rm_X11_meanNow) (hE : E.2.2 = 8) (S : zSt) (a1 : Int32) (a2 : Int32) (k : Int32 → Int32 → Int32 → Option Int64) (hk : ∀ (w3 : Int32) (w4 : Int32) (w5 : Int32), Xo E (WM g) (eL S) S 65 [(1, .int a1), (2, .int a2), (3, .int w3), (4, .int w4), (5, .int w5)] [] (k w3 w4 w5)) : ∀ (n : Nat) (v3_11 : Int32) (v4_11 : Int32) (v5_11 : Int32) (v6_11 : Int32), Xo E (WM g) (eL S) S 11 [(0, .ref (g.1 0)), (1, .int a1), (2, .int a2), (3, .int v3_11), (4, .int v4_11), (5, .int v5_11), (6, .int v6_11)] [] (L_X11_meanNow_11 S a1 a2 k n v3_11 v4_11 v5_11 v6_11) := by
  have n3 : 3 < E.2.2 := by rw [hE]; decide
  have n4 : 4 < E.2.2 := by rw [hE]; decide
  have n5 : 5 < E.2.2 := by rw [hE]; decide
  have n6 : 6 < E.2.2 := by rw [hE]; decide
  have n7 : 7 < E.2.2 := by rw [hE]; decide
  intro n
  induction n with
  | zero =>
    intro _ _ _ _
    exact r_none
  | succ n ih =>
    intro v3_11 v4_11 v5_11 v6_11
    rw [L_X11_meanNow_11]
    refine r_iload B 6 dX11_meanNow_11 rfl ?_
    refine r_bipush B (8 : Int32) dX11_meanNow_13 (by decide) ?_
    refine r_icmp_ge B 65 dX11_meanNow_15 (by decide) (fun _ => ?_) (fun _ => ?_)
    · refine r_sub [1, 2, 3, 4, 5] rfl ?_
      exact hk v3_11 v4_11 v5_11
    · refine r_aload_n B 0 dX11_meanNow_18 rfl rfl ?_
      refine r_get B 0 10 18 (Nat.le_of_ble_eq_true rfl) rfl (cM_0 g _) rfl m_X11_meanNow_inX11 (Nat.le_of_ble_eq_true rfl) m_X11_meanNow_f50 rfl dX11_meanNow_19 ?_
      refine r_iload B 6 dX11_meanNow_22 rfl ?_
      refine r_iald B 13 0 (Nat.le_of_ble_eq_true rfl) rfl (cM_13 g _) rfl dX11_meanNow_24 ?_
      refine r_cI (zrunS (As := [.int (zA S 13 v6_11.toNatClampNeg)]) (rest := []) B 1 (fun b hb => k_X11_ones B.2.2.1 hb) gX11_meanNow_X11_ones rfl rfl rfl y_X11_ones ⟨Nat.le_of_ble_eq_true rfl, Nat.le_of_ble_eq_true rfl⟩ rfl rfl (Nat.le_of_ble_eq_true rfl) dX11_meanNow_25) (fun r25 => ?_)
      refine r_istore (lv' := fun x7_28 => [(7, .int x7_28), (0, .ref (g.1 0)), (1, .int a1), (2, .int a2), (3, .int v3_11), (4, .int v4_11), (5, .int v5_11), (6, .int v6_11)]) B dX11_meanNow_28 n7 (fun _ => rfl) (fun x7_28 => ?_)
      refine r_iload_n B 4 dX11_meanNow_30 rfl rfl ?_
      refine r_iload B 0 dX11_meanNow_31 rfl ?_
      refine r_iadd B dX11_meanNow_33 ?_
      refine r_istore_n (lv' := fun x3_34 => [(3, .int x3_34), (7, .int x7_28), (0, .ref (g.1 0)), (1, .int a1), (2, .int a2), (4, .int v4_11), (5, .int v5_11), (6, .int v6_11)]) B dX11_meanNow_34 rfl n3 (fun _ => rfl) (fun x3_34 => ?_)
      refine r_iload B 5 dX11_meanNow_35 rfl ?_
      refine r_iload B 1 dX11_meanNow_37 rfl ?_
      refine r_iload B 1 dX11_meanNow_39 rfl ?_
      refine r_imul B dX11_meanNow_41 ?_
      refine r_iadd B dX11_meanNow_42 ?_
      refine r_istore (lv' := fun x4_43 => [(4, .int x4_43), (3, .int x3_34), (7, .int x7_28), (0, .ref (g.1 0)), (1, .int a1), (2, .int a2), (5, .int v5_11), (6, .int v6_11)]) B dX11_meanNow_43 n4 (fun _ => rfl) (fun x4_43 => ?_)
      refine r_iload B 6 dX11_meanNow_45 rfl ?_
      refine r_iload B 2 dX11_meanNow_47 rfl ?_
      refine r_aload_n B 3 dX11_meanNow_49 rfl rfl ?_
      refine r_iload B 7 dX11_meanNow_50 rfl ?_
      refine r_cI (zrunV (As := [.int v6_11]) (rest := [.int x7_28, .int v5_11]) B 1 0 (fun b hb => k_X11_pickedParts B.2.2.1 hb) gX11_meanNow_X11_pickedParts rfl rfl rfl y_X11_pickedParts ⟨Nat.le_of_ble_eq_true rfl, Nat.le_of_ble_eq_true rfl⟩ (Nat.le_of_ble_eq_true rfl) rfl (cM_0 g _) rfl rfl rfl (Nat.le_of_ble_eq_true rfl) dX11_meanNow_52) (fun r52 => ?_)
      refine r_imul B dX11_meanNow_55 ?_
      refine r_iadd B dX11_meanNow_56 ?_
      refine r_istore (lv' := fun x5_57 => [(5, .int x5_57), (4, .int x4_43), (3, .int x3_34), (7, .int x7_28), (0, .ref (g.1 0)), (1, .int a1), (2, .int a2), (6, .int v6_11)]) B dX11_meanNow_57 n5 (fun _ => rfl) (fun x5_57 => ?_)
      refine r_iinc (lv' := fun x6_59 => [(6, .int x6_59), (5, .int x5_57), (4, .int x4_43), (3, .int x3_34), (7, .int x7_28), (0, .ref (g.1 0)), (1, .int a1), (2, .int a2)]) B 7 (1 : Int32) dX11_meanNow_59 rfl (by decide) n6 (fun _ => rfl) (fun x6_59 => ?_)
      refine r_goto B 11 dX11_meanNow_62 (by decide) ?_
      refine r_sub [5, 6, 7, 3, 2, 1, 0] rfl ?_
      exact ih x3_34 x4_43 x5_57 x6_59
set_option maxRecDepth 100000 in
set_option maxHeartbeats 4000000 in
theorem x_X11_meanNow {E : zCx} {g : zGx} (B : zGood E (WM g) (zT g) cX11_meanNow RX11 wsX11_meanNow (some .long) rm_X11_meanNow) (hE : E.2.2 = 8) (S : zSt) (a1 : Int32) (a2 : Int32) : Xo E (WM g) (eL S) S 0 [(0, .ref (g.1 0)), (1, .int a1), (2, .int a2)] [] (F_X11_meanNow S a1 a2) := by
  have n3 : 3 < E.2.2 := by rw [hE]; decide
  have n4 : 4 < E.2.2 := by rw [hE]; decide
  have n5 : 5 < E.2.2 := by rw [hE]; decide
  have n6 : 6 < E.2.2 := by rw [hE]; decide
  have n7 : 7 < E.2.2 := by rw [hE]; decide
  unfold F_X11_meanNow
  refine r_iconst B (0 : Int32) dX11_meanNow_0 (by decide) ?_
  refine r_istore_n (lv' := fun x3_1 => [(3, .int x3_1), (0, .ref (g.1 0)), (1, .int a1), (2, .int a2)]) B dX11_meanNow_1 rfl n3 (fun _ => rfl) (fun x3_1 => ?_)
  refine r_iconst B (0 : Int32) dX11_meanNow_2 (by decide) ?_
  refine r_istore (lv' := fun x4_3 => [(4, .int x4_3), (3, .int x3_1), (0, .ref (g.1 0)), (1, .int a1), (2, .int a2)]) B dX11_meanNow_3 n4 (fun _ => rfl) (fun x4_3 => ?_)
  refine r_iconst B (0 : Int32) dX11_meanNow_5 (by decide) ?_
  refine r_istore (lv' := fun x5_6 => [(5, .int x5_6), (4, .int x4_3), (3, .int x3_1), (0, .ref (g.1 0)), (1, .int a1), (2, .int a2)]) B dX11_meanNow_6 n5 (fun _ => rfl) (fun x5_6 => ?_)
  refine r_iconst B (0 : Int32) dX11_meanNow_8 (by decide) ?_
  refine r_istore (lv' := fun x6_9 => [(6, .int x6_9), (5, .int x5_6), (4, .int x4_3), (3, .int x3_1), (0, .ref (g.1 0)), (1, .int a1), (2, .int a2)]) B dX11_meanNow_9 n6 (fun _ => rfl) (fun x6_9 => ?_)
  refine r_sub [4, 5, 6, 3, 2, 1, 0] rfl ?_
  refine xL_X11_meanNow_11 B hE S a1 a2 _ ?_ 1000 x3_1 x4_3 x5_6 x6_9
  intro w3_11 w4_11 w5_11
  refine r_iload_n B 0 dX11_meanNow_65 rfl rfl ?_
  refine r_iconst B (1 : Int32) dX11_meanNow_66 (by decide) ?_
  refine r_icmp_ne B 92 dX11_meanNow_67 (by decide) (fun _ => ?_) (fun _ => ?_)
  · refine r_iload_n B 0 dX11_meanNow_92 rfl rfl ?_
    refine r_if_ne B 108 dX11_meanNow_93 (by decide) (fun _ => ?_) (fun _ => ?_)
    · refine r_iload B 4 dX11_meanNow_108 rfl ?_
      refine r_i2l B dX11_meanNow_110 ?_
      refine r_ldc2 B (3360 : Int64) m_X11_meanNow_c217 dX11_meanNow_111 ?_
      refine r_iload_n B 1 dX11_meanNow_114 rfl rfl ?_
      refine r_cL (zrunS (As := [.long (w5_11.toInt64), .long (3360 : Int64), .int a2]) (rest := []) B 3 (fun b hb => k_X11_lowest B.2.2.1 hb) gX11_meanNow_X11_lowest rfl rfl rfl y_X11_lowest ⟨Nat.le_of_ble_eq_true rfl, Nat.le_of_ble_eq_true rfl⟩ rfl rfl (Nat.le_of_ble_eq_true rfl) dX11_meanNow_115) (fun r115 => ?_)
      exact r_lret B dX11_meanNow_118 rfl
    · refine r_iload_n B 2 dX11_meanNow_96 rfl rfl ?_
      refine r_i2l B dX11_meanNow_97 ?_
      refine r_ldc2 B (8 : Int64) m_X11_meanNow_c215 dX11_meanNow_98 ?_
      refine r_iload_n B 1 dX11_meanNow_101 rfl rfl ?_
      refine r_cL (zrunS (As := [.long (w3_11.toInt64), .long (8 : Int64), .int a2]) (rest := []) B 3 (fun b hb => k_X11_lowest B.2.2.1 hb) gX11_meanNow_X11_lowest rfl rfl rfl y_X11_lowest ⟨Nat.le_of_ble_eq_true rfl, Nat.le_of_ble_eq_true rfl⟩ rfl rfl (Nat.le_of_ble_eq_true rfl) dX11_meanNow_102) (fun r102 => ?_)
      refine r_goto B 118 dX11_meanNow_105 (by decide) ?_
      exact r_lret B dX11_meanNow_118 rfl
  · refine r_iload_n B 2 dX11_meanNow_70 rfl rfl ?_
    refine r_if_ne B 82 dX11_meanNow_71 (by decide) (fun _ => ?_) (fun _ => ?_)
    · refine r_iload B 3 dX11_meanNow_82 rfl ?_
      refine r_i2l B dX11_meanNow_84 ?_
      refine r_iload_n B 2 dX11_meanNow_85 rfl rfl ?_
      refine r_i2l B dX11_meanNow_86 ?_
      refine r_iload_n B 1 dX11_meanNow_87 rfl rfl ?_
      refine r_cL (zrunS (As := [.long (w4_11.toInt64), .long (w3_11.toInt64), .int a2]) (rest := []) B 3 (fun b hb => k_X11_lowest B.2.2.1 hb) gX11_meanNow_X11_lowest rfl rfl rfl y_X11_lowest ⟨Nat.le_of_ble_eq_true rfl, Nat.le_of_ble_eq_true rfl⟩ rfl rfl (Nat.le_of_ble_eq_true rfl) dX11_meanNow_88) (fun r88 => ?_)
      exact r_lret B dX11_meanNow_91 rfl
    · refine r_bipush B (-3 : Int32) dX11_meanNow_74 (by decide) ?_
      refine r_cL (zrunS (As := [.int (-3 : Int32)]) (rest := []) B 1 (fun b hb => k_X11_no B.2.2.1 hb) gX11_meanNow_X11_no rfl rfl rfl y_X11_no ⟨Nat.le_of_ble_eq_true rfl, Nat.le_of_ble_eq_true rfl⟩ rfl rfl (Nat.le_of_ble_eq_true rfl) dX11_meanNow_76) (fun r76 => ?_)
      refine r_goto B 91 dX11_meanNow_79 (by decide) ?_
      exact r_lret B dX11_meanNow_91 rfl
set_option maxRecDepth 20000 in
theorem k_X11_meanNow {l : Launch} {D : va_G} {g : zGx} (hz : zin (WM g)) {S : zSt} {a1 : Int32} {a2 : Int32} {b : Int64} (h : F_X11_meanNow S a1 a2 = some b) : zMet l D (WM g) (zT g) yX11_meanNow wsX11_meanNow rm_X11_meanNow S [.ref (g.1 0), .int a1, .int a2] ((eL S) b) := zmet_of (by decide +kernel) rfl hz (Nat.le_of_ble_eq_true rfl) rfl (fun E _ _ hE B => x_X11_meanNow B hE S a1 a2) h
abbrev rm_X11_mean : Room := { frames := 3, cells := 0, slots := 0, locals := 72 }
theorem y_X11_mean : yX11_mean.cls = RX11 ∧ yX11_mean.cls ≠ "java/lang/invoke/MethodHandle" ∧ yX11_mean.cls ≠ "java/lang/invoke/VarHandle" ∧ (parseMethodDescriptor yX11_mean.desc).map (fun d => d.parameters.length) = some 2 := by decide +kernel
set_option maxRecDepth 100000 in
set_option maxHeartbeats 4000000 in
theorem x_X11_mean {E : zCx} {g : zGx} (B : zGood E (WM g) (zT g) cX11_mean RX11 wsX11_mean (some .long) rm_X11_mean) (hE : E.2.2 = 3) (S : zSt) (a1 : Int32) (a2 : Int32) : Xo E (WM g) (eL S) S 0 [(0, .ref (g.1 0)), (1, .int a1), (2, .int a2)] [] (F_X11_mean S a1 a2) := by
  unfold F_X11_mean
  refine r_iload_n B 1 dX11_mean_0 rfl rfl ?_
  refine r_iconst B (0 : Int32) dX11_mean_1 (by decide) ?_
  refine r_iconst B (2 : Int32) dX11_mean_2 (by decide) ?_
  refine r_cI (zrunS (As := [.int a1, .int (0 : Int32), .int (2 : Int32)]) (rest := []) B 3 (fun b hb => k_X11_in B.2.2.1 hb) gX11_mean_X11_in rfl rfl rfl y_X11_in ⟨Nat.le_of_ble_eq_true rfl, Nat.le_of_ble_eq_true rfl⟩ rfl rfl (Nat.le_of_ble_eq_true rfl) dX11_mean_3) (fun r3 => ?_)
  refine r_jn2 (P := fun j27 : Option Int64 => Xo E (WM g) (eL S) S 27 [] [] (j27)) ?_ (fun j27 hj27 => ?_)
  · refine r_bipush B (-2 : Int32) dX11_mean_27 (by decide) ?_
    refine r_cL (zrunS (As := [.int (-2 : Int32)]) (rest := []) B 1 (fun b hb => k_X11_no B.2.2.1 hb) gX11_mean_X11_no rfl rfl rfl y_X11_no ⟨Nat.le_of_ble_eq_true rfl, Nat.le_of_ble_eq_true rfl⟩ rfl rfl (Nat.le_of_ble_eq_true rfl) dX11_mean_29) (fun r29 => ?_)
    exact r_lret B dX11_mean_32 rfl
  refine r_if_eq B 27 dX11_mean_6 (by decide) (fun _ => ?_) (fun _ => ?_)
  · refine r_sub [] rfl ?_
    exact hj27
  · refine r_iload_n B 2 dX11_mean_9 rfl rfl ?_
    refine r_iconst B (0 : Int32) dX11_mean_10 (by decide) ?_
    refine r_iconst B (1 : Int32) dX11_mean_11 (by decide) ?_
    refine r_cI (zrunS (As := [.int a2, .int (0 : Int32), .int (1 : Int32)]) (rest := []) B 3 (fun b hb => k_X11_in B.2.2.1 hb) gX11_mean_X11_in rfl rfl rfl y_X11_in ⟨Nat.le_of_ble_eq_true rfl, Nat.le_of_ble_eq_true rfl⟩ rfl rfl (Nat.le_of_ble_eq_true rfl) dX11_mean_12) (fun r12 => ?_)
    refine r_if_eq B 27 dX11_mean_15 (by decide) (fun _ => ?_) (fun _ => ?_)
    · refine r_sub [] rfl ?_
      exact hj27
    · refine r_aload_n B 0 dX11_mean_18 rfl rfl ?_
      refine r_iload_n B 1 dX11_mean_19 rfl rfl ?_
      refine r_iload_n B 2 dX11_mean_20 rfl rfl ?_
      refine r_cL (zrunV (As := [.int a1, .int a2]) (rest := []) B 2 0 (fun b hb => k_X11_meanNow B.2.2.1 hb) gX11_mean_X11_meanNow rfl rfl rfl y_X11_meanNow ⟨Nat.le_of_ble_eq_true rfl, Nat.le_of_ble_eq_true rfl⟩ (Nat.le_of_ble_eq_true rfl) rfl (cM_0 g _) rfl rfl rfl (Nat.le_of_ble_eq_true rfl) dX11_mean_21) (fun r21 => ?_)
      refine r_goto B 32 dX11_mean_24 (by decide) ?_
      exact r_lret B dX11_mean_32 rfl
set_option maxRecDepth 20000 in
theorem k_X11_mean {l : Launch} {D : va_G} {g : zGx} (hz : zin (WM g)) {S : zSt} {a1 : Int32} {a2 : Int32} {b : Int64} (h : F_X11_mean S a1 a2 = some b) : zMet l D (WM g) (zT g) yX11_mean wsX11_mean rm_X11_mean S [.ref (g.1 0), .int a1, .int a2] ((eL S) b) := zmet_of (by decide +kernel) rfl hz (Nat.le_of_ble_eq_true rfl) rfl (fun E _ _ hE B => x_X11_mean B hE S a1 a2) h
abbrev rm_X11_fewerNow : Room := { frames := 1, cells := 0, slots := 0, locals := 22 }
theorem y_X11_fewerNow : yX11_fewerNow.cls = RX11 ∧ yX11_fewerNow.cls ≠ "java/lang/invoke/MethodHandle" ∧ yX11_fewerNow.cls ≠ "java/lang/invoke/VarHandle" ∧ (parseMethodDescriptor yX11_fewerNow.desc).map (fun d => d.parameters.length) = some 0 := by decide +kernel
theorem m_X11_fewerNow_f50 : Cond.fieldLink RX11 50 "LongestMetModel" "friendsOf" "[I" ∈ wsX11_fewerNow := List.mem_cons_of_mem _ (List.mem_append_left _ (List.mem_of_getElem? (i := 0) rfl))
theorem m_X11_fewerNow_inX11 : ∀ x ∈ u_ws RX11 TX11 27, x ∈ wsX11_fewerNow := fun _ h => List.mem_cons_of_mem _ (List.mem_append_right _ h)
set_option maxRecDepth 100000 in
set_option maxHeartbeats 4000000 in
theorem xL_X11_fewerNow_26 {E : zCx} {g : zGx} (B : zGood E (WM g) (zT g) cX11_fewerNow RX11 wsX11_fewerNow (some .int) rm_X11_fewerNow) (hE : E.2.2 = 6) (S : zSt) (v1_4 : Int32) (v2_4 : Int32) (x3_19 : Int32) (k : Int32 → Option Int32) (hk : ∀ (w4 : Int32), Xo E (WM g) (eI S) S 72 [(0, .ref (g.1 0)), (1, .int v1_4), (2, .int v2_4), (3, .int x3_19), (4, .int w4)] [] (k w4)) : ∀ (n : Nat) (v4_26 : Int32) (v5_26 : Int32), Xo E (WM g) (eI S) S 26 [(0, .ref (g.1 0)), (1, .int v1_4), (2, .int v2_4), (3, .int x3_19), (4, .int v4_26), (5, .int v5_26)] [] (L_X11_fewerNow_26 S v1_4 v2_4 x3_19 k n v4_26 v5_26) := by
  have n1 : 1 < E.2.2 := by rw [hE]; decide
  have n2 : 2 < E.2.2 := by rw [hE]; decide
  have n3 : 3 < E.2.2 := by rw [hE]; decide
  have n4 : 4 < E.2.2 := by rw [hE]; decide
  have n5 : 5 < E.2.2 := by rw [hE]; decide
  intro n
  induction n with
  | zero =>
    intro _ _
    exact r_none
  | succ n ih =>
    intro v4_26 v5_26
    rw [L_X11_fewerNow_26]
    refine r_iload B 5 dX11_fewerNow_26 rfl ?_
    refine r_bipush B (8 : Int32) dX11_fewerNow_28 (by decide) ?_
    refine r_icmp_ge B 72 dX11_fewerNow_30 (by decide) (fun _ => ?_) (fun _ => ?_)
    · refine r_sub [0, 1, 2, 3, 4] rfl ?_
      exact hk v4_26
    · refine r_iload B 4 dX11_fewerNow_33 rfl ?_
      refine r_aload_n B 0 dX11_fewerNow_35 rfl rfl ?_
      refine r_get B 0 10 18 (Nat.le_of_ble_eq_true rfl) rfl (cM_0 g _) rfl m_X11_fewerNow_inX11 (Nat.le_of_ble_eq_true rfl) m_X11_fewerNow_f50 rfl dX11_fewerNow_36 ?_
      refine r_iload_n B 2 dX11_fewerNow_39 rfl rfl ?_
      refine r_iald B 13 0 (Nat.le_of_ble_eq_true rfl) rfl (cM_13 g _) rfl dX11_fewerNow_40 ?_
      refine r_iload B 5 dX11_fewerNow_41 rfl ?_
      refine r_cI (zrunS (As := [.int (zA S 13 v2_4.toNatClampNeg), .int v5_26]) (rest := [.int v4_26]) B 2 (fun b hb => k_X11_has B.2.2.1 hb) gX11_fewerNow_X11_has rfl rfl rfl y_X11_has ⟨Nat.le_of_ble_eq_true rfl, Nat.le_of_ble_eq_true rfl⟩ rfl rfl (Nat.le_of_ble_eq_true rfl) dX11_fewerNow_43) (fun r43 => ?_)
      refine r_if_eq B 62 dX11_fewerNow_46 (by decide) (fun _ => ?_) (fun _ => ?_)
      · refine r_iconst B (0 : Int32) dX11_fewerNow_62 (by decide) ?_
        refine r_iadd B dX11_fewerNow_63 ?_
        refine r_istore (lv' := fun x4_64 => [(4, .int x4_64), (0, .ref (g.1 0)), (1, .int v1_4), (2, .int v2_4), (3, .int x3_19), (5, .int v5_26)]) B dX11_fewerNow_64 n4 (fun _ => rfl) (fun x4_64 => ?_)
        refine r_iinc (lv' := fun x5_66 => [(5, .int x5_66), (4, .int x4_64), (0, .ref (g.1 0)), (1, .int v1_4), (2, .int v2_4), (3, .int x3_19)]) B 5 (1 : Int32) dX11_fewerNow_66 rfl (by decide) n5 (fun _ => rfl) (fun x5_66 => ?_)
        refine r_goto B 26 dX11_fewerNow_69 (by decide) ?_
        refine r_sub [2, 3, 4, 5, 1, 0] rfl ?_
        exact ih x4_64 x5_66
      · refine r_aload_n B 0 dX11_fewerNow_49 rfl rfl ?_
        refine r_get B 0 10 18 (Nat.le_of_ble_eq_true rfl) rfl (cM_0 g _) rfl m_X11_fewerNow_inX11 (Nat.le_of_ble_eq_true rfl) m_X11_fewerNow_f50 rfl dX11_fewerNow_50 ?_
        refine r_iload B 5 dX11_fewerNow_53 rfl ?_
        refine r_iald B 13 0 (Nat.le_of_ble_eq_true rfl) rfl (cM_13 g _) rfl dX11_fewerNow_55 ?_
        refine r_cI (zrunS (As := [.int (zA S 13 v5_26.toNatClampNeg)]) (rest := [.int v4_26]) B 1 (fun b hb => k_X11_ones B.2.2.1 hb) gX11_fewerNow_X11_ones rfl rfl rfl y_X11_ones ⟨Nat.le_of_ble_eq_true rfl, Nat.le_of_ble_eq_true rfl⟩ rfl rfl (Nat.le_of_ble_eq_true rfl) dX11_fewerNow_56) (fun r56 => ?_)
        refine r_goto B 63 dX11_fewerNow_59 (by decide) ?_
        refine r_iadd B dX11_fewerNow_63 ?_
        refine r_istore (lv' := fun x4_64 => [(4, .int x4_64), (0, .ref (g.1 0)), (1, .int v1_4), (2, .int v2_4), (3, .int x3_19), (5, .int v5_26)]) B dX11_fewerNow_64 n4 (fun _ => rfl) (fun x4_64 => ?_)
        refine r_iinc (lv' := fun x5_66 => [(5, .int x5_66), (4, .int x4_64), (0, .ref (g.1 0)), (1, .int v1_4), (2, .int v2_4), (3, .int x3_19)]) B 5 (1 : Int32) dX11_fewerNow_66 rfl (by decide) n5 (fun _ => rfl) (fun x5_66 => ?_)
        refine r_goto B 26 dX11_fewerNow_69 (by decide) ?_
        refine r_sub [2, 3, 4, 5, 1, 0] rfl ?_
        exact ih x4_64 x5_66
set_option maxRecDepth 100000 in
set_option maxHeartbeats 4000000 in
theorem xL_X11_fewerNow_4 {E : zCx} {g : zGx} (B : zGood E (WM g) (zT g) cX11_fewerNow RX11 wsX11_fewerNow (some .int) rm_X11_fewerNow) (hE : E.2.2 = 6) (S : zSt) (k : Int32 → Option Int32) (hk : ∀ (w1 : Int32), Xo E (WM g) (eI S) S 96 [(1, .int w1)] [] (k w1)) : ∀ (n : Nat) (v1_4 : Int32) (v2_4 : Int32), Xo E (WM g) (eI S) S 4 [(0, .ref (g.1 0)), (1, .int v1_4), (2, .int v2_4)] [] (L_X11_fewerNow_4 S k n v1_4 v2_4) := by
  have n1 : 1 < E.2.2 := by rw [hE]; decide
  have n2 : 2 < E.2.2 := by rw [hE]; decide
  have n3 : 3 < E.2.2 := by rw [hE]; decide
  have n4 : 4 < E.2.2 := by rw [hE]; decide
  have n5 : 5 < E.2.2 := by rw [hE]; decide
  intro n
  induction n with
  | zero =>
    intro _ _
    exact r_none
  | succ n ih =>
    intro v1_4 v2_4
    rw [L_X11_fewerNow_4]
    refine r_iload_n B 2 dX11_fewerNow_4 rfl rfl ?_
    refine r_bipush B (8 : Int32) dX11_fewerNow_5 (by decide) ?_
    refine r_icmp_ge B 96 dX11_fewerNow_7 (by decide) (fun _ => ?_) (fun _ => ?_)
    · refine r_sub [1] rfl ?_
      exact hk v1_4
    · refine r_aload_n B 0 dX11_fewerNow_10 rfl rfl ?_
      refine r_get B 0 10 18 (Nat.le_of_ble_eq_true rfl) rfl (cM_0 g _) rfl m_X11_fewerNow_inX11 (Nat.le_of_ble_eq_true rfl) m_X11_fewerNow_f50 rfl dX11_fewerNow_11 ?_
      refine r_iload_n B 2 dX11_fewerNow_14 rfl rfl ?_
      refine r_iald B 13 0 (Nat.le_of_ble_eq_true rfl) rfl (cM_13 g _) rfl dX11_fewerNow_15 ?_
      refine r_cI (zrunS (As := [.int (zA S 13 v2_4.toNatClampNeg)]) (rest := []) B 1 (fun b hb => k_X11_ones B.2.2.1 hb) gX11_fewerNow_X11_ones rfl rfl rfl y_X11_ones ⟨Nat.le_of_ble_eq_true rfl, Nat.le_of_ble_eq_true rfl⟩ rfl rfl (Nat.le_of_ble_eq_true rfl) dX11_fewerNow_16) (fun r16 => ?_)
      refine r_istore_n (lv' := fun x3_19 => [(3, .int x3_19), (0, .ref (g.1 0)), (1, .int v1_4), (2, .int v2_4)]) B dX11_fewerNow_19 rfl n3 (fun _ => rfl) (fun x3_19 => ?_)
      refine r_iconst B (0 : Int32) dX11_fewerNow_20 (by decide) ?_
      refine r_istore (lv' := fun x4_21 => [(4, .int x4_21), (3, .int x3_19), (0, .ref (g.1 0)), (1, .int v1_4), (2, .int v2_4)]) B dX11_fewerNow_21 n4 (fun _ => rfl) (fun x4_21 => ?_)
      refine r_iconst B (0 : Int32) dX11_fewerNow_23 (by decide) ?_
      refine r_istore (lv' := fun x5_24 => [(5, .int x5_24), (4, .int x4_21), (3, .int x3_19), (0, .ref (g.1 0)), (1, .int v1_4), (2, .int v2_4)]) B dX11_fewerNow_24 n5 (fun _ => rfl) (fun x5_24 => ?_)
      refine r_sub [3, 4, 5, 2, 1, 0] rfl ?_
      refine xL_X11_fewerNow_26 B hE S v1_4 v2_4 x3_19 _ ?_ 1000 x4_21 x5_24
      intro w4_26
      refine r_iload_n B 1 dX11_fewerNow_72 rfl rfl ?_
      refine r_iload_n B 3 dX11_fewerNow_73 rfl rfl ?_
      refine r_iload_n B 3 dX11_fewerNow_74 rfl rfl ?_
      refine r_imul B dX11_fewerNow_75 ?_
      refine r_iload B 4 dX11_fewerNow_76 rfl ?_
      refine r_icmp_ge B 87 dX11_fewerNow_78 (by decide) (fun _ => ?_) (fun _ => ?_)
      · refine r_iconst B (0 : Int32) dX11_fewerNow_87 (by decide) ?_
        refine r_ior B dX11_fewerNow_88 ?_
        refine r_istore_n (lv' := fun x1_89 => [(1, .int x1_89), (0, .ref (g.1 0)), (2, .int v2_4), (3, .int x3_19), (4, .int w4_26)]) B dX11_fewerNow_89 rfl n1 (fun _ => rfl) (fun x1_89 => ?_)
        refine r_iinc (lv' := fun x2_90 => [(2, .int x2_90), (1, .int x1_89), (0, .ref (g.1 0)), (3, .int x3_19), (4, .int w4_26)]) B 2 (1 : Int32) dX11_fewerNow_90 rfl (by decide) n2 (fun _ => rfl) (fun x2_90 => ?_)
        refine r_goto B 4 dX11_fewerNow_93 (by decide) ?_
        refine r_sub [2, 1, 0] rfl ?_
        exact ih x1_89 x2_90
      · refine r_iconst B (1 : Int32) dX11_fewerNow_81 (by decide) ?_
        refine r_iload_n B 2 dX11_fewerNow_82 rfl rfl ?_
        refine r_ishl B dX11_fewerNow_83 ?_
        refine r_goto B 88 dX11_fewerNow_84 (by decide) ?_
        refine r_ior B dX11_fewerNow_88 ?_
        refine r_istore_n (lv' := fun x1_89 => [(1, .int x1_89), (0, .ref (g.1 0)), (2, .int v2_4), (3, .int x3_19), (4, .int w4_26)]) B dX11_fewerNow_89 rfl n1 (fun _ => rfl) (fun x1_89 => ?_)
        refine r_iinc (lv' := fun x2_90 => [(2, .int x2_90), (1, .int x1_89), (0, .ref (g.1 0)), (3, .int x3_19), (4, .int w4_26)]) B 2 (1 : Int32) dX11_fewerNow_90 rfl (by decide) n2 (fun _ => rfl) (fun x2_90 => ?_)
        refine r_goto B 4 dX11_fewerNow_93 (by decide) ?_
        refine r_sub [2, 1, 0] rfl ?_
        exact ih x1_89 x2_90
set_option maxRecDepth 100000 in
set_option maxHeartbeats 4000000 in
theorem x_X11_fewerNow {E : zCx} {g : zGx} (B : zGood E (WM g) (zT g) cX11_fewerNow RX11 wsX11_fewerNow (some .int) rm_X11_fewerNow) (hE : E.2.2 = 6) (S : zSt) : Xo E (WM g) (eI S) S 0 [(0, .ref (g.1 0))] [] (F_X11_fewerNow S) := by
  have n1 : 1 < E.2.2 := by rw [hE]; decide
  have n2 : 2 < E.2.2 := by rw [hE]; decide
  have n3 : 3 < E.2.2 := by rw [hE]; decide
  have n4 : 4 < E.2.2 := by rw [hE]; decide
  have n5 : 5 < E.2.2 := by rw [hE]; decide
  unfold F_X11_fewerNow
  refine r_iconst B (0 : Int32) dX11_fewerNow_0 (by decide) ?_
  refine r_istore_n (lv' := fun x1_1 => [(1, .int x1_1), (0, .ref (g.1 0))]) B dX11_fewerNow_1 rfl n1 (fun _ => rfl) (fun x1_1 => ?_)
  refine r_iconst B (0 : Int32) dX11_fewerNow_2 (by decide) ?_
  refine r_istore_n (lv' := fun x2_3 => [(2, .int x2_3), (1, .int x1_1), (0, .ref (g.1 0))]) B dX11_fewerNow_3 rfl n2 (fun _ => rfl) (fun x2_3 => ?_)
  refine r_sub [2, 1, 0] rfl ?_
  refine xL_X11_fewerNow_4 B hE S _ ?_ 1000 x1_1 x2_3
  intro w1_4
  refine r_iload_n B 0 dX11_fewerNow_96 rfl rfl ?_
  exact r_iret B dX11_fewerNow_97 rfl
set_option maxRecDepth 20000 in
theorem k_X11_fewerNow {l : Launch} {D : va_G} {g : zGx} (hz : zin (WM g)) {S : zSt} {b : Int32} (h : F_X11_fewerNow S = some b) : zMet l D (WM g) (zT g) yX11_fewerNow wsX11_fewerNow rm_X11_fewerNow S [.ref (g.1 0)] ((eI S) b) := zmet_of (by decide +kernel) rfl hz (Nat.le_of_ble_eq_true rfl) rfl (fun E _ _ hE B => x_X11_fewerNow B hE S) h
abbrev rm_X11_fewer : Room := { frames := 2, cells := 0, slots := 0, locals := 47 }
theorem y_X11_fewer : yX11_fewer.cls = RX11 ∧ yX11_fewer.cls ≠ "java/lang/invoke/MethodHandle" ∧ yX11_fewer.cls ≠ "java/lang/invoke/VarHandle" ∧ (parseMethodDescriptor yX11_fewer.desc).map (fun d => d.parameters.length) = some 0 := by decide +kernel
set_option maxRecDepth 100000 in
set_option maxHeartbeats 4000000 in
theorem x_X11_fewer {E : zCx} {g : zGx} (B : zGood E (WM g) (zT g) cX11_fewer RX11 wsX11_fewer (some .int) rm_X11_fewer) (hE : E.2.2 = 1) (S : zSt) : Xo E (WM g) (eI S) S 0 [(0, .ref (g.1 0))] [] (F_X11_fewer S) := by
  unfold F_X11_fewer
  refine r_aload_n B 0 dX11_fewer_0 rfl rfl ?_
  refine r_cI (zrunV (As := []) (rest := []) B 0 0 (fun b hb => k_X11_fewerNow B.2.2.1 hb) gX11_fewer_X11_fewerNow rfl rfl rfl y_X11_fewerNow ⟨Nat.le_of_ble_eq_true rfl, Nat.le_of_ble_eq_true rfl⟩ (Nat.le_of_ble_eq_true rfl) rfl (cM_0 g _) rfl rfl rfl (Nat.le_of_ble_eq_true rfl) dX11_fewer_1) (fun r1 => ?_)
  exact r_iret B dX11_fewer_4 rfl
set_option maxRecDepth 20000 in
theorem k_X11_fewer {l : Launch} {D : va_G} {g : zGx} (hz : zin (WM g)) {S : zSt} {b : Int32} (h : F_X11_fewer S = some b) : zMet l D (WM g) (zT g) yX11_fewer wsX11_fewer rm_X11_fewer S [.ref (g.1 0)] ((eI S) b) := zmet_of (by decide +kernel) rfl hz (Nat.le_of_ble_eq_true rfl) rfl (fun E _ _ hE B => x_X11_fewer B hE S) h
abbrev rm_X11_picked : Room := { frames := 2, cells := 0, slots := 0, locals := 45 }
theorem y_X11_picked : yX11_picked.cls = RX11 ∧ yX11_picked.cls ≠ "java/lang/invoke/MethodHandle" ∧ yX11_picked.cls ≠ "java/lang/invoke/VarHandle" ∧ (parseMethodDescriptor yX11_picked.desc).map (fun d => d.parameters.length) = some 2 := by decide +kernel
theorem m_X11_picked_c217 : Cond.constantLong RX11 217 (3360) ∈ wsX11_picked := List.mem_cons_of_mem _ (List.mem_append_left _ (List.mem_of_getElem? (i := 0) rfl))
set_option maxRecDepth 100000 in
set_option maxHeartbeats 4000000 in
theorem x_X11_picked {E : zCx} {g : zGx} (B : zGood E (WM g) (zT g) cX11_picked RX11 wsX11_picked (some .long) rm_X11_picked) (hE : E.2.2 = 3) (S : zSt) (a1 : Int32) (a2 : Int32) : Xo E (WM g) (eL S) S 0 [(0, .ref (g.1 0)), (1, .int a1), (2, .int a2)] [] (F_X11_picked S a1 a2) := by
  unfold F_X11_picked
  refine r_iload_n B 1 dX11_picked_0 rfl rfl ?_
  refine r_iconst B (0 : Int32) dX11_picked_1 (by decide) ?_
  refine r_bipush B (7 : Int32) dX11_picked_2 (by decide) ?_
  refine r_cI (zrunS (As := [.int a1, .int (0 : Int32), .int (7 : Int32)]) (rest := []) B 3 (fun b hb => k_X11_in B.2.2.1 hb) gX11_picked_X11_in rfl rfl rfl y_X11_in ⟨Nat.le_of_ble_eq_true rfl, Nat.le_of_ble_eq_true rfl⟩ rfl rfl (Nat.le_of_ble_eq_true rfl) dX11_picked_4) (fun r4 => ?_)
  refine r_jn2 (P := fun j35 : Option Int64 => Xo E (WM g) (eL S) S 35 [] [] (j35)) ?_ (fun j35 hj35 => ?_)
  · refine r_bipush B (-2 : Int32) dX11_picked_35 (by decide) ?_
    refine r_cL (zrunS (As := [.int (-2 : Int32)]) (rest := []) B 1 (fun b hb => k_X11_no B.2.2.1 hb) gX11_picked_X11_no rfl rfl rfl y_X11_no ⟨Nat.le_of_ble_eq_true rfl, Nat.le_of_ble_eq_true rfl⟩ rfl rfl (Nat.le_of_ble_eq_true rfl) dX11_picked_37) (fun r37 => ?_)
    exact r_lret B dX11_picked_40 rfl
  refine r_if_eq B 35 dX11_picked_7 (by decide) (fun _ => ?_) (fun _ => ?_)
  · refine r_sub [] rfl ?_
    exact hj35
  · refine r_iload_n B 2 dX11_picked_10 rfl rfl ?_
    refine r_iconst B (0 : Int32) dX11_picked_11 (by decide) ?_
    refine r_iconst B (1 : Int32) dX11_picked_12 (by decide) ?_
    refine r_cI (zrunS (As := [.int a2, .int (0 : Int32), .int (1 : Int32)]) (rest := []) B 3 (fun b hb => k_X11_in B.2.2.1 hb) gX11_picked_X11_in rfl rfl rfl y_X11_in ⟨Nat.le_of_ble_eq_true rfl, Nat.le_of_ble_eq_true rfl⟩ rfl rfl (Nat.le_of_ble_eq_true rfl) dX11_picked_13) (fun r13 => ?_)
    refine r_if_eq B 35 dX11_picked_16 (by decide) (fun _ => ?_) (fun _ => ?_)
    · refine r_sub [] rfl ?_
      exact hj35
    · refine r_aload_n B 0 dX11_picked_19 rfl rfl ?_
      refine r_iload_n B 1 dX11_picked_20 rfl rfl ?_
      refine r_cI (zrunV (As := [.int a1]) (rest := []) B 1 0 (fun b hb => k_X11_pickedParts B.2.2.1 hb) gX11_picked_X11_pickedParts rfl rfl rfl y_X11_pickedParts ⟨Nat.le_of_ble_eq_true rfl, Nat.le_of_ble_eq_true rfl⟩ (Nat.le_of_ble_eq_true rfl) rfl (cM_0 g _) rfl rfl rfl (Nat.le_of_ble_eq_true rfl) dX11_picked_21) (fun r21 => ?_)
      refine r_i2l B dX11_picked_24 ?_
      refine r_ldc2 B (3360 : Int64) m_X11_picked_c217 dX11_picked_25 ?_
      refine r_iload_n B 2 dX11_picked_28 rfl rfl ?_
      refine r_cL (zrunS (As := [.long (r21.toInt64), .long (3360 : Int64), .int a2]) (rest := []) B 3 (fun b hb => k_X11_lowest B.2.2.1 hb) gX11_picked_X11_lowest rfl rfl rfl y_X11_lowest ⟨Nat.le_of_ble_eq_true rfl, Nat.le_of_ble_eq_true rfl⟩ rfl rfl (Nat.le_of_ble_eq_true rfl) dX11_picked_29) (fun r29 => ?_)
      refine r_goto B 40 dX11_picked_32 (by decide) ?_
      exact r_lret B dX11_picked_40 rfl
set_option maxRecDepth 20000 in
theorem k_X11_picked {l : Launch} {D : va_G} {g : zGx} (hz : zin (WM g)) {S : zSt} {a1 : Int32} {a2 : Int32} {b : Int64} (h : F_X11_picked S a1 a2 = some b) : zMet l D (WM g) (zT g) yX11_picked wsX11_picked rm_X11_picked S [.ref (g.1 0), .int a1, .int a2] ((eL S) b) := zmet_of (by decide +kernel) rfl hz (Nat.le_of_ble_eq_true rfl) rfl (fun E _ _ hE B => x_X11_picked B hE S a1 a2) h
abbrev rm_X11_bestNow : Room := { frames := 1, cells := 0, slots := 0, locals := 22 }
theorem y_X11_bestNow : yX11_bestNow.cls = RX11 ∧ yX11_bestNow.cls ≠ "java/lang/invoke/MethodHandle" ∧ yX11_bestNow.cls ≠ "java/lang/invoke/VarHandle" ∧ (parseMethodDescriptor yX11_bestNow.desc).map (fun d => d.parameters.length) = some 2 := by decide +kernel
theorem m_X11_bestNow_f50 : Cond.fieldLink RX11 50 "LongestMetModel" "friendsOf" "[I" ∈ wsX11_bestNow := List.mem_cons_of_mem _ (List.mem_append_left _ (List.mem_of_getElem? (i := 0) rfl))
theorem m_X11_bestNow_inX11 : ∀ x ∈ u_ws RX11 TX11 27, x ∈ wsX11_bestNow := fun _ h => List.mem_cons_of_mem _ (List.mem_append_right _ h)
set_option maxRecDepth 100000 in
set_option maxHeartbeats 4000000 in
theorem xL_X11_bestNow_32 {E : zCx} {g : zGx} (B : zGood E (WM g) (zT g) cX11_bestNow RX11 wsX11_bestNow (some .int) rm_X11_bestNow) (hE : E.2.2 = 9) (S : zSt) (a1 : Int32) (a2 : Int32) (v3_8 : Int32) (v4_8 : Int32) (v5_8 : Int32) (v7_22 : Int32) (k : Int32 → Option Int32) (hk : ∀ (w6 : Int32), Xo E (WM g) (eI S) S 90 [(0, .ref (g.1 0)), (1, .int a1), (2, .int a2), (3, .int v3_8), (4, .int v4_8), (5, .int v5_8), (6, .int w6), (7, .int v7_22)] [] (k w6)) : ∀ (n : Nat) (v6_32 : Int32) (v8_32 : Int32), Xo E (WM g) (eI S) S 32 [(0, .ref (g.1 0)), (1, .int a1), (2, .int a2), (3, .int v3_8), (4, .int v4_8), (5, .int v5_8), (6, .int v6_32), (7, .int v7_22), (8, .int v8_32)] [] (L_X11_bestNow_32 S a1 a2 v3_8 v4_8 v5_8 v7_22 k n v6_32 v8_32) := by
  have n3 : 3 < E.2.2 := by rw [hE]; decide
  have n4 : 4 < E.2.2 := by rw [hE]; decide
  have n5 : 5 < E.2.2 := by rw [hE]; decide
  have n6 : 6 < E.2.2 := by rw [hE]; decide
  have n7 : 7 < E.2.2 := by rw [hE]; decide
  have n8 : 8 < E.2.2 := by rw [hE]; decide
  intro n
  induction n with
  | zero =>
    intro _ _
    exact r_none
  | succ n ih =>
    intro v6_32 v8_32
    rw [L_X11_bestNow_32]
    refine r_iload B 8 dX11_bestNow_32 rfl ?_
    refine r_iload B 7 dX11_bestNow_34 rfl ?_
    refine r_icmp_ge B 90 dX11_bestNow_36 (by decide) (fun _ => ?_) (fun _ => ?_)
    · refine r_sub [0, 1, 2, 3, 4, 5, 6, 7] rfl ?_
      exact hk v6_32
    · refine r_iload B 6 dX11_bestNow_39 rfl ?_
      refine r_aload_n B 0 dX11_bestNow_41 rfl rfl ?_
      refine r_get B 0 10 18 (Nat.le_of_ble_eq_true rfl) rfl (cM_0 g _) rfl m_X11_bestNow_inX11 (Nat.le_of_ble_eq_true rfl) m_X11_bestNow_f50 rfl dX11_bestNow_42 ?_
      refine r_iload B 7 dX11_bestNow_45 rfl ?_
      refine r_iald B 13 0 (Nat.le_of_ble_eq_true rfl) rfl (cM_13 g _) rfl dX11_bestNow_47 ?_
      refine r_iload B 8 dX11_bestNow_48 rfl ?_
      refine r_cI (zrunS (As := [.int (zA S 13 v7_22.toNatClampNeg), .int v8_32]) (rest := [.int v6_32]) B 2 (fun b hb => k_X11_has B.2.2.1 hb) gX11_bestNow_X11_has rfl rfl rfl y_X11_has ⟨Nat.le_of_ble_eq_true rfl, Nat.le_of_ble_eq_true rfl⟩ rfl rfl (Nat.le_of_ble_eq_true rfl) dX11_bestNow_50) (fun r50 => ?_)
      refine r_if_eq B 80 dX11_bestNow_53 (by decide) (fun _ => ?_) (fun _ => ?_)
      · refine r_iconst B (0 : Int32) dX11_bestNow_80 (by decide) ?_
        refine r_iadd B dX11_bestNow_81 ?_
        refine r_istore (lv' := fun x6_82 => [(6, .int x6_82), (0, .ref (g.1 0)), (1, .int a1), (2, .int a2), (3, .int v3_8), (4, .int v4_8), (5, .int v5_8), (7, .int v7_22), (8, .int v8_32)]) B dX11_bestNow_82 n6 (fun _ => rfl) (fun x6_82 => ?_)
        refine r_iinc (lv' := fun x8_84 => [(8, .int x8_84), (6, .int x6_82), (0, .ref (g.1 0)), (1, .int a1), (2, .int a2), (3, .int v3_8), (4, .int v4_8), (5, .int v5_8), (7, .int v7_22)]) B 8 (1 : Int32) dX11_bestNow_84 rfl (by decide) n8 (fun _ => rfl) (fun x8_84 => ?_)
        refine r_goto B 32 dX11_bestNow_87 (by decide) ?_
        refine r_sub [2, 3, 4, 5, 6, 7, 1, 8, 0] rfl ?_
        exact ih x6_82 x8_84
      · refine r_iload B 5 dX11_bestNow_56 rfl ?_
        refine r_iload B 7 dX11_bestNow_58 rfl ?_
        refine r_cI (zrunS (As := [.int v5_8, .int v7_22]) (rest := [.int v6_32]) B 2 (fun b hb => k_X11_has B.2.2.1 hb) gX11_bestNow_X11_has rfl rfl rfl y_X11_has ⟨Nat.le_of_ble_eq_true rfl, Nat.le_of_ble_eq_true rfl⟩ rfl rfl (Nat.le_of_ble_eq_true rfl) dX11_bestNow_60) (fun r60 => ?_)
        refine r_if_ne B 76 dX11_bestNow_63 (by decide) (fun _ => ?_) (fun _ => ?_)
        · refine r_iconst B (1 : Int32) dX11_bestNow_76 (by decide) ?_
          refine r_goto B 81 dX11_bestNow_77 (by decide) ?_
          refine r_iadd B dX11_bestNow_81 ?_
          refine r_istore (lv' := fun x6_82 => [(6, .int x6_82), (0, .ref (g.1 0)), (1, .int a1), (2, .int a2), (3, .int v3_8), (4, .int v4_8), (5, .int v5_8), (7, .int v7_22), (8, .int v8_32)]) B dX11_bestNow_82 n6 (fun _ => rfl) (fun x6_82 => ?_)
          refine r_iinc (lv' := fun x8_84 => [(8, .int x8_84), (6, .int x6_82), (0, .ref (g.1 0)), (1, .int a1), (2, .int a2), (3, .int v3_8), (4, .int v4_8), (5, .int v5_8), (7, .int v7_22)]) B 8 (1 : Int32) dX11_bestNow_84 rfl (by decide) n8 (fun _ => rfl) (fun x8_84 => ?_)
          refine r_goto B 32 dX11_bestNow_87 (by decide) ?_
          refine r_sub [2, 3, 4, 5, 6, 7, 1, 8, 0] rfl ?_
          exact ih x6_82 x8_84
        · refine r_iload B 5 dX11_bestNow_66 rfl ?_
          refine r_iload B 8 dX11_bestNow_68 rfl ?_
          refine r_cI (zrunS (As := [.int v5_8, .int v8_32]) (rest := [.int v6_32]) B 2 (fun b hb => k_X11_has B.2.2.1 hb) gX11_bestNow_X11_has rfl rfl rfl y_X11_has ⟨Nat.le_of_ble_eq_true rfl, Nat.le_of_ble_eq_true rfl⟩ rfl rfl (Nat.le_of_ble_eq_true rfl) dX11_bestNow_70) (fun r70 => ?_)
          refine r_if_eq B 80 dX11_bestNow_73 (by decide) (fun _ => ?_) (fun _ => ?_)
          · refine r_iconst B (0 : Int32) dX11_bestNow_80 (by decide) ?_
            refine r_iadd B dX11_bestNow_81 ?_
            refine r_istore (lv' := fun x6_82 => [(6, .int x6_82), (0, .ref (g.1 0)), (1, .int a1), (2, .int a2), (3, .int v3_8), (4, .int v4_8), (5, .int v5_8), (7, .int v7_22), (8, .int v8_32)]) B dX11_bestNow_82 n6 (fun _ => rfl) (fun x6_82 => ?_)
            refine r_iinc (lv' := fun x8_84 => [(8, .int x8_84), (6, .int x6_82), (0, .ref (g.1 0)), (1, .int a1), (2, .int a2), (3, .int v3_8), (4, .int v4_8), (5, .int v5_8), (7, .int v7_22)]) B 8 (1 : Int32) dX11_bestNow_84 rfl (by decide) n8 (fun _ => rfl) (fun x8_84 => ?_)
            refine r_goto B 32 dX11_bestNow_87 (by decide) ?_
            refine r_sub [2, 3, 4, 5, 6, 7, 1, 8, 0] rfl ?_
            exact ih x6_82 x8_84
          · refine r_iconst B (1 : Int32) dX11_bestNow_76 (by decide) ?_
            refine r_goto B 81 dX11_bestNow_77 (by decide) ?_
            refine r_iadd B dX11_bestNow_81 ?_
            refine r_istore (lv' := fun x6_82 => [(6, .int x6_82), (0, .ref (g.1 0)), (1, .int a1), (2, .int a2), (3, .int v3_8), (4, .int v4_8), (5, .int v5_8), (7, .int v7_22), (8, .int v8_32)]) B dX11_bestNow_82 n6 (fun _ => rfl) (fun x6_82 => ?_)
            refine r_iinc (lv' := fun x8_84 => [(8, .int x8_84), (6, .int x6_82), (0, .ref (g.1 0)), (1, .int a1), (2, .int a2), (3, .int v3_8), (4, .int v4_8), (5, .int v5_8), (7, .int v7_22)]) B 8 (1 : Int32) dX11_bestNow_84 rfl (by decide) n8 (fun _ => rfl) (fun x8_84 => ?_)
            refine r_goto B 32 dX11_bestNow_87 (by decide) ?_
            refine r_sub [2, 3, 4, 5, 6, 7, 1, 8, 0] rfl ?_
            exact ih x6_82 x8_84
set_option maxRecDepth 100000 in
set_option maxHeartbeats 4000000 in
theorem xL_X11_bestNow_22 {E : zCx} {g : zGx} (B : zGood E (WM g) (zT g) cX11_bestNow RX11 wsX11_bestNow (some .int) rm_X11_bestNow) (hE : E.2.2 = 9) (S : zSt) (a1 : Int32) (a2 : Int32) (v3_8 : Int32) (v4_8 : Int32) (v5_8 : Int32) (k : Int32 → Option Int32) (hk : ∀ (w6 : Int32), Xo E (WM g) (eI S) S 96 [(0, .ref (g.1 0)), (1, .int a1), (2, .int a2), (3, .int v3_8), (4, .int v4_8), (5, .int v5_8), (6, .int w6)] [] (k w6)) : ∀ (n : Nat) (v6_22 : Int32) (v7_22 : Int32), Xo E (WM g) (eI S) S 22 [(0, .ref (g.1 0)), (1, .int a1), (2, .int a2), (3, .int v3_8), (4, .int v4_8), (5, .int v5_8), (6, .int v6_22), (7, .int v7_22)] [] (L_X11_bestNow_22 S a1 a2 v3_8 v4_8 v5_8 k n v6_22 v7_22) := by
  have n3 : 3 < E.2.2 := by rw [hE]; decide
  have n4 : 4 < E.2.2 := by rw [hE]; decide
  have n5 : 5 < E.2.2 := by rw [hE]; decide
  have n6 : 6 < E.2.2 := by rw [hE]; decide
  have n7 : 7 < E.2.2 := by rw [hE]; decide
  have n8 : 8 < E.2.2 := by rw [hE]; decide
  intro n
  induction n with
  | zero =>
    intro _ _
    exact r_none
  | succ n ih =>
    intro v6_22 v7_22
    rw [L_X11_bestNow_22]
    refine r_iload B 7 dX11_bestNow_22 rfl ?_
    refine r_bipush B (8 : Int32) dX11_bestNow_24 (by decide) ?_
    refine r_icmp_ge B 96 dX11_bestNow_26 (by decide) (fun _ => ?_) (fun _ => ?_)
    · refine r_sub [0, 1, 2, 3, 4, 5, 6] rfl ?_
      exact hk v6_22
    · refine r_iconst B (0 : Int32) dX11_bestNow_29 (by decide) ?_
      refine r_istore (lv' := fun x8_30 => [(8, .int x8_30), (0, .ref (g.1 0)), (1, .int a1), (2, .int a2), (3, .int v3_8), (4, .int v4_8), (5, .int v5_8), (6, .int v6_22), (7, .int v7_22)]) B dX11_bestNow_30 n8 (fun _ => rfl) (fun x8_30 => ?_)
      refine r_sub [1, 2, 3, 4, 5, 6, 7, 8, 0] rfl ?_
      refine xL_X11_bestNow_32 B hE S a1 a2 v3_8 v4_8 v5_8 v7_22 _ ?_ 1000 v6_22 x8_30
      intro w6_32
      refine r_iinc (lv' := fun x7_90 => [(7, .int x7_90), (0, .ref (g.1 0)), (1, .int a1), (2, .int a2), (3, .int v3_8), (4, .int v4_8), (5, .int v5_8), (6, .int w6_32)]) B 7 (1 : Int32) dX11_bestNow_90 rfl (by decide) n7 (fun _ => rfl) (fun x7_90 => ?_)
      refine r_goto B 22 dX11_bestNow_93 (by decide) ?_
      refine r_sub [1, 2, 3, 4, 5, 6, 7, 0] rfl ?_
      exact ih w6_32 x7_90
set_option maxRecDepth 100000 in
set_option maxHeartbeats 4000000 in
theorem xL_X11_bestNow_8 {E : zCx} {g : zGx} (B : zGood E (WM g) (zT g) cX11_bestNow RX11 wsX11_bestNow (some .int) rm_X11_bestNow) (hE : E.2.2 = 9) (S : zSt) (a1 : Int32) (a2 : Int32) (k : Int32 → Int32 → Option Int32) (hk : ∀ (w3 : Int32) (w4 : Int32), Xo E (WM g) (eI S) S 125 [(2, .int a2), (3, .int w3), (4, .int w4)] [] (k w3 w4)) : ∀ (n : Nat) (v3_8 : Int32) (v4_8 : Int32) (v5_8 : Int32), Xo E (WM g) (eI S) S 8 [(0, .ref (g.1 0)), (1, .int a1), (2, .int a2), (3, .int v3_8), (4, .int v4_8), (5, .int v5_8)] [] (L_X11_bestNow_8 S a1 a2 k n v3_8 v4_8 v5_8) := by
  have n3 : 3 < E.2.2 := by rw [hE]; decide
  have n4 : 4 < E.2.2 := by rw [hE]; decide
  have n5 : 5 < E.2.2 := by rw [hE]; decide
  have n6 : 6 < E.2.2 := by rw [hE]; decide
  have n7 : 7 < E.2.2 := by rw [hE]; decide
  have n8 : 8 < E.2.2 := by rw [hE]; decide
  intro n
  induction n with
  | zero =>
    intro _ _ _
    exact r_none
  | succ n ih =>
    intro v3_8 v4_8 v5_8
    rw [L_X11_bestNow_8]
    refine r_iload B 5 dX11_bestNow_8 rfl ?_
    refine r_sipush B (256 : Int32) dX11_bestNow_10 (by decide) ?_
    refine r_icmp_ge B 125 dX11_bestNow_13 (by decide) (fun _ => ?_) (fun _ => ?_)
    · refine r_sub [2, 3, 4] rfl ?_
      exact hk v3_8 v4_8
    · refine r_iconst B (0 : Int32) dX11_bestNow_16 (by decide) ?_
      refine r_istore (lv' := fun x6_17 => [(6, .int x6_17), (0, .ref (g.1 0)), (1, .int a1), (2, .int a2), (3, .int v3_8), (4, .int v4_8), (5, .int v5_8)]) B dX11_bestNow_17 n6 (fun _ => rfl) (fun x6_17 => ?_)
      refine r_iconst B (0 : Int32) dX11_bestNow_19 (by decide) ?_
      refine r_istore (lv' := fun x7_20 => [(7, .int x7_20), (6, .int x6_17), (0, .ref (g.1 0)), (1, .int a1), (2, .int a2), (3, .int v3_8), (4, .int v4_8), (5, .int v5_8)]) B dX11_bestNow_20 n7 (fun _ => rfl) (fun x7_20 => ?_)
      refine r_sub [2, 3, 4, 5, 6, 7, 1, 0] rfl ?_
      refine xL_X11_bestNow_22 B hE S a1 a2 v3_8 v4_8 v5_8 _ ?_ 1000 x6_17 x7_20
      intro w6_22
      refine r_iload B 5 dX11_bestNow_96 rfl ?_
      refine r_cI (zrunS (As := [.int v5_8]) (rest := []) B 1 (fun b hb => k_X11_ones B.2.2.1 hb) gX11_bestNow_X11_ones rfl rfl rfl y_X11_ones ⟨Nat.le_of_ble_eq_true rfl, Nat.le_of_ble_eq_true rfl⟩ rfl rfl (Nat.le_of_ble_eq_true rfl) dX11_bestNow_98) (fun r98 => ?_)
      refine r_iload_n B 1 dX11_bestNow_101 rfl rfl ?_
      refine r_icmp_ne B 119 dX11_bestNow_102 (by decide) (fun _ => ?_) (fun _ => ?_)
      · refine r_iinc (lv' := fun x5_119 => [(5, .int x5_119), (0, .ref (g.1 0)), (1, .int a1), (2, .int a2), (3, .int v3_8), (4, .int v4_8), (6, .int w6_22)]) B 5 (1 : Int32) dX11_bestNow_119 rfl (by decide) n5 (fun _ => rfl) (fun x5_119 => ?_)
        refine r_goto B 8 dX11_bestNow_122 (by decide) ?_
        refine r_sub [1, 2, 3, 4, 5, 0] rfl ?_
        exact ih v3_8 v4_8 x5_119
      · refine r_iload B 6 dX11_bestNow_105 rfl ?_
        refine r_iload B 4 dX11_bestNow_107 rfl ?_
        refine r_icmp_le B 119 dX11_bestNow_109 (by decide) (fun _ => ?_) (fun _ => ?_)
        · refine r_iinc (lv' := fun x5_119 => [(5, .int x5_119), (0, .ref (g.1 0)), (1, .int a1), (2, .int a2), (3, .int v3_8), (4, .int v4_8), (6, .int w6_22)]) B 5 (1 : Int32) dX11_bestNow_119 rfl (by decide) n5 (fun _ => rfl) (fun x5_119 => ?_)
          refine r_goto B 8 dX11_bestNow_122 (by decide) ?_
          refine r_sub [1, 2, 3, 4, 5, 0] rfl ?_
          exact ih v3_8 v4_8 x5_119
        · refine r_iload B 5 dX11_bestNow_112 rfl ?_
          refine r_istore_n (lv' := fun x3_114 => [(3, .int x3_114), (0, .ref (g.1 0)), (1, .int a1), (2, .int a2), (4, .int v4_8), (5, .int v5_8), (6, .int w6_22)]) B dX11_bestNow_114 rfl n3 (fun _ => rfl) (fun x3_114 => ?_)
          refine r_iload B 6 dX11_bestNow_115 rfl ?_
          refine r_istore (lv' := fun x4_117 => [(4, .int x4_117), (3, .int x3_114), (0, .ref (g.1 0)), (1, .int a1), (2, .int a2), (5, .int v5_8), (6, .int w6_22)]) B dX11_bestNow_117 n4 (fun _ => rfl) (fun x4_117 => ?_)
          refine r_iinc (lv' := fun x5_119 => [(5, .int x5_119), (4, .int x4_117), (3, .int x3_114), (0, .ref (g.1 0)), (1, .int a1), (2, .int a2), (6, .int w6_22)]) B 5 (1 : Int32) dX11_bestNow_119 rfl (by decide) n5 (fun _ => rfl) (fun x5_119 => ?_)
          refine r_goto B 8 dX11_bestNow_122 (by decide) ?_
          refine r_sub [3, 4, 5, 2, 1, 0] rfl ?_
          exact ih x3_114 x4_117 x5_119
set_option maxRecDepth 100000 in
set_option maxHeartbeats 4000000 in
theorem x_X11_bestNow {E : zCx} {g : zGx} (B : zGood E (WM g) (zT g) cX11_bestNow RX11 wsX11_bestNow (some .int) rm_X11_bestNow) (hE : E.2.2 = 9) (S : zSt) (a1 : Int32) (a2 : Int32) : Xo E (WM g) (eI S) S 0 [(0, .ref (g.1 0)), (1, .int a1), (2, .int a2)] [] (F_X11_bestNow S a1 a2) := by
  have n3 : 3 < E.2.2 := by rw [hE]; decide
  have n4 : 4 < E.2.2 := by rw [hE]; decide
  have n5 : 5 < E.2.2 := by rw [hE]; decide
  have n6 : 6 < E.2.2 := by rw [hE]; decide
  have n7 : 7 < E.2.2 := by rw [hE]; decide
  have n8 : 8 < E.2.2 := by rw [hE]; decide
  unfold F_X11_bestNow
  refine r_iconst B (0 : Int32) dX11_bestNow_0 (by decide) ?_
  refine r_istore_n (lv' := fun x3_1 => [(3, .int x3_1), (0, .ref (g.1 0)), (1, .int a1), (2, .int a2)]) B dX11_bestNow_1 rfl n3 (fun _ => rfl) (fun x3_1 => ?_)
  refine r_iconst B (-1 : Int32) dX11_bestNow_2 (by decide) ?_
  refine r_istore (lv' := fun x4_3 => [(4, .int x4_3), (3, .int x3_1), (0, .ref (g.1 0)), (1, .int a1), (2, .int a2)]) B dX11_bestNow_3 n4 (fun _ => rfl) (fun x4_3 => ?_)
  refine r_iconst B (0 : Int32) dX11_bestNow_5 (by decide) ?_
  refine r_istore (lv' := fun x5_6 => [(5, .int x5_6), (4, .int x4_3), (3, .int x3_1), (0, .ref (g.1 0)), (1, .int a1), (2, .int a2)]) B dX11_bestNow_6 n5 (fun _ => rfl) (fun x5_6 => ?_)
  refine r_sub [3, 4, 5, 2, 1, 0] rfl ?_
  refine xL_X11_bestNow_8 B hE S a1 a2 _ ?_ 1000 x3_1 x4_3 x5_6
  intro w3_8 w4_8
  refine r_iload_n B 0 dX11_bestNow_125 rfl rfl ?_
  refine r_if_ne B 133 dX11_bestNow_126 (by decide) (fun _ => ?_) (fun _ => ?_)
  · refine r_iload B 2 dX11_bestNow_133 rfl ?_
    exact r_iret B dX11_bestNow_135 rfl
  · refine r_iload_n B 1 dX11_bestNow_129 rfl rfl ?_
    refine r_goto B 135 dX11_bestNow_130 (by decide) ?_
    exact r_iret B dX11_bestNow_135 rfl
set_option maxRecDepth 20000 in
theorem k_X11_bestNow {l : Launch} {D : va_G} {g : zGx} (hz : zin (WM g)) {S : zSt} {a1 : Int32} {a2 : Int32} {b : Int32} (h : F_X11_bestNow S a1 a2 = some b) : zMet l D (WM g) (zT g) yX11_bestNow wsX11_bestNow rm_X11_bestNow S [.ref (g.1 0), .int a1, .int a2] ((eI S) b) := zmet_of (by decide +kernel) rfl hz (Nat.le_of_ble_eq_true rfl) rfl (fun E _ _ hE B => x_X11_bestNow B hE S a1 a2) h
abbrev rm_X11_best : Room := { frames := 2, cells := 0, slots := 0, locals := 50 }
theorem y_X11_best : yX11_best.cls = RX11 ∧ yX11_best.cls ≠ "java/lang/invoke/MethodHandle" ∧ yX11_best.cls ≠ "java/lang/invoke/VarHandle" ∧ (parseMethodDescriptor yX11_best.desc).map (fun d => d.parameters.length) = some 2 := by decide +kernel
set_option maxRecDepth 100000 in
set_option maxHeartbeats 4000000 in
theorem x_X11_best {E : zCx} {g : zGx} (B : zGood E (WM g) (zT g) cX11_best RX11 wsX11_best (some .int) rm_X11_best) (hE : E.2.2 = 3) (S : zSt) (a1 : Int32) (a2 : Int32) : Xo E (WM g) (eI S) S 0 [(0, .ref (g.1 0)), (1, .int a1), (2, .int a2)] [] (F_X11_best S a1 a2) := by
  unfold F_X11_best
  refine r_iload_n B 1 dX11_best_0 rfl rfl ?_
  refine r_iconst B (1 : Int32) dX11_best_1 (by decide) ?_
  refine r_bipush B (8 : Int32) dX11_best_2 (by decide) ?_
  refine r_cI (zrunS (As := [.int a1, .int (1 : Int32), .int (8 : Int32)]) (rest := []) B 3 (fun b hb => k_X11_in B.2.2.1 hb) gX11_best_X11_in rfl rfl rfl y_X11_in ⟨Nat.le_of_ble_eq_true rfl, Nat.le_of_ble_eq_true rfl⟩ rfl rfl (Nat.le_of_ble_eq_true rfl) dX11_best_4) (fun r4 => ?_)
  refine r_if_eq B 28 dX11_best_7 (by decide) (fun _ => ?_) (fun _ => ?_)
  · refine r_bipush B (-2 : Int32) dX11_best_28 (by decide) ?_
    exact r_iret B dX11_best_30 rfl
  · refine r_iload_n B 2 dX11_best_10 rfl rfl ?_
    refine r_iconst B (0 : Int32) dX11_best_11 (by decide) ?_
    refine r_iconst B (1 : Int32) dX11_best_12 (by decide) ?_
    refine r_cI (zrunS (As := [.int a2, .int (0 : Int32), .int (1 : Int32)]) (rest := []) B 3 (fun b hb => k_X11_in B.2.2.1 hb) gX11_best_X11_in rfl rfl rfl y_X11_in ⟨Nat.le_of_ble_eq_true rfl, Nat.le_of_ble_eq_true rfl⟩ rfl rfl (Nat.le_of_ble_eq_true rfl) dX11_best_13) (fun r13 => ?_)
    refine r_if_eq B 28 dX11_best_16 (by decide) (fun _ => ?_) (fun _ => ?_)
    · refine r_bipush B (-2 : Int32) dX11_best_28 (by decide) ?_
      exact r_iret B dX11_best_30 rfl
    · refine r_aload_n B 0 dX11_best_19 rfl rfl ?_
      refine r_iload_n B 1 dX11_best_20 rfl rfl ?_
      refine r_iload_n B 2 dX11_best_21 rfl rfl ?_
      refine r_cI (zrunV (As := [.int a1, .int a2]) (rest := []) B 2 0 (fun b hb => k_X11_bestNow B.2.2.1 hb) gX11_best_X11_bestNow rfl rfl rfl y_X11_bestNow ⟨Nat.le_of_ble_eq_true rfl, Nat.le_of_ble_eq_true rfl⟩ (Nat.le_of_ble_eq_true rfl) rfl (cM_0 g _) rfl rfl rfl (Nat.le_of_ble_eq_true rfl) dX11_best_22) (fun r22 => ?_)
      refine r_goto B 30 dX11_best_25 (by decide) ?_
      exact r_iret B dX11_best_30 rfl
set_option maxRecDepth 20000 in
theorem k_X11_best {l : Launch} {D : va_G} {g : zGx} (hz : zin (WM g)) {S : zSt} {a1 : Int32} {a2 : Int32} {b : Int32} (h : F_X11_best S a1 a2 = some b) : zMet l D (WM g) (zT g) yX11_best wsX11_best rm_X11_best S [.ref (g.1 0), .int a1, .int a2] ((eI S) b) := zmet_of (by decide +kernel) rfl hz (Nat.le_of_ble_eq_true rfl) rfl (fun E _ _ hE B => x_X11_best B hE S a1 a2) h
abbrev rm_X11_piece : Room := { frames := 1, cells := 0, slots := 0, locals := 22 }
theorem y_X11_piece : yX11_piece.cls = RX11 ∧ yX11_piece.cls ≠ "java/lang/invoke/MethodHandle" ∧ yX11_piece.cls ≠ "java/lang/invoke/VarHandle" ∧ (parseMethodDescriptor yX11_piece.desc).map (fun d => d.parameters.length) = some 1 := by decide +kernel
theorem m_X11_piece_f228 : Cond.fieldLink RX11 228 "LongestMetModel" "pieces" "I" ∈ wsX11_piece := List.mem_cons_of_mem _ (List.mem_append_left _ (List.mem_of_getElem? (i := 0) rfl))
theorem m_X11_piece_inX11 : ∀ x ∈ u_ws RX11 TX11 27, x ∈ wsX11_piece := fun _ h => List.mem_cons_of_mem _ (List.mem_append_right _ h)
theorem m_X11_piece_f53 : Cond.fieldLink RX11 53 "LongestMetModel" "lengths" "[I" ∈ wsX11_piece := List.mem_cons_of_mem _ (List.mem_append_left _ (List.mem_of_getElem? (i := 1) rfl))
set_option maxRecDepth 100000 in
set_option maxHeartbeats 4000000 in
theorem x_X11_piece {E : zCx} {g : zGx} (B : zGood E (WM g) (zT g) cX11_piece RX11 wsX11_piece (some .int) rm_X11_piece) (hE : E.2.2 = 2) (S : zSt) (a1 : Int32) : Xo E (WM g) eIw S 0 [(0, .ref (g.1 0)), (1, .int a1)] [] (F_X11_piece S a1) := by
  unfold F_X11_piece
  refine r_iload_n B 1 dX11_piece_0 rfl rfl ?_
  refine r_iconst B (1 : Int32) dX11_piece_1 (by decide) ?_
  refine r_bipush B (20 : Int32) dX11_piece_2 (by decide) ?_
  refine r_cI (zrunS (As := [.int a1, .int (1 : Int32), .int (20 : Int32)]) (rest := []) B 3 (fun b hb => k_X11_in B.2.2.1 hb) gX11_piece_X11_in rfl rfl rfl y_X11_in ⟨Nat.le_of_ble_eq_true rfl, Nat.le_of_ble_eq_true rfl⟩ rfl rfl (Nat.le_of_ble_eq_true rfl) dX11_piece_4) (fun r4 => ?_)
  refine r_if_ne B 13 dX11_piece_7 (by decide) (fun _ => ?_) (fun _ => ?_)
  · refine r_aload_n B 0 dX11_piece_13 rfl rfl ?_
    refine r_get B 0 10 19 (Nat.le_of_ble_eq_true rfl) rfl (cM_0 g _) rfl m_X11_piece_inX11 (Nat.le_of_ble_eq_true rfl) m_X11_piece_f228 rfl dX11_piece_14 ?_
    refine r_bipush B (8 : Int32) dX11_piece_17 (by decide) ?_
    refine r_icmp_ne B 25 dX11_piece_19 (by decide) (fun _ => ?_) (fun _ => ?_)
    · refine r_aload_n B 0 dX11_piece_25 rfl rfl ?_
      refine r_get B 0 10 20 (Nat.le_of_ble_eq_true rfl) rfl (cM_0 g _) rfl m_X11_piece_inX11 (Nat.le_of_ble_eq_true rfl) m_X11_piece_f53 rfl dX11_piece_26 ?_
      refine r_aload_n B 0 dX11_piece_29 rfl rfl ?_
      refine r_get B 0 10 19 (Nat.le_of_ble_eq_true rfl) rfl (cM_0 g _) rfl m_X11_piece_inX11 (Nat.le_of_ble_eq_true rfl) m_X11_piece_f228 rfl dX11_piece_30 ?_
      refine r_iload_n B 1 dX11_piece_33 rfl rfl ?_
      refine r_iast B 14 0 (Nat.le_of_ble_eq_true rfl) rfl (cM_14 g _) rfl (uM_14 g _ _) dX11_piece_34 (fun S34 => ?_)
      refine r_aload_n B 0 dX11_piece_35 rfl rfl ?_
      refine r_dup B rfl dX11_piece_36 ?_
      refine r_get B 0 10 19 (Nat.le_of_ble_eq_true rfl) rfl (cM_0 g _) rfl m_X11_piece_inX11 (Nat.le_of_ble_eq_true rfl) m_X11_piece_f228 rfl dX11_piece_37 ?_
      refine r_iconst B (1 : Int32) dX11_piece_40 (by decide) ?_
      refine r_iadd B dX11_piece_41 ?_
      refine r_put (ty := .int) B 0 10 19 tyX11 tyX11_ok nmX11 (Nat.le_of_ble_eq_true rfl) rfl (cM_0 g _) rfl m_X11_piece_inX11 (Nat.le_of_ble_eq_true rfl) m_X11_piece_f228 rfl (by decide +kernel) rfl rfl (Nat.le_of_ble_eq_true rfl) (pM_0_19 g _ _) dX11_piece_42 (fun S42 => ?_)
      refine r_aload_n B 0 dX11_piece_45 rfl rfl ?_
      refine r_get B 0 10 19 (Nat.le_of_ble_eq_true rfl) rfl (cM_0 g _) rfl m_X11_piece_inX11 (Nat.le_of_ble_eq_true rfl) m_X11_piece_f228 rfl dX11_piece_46 ?_
      exact r_iret B dX11_piece_49 rfl
    · refine r_bipush B (-4 : Int32) dX11_piece_22 (by decide) ?_
      exact r_iret B dX11_piece_24 rfl
  · refine r_bipush B (-2 : Int32) dX11_piece_10 (by decide) ?_
    exact r_iret B dX11_piece_12 rfl
set_option maxRecDepth 20000 in
theorem k_X11_piece {l : Launch} {D : va_G} {g : zGx} (hz : zin (WM g)) {S : zSt} {a1 : Int32} {b : (Int32 × zSt)} (h : F_X11_piece S a1 = some b) : zMet l D (WM g) (zT g) yX11_piece wsX11_piece rm_X11_piece S [.ref (g.1 0), .int a1] (eIw b) := zmet_of (by decide +kernel) rfl hz (Nat.le_of_ble_eq_true rfl) rfl (fun E _ _ hE B => x_X11_piece B hE S a1) h
abbrev rm_X11_snap : Room := { frames := 0, cells := 0, slots := 0, locals := 0 }
theorem y_X11_snap : yX11_snap.cls = RX11 ∧ yX11_snap.cls ≠ "java/lang/invoke/MethodHandle" ∧ yX11_snap.cls ≠ "java/lang/invoke/VarHandle" ∧ (parseMethodDescriptor yX11_snap.desc).map (fun d => d.parameters.length) = some 0 := by decide +kernel
theorem m_X11_snap_f228 : Cond.fieldLink RX11 228 "LongestMetModel" "pieces" "I" ∈ wsX11_snap := List.mem_cons_of_mem _ (List.mem_append_left _ (List.mem_of_getElem? (i := 0) rfl))
theorem m_X11_snap_inX11 : ∀ x ∈ u_ws RX11 TX11 27, x ∈ wsX11_snap := fun _ h => List.mem_cons_of_mem _ (List.mem_append_right _ h)
set_option maxRecDepth 100000 in
set_option maxHeartbeats 4000000 in
theorem x_X11_snap {E : zCx} {g : zGx} (B : zGood E (WM g) (zT g) cX11_snap RX11 wsX11_snap (some .int) rm_X11_snap) (hE : E.2.2 = 2) (S : zSt) : Xo E (WM g) eIw S 0 [(0, .ref (g.1 0))] [] (F_X11_snap S) := by
  have n1 : 1 < E.2.2 := by rw [hE]; decide
  unfold F_X11_snap
  refine r_aload_n B 0 dX11_snap_0 rfl rfl ?_
  refine r_get B 0 10 19 (Nat.le_of_ble_eq_true rfl) rfl (cM_0 g _) rfl m_X11_snap_inX11 (Nat.le_of_ble_eq_true rfl) m_X11_snap_f228 rfl dX11_snap_1 ?_
  refine r_istore_n (lv' := fun x1_4 => [(1, .int x1_4), (0, .ref (g.1 0))]) B dX11_snap_4 rfl n1 (fun _ => rfl) (fun x1_4 => ?_)
  refine r_aload_n B 1 dX11_snap_5 rfl rfl ?_
  refine r_iconst B (0 : Int32) dX11_snap_6 (by decide) ?_
  refine r_put (ty := .int) B 0 10 19 tyX11 tyX11_ok nmX11 (Nat.le_of_ble_eq_true rfl) rfl (cM_0 g _) rfl m_X11_snap_inX11 (Nat.le_of_ble_eq_true rfl) m_X11_snap_f228 rfl (by decide +kernel) rfl rfl (Nat.le_of_ble_eq_true rfl) (pM_0_19 g _ _) dX11_snap_7 (fun S7 => ?_)
  refine r_iload_n B 0 dX11_snap_10 rfl rfl ?_
  exact r_iret B dX11_snap_11 rfl
set_option maxRecDepth 20000 in
theorem k_X11_snap {l : Launch} {D : va_G} {g : zGx} (hz : zin (WM g)) {S : zSt} {b : (Int32 × zSt)} (h : F_X11_snap S = some b) : zMet l D (WM g) (zT g) yX11_snap wsX11_snap rm_X11_snap S [.ref (g.1 0)] (eIw b) := zmet_of (by decide +kernel) rfl hz (Nat.le_of_ble_eq_true rfl) rfl (fun E _ _ hE B => x_X11_snap B hE S) h
abbrev rm_X11_whole : Room := { frames := 0, cells := 0, slots := 0, locals := 0 }
theorem y_X11_whole : yX11_whole.cls = RX11 ∧ yX11_whole.cls ≠ "java/lang/invoke/MethodHandle" ∧ yX11_whole.cls ≠ "java/lang/invoke/VarHandle" ∧ (parseMethodDescriptor yX11_whole.desc).map (fun d => d.parameters.length) = some 0 := by decide +kernel
theorem m_X11_whole_f228 : Cond.fieldLink RX11 228 "LongestMetModel" "pieces" "I" ∈ wsX11_whole := List.mem_cons_of_mem _ (List.mem_append_left _ (List.mem_of_getElem? (i := 0) rfl))
theorem m_X11_whole_inX11 : ∀ x ∈ u_ws RX11 TX11 27, x ∈ wsX11_whole := fun _ h => List.mem_cons_of_mem _ (List.mem_append_right _ h)
theorem m_X11_whole_f53 : Cond.fieldLink RX11 53 "LongestMetModel" "lengths" "[I" ∈ wsX11_whole := List.mem_cons_of_mem _ (List.mem_append_left _ (List.mem_of_getElem? (i := 1) rfl))
set_option maxRecDepth 100000 in
set_option maxHeartbeats 4000000 in
theorem xL_X11_whole_4 {E : zCx} {g : zGx} (B : zGood E (WM g) (zT g) cX11_whole RX11 wsX11_whole (some .int) rm_X11_whole) (hE : E.2.2 = 3) (S : zSt) (k : Int32 → Option Int32) (hk : ∀ (w1 : Int32), Xo E (WM g) (eI S) S 27 [(1, .int w1)] [] (k w1)) : ∀ (n : Nat) (v1_4 : Int32) (v2_4 : Int32), Xo E (WM g) (eI S) S 4 [(0, .ref (g.1 0)), (1, .int v1_4), (2, .int v2_4)] [] (L_X11_whole_4 S k n v1_4 v2_4) := by
  have n1 : 1 < E.2.2 := by rw [hE]; decide
  have n2 : 2 < E.2.2 := by rw [hE]; decide
  intro n
  induction n with
  | zero =>
    intro _ _
    exact r_none
  | succ n ih =>
    intro v1_4 v2_4
    rw [L_X11_whole_4]
    refine r_iload_n B 2 dX11_whole_4 rfl rfl ?_
    refine r_aload_n B 0 dX11_whole_5 rfl rfl ?_
    refine r_get B 0 10 19 (Nat.le_of_ble_eq_true rfl) rfl (cM_0 g _) rfl m_X11_whole_inX11 (Nat.le_of_ble_eq_true rfl) m_X11_whole_f228 rfl dX11_whole_6 ?_
    refine r_icmp_ge B 27 dX11_whole_9 (by decide) (fun _ => ?_) (fun _ => ?_)
    · refine r_sub [1] rfl ?_
      exact hk v1_4
    · refine r_iload_n B 1 dX11_whole_12 rfl rfl ?_
      refine r_aload_n B 0 dX11_whole_13 rfl rfl ?_
      refine r_get B 0 10 20 (Nat.le_of_ble_eq_true rfl) rfl (cM_0 g _) rfl m_X11_whole_inX11 (Nat.le_of_ble_eq_true rfl) m_X11_whole_f53 rfl dX11_whole_14 ?_
      refine r_iload_n B 2 dX11_whole_17 rfl rfl ?_
      refine r_iald B 14 0 (Nat.le_of_ble_eq_true rfl) rfl (cM_14 g _) rfl dX11_whole_18 ?_
      refine r_iadd B dX11_whole_19 ?_
      refine r_istore_n (lv' := fun x1_20 => [(1, .int x1_20), (0, .ref (g.1 0)), (2, .int v2_4)]) B dX11_whole_20 rfl n1 (fun _ => rfl) (fun x1_20 => ?_)
      refine r_iinc (lv' := fun x2_21 => [(2, .int x2_21), (1, .int x1_20), (0, .ref (g.1 0))]) B 2 (1 : Int32) dX11_whole_21 rfl (by decide) n2 (fun _ => rfl) (fun x2_21 => ?_)
      refine r_goto B 4 dX11_whole_24 (by decide) ?_
      refine r_sub [2, 1, 0] rfl ?_
      exact ih x1_20 x2_21
set_option maxRecDepth 100000 in
set_option maxHeartbeats 4000000 in
theorem x_X11_whole {E : zCx} {g : zGx} (B : zGood E (WM g) (zT g) cX11_whole RX11 wsX11_whole (some .int) rm_X11_whole) (hE : E.2.2 = 3) (S : zSt) : Xo E (WM g) (eI S) S 0 [(0, .ref (g.1 0))] [] (F_X11_whole S) := by
  have n1 : 1 < E.2.2 := by rw [hE]; decide
  have n2 : 2 < E.2.2 := by rw [hE]; decide
  unfold F_X11_whole
  refine r_iconst B (0 : Int32) dX11_whole_0 (by decide) ?_
  refine r_istore_n (lv' := fun x1_1 => [(1, .int x1_1), (0, .ref (g.1 0))]) B dX11_whole_1 rfl n1 (fun _ => rfl) (fun x1_1 => ?_)
  refine r_iconst B (0 : Int32) dX11_whole_2 (by decide) ?_
  refine r_istore_n (lv' := fun x2_3 => [(2, .int x2_3), (1, .int x1_1), (0, .ref (g.1 0))]) B dX11_whole_3 rfl n2 (fun _ => rfl) (fun x2_3 => ?_)
  refine r_sub [2, 1, 0] rfl ?_
  refine xL_X11_whole_4 B hE S _ ?_ 1000 x1_1 x2_3
  intro w1_4
  refine r_iload_n B 0 dX11_whole_27 rfl rfl ?_
  exact r_iret B dX11_whole_28 rfl
set_option maxRecDepth 20000 in
theorem k_X11_whole {l : Launch} {D : va_G} {g : zGx} (hz : zin (WM g)) {S : zSt} {b : Int32} (h : F_X11_whole S = some b) : zMet l D (WM g) (zT g) yX11_whole wsX11_whole rm_X11_whole S [.ref (g.1 0)] ((eI S) b) := zmet_of (by decide +kernel) rfl hz (Nat.le_of_ble_eq_true rfl) rfl (fun E _ _ hE B => x_X11_whole B hE S) h
abbrev rm_X11_power : Room := { frames := 0, cells := 0, slots := 0, locals := 0 }
theorem y_X11_power : yX11_power.cls ≠ "java/lang/invoke/MethodHandle" ∧ yX11_power.cls ≠ "java/lang/invoke/VarHandle" ∧ (parseMethodDescriptor yX11_power.desc).map (fun d => d.parameters.length) = some 2 := by decide +kernel
set_option maxRecDepth 100000 in
set_option maxHeartbeats 4000000 in
theorem xL_X11_power_5 {E : zCx} {g : zGx} (B : zGood E (WM g) (zT g) cX11_power RX11 wsX11_power (some .long) rm_X11_power) (hE : E.2.2 = 5) (S : zSt) (a0 : Int32) (a1 : Int32) (k : Int64 → Option Int64) (hk : ∀ (w2 : Int64), Xo E (WM g) (eL S) S 22 [(2, .long w2)] [] (k w2)) : ∀ (n : Nat) (v2_5 : Int64) (v4_5 : Int32), Xo E (WM g) (eL S) S 5 [(0, .int a0), (1, .int a1), (2, .long v2_5), (4, .int v4_5)] [] (L_X11_power_5 a0 a1 k n v2_5 v4_5) := by
  have nn2 : 2 + 1 < E.2.2 := by rw [hE]; decide
  have n4 : 4 < E.2.2 := by rw [hE]; decide
  intro n
  induction n with
  | zero =>
    intro _ _
    exact r_none
  | succ n ih =>
    intro v2_5 v4_5
    rw [L_X11_power_5]
    refine r_iload B 3 dX11_power_5 rfl ?_
    refine r_iload_n B 1 dX11_power_7 rfl rfl ?_
    refine r_icmp_ge B 22 dX11_power_8 (by decide) (fun _ => ?_) (fun _ => ?_)
    · refine r_sub [2] rfl ?_
      exact hk v2_5
    · refine r_lload_n B 2 dX11_power_11 rfl rfl ?_
      refine r_iload_n B 0 dX11_power_12 rfl rfl ?_
      refine r_i2l B dX11_power_13 ?_
      refine r_lmul B dX11_power_14 ?_
      refine r_lstore_n (lv' := fun x2_15 => [(2, .long x2_15), (0, .int a0), (1, .int a1), (4, .int v4_5)]) B dX11_power_15 rfl nn2 (fun _ => rfl) (fun x2_15 => ?_)
      refine r_iinc (lv' := fun x4_16 => [(4, .int x4_16), (2, .long x2_15), (0, .int a0), (1, .int a1)]) B 3 (1 : Int32) dX11_power_16 rfl (by decide) n4 (fun _ => rfl) (fun x4_16 => ?_)
      refine r_goto B 5 dX11_power_19 (by decide) ?_
      refine r_sub [2, 3, 1, 0] rfl ?_
      exact ih x2_15 x4_16
set_option maxRecDepth 100000 in
set_option maxHeartbeats 4000000 in
theorem x_X11_power {E : zCx} {g : zGx} (B : zGood E (WM g) (zT g) cX11_power RX11 wsX11_power (some .long) rm_X11_power) (hE : E.2.2 = 5) (S : zSt) (a0 : Int32) (a1 : Int32) : Xo E (WM g) (eL S) S 0 [(0, .int a0), (1, .int a1)] [] (F_X11_power a0 a1) := by
  have nn2 : 2 + 1 < E.2.2 := by rw [hE]; decide
  have n4 : 4 < E.2.2 := by rw [hE]; decide
  unfold F_X11_power
  refine r_lconst B (1 : Int64) dX11_power_0 (by decide) ?_
  refine r_lstore_n (lv' := fun x2_1 => [(2, .long x2_1), (0, .int a0), (1, .int a1)]) B dX11_power_1 rfl nn2 (fun _ => rfl) (fun x2_1 => ?_)
  refine r_iconst B (0 : Int32) dX11_power_2 (by decide) ?_
  refine r_istore (lv' := fun x4_3 => [(4, .int x4_3), (2, .long x2_1), (0, .int a0), (1, .int a1)]) B dX11_power_3 n4 (fun _ => rfl) (fun x4_3 => ?_)
  refine r_sub [2, 3, 1, 0] rfl ?_
  refine xL_X11_power_5 B hE S a0 a1 _ ?_ 1000 x2_1 x4_3
  intro w2_5
  refine r_lload_n B 0 dX11_power_22 rfl rfl ?_
  exact r_lret B dX11_power_23 rfl
set_option maxRecDepth 20000 in
theorem k_X11_power {l : Launch} {D : va_G} {g : zGx} (hz : zin (WM g)) {S : zSt} {a0 : Int32} {a1 : Int32} {b : Int64} (h : F_X11_power a0 a1 = some b) : zMet l D (WM g) (zT g) yX11_power wsX11_power rm_X11_power S [.int a0, .int a1] ((eL S) b) := zmet_of (by decide +kernel) rfl hz (Nat.le_of_ble_eq_true rfl) rfl (fun E _ _ hE B => x_X11_power B hE S a0 a1) h
abbrev rm_X11_hit : Room := { frames := 1, cells := 0, slots := 0, locals := 30 }
theorem y_X11_hit : yX11_hit.cls = RX11 ∧ yX11_hit.cls ≠ "java/lang/invoke/MethodHandle" ∧ yX11_hit.cls ≠ "java/lang/invoke/VarHandle" ∧ (parseMethodDescriptor yX11_hit.desc).map (fun d => d.parameters.length) = some 3 := by decide +kernel
theorem m_X11_hit_f228 : Cond.fieldLink RX11 228 "LongestMetModel" "pieces" "I" ∈ wsX11_hit := List.mem_cons_of_mem _ (List.mem_append_left _ (List.mem_of_getElem? (i := 0) rfl))
theorem m_X11_hit_inX11 : ∀ x ∈ u_ws RX11 TX11 27, x ∈ wsX11_hit := fun _ h => List.mem_cons_of_mem _ (List.mem_append_right _ h)
theorem m_X11_hit_f53 : Cond.fieldLink RX11 53 "LongestMetModel" "lengths" "[I" ∈ wsX11_hit := List.mem_cons_of_mem _ (List.mem_append_left _ (List.mem_of_getElem? (i := 1) rfl))
set_option maxRecDepth 100000 in
set_option maxHeartbeats 4000000 in
theorem x_X11_hit {E : zCx} {g : zGx} (B : zGood E (WM g) (zT g) cX11_hit RX11 wsX11_hit (some .long) rm_X11_hit) (hE : E.2.2 = 6) (S : zSt) (a1 : Int32) (a2 : Int32) (a3 : Int32) : Xo E (WM g) (eL S) S 0 [(0, .ref (g.1 0)), (1, .int a1), (2, .int a2), (3, .int a3)] [] (F_X11_hit S a1 a2 a3) := by
  have nn4 : 4 + 1 < E.2.2 := by rw [hE]; decide
  unfold F_X11_hit
  refine r_iload_n B 1 dX11_hit_0 rfl rfl ?_
  refine r_iconst B (0 : Int32) dX11_hit_1 (by decide) ?_
  refine r_aload_n B 0 dX11_hit_2 rfl rfl ?_
  refine r_get B 0 10 19 (Nat.le_of_ble_eq_true rfl) rfl (cM_0 g _) rfl m_X11_hit_inX11 (Nat.le_of_ble_eq_true rfl) m_X11_hit_f228 rfl dX11_hit_3 ?_
  refine r_iconst B (1 : Int32) dX11_hit_6 (by decide) ?_
  refine r_isub B dX11_hit_7 ?_
  refine r_cI (zrunS (As := [.int a1, .int (0 : Int32), .int ((zI S 6) - (1 : Int32))]) (rest := []) B 3 (fun b hb => k_X11_in B.2.2.1 hb) gX11_hit_X11_in rfl rfl rfl y_X11_in ⟨Nat.le_of_ble_eq_true rfl, Nat.le_of_ble_eq_true rfl⟩ rfl rfl (Nat.le_of_ble_eq_true rfl) dX11_hit_8) (fun r8 => ?_)
  refine r_jn2 (P := fun j32 : Option Int64 => Xo E (WM g) (eL S) S 32 [] [] (j32)) ?_ (fun j32 hj32 => ?_)
  · refine r_bipush B (-2 : Int32) dX11_hit_32 (by decide) ?_
    refine r_cL (zrunS (As := [.int (-2 : Int32)]) (rest := []) B 1 (fun b hb => k_X11_no B.2.2.1 hb) gX11_hit_X11_no rfl rfl rfl y_X11_no ⟨Nat.le_of_ble_eq_true rfl, Nat.le_of_ble_eq_true rfl⟩ rfl rfl (Nat.le_of_ble_eq_true rfl) dX11_hit_34) (fun r34 => ?_)
    exact r_lret B dX11_hit_37 rfl
  refine r_if_eq B 32 dX11_hit_11 (by decide) (fun _ => ?_) (fun _ => ?_)
  · refine r_sub [] rfl ?_
    exact hj32
  · refine r_iload_n B 2 dX11_hit_14 rfl rfl ?_
    refine r_iconst B (1 : Int32) dX11_hit_15 (by decide) ?_
    refine r_iconst B (5 : Int32) dX11_hit_16 (by decide) ?_
    refine r_cI (zrunS (As := [.int a2, .int (1 : Int32), .int (5 : Int32)]) (rest := []) B 3 (fun b hb => k_X11_in B.2.2.1 hb) gX11_hit_X11_in rfl rfl rfl y_X11_in ⟨Nat.le_of_ble_eq_true rfl, Nat.le_of_ble_eq_true rfl⟩ rfl rfl (Nat.le_of_ble_eq_true rfl) dX11_hit_17) (fun r17 => ?_)
    refine r_if_eq B 32 dX11_hit_20 (by decide) (fun _ => ?_) (fun _ => ?_)
    · refine r_sub [] rfl ?_
      exact hj32
    · refine r_iload_n B 3 dX11_hit_23 rfl rfl ?_
      refine r_iconst B (0 : Int32) dX11_hit_24 (by decide) ?_
      refine r_iconst B (1 : Int32) dX11_hit_25 (by decide) ?_
      refine r_cI (zrunS (As := [.int a3, .int (0 : Int32), .int (1 : Int32)]) (rest := []) B 3 (fun b hb => k_X11_in B.2.2.1 hb) gX11_hit_X11_in rfl rfl rfl y_X11_in ⟨Nat.le_of_ble_eq_true rfl, Nat.le_of_ble_eq_true rfl⟩ rfl rfl (Nat.le_of_ble_eq_true rfl) dX11_hit_26) (fun r26 => ?_)
      refine r_if_ne B 38 dX11_hit_29 (by decide) (fun _ => ?_) (fun _ => ?_)
      · refine r_aload_n B 0 dX11_hit_38 rfl rfl ?_
        refine r_cI (zrunV (As := []) (rest := []) B 0 0 (fun b hb => k_X11_whole B.2.2.1 hb) gX11_hit_X11_whole rfl rfl rfl y_X11_whole ⟨Nat.le_of_ble_eq_true rfl, Nat.le_of_ble_eq_true rfl⟩ (Nat.le_of_ble_eq_true rfl) rfl (cM_0 g _) rfl rfl rfl (Nat.le_of_ble_eq_true rfl) dX11_hit_39) (fun r39 => ?_)
        refine r_iload_n B 2 dX11_hit_42 rfl rfl ?_
        refine r_cL (zrunS (As := [.int r39, .int a2]) (rest := []) B 2 (fun b hb => k_X11_power B.2.2.1 hb) gX11_hit_X11_power rfl rfl rfl y_X11_power ⟨Nat.le_of_ble_eq_true rfl, Nat.le_of_ble_eq_true rfl⟩ rfl rfl (Nat.le_of_ble_eq_true rfl) dX11_hit_43) (fun r43 => ?_)
        refine r_lstore (lv' := fun x4_46 => [(4, .long x4_46), (0, .ref (g.1 0)), (1, .int a1), (2, .int a2), (3, .int a3)]) B dX11_hit_46 nn4 (fun _ => rfl) (fun x4_46 => ?_)
        refine r_lload B 0 dX11_hit_48 rfl ?_
        refine r_aload_n B 1 dX11_hit_50 rfl rfl ?_
        refine r_cI (zrunV (As := []) (rest := [.long x4_46]) B 0 0 (fun b hb => k_X11_whole B.2.2.1 hb) gX11_hit_X11_whole rfl rfl rfl y_X11_whole ⟨Nat.le_of_ble_eq_true rfl, Nat.le_of_ble_eq_true rfl⟩ (Nat.le_of_ble_eq_true rfl) rfl (cM_0 g _) rfl rfl rfl (Nat.le_of_ble_eq_true rfl) dX11_hit_51) (fun r51 => ?_)
        refine r_aload_n B 1 dX11_hit_54 rfl rfl ?_
        refine r_get B 0 10 20 (Nat.le_of_ble_eq_true rfl) rfl (cM_0 g _) rfl m_X11_hit_inX11 (Nat.le_of_ble_eq_true rfl) m_X11_hit_f53 rfl dX11_hit_55 ?_
        refine r_iload_n B 2 dX11_hit_58 rfl rfl ?_
        refine r_iald B 14 0 (Nat.le_of_ble_eq_true rfl) rfl (cM_14 g _) rfl dX11_hit_59 ?_
        refine r_isub B dX11_hit_60 ?_
        refine r_iload_n B 3 dX11_hit_61 rfl rfl ?_
        refine r_cL (zrunS (As := [.int (r51 - (zA S 14 a1.toNatClampNeg)), .int a2]) (rest := [.long x4_46]) B 2 (fun b hb => k_X11_power B.2.2.1 hb) gX11_hit_X11_power rfl rfl rfl y_X11_power ⟨Nat.le_of_ble_eq_true rfl, Nat.le_of_ble_eq_true rfl⟩ rfl rfl (Nat.le_of_ble_eq_true rfl) dX11_hit_62) (fun r62 => ?_)
        refine r_lsub B dX11_hit_65 ?_
        refine r_lload B 0 dX11_hit_66 rfl ?_
        refine r_iload_n B 4 dX11_hit_68 rfl rfl ?_
        refine r_cL (zrunS (As := [.long (x4_46 - r62), .long x4_46, .int a3]) (rest := []) B 3 (fun b hb => k_X11_lowest B.2.2.1 hb) gX11_hit_X11_lowest rfl rfl rfl y_X11_lowest ⟨Nat.le_of_ble_eq_true rfl, Nat.le_of_ble_eq_true rfl⟩ rfl rfl (Nat.le_of_ble_eq_true rfl) dX11_hit_69) (fun r69 => ?_)
        exact r_lret B dX11_hit_72 rfl
      · refine r_sub [] rfl ?_
        exact hj32
set_option maxRecDepth 20000 in
theorem k_X11_hit {l : Launch} {D : va_G} {g : zGx} (hz : zin (WM g)) {S : zSt} {a1 : Int32} {a2 : Int32} {a3 : Int32} {b : Int64} (h : F_X11_hit S a1 a2 a3 = some b) : zMet l D (WM g) (zT g) yX11_hit wsX11_hit rm_X11_hit S [.ref (g.1 0), .int a1, .int a2, .int a3] ((eL S) b) := zmet_of (by decide +kernel) rfl hz (Nat.le_of_ble_eq_true rfl) rfl (fun E _ _ hE B => x_X11_hit B hE S a1 a2 a3) h
abbrev rm_X11_stickNow : Room := { frames := 1, cells := 0, slots := 0, locals := 30 }
theorem y_X11_stickNow : yX11_stickNow.cls = RX11 ∧ yX11_stickNow.cls ≠ "java/lang/invoke/MethodHandle" ∧ yX11_stickNow.cls ≠ "java/lang/invoke/VarHandle" ∧ (parseMethodDescriptor yX11_stickNow.desc).map (fun d => d.parameters.length) = some 3 := by decide +kernel
theorem m_X11_stickNow_f228 : Cond.fieldLink RX11 228 "LongestMetModel" "pieces" "I" ∈ wsX11_stickNow := List.mem_cons_of_mem _ (List.mem_append_left _ (List.mem_of_getElem? (i := 0) rfl))
theorem m_X11_stickNow_inX11 : ∀ x ∈ u_ws RX11 TX11 27, x ∈ wsX11_stickNow := fun _ h => List.mem_cons_of_mem _ (List.mem_append_right _ h)
theorem m_X11_stickNow_f53 : Cond.fieldLink RX11 53 "LongestMetModel" "lengths" "[I" ∈ wsX11_stickNow := List.mem_cons_of_mem _ (List.mem_append_left _ (List.mem_of_getElem? (i := 1) rfl))
set_option maxRecDepth 100000 in
set_option maxHeartbeats 4000000 in
theorem xL_X11_stickNow_158 {E : zCx} {g : zGx} (B : zGood E (WM g) (zT g) cX11_stickNow RX11 wsX11_stickNow (some .long) rm_X11_stickNow) (hE : E.2.2 = 10) (S : zSt) (a2 : Int32) (a3 : Int32) (x4_17 : Int32) (v5_140 : Int64) (v7_140 : Int32) (k : Int32 → Option Int64) (hk : ∀ (w8 : Int32), Xo E (WM g) (eL S) S 199 [(0, .ref (g.1 0)), (2, .int a2), (3, .int a3), (4, .int x4_17), (5, .long v5_140), (7, .int v7_140), (8, .int w8)] [] (k w8)) : ∀ (n : Nat) (v8_158 : Int32) (v9_158 : Int32), Xo E (WM g) (eL S) S 158 [(0, .ref (g.1 0)), (2, .int a2), (3, .int a3), (4, .int x4_17), (5, .long v5_140), (7, .int v7_140), (8, .int v8_158), (9, .int v9_158)] [] (L_X11_stickNow_158 S a2 a3 x4_17 v5_140 v7_140 k n v8_158 v9_158) := by
  have n4 : 4 < E.2.2 := by rw [hE]; decide
  have nn5 : 5 + 1 < E.2.2 := by rw [hE]; decide
  have n7 : 7 < E.2.2 := by rw [hE]; decide
  have n8 : 8 < E.2.2 := by rw [hE]; decide
  have n9 : 9 < E.2.2 := by rw [hE]; decide
  intro n
  induction n with
  | zero =>
    intro _ _
    exact r_none
  | succ n ih =>
    intro v8_158 v9_158
    rw [L_X11_stickNow_158]
    refine r_iload B 7 dX11_stickNow_158 rfl ?_
    refine r_aload_n B 0 dX11_stickNow_160 rfl rfl ?_
    refine r_get B 0 10 19 (Nat.le_of_ble_eq_true rfl) rfl (cM_0 g _) rfl m_X11_stickNow_inX11 (Nat.le_of_ble_eq_true rfl) m_X11_stickNow_f228 rfl dX11_stickNow_161 ?_
    refine r_icmp_ge B 199 dX11_stickNow_164 (by decide) (fun _ => ?_) (fun _ => ?_)
    · refine r_sub [0, 1, 2, 3, 4, 5, 6] rfl ?_
      exact hk v8_158
    · refine r_iload B 6 dX11_stickNow_167 rfl ?_
      refine r_iload B 5 dX11_stickNow_169 rfl ?_
      refine r_iload B 7 dX11_stickNow_171 rfl ?_
      refine r_cI (zrunS (As := [.int v7_140, .int v9_158]) (rest := [.int v8_158]) B 2 (fun b hb => k_X11_has B.2.2.1 hb) gX11_stickNow_X11_has rfl rfl rfl y_X11_has ⟨Nat.le_of_ble_eq_true rfl, Nat.le_of_ble_eq_true rfl⟩ rfl rfl (Nat.le_of_ble_eq_true rfl) dX11_stickNow_173) (fun r173 => ?_)
      refine r_if_eq B 189 dX11_stickNow_176 (by decide) (fun _ => ?_) (fun _ => ?_)
      · refine r_iconst B (0 : Int32) dX11_stickNow_189 (by decide) ?_
        refine r_isub B dX11_stickNow_190 ?_
        refine r_istore (lv' := fun x8_191 => [(8, .int x8_191), (0, .ref (g.1 0)), (2, .int a2), (3, .int a3), (4, .int x4_17), (5, .long v5_140), (7, .int v7_140), (9, .int v9_158)]) B dX11_stickNow_191 n8 (fun _ => rfl) (fun x8_191 => ?_)
        refine r_iinc (lv' := fun x9_193 => [(9, .int x9_193), (8, .int x8_191), (0, .ref (g.1 0)), (2, .int a2), (3, .int a3), (4, .int x4_17), (5, .long v5_140), (7, .int v7_140)]) B 7 (1 : Int32) dX11_stickNow_193 rfl (by decide) n9 (fun _ => rfl) (fun x9_193 => ?_)
        refine r_goto B 158 dX11_stickNow_196 (by decide) ?_
        refine r_sub [2, 3, 4, 5, 6, 7, 1, 0] rfl ?_
        exact ih x8_191 x9_193
      · refine r_aload_n B 0 dX11_stickNow_179 rfl rfl ?_
        refine r_get B 0 10 20 (Nat.le_of_ble_eq_true rfl) rfl (cM_0 g _) rfl m_X11_stickNow_inX11 (Nat.le_of_ble_eq_true rfl) m_X11_stickNow_f53 rfl dX11_stickNow_180 ?_
        refine r_iload B 7 dX11_stickNow_183 rfl ?_
        refine r_iald B 14 0 (Nat.le_of_ble_eq_true rfl) rfl (cM_14 g _) rfl dX11_stickNow_185 ?_
        refine r_goto B 190 dX11_stickNow_186 (by decide) ?_
        refine r_isub B dX11_stickNow_190 ?_
        refine r_istore (lv' := fun x8_191 => [(8, .int x8_191), (0, .ref (g.1 0)), (2, .int a2), (3, .int a3), (4, .int x4_17), (5, .long v5_140), (7, .int v7_140), (9, .int v9_158)]) B dX11_stickNow_191 n8 (fun _ => rfl) (fun x8_191 => ?_)
        refine r_iinc (lv' := fun x9_193 => [(9, .int x9_193), (8, .int x8_191), (0, .ref (g.1 0)), (2, .int a2), (3, .int a3), (4, .int x4_17), (5, .long v5_140), (7, .int v7_140)]) B 7 (1 : Int32) dX11_stickNow_193 rfl (by decide) n9 (fun _ => rfl) (fun x9_193 => ?_)
        refine r_goto B 158 dX11_stickNow_196 (by decide) ?_
        refine r_sub [2, 3, 4, 5, 6, 7, 1, 0] rfl ?_
        exact ih x8_191 x9_193
set_option maxRecDepth 100000 in
set_option maxHeartbeats 4000000 in
theorem xL_X11_stickNow_140 {E : zCx} {g : zGx} (B : zGood E (WM g) (zT g) cX11_stickNow RX11 wsX11_stickNow (some .long) rm_X11_stickNow) (hE : E.2.2 = 10) (S : zSt) (a2 : Int32) (a3 : Int32) (x4_17 : Int32) (k : Int64 → Option Int64) (hk : ∀ (w5 : Int64), Xo E (WM g) (eL S) S 236 [(2, .int a2), (3, .int a3), (4, .int x4_17), (5, .long w5)] [] (k w5)) : ∀ (n : Nat) (v5_140 : Int64) (v7_140 : Int32), Xo E (WM g) (eL S) S 140 [(0, .ref (g.1 0)), (2, .int a2), (3, .int a3), (4, .int x4_17), (5, .long v5_140), (7, .int v7_140)] [] (L_X11_stickNow_140 S a2 a3 x4_17 k n v5_140 v7_140) := by
  have n4 : 4 < E.2.2 := by rw [hE]; decide
  have nn5 : 5 + 1 < E.2.2 := by rw [hE]; decide
  have n7 : 7 < E.2.2 := by rw [hE]; decide
  have n8 : 8 < E.2.2 := by rw [hE]; decide
  have n9 : 9 < E.2.2 := by rw [hE]; decide
  intro n
  induction n with
  | zero =>
    intro _ _
    exact r_none
  | succ n ih =>
    intro v5_140 v7_140
    rw [L_X11_stickNow_140]
    refine r_iload B 5 dX11_stickNow_140 rfl ?_
    refine r_iconst B (1 : Int32) dX11_stickNow_142 (by decide) ?_
    refine r_aload_n B 0 dX11_stickNow_143 rfl rfl ?_
    refine r_get B 0 10 19 (Nat.le_of_ble_eq_true rfl) rfl (cM_0 g _) rfl m_X11_stickNow_inX11 (Nat.le_of_ble_eq_true rfl) m_X11_stickNow_f228 rfl dX11_stickNow_144 ?_
    refine r_ishl B dX11_stickNow_147 ?_
    refine r_icmp_ge B 236 dX11_stickNow_148 (by decide) (fun _ => ?_) (fun _ => ?_)
    · refine r_sub [1, 2, 3, 4] rfl ?_
      exact hk v5_140
    · refine r_iload B 3 dX11_stickNow_151 rfl ?_
      refine r_istore (lv' := fun x8_153 => [(8, .int x8_153), (0, .ref (g.1 0)), (2, .int a2), (3, .int a3), (4, .int x4_17), (5, .long v5_140), (7, .int v7_140)]) B dX11_stickNow_153 n8 (fun _ => rfl) (fun x8_153 => ?_)
      refine r_iconst B (0 : Int32) dX11_stickNow_155 (by decide) ?_
      refine r_istore (lv' := fun x9_156 => [(9, .int x9_156), (8, .int x8_153), (0, .ref (g.1 0)), (2, .int a2), (3, .int a3), (4, .int x4_17), (5, .long v5_140), (7, .int v7_140)]) B dX11_stickNow_156 n9 (fun _ => rfl) (fun x9_156 => ?_)
      refine r_sub [2, 3, 4, 5, 6, 7, 1, 0] rfl ?_
      refine xL_X11_stickNow_158 B hE S a2 a3 x4_17 v5_140 v7_140 _ ?_ 1000 x8_153 x9_156
      intro w8_158
      refine r_lload B 4 dX11_stickNow_199 rfl ?_
      refine r_iload B 5 dX11_stickNow_201 rfl ?_
      refine r_cI (zrunS (As := [.int v7_140]) (rest := [.long v5_140]) B 1 (fun b hb => k_X11_ones B.2.2.1 hb) gX11_stickNow_X11_ones rfl rfl rfl y_X11_ones ⟨Nat.le_of_ble_eq_true rfl, Nat.le_of_ble_eq_true rfl⟩ rfl rfl (Nat.le_of_ble_eq_true rfl) dX11_stickNow_203) (fun r203 => ?_)
      refine r_iconst B (2 : Int32) dX11_stickNow_206 (by decide) ?_
      refine r_irem B dX11_stickNow_207 (fun _ => ?_)
      refine r_if_ne B 220 dX11_stickNow_208 (by decide) (fun _ => ?_) (fun _ => ?_)
      · refine r_iload B 6 dX11_stickNow_220 rfl ?_
        refine r_iload_n B 1 dX11_stickNow_222 rfl rfl ?_
        refine r_cL (zrunS (As := [.int w8_158, .int a2]) (rest := [.long v5_140]) B 2 (fun b hb => k_X11_power B.2.2.1 hb) gX11_stickNow_X11_power rfl rfl rfl y_X11_power ⟨Nat.le_of_ble_eq_true rfl, Nat.le_of_ble_eq_true rfl⟩ rfl rfl (Nat.le_of_ble_eq_true rfl) dX11_stickNow_223) (fun r223 => ?_)
        refine r_lneg B dX11_stickNow_226 ?_
        refine r_ladd B dX11_stickNow_227 ?_
        refine r_lstore (lv' := fun x5_228 => [(5, .long x5_228), (0, .ref (g.1 0)), (2, .int a2), (3, .int a3), (4, .int x4_17), (7, .int v7_140), (8, .int w8_158)]) B dX11_stickNow_228 nn5 (fun _ => rfl) (fun x5_228 => ?_)
        refine r_iinc (lv' := fun x7_230 => [(7, .int x7_230), (5, .long x5_228), (0, .ref (g.1 0)), (2, .int a2), (3, .int a3), (4, .int x4_17), (8, .int w8_158)]) B 5 (1 : Int32) dX11_stickNow_230 rfl (by decide) n7 (fun _ => rfl) (fun x7_230 => ?_)
        refine r_goto B 140 dX11_stickNow_233 (by decide) ?_
        refine r_sub [2, 3, 4, 5, 1, 0] rfl ?_
        exact ih x5_228 x7_230
      · refine r_iload B 6 dX11_stickNow_211 rfl ?_
        refine r_iload_n B 1 dX11_stickNow_213 rfl rfl ?_
        refine r_cL (zrunS (As := [.int w8_158, .int a2]) (rest := [.long v5_140]) B 2 (fun b hb => k_X11_power B.2.2.1 hb) gX11_stickNow_X11_power rfl rfl rfl y_X11_power ⟨Nat.le_of_ble_eq_true rfl, Nat.le_of_ble_eq_true rfl⟩ rfl rfl (Nat.le_of_ble_eq_true rfl) dX11_stickNow_214) (fun r214 => ?_)
        refine r_goto B 227 dX11_stickNow_217 (by decide) ?_
        refine r_ladd B dX11_stickNow_227 ?_
        refine r_lstore (lv' := fun x5_228 => [(5, .long x5_228), (0, .ref (g.1 0)), (2, .int a2), (3, .int a3), (4, .int x4_17), (7, .int v7_140), (8, .int w8_158)]) B dX11_stickNow_228 nn5 (fun _ => rfl) (fun x5_228 => ?_)
        refine r_iinc (lv' := fun x7_230 => [(7, .int x7_230), (5, .long x5_228), (0, .ref (g.1 0)), (2, .int a2), (3, .int a3), (4, .int x4_17), (8, .int w8_158)]) B 5 (1 : Int32) dX11_stickNow_230 rfl (by decide) n7 (fun _ => rfl) (fun x7_230 => ?_)
        refine r_goto B 140 dX11_stickNow_233 (by decide) ?_
        refine r_sub [2, 3, 4, 5, 1, 0] rfl ?_
        exact ih x5_228 x7_230
set_option maxRecDepth 100000 in
set_option maxHeartbeats 4000000 in
theorem xL_X11_stickNow_83 {E : zCx} {g : zGx} (B : zGood E (WM g) (zT g) cX11_stickNow RX11 wsX11_stickNow (some .long) rm_X11_stickNow) (hE : E.2.2 = 10) (S : zSt) (a2 : Int32) (a3 : Int32) (x4_17 : Int32) (k : Int64 → Option Int64) (hk : ∀ (w5 : Int64), Xo E (WM g) (eL S) S 124 [(2, .int a2), (3, .int a3), (4, .int x4_17), (5, .long w5)] [] (k w5)) : ∀ (n : Nat) (v5_83 : Int64) (v7_83 : Int32), Xo E (WM g) (eL S) S 83 [(0, .ref (g.1 0)), (2, .int a2), (3, .int a3), (4, .int x4_17), (5, .long v5_83), (7, .int v7_83)] [] (L_X11_stickNow_83 S a2 a3 x4_17 k n v5_83 v7_83) := by
  have n4 : 4 < E.2.2 := by rw [hE]; decide
  have nn5 : 5 + 1 < E.2.2 := by rw [hE]; decide
  have n7 : 7 < E.2.2 := by rw [hE]; decide
  have n8 : 8 < E.2.2 := by rw [hE]; decide
  have n9 : 9 < E.2.2 := by rw [hE]; decide
  intro n
  induction n with
  | zero =>
    intro _ _
    exact r_none
  | succ n ih =>
    intro v5_83 v7_83
    rw [L_X11_stickNow_83]
    refine r_iload B 5 dX11_stickNow_83 rfl ?_
    refine r_aload_n B 0 dX11_stickNow_85 rfl rfl ?_
    refine r_get B 0 10 19 (Nat.le_of_ble_eq_true rfl) rfl (cM_0 g _) rfl m_X11_stickNow_inX11 (Nat.le_of_ble_eq_true rfl) m_X11_stickNow_f228 rfl dX11_stickNow_86 ?_
    refine r_icmp_ge B 124 dX11_stickNow_89 (by decide) (fun _ => ?_) (fun _ => ?_)
    · refine r_sub [1, 2, 3, 4] rfl ?_
      exact hk v5_83
    · refine r_lload B 4 dX11_stickNow_92 rfl ?_
      refine r_iload B 3 dX11_stickNow_94 rfl ?_
      refine r_iload_n B 1 dX11_stickNow_96 rfl rfl ?_
      refine r_cL (zrunS (As := [.int x4_17, .int a2]) (rest := [.long v5_83]) B 2 (fun b hb => k_X11_power B.2.2.1 hb) gX11_stickNow_X11_power rfl rfl rfl y_X11_power ⟨Nat.le_of_ble_eq_true rfl, Nat.le_of_ble_eq_true rfl⟩ rfl rfl (Nat.le_of_ble_eq_true rfl) dX11_stickNow_97) (fun r97 => ?_)
      refine r_iload B 3 dX11_stickNow_100 rfl ?_
      refine r_aload_n B 0 dX11_stickNow_102 rfl rfl ?_
      refine r_get B 0 10 20 (Nat.le_of_ble_eq_true rfl) rfl (cM_0 g _) rfl m_X11_stickNow_inX11 (Nat.le_of_ble_eq_true rfl) m_X11_stickNow_f53 rfl dX11_stickNow_103 ?_
      refine r_iload B 5 dX11_stickNow_106 rfl ?_
      refine r_iald B 14 0 (Nat.le_of_ble_eq_true rfl) rfl (cM_14 g _) rfl dX11_stickNow_108 ?_
      refine r_isub B dX11_stickNow_109 ?_
      refine r_iload_n B 1 dX11_stickNow_110 rfl rfl ?_
      refine r_cL (zrunS (As := [.int (x4_17 - (zA S 14 v7_83.toNatClampNeg)), .int a2]) (rest := [.long r97, .long v5_83]) B 2 (fun b hb => k_X11_power B.2.2.1 hb) gX11_stickNow_X11_power rfl rfl rfl y_X11_power ⟨Nat.le_of_ble_eq_true rfl, Nat.le_of_ble_eq_true rfl⟩ rfl rfl (Nat.le_of_ble_eq_true rfl) dX11_stickNow_111) (fun r111 => ?_)
      refine r_lsub B dX11_stickNow_114 ?_
      refine r_ladd B dX11_stickNow_115 ?_
      refine r_lstore (lv' := fun x5_116 => [(5, .long x5_116), (0, .ref (g.1 0)), (2, .int a2), (3, .int a3), (4, .int x4_17), (7, .int v7_83)]) B dX11_stickNow_116 nn5 (fun _ => rfl) (fun x5_116 => ?_)
      refine r_iinc (lv' := fun x7_118 => [(7, .int x7_118), (5, .long x5_116), (0, .ref (g.1 0)), (2, .int a2), (3, .int a3), (4, .int x4_17)]) B 5 (1 : Int32) dX11_stickNow_118 rfl (by decide) n7 (fun _ => rfl) (fun x7_118 => ?_)
      refine r_goto B 83 dX11_stickNow_121 (by decide) ?_
      refine r_sub [2, 3, 4, 5, 1, 0] rfl ?_
      exact ih x5_116 x7_118
set_option maxRecDepth 100000 in
set_option maxHeartbeats 4000000 in
theorem xL_X11_stickNow_29 {E : zCx} {g : zGx} (B : zGood E (WM g) (zT g) cX11_stickNow RX11 wsX11_stickNow (some .long) rm_X11_stickNow) (hE : E.2.2 = 10) (S : zSt) (a3 : Int32) (x4_17 : Int32) (k : Int64 → Option Int64) (hk : ∀ (w5 : Int64), Xo E (WM g) (eL S) S 65 [(3, .int a3), (4, .int x4_17), (5, .long w5)] [] (k w5)) : ∀ (n : Nat) (v5_29 : Int64) (v7_29 : Int32), Xo E (WM g) (eL S) S 29 [(0, .ref (g.1 0)), (3, .int a3), (4, .int x4_17), (5, .long v5_29), (7, .int v7_29)] [] (L_X11_stickNow_29 S a3 x4_17 k n v5_29 v7_29) := by
  have n4 : 4 < E.2.2 := by rw [hE]; decide
  have nn5 : 5 + 1 < E.2.2 := by rw [hE]; decide
  have n7 : 7 < E.2.2 := by rw [hE]; decide
  have n8 : 8 < E.2.2 := by rw [hE]; decide
  have n9 : 9 < E.2.2 := by rw [hE]; decide
  intro n
  induction n with
  | zero =>
    intro _ _
    exact r_none
  | succ n ih =>
    intro v5_29 v7_29
    rw [L_X11_stickNow_29]
    refine r_iload B 4 dX11_stickNow_29 rfl ?_
    refine r_aload_n B 0 dX11_stickNow_31 rfl rfl ?_
    refine r_get B 0 10 19 (Nat.le_of_ble_eq_true rfl) rfl (cM_0 g _) rfl m_X11_stickNow_inX11 (Nat.le_of_ble_eq_true rfl) m_X11_stickNow_f228 rfl dX11_stickNow_32 ?_
    refine r_icmp_ge B 65 dX11_stickNow_35 (by decide) (fun _ => ?_) (fun _ => ?_)
    · refine r_sub [1, 2, 3] rfl ?_
      exact hk v5_29
    · refine r_lload B 3 dX11_stickNow_38 rfl ?_
      refine r_aload_n B 0 dX11_stickNow_40 rfl rfl ?_
      refine r_get B 0 10 20 (Nat.le_of_ble_eq_true rfl) rfl (cM_0 g _) rfl m_X11_stickNow_inX11 (Nat.le_of_ble_eq_true rfl) m_X11_stickNow_f53 rfl dX11_stickNow_41 ?_
      refine r_iload B 4 dX11_stickNow_44 rfl ?_
      refine r_iald B 14 0 (Nat.le_of_ble_eq_true rfl) rfl (cM_14 g _) rfl dX11_stickNow_46 ?_
      refine r_aload_n B 0 dX11_stickNow_47 rfl rfl ?_
      refine r_get B 0 10 20 (Nat.le_of_ble_eq_true rfl) rfl (cM_0 g _) rfl m_X11_stickNow_inX11 (Nat.le_of_ble_eq_true rfl) m_X11_stickNow_f53 rfl dX11_stickNow_48 ?_
      refine r_iload B 4 dX11_stickNow_51 rfl ?_
      refine r_iald B 14 0 (Nat.le_of_ble_eq_true rfl) rfl (cM_14 g _) rfl dX11_stickNow_53 ?_
      refine r_imul B dX11_stickNow_54 ?_
      refine r_i2l B dX11_stickNow_55 ?_
      refine r_ladd B dX11_stickNow_56 ?_
      refine r_lstore (lv' := fun x5_57 => [(5, .long x5_57), (0, .ref (g.1 0)), (3, .int a3), (4, .int x4_17), (7, .int v7_29)]) B dX11_stickNow_57 nn5 (fun _ => rfl) (fun x5_57 => ?_)
      refine r_iinc (lv' := fun x7_59 => [(7, .int x7_59), (5, .long x5_57), (0, .ref (g.1 0)), (3, .int a3), (4, .int x4_17)]) B 4 (1 : Int32) dX11_stickNow_59 rfl (by decide) n7 (fun _ => rfl) (fun x7_59 => ?_)
      refine r_goto B 29 dX11_stickNow_62 (by decide) ?_
      refine r_sub [2, 3, 4, 1, 0] rfl ?_
      exact ih x5_57 x7_59
set_option maxRecDepth 100000 in
set_option maxHeartbeats 4000000 in
theorem x_X11_stickNow {E : zCx} {g : zGx} (B : zGood E (WM g) (zT g) cX11_stickNow RX11 wsX11_stickNow (some .long) rm_X11_stickNow) (hE : E.2.2 = 10) (S : zSt) (a1 : Int32) (a2 : Int32) (a3 : Int32) : Xo E (WM g) (eL S) S 0 [(0, .ref (g.1 0)), (1, .int a1), (2, .int a2), (3, .int a3)] [] (F_X11_stickNow S a1 a2 a3) := by
  have n4 : 4 < E.2.2 := by rw [hE]; decide
  have nn5 : 5 + 1 < E.2.2 := by rw [hE]; decide
  have n7 : 7 < E.2.2 := by rw [hE]; decide
  have n8 : 8 < E.2.2 := by rw [hE]; decide
  have n9 : 9 < E.2.2 := by rw [hE]; decide
  unfold F_X11_stickNow
  refine r_aload_n B 0 dX11_stickNow_0 rfl rfl ?_
  refine r_get B 0 10 19 (Nat.le_of_ble_eq_true rfl) rfl (cM_0 g _) rfl m_X11_stickNow_inX11 (Nat.le_of_ble_eq_true rfl) m_X11_stickNow_f228 rfl dX11_stickNow_1 ?_
  refine r_if_ne B 13 dX11_stickNow_4 (by decide) (fun _ => ?_) (fun _ => ?_)
  · refine r_aload_n B 0 dX11_stickNow_13 rfl rfl ?_
    refine r_cI (zrunV (As := []) (rest := []) B 0 0 (fun b hb => k_X11_whole B.2.2.1 hb) gX11_stickNow_X11_whole rfl rfl rfl y_X11_whole ⟨Nat.le_of_ble_eq_true rfl, Nat.le_of_ble_eq_true rfl⟩ (Nat.le_of_ble_eq_true rfl) rfl (cM_0 g _) rfl rfl rfl (Nat.le_of_ble_eq_true rfl) dX11_stickNow_14) (fun r14 => ?_)
    refine r_istore (lv' := fun x4_17 => [(4, .int x4_17), (0, .ref (g.1 0)), (1, .int a1), (2, .int a2), (3, .int a3)]) B dX11_stickNow_17 n4 (fun _ => rfl) (fun x4_17 => ?_)
    refine r_lconst B (0 : Int64) dX11_stickNow_19 (by decide) ?_
    refine r_lstore (lv' := fun x5_20 => [(5, .long x5_20), (4, .int x4_17), (0, .ref (g.1 0)), (1, .int a1), (2, .int a2), (3, .int a3)]) B dX11_stickNow_20 nn5 (fun _ => rfl) (fun x5_20 => ?_)
    refine r_iload_n B 3 dX11_stickNow_22 rfl rfl ?_
    refine r_if_ne B 75 dX11_stickNow_23 (by decide) (fun _ => ?_) (fun _ => ?_)
    · refine r_iload_n B 3 dX11_stickNow_75 rfl rfl ?_
      refine r_iconst B (1 : Int32) dX11_stickNow_76 (by decide) ?_
      refine r_icmp_ne B 137 dX11_stickNow_77 (by decide) (fun _ => ?_) (fun _ => ?_)
      · refine r_iconst B (0 : Int32) dX11_stickNow_137 (by decide) ?_
        refine r_istore (lv' := fun x7_138 => [(7, .int x7_138), (5, .long x5_20), (4, .int x4_17), (0, .ref (g.1 0)), (1, .int a1), (2, .int a2), (3, .int a3)]) B dX11_stickNow_138 n7 (fun _ => rfl) (fun x7_138 => ?_)
        refine r_sub [3, 5, 6, 2, 1, 0] rfl ?_
        refine xL_X11_stickNow_140 B hE S a2 a3 x4_17 _ ?_ 1000 x5_20 x7_138
        intro w5_140
        refine r_lload B 3 dX11_stickNow_236 rfl ?_
        refine r_iload B 2 dX11_stickNow_238 rfl ?_
        refine r_iload_n B 0 dX11_stickNow_240 rfl rfl ?_
        refine r_cL (zrunS (As := [.int x4_17, .int a2]) (rest := [.long w5_140]) B 2 (fun b hb => k_X11_power B.2.2.1 hb) gX11_stickNow_X11_power rfl rfl rfl y_X11_power ⟨Nat.le_of_ble_eq_true rfl, Nat.le_of_ble_eq_true rfl⟩ rfl rfl (Nat.le_of_ble_eq_true rfl) dX11_stickNow_241) (fun r241 => ?_)
        refine r_iload_n B 1 dX11_stickNow_244 rfl rfl ?_
        refine r_cL (zrunS (As := [.long w5_140, .long r241, .int a3]) (rest := []) B 3 (fun b hb => k_X11_lowest B.2.2.1 hb) gX11_stickNow_X11_lowest rfl rfl rfl y_X11_lowest ⟨Nat.le_of_ble_eq_true rfl, Nat.le_of_ble_eq_true rfl⟩ rfl rfl (Nat.le_of_ble_eq_true rfl) dX11_stickNow_245) (fun r245 => ?_)
        exact r_lret B dX11_stickNow_248 rfl
      · refine r_iconst B (0 : Int32) dX11_stickNow_80 (by decide) ?_
        refine r_istore (lv' := fun x7_81 => [(7, .int x7_81), (5, .long x5_20), (4, .int x4_17), (0, .ref (g.1 0)), (1, .int a1), (2, .int a2), (3, .int a3)]) B dX11_stickNow_81 n7 (fun _ => rfl) (fun x7_81 => ?_)
        refine r_sub [3, 5, 6, 2, 1, 0] rfl ?_
        refine xL_X11_stickNow_83 B hE S a2 a3 x4_17 _ ?_ 1000 x5_20 x7_81
        intro w5_83
        refine r_lload B 3 dX11_stickNow_124 rfl ?_
        refine r_iload B 2 dX11_stickNow_126 rfl ?_
        refine r_iload_n B 0 dX11_stickNow_128 rfl rfl ?_
        refine r_cL (zrunS (As := [.int x4_17, .int a2]) (rest := [.long w5_83]) B 2 (fun b hb => k_X11_power B.2.2.1 hb) gX11_stickNow_X11_power rfl rfl rfl y_X11_power ⟨Nat.le_of_ble_eq_true rfl, Nat.le_of_ble_eq_true rfl⟩ rfl rfl (Nat.le_of_ble_eq_true rfl) dX11_stickNow_129) (fun r129 => ?_)
        refine r_iload_n B 1 dX11_stickNow_132 rfl rfl ?_
        refine r_cL (zrunS (As := [.long w5_83, .long r129, .int a3]) (rest := []) B 3 (fun b hb => k_X11_lowest B.2.2.1 hb) gX11_stickNow_X11_lowest rfl rfl rfl y_X11_lowest ⟨Nat.le_of_ble_eq_true rfl, Nat.le_of_ble_eq_true rfl⟩ rfl rfl (Nat.le_of_ble_eq_true rfl) dX11_stickNow_133) (fun r133 => ?_)
        exact r_lret B dX11_stickNow_136 rfl
    · refine r_iconst B (0 : Int32) dX11_stickNow_26 (by decide) ?_
      refine r_istore (lv' := fun x7_27 => [(7, .int x7_27), (5, .long x5_20), (4, .int x4_17), (0, .ref (g.1 0)), (1, .int a1), (2, .int a2), (3, .int a3)]) B dX11_stickNow_27 n7 (fun _ => rfl) (fun x7_27 => ?_)
      refine r_sub [3, 6, 2, 1, 0] rfl ?_
      refine xL_X11_stickNow_29 B hE S a3 x4_17 _ ?_ 1000 x5_20 x7_27
      intro w5_29
      refine r_lload B 2 dX11_stickNow_65 rfl ?_
      refine r_iload B 1 dX11_stickNow_67 rfl ?_
      refine r_i2l B dX11_stickNow_69 ?_
      refine r_iload_n B 0 dX11_stickNow_70 rfl rfl ?_
      refine r_cL (zrunS (As := [.long w5_29, .long (x4_17.toInt64), .int a3]) (rest := []) B 3 (fun b hb => k_X11_lowest B.2.2.1 hb) gX11_stickNow_X11_lowest rfl rfl rfl y_X11_lowest ⟨Nat.le_of_ble_eq_true rfl, Nat.le_of_ble_eq_true rfl⟩ rfl rfl (Nat.le_of_ble_eq_true rfl) dX11_stickNow_71) (fun r71 => ?_)
      exact r_lret B dX11_stickNow_74 rfl
  · refine r_bipush B (-3 : Int32) dX11_stickNow_7 (by decide) ?_
    refine r_cL (zrunS (As := [.int (-3 : Int32)]) (rest := []) B 1 (fun b hb => k_X11_no B.2.2.1 hb) gX11_stickNow_X11_no rfl rfl rfl y_X11_no ⟨Nat.le_of_ble_eq_true rfl, Nat.le_of_ble_eq_true rfl⟩ rfl rfl (Nat.le_of_ble_eq_true rfl) dX11_stickNow_9) (fun r9 => ?_)
    exact r_lret B dX11_stickNow_12 rfl
set_option maxRecDepth 20000 in
theorem k_X11_stickNow {l : Launch} {D : va_G} {g : zGx} (hz : zin (WM g)) {S : zSt} {a1 : Int32} {a2 : Int32} {a3 : Int32} {b : Int64} (h : F_X11_stickNow S a1 a2 a3 = some b) : zMet l D (WM g) (zT g) yX11_stickNow wsX11_stickNow rm_X11_stickNow S [.ref (g.1 0), .int a1, .int a2, .int a3] ((eL S) b) := zmet_of (by decide +kernel) rfl hz (Nat.le_of_ble_eq_true rfl) rfl (fun E _ _ hE B => x_X11_stickNow B hE S a1 a2 a3) h
abbrev rm_X11_stick : Room := { frames := 2, cells := 0, slots := 0, locals := 59 }
theorem y_X11_stick : yX11_stick.cls = RX11 ∧ yX11_stick.cls ≠ "java/lang/invoke/MethodHandle" ∧ yX11_stick.cls ≠ "java/lang/invoke/VarHandle" ∧ (parseMethodDescriptor yX11_stick.desc).map (fun d => d.parameters.length) = some 3 := by decide +kernel
set_option maxRecDepth 100000 in
set_option maxHeartbeats 4000000 in
theorem x_X11_stick {E : zCx} {g : zGx} (B : zGood E (WM g) (zT g) cX11_stick RX11 wsX11_stick (some .long) rm_X11_stick) (hE : E.2.2 = 4) (S : zSt) (a1 : Int32) (a2 : Int32) (a3 : Int32) : Xo E (WM g) (eL S) S 0 [(0, .ref (g.1 0)), (1, .int a1), (2, .int a2), (3, .int a3)] [] (F_X11_stick S a1 a2 a3) := by
  unfold F_X11_stick
  refine r_iload_n B 1 dX11_stick_0 rfl rfl ?_
  refine r_iconst B (0 : Int32) dX11_stick_1 (by decide) ?_
  refine r_iconst B (2 : Int32) dX11_stick_2 (by decide) ?_
  refine r_cI (zrunS (As := [.int a1, .int (0 : Int32), .int (2 : Int32)]) (rest := []) B 3 (fun b hb => k_X11_in B.2.2.1 hb) gX11_stick_X11_in rfl rfl rfl y_X11_in ⟨Nat.le_of_ble_eq_true rfl, Nat.le_of_ble_eq_true rfl⟩ rfl rfl (Nat.le_of_ble_eq_true rfl) dX11_stick_3) (fun r3 => ?_)
  refine r_jn2 (P := fun j45 : Option Int64 => Xo E (WM g) (eL S) S 45 [] [] (j45)) ?_ (fun j45 hj45 => ?_)
  · refine r_bipush B (-2 : Int32) dX11_stick_45 (by decide) ?_
    refine r_cL (zrunS (As := [.int (-2 : Int32)]) (rest := []) B 1 (fun b hb => k_X11_no B.2.2.1 hb) gX11_stick_X11_no rfl rfl rfl y_X11_no ⟨Nat.le_of_ble_eq_true rfl, Nat.le_of_ble_eq_true rfl⟩ rfl rfl (Nat.le_of_ble_eq_true rfl) dX11_stick_47) (fun r47 => ?_)
    exact r_lret B dX11_stick_50 rfl
  refine r_if_eq B 45 dX11_stick_6 (by decide) (fun _ => ?_) (fun _ => ?_)
  · refine r_sub [] rfl ?_
    exact hj45
  · refine r_iload_n B 2 dX11_stick_9 rfl rfl ?_
    refine r_iconst B (1 : Int32) dX11_stick_10 (by decide) ?_
    refine r_iload_n B 1 dX11_stick_11 rfl rfl ?_
    refine r_jn2 (P := fun j20 : Int32 → Option Int64 => ∀ (y0_20 : Int32), Xo E (WM g) (eL S) S 20 [(0, .ref (g.1 0)), (1, .int a1), (2, .int a2), (3, .int a3)] [.int y0_20, .int (1 : Int32), .int a2] (j20 y0_20)) ?_ (fun j20 hj20 => ?_)
    · intro y0_20
      refine r_cI (zrunS (As := [.int a2, .int (1 : Int32), .int y0_20]) (rest := []) B 3 (fun b hb => k_X11_in B.2.2.1 hb) gX11_stick_X11_in rfl rfl rfl y_X11_in ⟨Nat.le_of_ble_eq_true rfl, Nat.le_of_ble_eq_true rfl⟩ rfl rfl (Nat.le_of_ble_eq_true rfl) dX11_stick_20) (fun r20 => ?_)
      refine r_if_eq B 45 dX11_stick_23 (by decide) (fun _ => ?_) (fun _ => ?_)
      · refine r_sub [] rfl ?_
        exact hj45
      · refine r_iload_n B 3 dX11_stick_26 rfl rfl ?_
        refine r_iconst B (0 : Int32) dX11_stick_27 (by decide) ?_
        refine r_iconst B (1 : Int32) dX11_stick_28 (by decide) ?_
        refine r_cI (zrunS (As := [.int a3, .int (0 : Int32), .int (1 : Int32)]) (rest := []) B 3 (fun b hb => k_X11_in B.2.2.1 hb) gX11_stick_X11_in rfl rfl rfl y_X11_in ⟨Nat.le_of_ble_eq_true rfl, Nat.le_of_ble_eq_true rfl⟩ rfl rfl (Nat.le_of_ble_eq_true rfl) dX11_stick_29) (fun r29 => ?_)
        refine r_if_eq B 45 dX11_stick_32 (by decide) (fun _ => ?_) (fun _ => ?_)
        · refine r_sub [] rfl ?_
          exact hj45
        · refine r_aload_n B 0 dX11_stick_35 rfl rfl ?_
          refine r_iload_n B 1 dX11_stick_36 rfl rfl ?_
          refine r_iload_n B 2 dX11_stick_37 rfl rfl ?_
          refine r_iload_n B 3 dX11_stick_38 rfl rfl ?_
          refine r_cL (zrunV (As := [.int a1, .int a2, .int a3]) (rest := []) B 3 0 (fun b hb => k_X11_stickNow B.2.2.1 hb) gX11_stick_X11_stickNow rfl rfl rfl y_X11_stickNow ⟨Nat.le_of_ble_eq_true rfl, Nat.le_of_ble_eq_true rfl⟩ (Nat.le_of_ble_eq_true rfl) rfl (cM_0 g _) rfl rfl rfl (Nat.le_of_ble_eq_true rfl) dX11_stick_39) (fun r39 => ?_)
          refine r_goto B 50 dX11_stick_42 (by decide) ?_
          exact r_lret B dX11_stick_50 rfl
    refine r_if_ne B 19 dX11_stick_12 (by decide) (fun _ => ?_) (fun _ => ?_)
    · refine r_iconst B (5 : Int32) dX11_stick_19 (by decide) ?_
      exact hj20 (5 : Int32)
    · refine r_iconst B (1 : Int32) dX11_stick_15 (by decide) ?_
      refine r_goto B 20 dX11_stick_16 (by decide) ?_
      exact hj20 (1 : Int32)
set_option maxRecDepth 20000 in
theorem k_X11_stick {l : Launch} {D : va_G} {g : zGx} (hz : zin (WM g)) {S : zSt} {a1 : Int32} {a2 : Int32} {a3 : Int32} {b : Int64} (h : F_X11_stick S a1 a2 a3 = some b) : zMet l D (WM g) (zT g) yX11_stick wsX11_stick rm_X11_stick S [.ref (g.1 0), .int a1, .int a2, .int a3] ((eL S) b) := zmet_of (by decide +kernel) rfl hz (Nat.le_of_ble_eq_true rfl) rfl (fun E _ _ hE B => x_X11_stick B hE S a1 a2 a3) h
abbrev rm_X11_sheet : Room := { frames := 2, cells := 0, slots := 0, locals := 42 }
theorem y_X11_sheet : yX11_sheet.cls = RX11 ∧ yX11_sheet.cls ≠ "java/lang/invoke/MethodHandle" ∧ yX11_sheet.cls ≠ "java/lang/invoke/VarHandle" ∧ (parseMethodDescriptor yX11_sheet.desc).map (fun d => d.parameters.length) = some 3 := by decide +kernel
theorem m_X11_sheet_f56 : Cond.fieldLink RX11 56 "LongestMetModel" "isThere" "[Z" ∈ wsX11_sheet := List.mem_cons_of_mem _ (List.mem_append_left _ (List.mem_of_getElem? (i := 0) rfl))
theorem m_X11_sheet_inX11 : ∀ x ∈ u_ws RX11 TX11 27, x ∈ wsX11_sheet := fun _ h => List.mem_cons_of_mem _ (List.mem_append_right _ h)
theorem m_X11_sheet_f60 : Cond.fieldLink RX11 60 "LongestMetModel" "forms" "[I" ∈ wsX11_sheet := List.mem_cons_of_mem _ (List.mem_append_left _ (List.mem_of_getElem? (i := 1) rfl))
theorem m_X11_sheet_f63 : Cond.fieldLink RX11 63 "LongestMetModel" "sizes" "[I" ∈ wsX11_sheet := List.mem_cons_of_mem _ (List.mem_append_left _ (List.mem_of_getElem? (i := 2) rfl))
theorem m_X11_sheet_f66 : Cond.fieldLink RX11 66 "LongestMetModel" "items" "[I" ∈ wsX11_sheet := List.mem_cons_of_mem _ (List.mem_append_left _ (List.mem_of_getElem? (i := 3) rfl))
set_option maxRecDepth 100000 in
set_option maxHeartbeats 4000000 in
theorem xL_X11_sheet_59 {E : zCx} {g : zGx} (B : zGood E (WM g) (zT g) cX11_sheet RX11 wsX11_sheet (some .int) rm_X11_sheet) (hE : E.2.2 = 5) (a1 : Int32) (a3 : Int32) (k : zSt → Option (Int32 × zSt)) (hk : ∀ (S59x : zSt), Xo E (WM g) eIw S59x 85 [(3, .int a3)] [] (k S59x)) : ∀ (n : Nat) (S59 : zSt) (v4_59 : Int32), Xo E (WM g) eIw S59 59 [(0, .ref (g.1 0)), (1, .int a1), (3, .int a3), (4, .int v4_59)] [] (L_X11_sheet_59 a1 a3 k n S59 v4_59) := by
  have n4 : 4 < E.2.2 := by rw [hE]; decide
  intro n
  induction n with
  | zero =>
    intro _ _
    exact r_none
  | succ n ih =>
    intro S59 v4_59
    rw [L_X11_sheet_59]
    refine r_iload B 3 dX11_sheet_59 rfl ?_
    refine r_bipush B (60 : Int32) dX11_sheet_61 (by decide) ?_
    refine r_icmp_ge B 85 dX11_sheet_63 (by decide) (fun _ => ?_) (fun _ => ?_)
    · refine r_sub [2] rfl ?_
      exact hk S59
    · refine r_aload_n B 0 dX11_sheet_66 rfl rfl ?_
      refine r_get B 0 10 24 (Nat.le_of_ble_eq_true rfl) rfl (cM_0 g _) rfl m_X11_sheet_inX11 (Nat.le_of_ble_eq_true rfl) m_X11_sheet_f66 rfl dX11_sheet_67 ?_
      refine r_bipush B (60 : Int32) dX11_sheet_70 (by decide) ?_
      refine r_iload_n B 1 dX11_sheet_72 rfl rfl ?_
      refine r_imul B dX11_sheet_73 ?_
      refine r_iload B 3 dX11_sheet_74 rfl ?_
      refine r_iadd B dX11_sheet_76 ?_
      refine r_iconst B (0 : Int32) dX11_sheet_77 (by decide) ?_
      refine r_iast B 18 0 (Nat.le_of_ble_eq_true rfl) rfl (cM_18 g _) rfl (uM_18 g _ _) dX11_sheet_78 (fun S78 => ?_)
      refine r_iinc (lv' := fun x4_79 => [(4, .int x4_79), (0, .ref (g.1 0)), (1, .int a1), (3, .int a3)]) B 3 (1 : Int32) dX11_sheet_79 rfl (by decide) n4 (fun _ => rfl) (fun x4_79 => ?_)
      refine r_goto B 59 dX11_sheet_82 (by decide) ?_
      refine r_sub [1, 2, 3, 0] rfl ?_
      exact ih S78 x4_79
set_option maxRecDepth 100000 in
set_option maxHeartbeats 4000000 in
theorem x_X11_sheet {E : zCx} {g : zGx} (B : zGood E (WM g) (zT g) cX11_sheet RX11 wsX11_sheet (some .int) rm_X11_sheet) (hE : E.2.2 = 5) (S : zSt) (a1 : Int32) (a2 : Int32) (a3 : Int32) : Xo E (WM g) eIw S 0 [(0, .ref (g.1 0)), (1, .int a1), (2, .int a2), (3, .int a3)] [] (F_X11_sheet S a1 a2 a3) := by
  have n4 : 4 < E.2.2 := by rw [hE]; decide
  unfold F_X11_sheet
  refine r_iload_n B 1 dX11_sheet_0 rfl rfl ?_
  refine r_cI (zrunS (As := [.int a1]) (rest := []) B 1 (fun b hb => k_X11_isSheet B.2.2.1 hb) gX11_sheet_X11_isSheet rfl rfl rfl y_X11_isSheet ⟨Nat.le_of_ble_eq_true rfl, Nat.le_of_ble_eq_true rfl⟩ rfl rfl (Nat.le_of_ble_eq_true rfl) dX11_sheet_1) (fun r1 => ?_)
  refine r_if_eq B 22 dX11_sheet_4 (by decide) (fun _ => ?_) (fun _ => ?_)
  · refine r_bipush B (-2 : Int32) dX11_sheet_22 (by decide) ?_
    exact r_iret B dX11_sheet_24 rfl
  · refine r_iload_n B 2 dX11_sheet_7 rfl rfl ?_
    refine r_iconst B (0 : Int32) dX11_sheet_8 (by decide) ?_
    refine r_iconst B (2 : Int32) dX11_sheet_9 (by decide) ?_
    refine r_cI (zrunS (As := [.int a2, .int (0 : Int32), .int (2 : Int32)]) (rest := []) B 3 (fun b hb => k_X11_in B.2.2.1 hb) gX11_sheet_X11_in rfl rfl rfl y_X11_in ⟨Nat.le_of_ble_eq_true rfl, Nat.le_of_ble_eq_true rfl⟩ rfl rfl (Nat.le_of_ble_eq_true rfl) dX11_sheet_10) (fun r10 => ?_)
    refine r_if_eq B 22 dX11_sheet_13 (by decide) (fun _ => ?_) (fun _ => ?_)
    · refine r_bipush B (-2 : Int32) dX11_sheet_22 (by decide) ?_
      exact r_iret B dX11_sheet_24 rfl
    · refine r_iload_n B 3 dX11_sheet_16 rfl rfl ?_
      refine r_bipush B (60 : Int32) dX11_sheet_17 (by decide) ?_
      refine r_icmp_le B 25 dX11_sheet_19 (by decide) (fun _ => ?_) (fun _ => ?_)
      · refine r_iload_n B 3 dX11_sheet_25 rfl rfl ?_
        refine r_if_ge B 35 dX11_sheet_26 (by decide) (fun _ => ?_) (fun _ => ?_)
        · refine r_aload_n B 0 dX11_sheet_35 rfl rfl ?_
          refine r_get B 0 10 21 (Nat.le_of_ble_eq_true rfl) rfl (cM_0 g _) rfl m_X11_sheet_inX11 (Nat.le_of_ble_eq_true rfl) m_X11_sheet_f56 rfl dX11_sheet_36 ?_
          refine r_iload_n B 1 dX11_sheet_39 rfl rfl ?_
          refine r_iconst B (1 : Int32) dX11_sheet_40 (by decide) ?_
          refine r_zast B 15 3 (Nat.le_of_ble_eq_true rfl) rfl (cM_15 g _) rfl (by decide +kernel) (uM_15 g _ _) dX11_sheet_41 (fun S41 => ?_)
          refine r_aload_n B 0 dX11_sheet_42 rfl rfl ?_
          refine r_get B 0 10 22 (Nat.le_of_ble_eq_true rfl) rfl (cM_0 g _) rfl m_X11_sheet_inX11 (Nat.le_of_ble_eq_true rfl) m_X11_sheet_f60 rfl dX11_sheet_43 ?_
          refine r_iload_n B 1 dX11_sheet_46 rfl rfl ?_
          refine r_iload_n B 2 dX11_sheet_47 rfl rfl ?_
          refine r_iast B 16 0 (Nat.le_of_ble_eq_true rfl) rfl (cM_16 g _) rfl (uM_16 g _ _) dX11_sheet_48 (fun S48 => ?_)
          refine r_aload_n B 0 dX11_sheet_49 rfl rfl ?_
          refine r_get B 0 10 23 (Nat.le_of_ble_eq_true rfl) rfl (cM_0 g _) rfl m_X11_sheet_inX11 (Nat.le_of_ble_eq_true rfl) m_X11_sheet_f63 rfl dX11_sheet_50 ?_
          refine r_iload_n B 1 dX11_sheet_53 rfl rfl ?_
          refine r_iload_n B 3 dX11_sheet_54 rfl rfl ?_
          refine r_iast B 17 0 (Nat.le_of_ble_eq_true rfl) rfl (cM_17 g _) rfl (uM_17 g _ _) dX11_sheet_55 (fun S55 => ?_)
          refine r_iconst B (0 : Int32) dX11_sheet_56 (by decide) ?_
          refine r_istore (lv' := fun x4_57 => [(4, .int x4_57), (0, .ref (g.1 0)), (1, .int a1), (2, .int a2), (3, .int a3)]) B dX11_sheet_57 n4 (fun _ => rfl) (fun x4_57 => ?_)
          refine r_sub [1, 2, 4, 0] rfl ?_
          refine xL_X11_sheet_59 B hE a1 a3 _ ?_ 1000 S55 x4_57
          intro S59x_59
          refine r_iload_n B 0 dX11_sheet_85 rfl rfl ?_
          exact r_iret B dX11_sheet_86 rfl
        · refine r_aload_n B 0 dX11_sheet_29 rfl rfl ?_
          refine r_iconst B (5 : Int32) dX11_sheet_30 (by decide) ?_
          refine r_cIw (zrunV (As := [.int (5 : Int32)]) (rest := []) B 1 0 (fun b hb => k_X11_meets B.2.2.1 hb) gX11_sheet_X11_meets rfl rfl rfl y_X11_meets ⟨Nat.le_of_ble_eq_true rfl, Nat.le_of_ble_eq_true rfl⟩ (Nat.le_of_ble_eq_true rfl) rfl (cM_0 g _) rfl rfl rfl (Nat.le_of_ble_eq_true rfl) dX11_sheet_31) (fun r31 S31 => ?_)
          exact r_iret B dX11_sheet_34 rfl
      · refine r_bipush B (-2 : Int32) dX11_sheet_22 (by decide) ?_
        exact r_iret B dX11_sheet_24 rfl
set_option maxRecDepth 20000 in
theorem k_X11_sheet {l : Launch} {D : va_G} {g : zGx} (hz : zin (WM g)) {S : zSt} {a1 : Int32} {a2 : Int32} {a3 : Int32} {b : (Int32 × zSt)} (h : F_X11_sheet S a1 a2 a3 = some b) : zMet l D (WM g) (zT g) yX11_sheet wsX11_sheet rm_X11_sheet S [.ref (g.1 0), .int a1, .int a2, .int a3] (eIw b) := zmet_of (by decide +kernel) rfl hz (Nat.le_of_ble_eq_true rfl) rfl (fun E _ _ hE B => x_X11_sheet B hE S a1 a2 a3) h
abbrev rm_X11_lose : Room := { frames := 2, cells := 0, slots := 0, locals := 42 }
theorem y_X11_lose : yX11_lose.cls = RX11 ∧ yX11_lose.cls ≠ "java/lang/invoke/MethodHandle" ∧ yX11_lose.cls ≠ "java/lang/invoke/VarHandle" ∧ (parseMethodDescriptor yX11_lose.desc).map (fun d => d.parameters.length) = some 1 := by decide +kernel
theorem m_X11_lose_f56 : Cond.fieldLink RX11 56 "LongestMetModel" "isThere" "[Z" ∈ wsX11_lose := List.mem_cons_of_mem _ (List.mem_append_left _ (List.mem_of_getElem? (i := 0) rfl))
theorem m_X11_lose_inX11 : ∀ x ∈ u_ws RX11 TX11 27, x ∈ wsX11_lose := fun _ h => List.mem_cons_of_mem _ (List.mem_append_right _ h)
theorem m_X11_lose_f63 : Cond.fieldLink RX11 63 "LongestMetModel" "sizes" "[I" ∈ wsX11_lose := List.mem_cons_of_mem _ (List.mem_append_left _ (List.mem_of_getElem? (i := 1) rfl))
set_option maxRecDepth 100000 in
set_option maxHeartbeats 4000000 in
theorem x_X11_lose {E : zCx} {g : zGx} (B : zGood E (WM g) (zT g) cX11_lose RX11 wsX11_lose (some .int) rm_X11_lose) (hE : E.2.2 = 2) (S : zSt) (a1 : Int32) : Xo E (WM g) eIw S 0 [(0, .ref (g.1 0)), (1, .int a1)] [] (F_X11_lose S a1) := by
  unfold F_X11_lose
  refine r_iload_n B 1 dX11_lose_0 rfl rfl ?_
  refine r_cI (zrunS (As := [.int a1]) (rest := []) B 1 (fun b hb => k_X11_isSheet B.2.2.1 hb) gX11_lose_X11_isSheet rfl rfl rfl y_X11_isSheet ⟨Nat.le_of_ble_eq_true rfl, Nat.le_of_ble_eq_true rfl⟩ rfl rfl (Nat.le_of_ble_eq_true rfl) dX11_lose_1) (fun r1 => ?_)
  refine r_if_ne B 10 dX11_lose_4 (by decide) (fun _ => ?_) (fun _ => ?_)
  · refine r_aload_n B 0 dX11_lose_10 rfl rfl ?_
    refine r_get B 0 10 21 (Nat.le_of_ble_eq_true rfl) rfl (cM_0 g _) rfl m_X11_lose_inX11 (Nat.le_of_ble_eq_true rfl) m_X11_lose_f56 rfl dX11_lose_11 ?_
    refine r_iload_n B 1 dX11_lose_14 rfl rfl ?_
    refine r_zald B 15 3 (Nat.le_of_ble_eq_true rfl) rfl (cM_15 g _) rfl dX11_lose_15 ?_
    refine r_if_ne B 25 dX11_lose_16 (by decide) (fun _ => ?_) (fun _ => ?_)
    · refine r_aload_n B 0 dX11_lose_25 rfl rfl ?_
      refine r_get B 0 10 21 (Nat.le_of_ble_eq_true rfl) rfl (cM_0 g _) rfl m_X11_lose_inX11 (Nat.le_of_ble_eq_true rfl) m_X11_lose_f56 rfl dX11_lose_26 ?_
      refine r_iload_n B 1 dX11_lose_29 rfl rfl ?_
      refine r_iconst B (0 : Int32) dX11_lose_30 (by decide) ?_
      refine r_zast B 15 3 (Nat.le_of_ble_eq_true rfl) rfl (cM_15 g _) rfl (by decide +kernel) (uM_15 g _ _) dX11_lose_31 (fun S31 => ?_)
      refine r_aload_n B 0 dX11_lose_32 rfl rfl ?_
      refine r_get B 0 10 23 (Nat.le_of_ble_eq_true rfl) rfl (cM_0 g _) rfl m_X11_lose_inX11 (Nat.le_of_ble_eq_true rfl) m_X11_lose_f63 rfl dX11_lose_33 ?_
      refine r_iload_n B 1 dX11_lose_36 rfl rfl ?_
      refine r_iald B 17 0 (Nat.le_of_ble_eq_true rfl) rfl (cM_17 g _) rfl dX11_lose_37 ?_
      exact r_iret B dX11_lose_38 rfl
    · refine r_aload_n B 0 dX11_lose_19 rfl rfl ?_
      refine r_iconst B (1 : Int32) dX11_lose_20 (by decide) ?_
      refine r_cIw (zrunV (As := [.int (1 : Int32)]) (rest := []) B 1 0 (fun b hb => k_X11_meets B.2.2.1 hb) gX11_lose_X11_meets rfl rfl rfl y_X11_meets ⟨Nat.le_of_ble_eq_true rfl, Nat.le_of_ble_eq_true rfl⟩ (Nat.le_of_ble_eq_true rfl) rfl (cM_0 g _) rfl rfl rfl (Nat.le_of_ble_eq_true rfl) dX11_lose_21) (fun r21 S21 => ?_)
      exact r_iret B dX11_lose_24 rfl
  · refine r_bipush B (-2 : Int32) dX11_lose_7 (by decide) ?_
    exact r_iret B dX11_lose_9 rfl
set_option maxRecDepth 20000 in
theorem k_X11_lose {l : Launch} {D : va_G} {g : zGx} (hz : zin (WM g)) {S : zSt} {a1 : Int32} {b : (Int32 × zSt)} (h : F_X11_lose S a1 = some b) : zMet l D (WM g) (zT g) yX11_lose wsX11_lose rm_X11_lose S [.ref (g.1 0), .int a1] (eIw b) := zmet_of (by decide +kernel) rfl hz (Nat.le_of_ble_eq_true rfl) rfl (fun E _ _ hE B => x_X11_lose B hE S a1) h
abbrev rm_X11_lacks : Room := { frames := 1, cells := 0, slots := 0, locals := 22 }
theorem y_X11_lacks : yX11_lacks.cls = RX11 ∧ yX11_lacks.cls ≠ "java/lang/invoke/MethodHandle" ∧ yX11_lacks.cls ≠ "java/lang/invoke/VarHandle" ∧ (parseMethodDescriptor yX11_lacks.desc).map (fun d => d.parameters.length) = some 3 := by decide +kernel
theorem m_X11_lacks_f56 : Cond.fieldLink RX11 56 "LongestMetModel" "isThere" "[Z" ∈ wsX11_lacks := List.mem_cons_of_mem _ (List.mem_append_left _ (List.mem_of_getElem? (i := 0) rfl))
theorem m_X11_lacks_inX11 : ∀ x ∈ u_ws RX11 TX11 27, x ∈ wsX11_lacks := fun _ h => List.mem_cons_of_mem _ (List.mem_append_right _ h)
theorem m_X11_lacks_f60 : Cond.fieldLink RX11 60 "LongestMetModel" "forms" "[I" ∈ wsX11_lacks := List.mem_cons_of_mem _ (List.mem_append_left _ (List.mem_of_getElem? (i := 1) rfl))
theorem m_X11_lacks_f63 : Cond.fieldLink RX11 63 "LongestMetModel" "sizes" "[I" ∈ wsX11_lacks := List.mem_cons_of_mem _ (List.mem_append_left _ (List.mem_of_getElem? (i := 2) rfl))
set_option maxRecDepth 100000 in
set_option maxHeartbeats 4000000 in
theorem x_X11_lacks {E : zCx} {g : zGx} (B : zGood E (WM g) (zT g) cX11_lacks RX11 wsX11_lacks (some .int) rm_X11_lacks) (hE : E.2.2 = 4) (S : zSt) (a1 : Int32) (a2 : Int32) (a3 : Int32) : Xo E (WM g) (eI S) S 0 [(0, .ref (g.1 0)), (1, .int a1), (2, .int a2), (3, .int a3)] [] (F_X11_lacks S a1 a2 a3) := by
  unfold F_X11_lacks
  refine r_aload_n B 0 dX11_lacks_0 rfl rfl ?_
  refine r_get B 0 10 21 (Nat.le_of_ble_eq_true rfl) rfl (cM_0 g _) rfl m_X11_lacks_inX11 (Nat.le_of_ble_eq_true rfl) m_X11_lacks_f56 rfl dX11_lacks_1 ?_
  refine r_iload_n B 1 dX11_lacks_4 rfl rfl ?_
  refine r_zald B 15 3 (Nat.le_of_ble_eq_true rfl) rfl (cM_15 g _) rfl dX11_lacks_5 ?_
  refine r_if_ne B 13 dX11_lacks_6 (by decide) (fun _ => ?_) (fun _ => ?_)
  · refine r_aload_n B 0 dX11_lacks_13 rfl rfl ?_
    refine r_get B 0 10 22 (Nat.le_of_ble_eq_true rfl) rfl (cM_0 g _) rfl m_X11_lacks_inX11 (Nat.le_of_ble_eq_true rfl) m_X11_lacks_f60 rfl dX11_lacks_14 ?_
    refine r_iload_n B 1 dX11_lacks_17 rfl rfl ?_
    refine r_iald B 16 0 (Nat.le_of_ble_eq_true rfl) rfl (cM_16 g _) rfl dX11_lacks_18 ?_
    refine r_iload_n B 2 dX11_lacks_19 rfl rfl ?_
    refine r_icmp_eq B 27 dX11_lacks_20 (by decide) (fun _ => ?_) (fun _ => ?_)
    · refine r_iload_n B 3 dX11_lacks_27 rfl rfl ?_
      refine r_iconst B (0 : Int32) dX11_lacks_28 (by decide) ?_
      refine r_aload_n B 0 dX11_lacks_29 rfl rfl ?_
      refine r_get B 0 10 23 (Nat.le_of_ble_eq_true rfl) rfl (cM_0 g _) rfl m_X11_lacks_inX11 (Nat.le_of_ble_eq_true rfl) m_X11_lacks_f63 rfl dX11_lacks_30 ?_
      refine r_iload_n B 1 dX11_lacks_33 rfl rfl ?_
      refine r_iald B 17 0 (Nat.le_of_ble_eq_true rfl) rfl (cM_17 g _) rfl dX11_lacks_34 ?_
      refine r_iconst B (1 : Int32) dX11_lacks_35 (by decide) ?_
      refine r_isub B dX11_lacks_36 ?_
      refine r_cI (zrunS (As := [.int a3, .int (0 : Int32), .int ((zA S 17 a1.toNatClampNeg) - (1 : Int32))]) (rest := []) B 3 (fun b hb => k_X11_in B.2.2.1 hb) gX11_lacks_X11_in rfl rfl rfl y_X11_in ⟨Nat.le_of_ble_eq_true rfl, Nat.le_of_ble_eq_true rfl⟩ rfl rfl (Nat.le_of_ble_eq_true rfl) dX11_lacks_37) (fun r37 => ?_)
      refine r_if_eq B 47 dX11_lacks_40 (by decide) (fun _ => ?_) (fun _ => ?_)
      · refine r_iconst B (2 : Int32) dX11_lacks_47 (by decide) ?_
        exact r_iret B dX11_lacks_48 rfl
      · refine r_iconst B (0 : Int32) dX11_lacks_43 (by decide) ?_
        refine r_goto B 48 dX11_lacks_44 (by decide) ?_
        exact r_iret B dX11_lacks_48 rfl
    · refine r_iconst B (3 : Int32) dX11_lacks_23 (by decide) ?_
      refine r_goto B 48 dX11_lacks_24 (by decide) ?_
      exact r_iret B dX11_lacks_48 rfl
  · refine r_iconst B (1 : Int32) dX11_lacks_9 (by decide) ?_
    refine r_goto B 48 dX11_lacks_10 (by decide) ?_
    exact r_iret B dX11_lacks_48 rfl
set_option maxRecDepth 20000 in
theorem k_X11_lacks {l : Launch} {D : va_G} {g : zGx} (hz : zin (WM g)) {S : zSt} {a1 : Int32} {a2 : Int32} {a3 : Int32} {b : Int32} (h : F_X11_lacks S a1 a2 a3 = some b) : zMet l D (WM g) (zT g) yX11_lacks wsX11_lacks rm_X11_lacks S [.ref (g.1 0), .int a1, .int a2, .int a3] ((eI S) b) := zmet_of (by decide +kernel) rfl hz (Nat.le_of_ble_eq_true rfl) rfl (fun E _ _ hE B => x_X11_lacks B hE S a1 a2 a3) h
abbrev rm_X11_keep : Room := { frames := 0, cells := 0, slots := 0, locals := 0 }
theorem y_X11_keep : yX11_keep.cls = RX11 ∧ yX11_keep.cls ≠ "java/lang/invoke/MethodHandle" ∧ yX11_keep.cls ≠ "java/lang/invoke/VarHandle" ∧ (parseMethodDescriptor yX11_keep.desc).map (fun d => d.parameters.length) = some 3 := by decide +kernel
theorem m_X11_keep_f66 : Cond.fieldLink RX11 66 "LongestMetModel" "items" "[I" ∈ wsX11_keep := List.mem_cons_of_mem _ (List.mem_append_left _ (List.mem_of_getElem? (i := 0) rfl))
theorem m_X11_keep_inX11 : ∀ x ∈ u_ws RX11 TX11 27, x ∈ wsX11_keep := fun _ h => List.mem_cons_of_mem _ (List.mem_append_right _ h)
theorem m_X11_keep_f60 : Cond.fieldLink RX11 60 "LongestMetModel" "forms" "[I" ∈ wsX11_keep := List.mem_cons_of_mem _ (List.mem_append_left _ (List.mem_of_getElem? (i := 1) rfl))
set_option maxRecDepth 100000 in
set_option maxHeartbeats 4000000 in
theorem x_X11_keep {E : zCx} {g : zGx} (B : zGood E (WM g) (zT g) cX11_keep RX11 wsX11_keep none rm_X11_keep) (hE : E.2.2 = 4) (S : zSt) (a1 : Int32) (a2 : Int32) (a3 : Int32) : Xo E (WM g) eVw S 0 [(0, .ref (g.1 0)), (1, .int a1), (2, .int a2), (3, .int a3)] [] (F_X11_keep S a1 a2 a3) := by
  unfold F_X11_keep
  refine r_aload_n B 0 dX11_keep_0 rfl rfl ?_
  refine r_get B 0 10 24 (Nat.le_of_ble_eq_true rfl) rfl (cM_0 g _) rfl m_X11_keep_inX11 (Nat.le_of_ble_eq_true rfl) m_X11_keep_f66 rfl dX11_keep_1 ?_
  refine r_bipush B (60 : Int32) dX11_keep_4 (by decide) ?_
  refine r_iload_n B 1 dX11_keep_6 rfl rfl ?_
  refine r_imul B dX11_keep_7 ?_
  refine r_iload_n B 2 dX11_keep_8 rfl rfl ?_
  refine r_iadd B dX11_keep_9 ?_
  refine r_aload_n B 0 dX11_keep_10 rfl rfl ?_
  refine r_get B 0 10 22 (Nat.le_of_ble_eq_true rfl) rfl (cM_0 g _) rfl m_X11_keep_inX11 (Nat.le_of_ble_eq_true rfl) m_X11_keep_f60 rfl dX11_keep_11 ?_
  refine r_iload_n B 1 dX11_keep_14 rfl rfl ?_
  refine r_iald B 16 0 (Nat.le_of_ble_eq_true rfl) rfl (cM_16 g _) rfl dX11_keep_15 ?_
  refine r_if_ne B 24 dX11_keep_16 (by decide) (fun _ => ?_) (fun _ => ?_)
  · refine r_aload_n B 0 dX11_keep_24 rfl rfl ?_
    refine r_get B 0 10 22 (Nat.le_of_ble_eq_true rfl) rfl (cM_0 g _) rfl m_X11_keep_inX11 (Nat.le_of_ble_eq_true rfl) m_X11_keep_f60 rfl dX11_keep_25 ?_
    refine r_iload_n B 1 dX11_keep_28 rfl rfl ?_
    refine r_iald B 16 0 (Nat.le_of_ble_eq_true rfl) rfl (cM_16 g _) rfl dX11_keep_29 ?_
    refine r_iconst B (1 : Int32) dX11_keep_30 (by decide) ?_
    refine r_icmp_ne B 39 dX11_keep_31 (by decide) (fun _ => ?_) (fun _ => ?_)
    · refine r_iload_n B 3 dX11_keep_39 rfl rfl ?_
      refine r_iast B 18 0 (Nat.le_of_ble_eq_true rfl) rfl (cM_18 g _) rfl (uM_18 g _ _) dX11_keep_40 (fun S40 => ?_)
      exact r_vret B dX11_keep_41 rfl
    · refine r_iload_n B 3 dX11_keep_34 rfl rfl ?_
      refine r_i2s B dX11_keep_35 ?_
      refine r_goto B 40 dX11_keep_36 (by decide) ?_
      refine r_iast B 18 0 (Nat.le_of_ble_eq_true rfl) rfl (cM_18 g _) rfl (uM_18 g _ _) dX11_keep_40 (fun S40 => ?_)
      exact r_vret B dX11_keep_41 rfl
  · refine r_iload_n B 3 dX11_keep_19 rfl rfl ?_
    refine r_i2b B dX11_keep_20 ?_
    refine r_goto B 40 dX11_keep_21 (by decide) ?_
    refine r_iast B 18 0 (Nat.le_of_ble_eq_true rfl) rfl (cM_18 g _) rfl (uM_18 g _ _) dX11_keep_40 (fun S40 => ?_)
    exact r_vret B dX11_keep_41 rfl
set_option maxRecDepth 20000 in
theorem k_X11_keep {l : Launch} {D : va_G} {g : zGx} (hz : zin (WM g)) {S : zSt} {a1 : Int32} {a2 : Int32} {a3 : Int32} {b : zSt} (h : F_X11_keep S a1 a2 a3 = some b) : zMet l D (WM g) (zT g) yX11_keep wsX11_keep rm_X11_keep S [.ref (g.1 0), .int a1, .int a2, .int a3] (eVw b) := zmet_of (by decide +kernel) rfl hz (Nat.le_of_ble_eq_true rfl) rfl (fun E _ _ hE B => x_X11_keep B hE S a1 a2 a3) h
abbrev rm_X11_put : Room := { frames := 2, cells := 0, slots := 0, locals := 45 }
theorem y_X11_put : yX11_put.cls = RX11 ∧ yX11_put.cls ≠ "java/lang/invoke/MethodHandle" ∧ yX11_put.cls ≠ "java/lang/invoke/VarHandle" ∧ (parseMethodDescriptor yX11_put.desc).map (fun d => d.parameters.length) = some 4 := by decide +kernel
set_option maxRecDepth 100000 in
set_option maxHeartbeats 4000000 in
theorem x_X11_put {E : zCx} {g : zGx} (B : zGood E (WM g) (zT g) cX11_put RX11 wsX11_put (some .int) rm_X11_put) (hE : E.2.2 = 6) (S : zSt) (a1 : Int32) (a2 : Int32) (a3 : Int32) (a4 : Int32) : Xo E (WM g) eIw S 0 [(0, .ref (g.1 0)), (1, .int a1), (2, .int a2), (3, .int a3), (4, .int a4)] [] (F_X11_put S a1 a2 a3 a4) := by
  have n5 : 5 < E.2.2 := by rw [hE]; decide
  unfold F_X11_put
  refine r_iload_n B 1 dX11_put_0 rfl rfl ?_
  refine r_cI (zrunS (As := [.int a1]) (rest := []) B 1 (fun b hb => k_X11_isSheet B.2.2.1 hb) gX11_put_X11_isSheet rfl rfl rfl y_X11_isSheet ⟨Nat.le_of_ble_eq_true rfl, Nat.le_of_ble_eq_true rfl⟩ rfl rfl (Nat.le_of_ble_eq_true rfl) dX11_put_1) (fun r1 => ?_)
  refine r_if_eq B 16 dX11_put_4 (by decide) (fun _ => ?_) (fun _ => ?_)
  · refine r_bipush B (-2 : Int32) dX11_put_16 (by decide) ?_
    exact r_iret B dX11_put_18 rfl
  · refine r_iload_n B 2 dX11_put_7 rfl rfl ?_
    refine r_iconst B (0 : Int32) dX11_put_8 (by decide) ?_
    refine r_iconst B (2 : Int32) dX11_put_9 (by decide) ?_
    refine r_cI (zrunS (As := [.int a2, .int (0 : Int32), .int (2 : Int32)]) (rest := []) B 3 (fun b hb => k_X11_in B.2.2.1 hb) gX11_put_X11_in rfl rfl rfl y_X11_in ⟨Nat.le_of_ble_eq_true rfl, Nat.le_of_ble_eq_true rfl⟩ rfl rfl (Nat.le_of_ble_eq_true rfl) dX11_put_10) (fun r10 => ?_)
    refine r_if_ne B 19 dX11_put_13 (by decide) (fun _ => ?_) (fun _ => ?_)
    · refine r_aload_n B 0 dX11_put_19 rfl rfl ?_
      refine r_iload_n B 1 dX11_put_20 rfl rfl ?_
      refine r_iload_n B 2 dX11_put_21 rfl rfl ?_
      refine r_iload_n B 3 dX11_put_22 rfl rfl ?_
      refine r_cI (zrunV (As := [.int a1, .int a2, .int a3]) (rest := []) B 3 0 (fun b hb => k_X11_lacks B.2.2.1 hb) gX11_put_X11_lacks rfl rfl rfl y_X11_lacks ⟨Nat.le_of_ble_eq_true rfl, Nat.le_of_ble_eq_true rfl⟩ (Nat.le_of_ble_eq_true rfl) rfl (cM_0 g _) rfl rfl rfl (Nat.le_of_ble_eq_true rfl) dX11_put_23) (fun r23 => ?_)
      refine r_istore (lv' := fun x5_26 => [(5, .int x5_26), (0, .ref (g.1 0)), (1, .int a1), (2, .int a2), (3, .int a3), (4, .int a4)]) B dX11_put_26 n5 (fun _ => rfl) (fun x5_26 => ?_)
      refine r_iload B 0 dX11_put_28 rfl ?_
      refine r_if_le B 40 dX11_put_30 (by decide) (fun _ => ?_) (fun _ => ?_)
      · refine r_aload_n B 1 dX11_put_40 rfl rfl ?_
        refine r_iload_n B 2 dX11_put_41 rfl rfl ?_
        refine r_iload_n B 4 dX11_put_42 rfl rfl ?_
        refine r_iload B 5 dX11_put_43 rfl ?_
        refine r_cVw (zrunV (As := [.int a1, .int a3, .int a4]) (rest := []) B 3 0 (fun b hb => k_X11_keep B.2.2.1 hb) gX11_put_X11_keep rfl rfl rfl y_X11_keep ⟨Nat.le_of_ble_eq_true rfl, Nat.le_of_ble_eq_true rfl⟩ (Nat.le_of_ble_eq_true rfl) rfl (cM_0 g _) rfl rfl rfl (Nat.le_of_ble_eq_true rfl) dX11_put_45) (fun S45 => ?_)
        refine r_iconst B (1 : Int32) dX11_put_48 (by decide) ?_
        exact r_iret B dX11_put_49 rfl
      · refine r_aload_n B 1 dX11_put_33 rfl rfl ?_
        refine r_iload B 0 dX11_put_34 rfl ?_
        refine r_cIw (zrunV (As := [.int x5_26]) (rest := []) B 1 0 (fun b hb => k_X11_meets B.2.2.1 hb) gX11_put_X11_meets rfl rfl rfl y_X11_meets ⟨Nat.le_of_ble_eq_true rfl, Nat.le_of_ble_eq_true rfl⟩ (Nat.le_of_ble_eq_true rfl) rfl (cM_0 g _) rfl rfl rfl (Nat.le_of_ble_eq_true rfl) dX11_put_36) (fun r36 S36 => ?_)
        exact r_iret B dX11_put_39 rfl
    · refine r_bipush B (-2 : Int32) dX11_put_16 (by decide) ?_
      exact r_iret B dX11_put_18 rfl
set_option maxRecDepth 20000 in
theorem k_X11_put {l : Launch} {D : va_G} {g : zGx} (hz : zin (WM g)) {S : zSt} {a1 : Int32} {a2 : Int32} {a3 : Int32} {a4 : Int32} {b : (Int32 × zSt)} (h : F_X11_put S a1 a2 a3 a4 = some b) : zMet l D (WM g) (zT g) yX11_put wsX11_put rm_X11_put S [.ref (g.1 0), .int a1, .int a2, .int a3, .int a4] (eIw b) := zmet_of (by decide +kernel) rfl hz (Nat.le_of_ble_eq_true rfl) rfl (fun E _ _ hE B => x_X11_put B hE S a1 a2 a3 a4) h
abbrev rm_X11_get : Room := { frames := 2, cells := 0, slots := 0, locals := 45 }
theorem y_X11_get : yX11_get.cls = RX11 ∧ yX11_get.cls ≠ "java/lang/invoke/MethodHandle" ∧ yX11_get.cls ≠ "java/lang/invoke/VarHandle" ∧ (parseMethodDescriptor yX11_get.desc).map (fun d => d.parameters.length) = some 3 := by decide +kernel
theorem m_X11_get_c250 : Cond.constant RX11 250 (-2147483648) ∈ wsX11_get := List.mem_cons_of_mem _ (List.mem_append_left _ (List.mem_of_getElem? (i := 0) rfl))
theorem m_X11_get_f66 : Cond.fieldLink RX11 66 "LongestMetModel" "items" "[I" ∈ wsX11_get := List.mem_cons_of_mem _ (List.mem_append_left _ (List.mem_of_getElem? (i := 2) rfl))
theorem m_X11_get_inX11 : ∀ x ∈ u_ws RX11 TX11 27, x ∈ wsX11_get := fun _ h => List.mem_cons_of_mem _ (List.mem_append_right _ h)
theorem m_X11_get_f240 : Cond.fieldLink RX11 240 "LongestMetModel" "finding" "I" ∈ wsX11_get := List.mem_cons_of_mem _ (List.mem_append_left _ (List.mem_of_getElem? (i := 1) rfl))
set_option maxRecDepth 100000 in
set_option maxHeartbeats 4000000 in
theorem x_X11_get {E : zCx} {g : zGx} (B : zGood E (WM g) (zT g) cX11_get RX11 wsX11_get (some .int) rm_X11_get) (hE : E.2.2 = 5) (S : zSt) (a1 : Int32) (a2 : Int32) (a3 : Int32) : Xo E (WM g) eIw S 0 [(0, .ref (g.1 0)), (1, .int a1), (2, .int a2), (3, .int a3)] [] (F_X11_get S a1 a2 a3) := by
  have n4 : 4 < E.2.2 := by rw [hE]; decide
  unfold F_X11_get
  refine r_iload_n B 1 dX11_get_0 rfl rfl ?_
  refine r_cI (zrunS (As := [.int a1]) (rest := []) B 1 (fun b hb => k_X11_isSheet B.2.2.1 hb) gX11_get_X11_isSheet rfl rfl rfl y_X11_isSheet ⟨Nat.le_of_ble_eq_true rfl, Nat.le_of_ble_eq_true rfl⟩ rfl rfl (Nat.le_of_ble_eq_true rfl) dX11_get_1) (fun r1 => ?_)
  refine r_if_eq B 16 dX11_get_4 (by decide) (fun _ => ?_) (fun _ => ?_)
  · refine r_ldc B (-2147483648 : Int32) m_X11_get_c250 dX11_get_16 ?_
    exact r_iret B dX11_get_18 rfl
  · refine r_iload_n B 2 dX11_get_7 rfl rfl ?_
    refine r_iconst B (0 : Int32) dX11_get_8 (by decide) ?_
    refine r_iconst B (2 : Int32) dX11_get_9 (by decide) ?_
    refine r_cI (zrunS (As := [.int a2, .int (0 : Int32), .int (2 : Int32)]) (rest := []) B 3 (fun b hb => k_X11_in B.2.2.1 hb) gX11_get_X11_in rfl rfl rfl y_X11_in ⟨Nat.le_of_ble_eq_true rfl, Nat.le_of_ble_eq_true rfl⟩ rfl rfl (Nat.le_of_ble_eq_true rfl) dX11_get_10) (fun r10 => ?_)
    refine r_if_ne B 19 dX11_get_13 (by decide) (fun _ => ?_) (fun _ => ?_)
    · refine r_aload_n B 0 dX11_get_19 rfl rfl ?_
      refine r_iload_n B 1 dX11_get_20 rfl rfl ?_
      refine r_iload_n B 2 dX11_get_21 rfl rfl ?_
      refine r_iload_n B 3 dX11_get_22 rfl rfl ?_
      refine r_cI (zrunV (As := [.int a1, .int a2, .int a3]) (rest := []) B 3 0 (fun b hb => k_X11_lacks B.2.2.1 hb) gX11_get_X11_lacks rfl rfl rfl y_X11_lacks ⟨Nat.le_of_ble_eq_true rfl, Nat.le_of_ble_eq_true rfl⟩ (Nat.le_of_ble_eq_true rfl) rfl (cM_0 g _) rfl rfl rfl (Nat.le_of_ble_eq_true rfl) dX11_get_23) (fun r23 => ?_)
      refine r_istore (lv' := fun x4_26 => [(4, .int x4_26), (0, .ref (g.1 0)), (1, .int a1), (2, .int a2), (3, .int a3)]) B dX11_get_26 n4 (fun _ => rfl) (fun x4_26 => ?_)
      refine r_iload B 0 dX11_get_28 rfl ?_
      refine r_if_le B 42 dX11_get_30 (by decide) (fun _ => ?_) (fun _ => ?_)
      · refine r_aload_n B 1 dX11_get_42 rfl rfl ?_
        refine r_get B 0 10 24 (Nat.le_of_ble_eq_true rfl) rfl (cM_0 g _) rfl m_X11_get_inX11 (Nat.le_of_ble_eq_true rfl) m_X11_get_f66 rfl dX11_get_43 ?_
        refine r_bipush B (60 : Int32) dX11_get_46 (by decide) ?_
        refine r_iload_n B 2 dX11_get_48 rfl rfl ?_
        refine r_imul B dX11_get_49 ?_
        refine r_iload_n B 4 dX11_get_50 rfl rfl ?_
        refine r_iadd B dX11_get_51 ?_
        refine r_iald B 18 0 (Nat.le_of_ble_eq_true rfl) rfl (cM_18 g _) rfl dX11_get_52 ?_
        exact r_iret B dX11_get_53 rfl
      · refine r_aload_n B 1 dX11_get_33 rfl rfl ?_
        refine r_iload B 0 dX11_get_34 rfl ?_
        refine r_put (ty := .int) B 0 10 26 tyX11 tyX11_ok nmX11 (Nat.le_of_ble_eq_true rfl) rfl (cM_0 g _) rfl m_X11_get_inX11 (Nat.le_of_ble_eq_true rfl) m_X11_get_f240 rfl (by decide +kernel) rfl rfl (Nat.le_of_ble_eq_true rfl) (pM_0_26 g _ _) dX11_get_36 (fun S36 => ?_)
        refine r_ldc B (-2147483648 : Int32) m_X11_get_c250 dX11_get_39 ?_
        exact r_iret B dX11_get_41 rfl
    · refine r_ldc B (-2147483648 : Int32) m_X11_get_c250 dX11_get_16 ?_
      exact r_iret B dX11_get_18 rfl
set_option maxRecDepth 20000 in
theorem k_X11_get {l : Launch} {D : va_G} {g : zGx} (hz : zin (WM g)) {S : zSt} {a1 : Int32} {a2 : Int32} {a3 : Int32} {b : (Int32 × zSt)} (h : F_X11_get S a1 a2 a3 = some b) : zMet l D (WM g) (zT g) yX11_get wsX11_get rm_X11_get S [.ref (g.1 0), .int a1, .int a2, .int a3] (eIw b) := zmet_of (by decide +kernel) rfl hz (Nat.le_of_ble_eq_true rfl) rfl (fun E _ _ hE B => x_X11_get B hE S a1 a2 a3) h
abbrev rm_X11_copy : Room := { frames := 2, cells := 0, slots := 0, locals := 42 }
theorem y_X11_copy : yX11_copy.cls = RX11 ∧ yX11_copy.cls ≠ "java/lang/invoke/MethodHandle" ∧ yX11_copy.cls ≠ "java/lang/invoke/VarHandle" ∧ (parseMethodDescriptor yX11_copy.desc).map (fun d => d.parameters.length) = some 5 := by decide +kernel
theorem m_X11_copy_f56 : Cond.fieldLink RX11 56 "LongestMetModel" "isThere" "[Z" ∈ wsX11_copy := List.mem_cons_of_mem _ (List.mem_append_left _ (List.mem_of_getElem? (i := 0) rfl))
theorem m_X11_copy_inX11 : ∀ x ∈ u_ws RX11 TX11 27, x ∈ wsX11_copy := fun _ h => List.mem_cons_of_mem _ (List.mem_append_right _ h)
theorem m_X11_copy_f60 : Cond.fieldLink RX11 60 "LongestMetModel" "forms" "[I" ∈ wsX11_copy := List.mem_cons_of_mem _ (List.mem_append_left _ (List.mem_of_getElem? (i := 1) rfl))
theorem m_X11_copy_f63 : Cond.fieldLink RX11 63 "LongestMetModel" "sizes" "[I" ∈ wsX11_copy := List.mem_cons_of_mem _ (List.mem_append_left _ (List.mem_of_getElem? (i := 2) rfl))
theorem m_X11_copy_f69 : Cond.fieldLink RX11 69 "LongestMetModel" "moved" "[I" ∈ wsX11_copy := List.mem_cons_of_mem _ (List.mem_append_left _ (List.mem_of_getElem? (i := 3) rfl))
theorem m_X11_copy_f66 : Cond.fieldLink RX11 66 "LongestMetModel" "items" "[I" ∈ wsX11_copy := List.mem_cons_of_mem _ (List.mem_append_left _ (List.mem_of_getElem? (i := 4) rfl))
set_option maxRecDepth 100000 in
set_option maxHeartbeats 4000000 in
theorem xL_X11_copy_120 {E : zCx} {g : zGx} (B : zGood E (WM g) (zT g) cX11_copy RX11 wsX11_copy (some .int) rm_X11_copy) (hE : E.2.2 = 7) (a1 : Int32) (a2 : Int32) (a3 : Int32) (a4 : Int32) (a5 : Int32) (k : zSt → Option (Int32 × zSt)) (hk : ∀ (S120x : zSt), Xo E (WM g) eIw S120x 154 [(0, .ref (g.1 0)), (3, .int a3), (4, .int a4), (5, .int a5)] [] (k S120x)) : ∀ (n : Nat) (S120 : zSt) (v6_120 : Int32), Xo E (WM g) eIw S120 120 [(0, .ref (g.1 0)), (1, .int a1), (2, .int a2), (3, .int a3), (4, .int a4), (5, .int a5), (6, .int v6_120)] [] (L_X11_copy_120 a1 a2 a3 a4 a5 k n S120 v6_120) := by
  have n6 : 6 < E.2.2 := by rw [hE]; decide
  intro n
  induction n with
  | zero =>
    intro _ _
    exact r_none
  | succ n ih =>
    intro S120 v6_120
    rw [L_X11_copy_120]
    refine r_iload B 6 dX11_copy_120 rfl ?_
    refine r_iload B 5 dX11_copy_122 rfl ?_
    refine r_icmp_ge B 154 dX11_copy_124 (by decide) (fun _ => ?_) (fun _ => ?_)
    · refine r_sub [0, 3, 4, 5] rfl ?_
      exact hk S120
    · refine r_aload_n B 0 dX11_copy_127 rfl rfl ?_
      refine r_get B 0 10 25 (Nat.le_of_ble_eq_true rfl) rfl (cM_0 g _) rfl m_X11_copy_inX11 (Nat.le_of_ble_eq_true rfl) m_X11_copy_f69 rfl dX11_copy_128 ?_
      refine r_iload B 6 dX11_copy_131 rfl ?_
      refine r_aload_n B 0 dX11_copy_133 rfl rfl ?_
      refine r_get B 0 10 24 (Nat.le_of_ble_eq_true rfl) rfl (cM_0 g _) rfl m_X11_copy_inX11 (Nat.le_of_ble_eq_true rfl) m_X11_copy_f66 rfl dX11_copy_134 ?_
      refine r_bipush B (60 : Int32) dX11_copy_137 (by decide) ?_
      refine r_iload_n B 1 dX11_copy_139 rfl rfl ?_
      refine r_imul B dX11_copy_140 ?_
      refine r_iload_n B 2 dX11_copy_141 rfl rfl ?_
      refine r_iadd B dX11_copy_142 ?_
      refine r_iload B 6 dX11_copy_143 rfl ?_
      refine r_iadd B dX11_copy_145 ?_
      refine r_iald B 18 0 (Nat.le_of_ble_eq_true rfl) rfl (cM_18 g _) rfl dX11_copy_146 ?_
      refine r_iast B 19 0 (Nat.le_of_ble_eq_true rfl) rfl (cM_19 g _) rfl (uM_19 g _ _) dX11_copy_147 (fun S147 => ?_)
      refine r_iinc (lv' := fun x6_148 => [(6, .int x6_148), (0, .ref (g.1 0)), (1, .int a1), (2, .int a2), (3, .int a3), (4, .int a4), (5, .int a5)]) B 6 (1 : Int32) dX11_copy_148 rfl (by decide) n6 (fun _ => rfl) (fun x6_148 => ?_)
      refine r_goto B 120 dX11_copy_151 (by decide) ?_
      refine r_sub [1, 2, 3, 4, 5, 6, 0] rfl ?_
      exact ih S147 x6_148
set_option maxRecDepth 100000 in
set_option maxHeartbeats 4000000 in
theorem xL_X11_copy_157 {E : zCx} {g : zGx} (B : zGood E (WM g) (zT g) cX11_copy RX11 wsX11_copy (some .int) rm_X11_copy) (hE : E.2.2 = 7) (a3 : Int32) (a4 : Int32) (a5 : Int32) (k : zSt → Option (Int32 × zSt)) (hk : ∀ (S157x : zSt), Xo E (WM g) eIw S157x 192 [] [] (k S157x)) : ∀ (n : Nat) (S157 : zSt) (v6_157 : Int32), Xo E (WM g) eIw S157 157 [(0, .ref (g.1 0)), (3, .int a3), (4, .int a4), (5, .int a5), (6, .int v6_157)] [] (L_X11_copy_157 a3 a4 a5 k n S157 v6_157) := by
  have n6 : 6 < E.2.2 := by rw [hE]; decide
  intro n
  induction n with
  | zero =>
    intro _ _
    exact r_none
  | succ n ih =>
    intro S157 v6_157
    rw [L_X11_copy_157]
    refine r_iload B 4 dX11_copy_157 rfl ?_
    refine r_iload B 3 dX11_copy_159 rfl ?_
    refine r_icmp_ge B 192 dX11_copy_161 (by decide) (fun _ => ?_) (fun _ => ?_)
    · refine r_sub [] rfl ?_
      exact hk S157
    · refine r_aload_n B 0 dX11_copy_164 rfl rfl ?_
      refine r_get B 0 10 24 (Nat.le_of_ble_eq_true rfl) rfl (cM_0 g _) rfl m_X11_copy_inX11 (Nat.le_of_ble_eq_true rfl) m_X11_copy_f66 rfl dX11_copy_165 ?_
      refine r_bipush B (60 : Int32) dX11_copy_168 (by decide) ?_
      refine r_iload_n B 1 dX11_copy_170 rfl rfl ?_
      refine r_imul B dX11_copy_171 ?_
      refine r_iload B 2 dX11_copy_172 rfl ?_
      refine r_iadd B dX11_copy_174 ?_
      refine r_iload B 4 dX11_copy_175 rfl ?_
      refine r_iadd B dX11_copy_177 ?_
      refine r_aload_n B 0 dX11_copy_178 rfl rfl ?_
      refine r_get B 0 10 25 (Nat.le_of_ble_eq_true rfl) rfl (cM_0 g _) rfl m_X11_copy_inX11 (Nat.le_of_ble_eq_true rfl) m_X11_copy_f69 rfl dX11_copy_179 ?_
      refine r_iload B 4 dX11_copy_182 rfl ?_
      refine r_iald B 19 0 (Nat.le_of_ble_eq_true rfl) rfl (cM_19 g _) rfl dX11_copy_184 ?_
      refine r_iast B 18 0 (Nat.le_of_ble_eq_true rfl) rfl (cM_18 g _) rfl (uM_18 g _ _) dX11_copy_185 (fun S185 => ?_)
      refine r_iinc (lv' := fun x6_186 => [(6, .int x6_186), (0, .ref (g.1 0)), (3, .int a3), (4, .int a4), (5, .int a5)]) B 4 (1 : Int32) dX11_copy_186 rfl (by decide) n6 (fun _ => rfl) (fun x6_186 => ?_)
      refine r_goto B 157 dX11_copy_189 (by decide) ?_
      refine r_sub [1, 2, 3, 4, 0] rfl ?_
      exact ih S185 x6_186
set_option maxRecDepth 100000 in
set_option maxHeartbeats 4000000 in
theorem x_X11_copy {E : zCx} {g : zGx} (B : zGood E (WM g) (zT g) cX11_copy RX11 wsX11_copy (some .int) rm_X11_copy) (hE : E.2.2 = 7) (S : zSt) (a1 : Int32) (a2 : Int32) (a3 : Int32) (a4 : Int32) (a5 : Int32) : Xo E (WM g) eIw S 0 [(0, .ref (g.1 0)), (1, .int a1), (2, .int a2), (3, .int a3), (4, .int a4), (5, .int a5)] [] (F_X11_copy S a1 a2 a3 a4 a5) := by
  have n6 : 6 < E.2.2 := by rw [hE]; decide
  unfold F_X11_copy
  refine r_iload_n B 1 dX11_copy_0 rfl rfl ?_
  refine r_cI (zrunS (As := [.int a1]) (rest := []) B 1 (fun b hb => k_X11_isSheet B.2.2.1 hb) gX11_copy_X11_isSheet rfl rfl rfl y_X11_isSheet ⟨Nat.le_of_ble_eq_true rfl, Nat.le_of_ble_eq_true rfl⟩ rfl rfl (Nat.le_of_ble_eq_true rfl) dX11_copy_1) (fun r1 => ?_)
  refine r_if_eq B 14 dX11_copy_4 (by decide) (fun _ => ?_) (fun _ => ?_)
  · refine r_bipush B (-2 : Int32) dX11_copy_14 (by decide) ?_
    exact r_iret B dX11_copy_16 rfl
  · refine r_iload_n B 3 dX11_copy_7 rfl rfl ?_
    refine r_cI (zrunS (As := [.int a3]) (rest := []) B 1 (fun b hb => k_X11_isSheet B.2.2.1 hb) gX11_copy_X11_isSheet rfl rfl rfl y_X11_isSheet ⟨Nat.le_of_ble_eq_true rfl, Nat.le_of_ble_eq_true rfl⟩ rfl rfl (Nat.le_of_ble_eq_true rfl) dX11_copy_8) (fun r8 => ?_)
    refine r_if_ne B 17 dX11_copy_11 (by decide) (fun _ => ?_) (fun _ => ?_)
    · refine r_aload_n B 0 dX11_copy_17 rfl rfl ?_
      refine r_get B 0 10 21 (Nat.le_of_ble_eq_true rfl) rfl (cM_0 g _) rfl m_X11_copy_inX11 (Nat.le_of_ble_eq_true rfl) m_X11_copy_f56 rfl dX11_copy_18 ?_
      refine r_iload_n B 1 dX11_copy_21 rfl rfl ?_
      refine r_zald B 15 3 (Nat.le_of_ble_eq_true rfl) rfl (cM_15 g _) rfl dX11_copy_22 ?_
      refine r_jn2 (P := fun j35 : Option (Int32 × zSt) => Xo E (WM g) eIw S 35 [(0, .ref (g.1 0))] [] (j35)) ?_ (fun j35 hj35 => ?_)
      · refine r_aload_n B 0 dX11_copy_35 rfl rfl ?_
        refine r_iconst B (1 : Int32) dX11_copy_36 (by decide) ?_
        refine r_cIw (zrunV (As := [.int (1 : Int32)]) (rest := []) B 1 0 (fun b hb => k_X11_meets B.2.2.1 hb) gX11_copy_X11_meets rfl rfl rfl y_X11_meets ⟨Nat.le_of_ble_eq_true rfl, Nat.le_of_ble_eq_true rfl⟩ (Nat.le_of_ble_eq_true rfl) rfl (cM_0 g _) rfl rfl rfl (Nat.le_of_ble_eq_true rfl) dX11_copy_37) (fun r37 S37 => ?_)
        exact r_iret B dX11_copy_40 rfl
      refine r_if_eq B 35 dX11_copy_23 (by decide) (fun _ => ?_) (fun _ => ?_)
      · refine r_sub [0] rfl ?_
        exact hj35
      · refine r_aload_n B 0 dX11_copy_26 rfl rfl ?_
        refine r_get B 0 10 21 (Nat.le_of_ble_eq_true rfl) rfl (cM_0 g _) rfl m_X11_copy_inX11 (Nat.le_of_ble_eq_true rfl) m_X11_copy_f56 rfl dX11_copy_27 ?_
        refine r_iload_n B 3 dX11_copy_30 rfl rfl ?_
        refine r_zald B 15 3 (Nat.le_of_ble_eq_true rfl) rfl (cM_15 g _) rfl dX11_copy_31 ?_
        refine r_if_ne B 41 dX11_copy_32 (by decide) (fun _ => ?_) (fun _ => ?_)
        · refine r_aload_n B 0 dX11_copy_41 rfl rfl ?_
          refine r_get B 0 10 22 (Nat.le_of_ble_eq_true rfl) rfl (cM_0 g _) rfl m_X11_copy_inX11 (Nat.le_of_ble_eq_true rfl) m_X11_copy_f60 rfl dX11_copy_42 ?_
          refine r_iload_n B 1 dX11_copy_45 rfl rfl ?_
          refine r_iald B 16 0 (Nat.le_of_ble_eq_true rfl) rfl (cM_16 g _) rfl dX11_copy_46 ?_
          refine r_aload_n B 0 dX11_copy_47 rfl rfl ?_
          refine r_get B 0 10 22 (Nat.le_of_ble_eq_true rfl) rfl (cM_0 g _) rfl m_X11_copy_inX11 (Nat.le_of_ble_eq_true rfl) m_X11_copy_f60 rfl dX11_copy_48 ?_
          refine r_iload_n B 3 dX11_copy_51 rfl rfl ?_
          refine r_iald B 16 0 (Nat.le_of_ble_eq_true rfl) rfl (cM_16 g _) rfl dX11_copy_52 ?_
          refine r_icmp_eq B 62 dX11_copy_53 (by decide) (fun _ => ?_) (fun _ => ?_)
          · refine r_iload_n B 2 dX11_copy_62 rfl rfl ?_
            refine r_jn2 (P := fun j111 : Option (Int32 × zSt) => Xo E (WM g) eIw S 111 [(0, .ref (g.1 0))] [] (j111)) ?_ (fun j111 hj111 => ?_)
            · refine r_aload_n B 0 dX11_copy_111 rfl rfl ?_
              refine r_iconst B (2 : Int32) dX11_copy_112 (by decide) ?_
              refine r_cIw (zrunV (As := [.int (2 : Int32)]) (rest := []) B 1 0 (fun b hb => k_X11_meets B.2.2.1 hb) gX11_copy_X11_meets rfl rfl rfl y_X11_meets ⟨Nat.le_of_ble_eq_true rfl, Nat.le_of_ble_eq_true rfl⟩ (Nat.le_of_ble_eq_true rfl) rfl (cM_0 g _) rfl rfl rfl (Nat.le_of_ble_eq_true rfl) dX11_copy_113) (fun r113 S113 => ?_)
              exact r_iret B dX11_copy_116 rfl
            refine r_if_lt B 111 dX11_copy_63 (by decide) (fun _ => ?_) (fun _ => ?_)
            · refine r_sub [0] rfl ?_
              exact hj111
            · refine r_iload B 4 dX11_copy_66 rfl ?_
              refine r_if_lt B 111 dX11_copy_68 (by decide) (fun _ => ?_) (fun _ => ?_)
              · refine r_sub [0] rfl ?_
                exact hj111
              · refine r_iload B 5 dX11_copy_71 rfl ?_
                refine r_if_lt B 111 dX11_copy_73 (by decide) (fun _ => ?_) (fun _ => ?_)
                · refine r_sub [0] rfl ?_
                  exact hj111
                · refine r_iload_n B 2 dX11_copy_76 rfl rfl ?_
                  refine r_i2l B dX11_copy_77 ?_
                  refine r_iload B 5 dX11_copy_78 rfl ?_
                  refine r_i2l B dX11_copy_80 ?_
                  refine r_ladd B dX11_copy_81 ?_
                  refine r_aload_n B 0 dX11_copy_82 rfl rfl ?_
                  refine r_get B 0 10 23 (Nat.le_of_ble_eq_true rfl) rfl (cM_0 g _) rfl m_X11_copy_inX11 (Nat.le_of_ble_eq_true rfl) m_X11_copy_f63 rfl dX11_copy_83 ?_
                  refine r_iload_n B 1 dX11_copy_86 rfl rfl ?_
                  refine r_iald B 17 0 (Nat.le_of_ble_eq_true rfl) rfl (cM_17 g _) rfl dX11_copy_87 ?_
                  refine r_i2l B dX11_copy_88 ?_
                  refine r_lcmp B dX11_copy_89 ?_
                  refine r_if_gt B 111 dX11_copy_90 (by decide) (fun _ => ?_) (fun _ => ?_)
                  · refine r_sub [0] rfl ?_
                    exact hj111
                  · refine r_iload B 4 dX11_copy_93 rfl ?_
                    refine r_i2l B dX11_copy_95 ?_
                    refine r_iload B 5 dX11_copy_96 rfl ?_
                    refine r_i2l B dX11_copy_98 ?_
                    refine r_ladd B dX11_copy_99 ?_
                    refine r_aload_n B 0 dX11_copy_100 rfl rfl ?_
                    refine r_get B 0 10 23 (Nat.le_of_ble_eq_true rfl) rfl (cM_0 g _) rfl m_X11_copy_inX11 (Nat.le_of_ble_eq_true rfl) m_X11_copy_f63 rfl dX11_copy_101 ?_
                    refine r_iload_n B 3 dX11_copy_104 rfl rfl ?_
                    refine r_iald B 17 0 (Nat.le_of_ble_eq_true rfl) rfl (cM_17 g _) rfl dX11_copy_105 ?_
                    refine r_i2l B dX11_copy_106 ?_
                    refine r_lcmp B dX11_copy_107 ?_
                    refine r_if_le B 117 dX11_copy_108 (by decide) (fun _ => ?_) (fun _ => ?_)
                    · refine r_iconst B (0 : Int32) dX11_copy_117 (by decide) ?_
                      refine r_istore (lv' := fun x6_118 => [(6, .int x6_118), (0, .ref (g.1 0)), (1, .int a1), (2, .int a2), (3, .int a3), (4, .int a4), (5, .int a5)]) B dX11_copy_118 n6 (fun _ => rfl) (fun x6_118 => ?_)
                      refine r_sub [1, 2, 3, 4, 5, 6, 0] rfl ?_
                      refine xL_X11_copy_120 B hE a1 a2 a3 a4 a5 _ ?_ 1000 S x6_118
                      intro S120x_120
                      refine r_iconst B (0 : Int32) dX11_copy_154 (by decide) ?_
                      refine r_istore (lv' := fun x6_155 => [(6, .int x6_155), (0, .ref (g.1 0)), (3, .int a3), (4, .int a4), (5, .int a5)]) B dX11_copy_155 n6 (fun _ => rfl) (fun x6_155 => ?_)
                      refine r_sub [1, 2, 3, 4, 0] rfl ?_
                      refine xL_X11_copy_157 B hE a3 a4 a5 _ ?_ 1000 S120x_120 x6_155
                      intro S157x_157
                      refine r_iconst B (1 : Int32) dX11_copy_192 (by decide) ?_
                      exact r_iret B dX11_copy_193 rfl
                    · refine r_sub [0] rfl ?_
                      exact hj111
          · refine r_aload_n B 0 dX11_copy_56 rfl rfl ?_
            refine r_iconst B (4 : Int32) dX11_copy_57 (by decide) ?_
            refine r_cIw (zrunV (As := [.int (4 : Int32)]) (rest := []) B 1 0 (fun b hb => k_X11_meets B.2.2.1 hb) gX11_copy_X11_meets rfl rfl rfl y_X11_meets ⟨Nat.le_of_ble_eq_true rfl, Nat.le_of_ble_eq_true rfl⟩ (Nat.le_of_ble_eq_true rfl) rfl (cM_0 g _) rfl rfl rfl (Nat.le_of_ble_eq_true rfl) dX11_copy_58) (fun r58 S58 => ?_)
            exact r_iret B dX11_copy_61 rfl
        · refine r_sub [0] rfl ?_
          exact hj35
    · refine r_bipush B (-2 : Int32) dX11_copy_14 (by decide) ?_
      exact r_iret B dX11_copy_16 rfl
set_option maxRecDepth 20000 in
theorem k_X11_copy {l : Launch} {D : va_G} {g : zGx} (hz : zin (WM g)) {S : zSt} {a1 : Int32} {a2 : Int32} {a3 : Int32} {a4 : Int32} {a5 : Int32} {b : (Int32 × zSt)} (h : F_X11_copy S a1 a2 a3 a4 a5 = some b) : zMet l D (WM g) (zT g) yX11_copy wsX11_copy rm_X11_copy S [.ref (g.1 0), .int a1, .int a2, .int a3, .int a4, .int a5] (eIw b) := zmet_of (by decide +kernel) rfl hz (Nat.le_of_ble_eq_true rfl) rfl (fun E _ _ hE B => x_X11_copy B hE S a1 a2 a3 a4 a5) h
abbrev rm_X11_write : Room := { frames := 2, cells := 0, slots := 0, locals := 45 }
theorem y_X11_write : yX11_write.cls = RX11 ∧ yX11_write.cls ≠ "java/lang/invoke/MethodHandle" ∧ yX11_write.cls ≠ "java/lang/invoke/VarHandle" ∧ (parseMethodDescriptor yX11_write.desc).map (fun d => d.parameters.length) = some 2 := by decide +kernel
theorem m_X11_write_f56 : Cond.fieldLink RX11 56 "LongestMetModel" "isThere" "[Z" ∈ wsX11_write := List.mem_cons_of_mem _ (List.mem_append_left _ (List.mem_append_left _ (List.mem_of_getElem? (i := 0) rfl)))
theorem m_X11_write_inX11 : ∀ x ∈ u_ws RX11 TX11 27, x ∈ wsX11_write := fun _ h => List.mem_cons_of_mem _ (List.mem_append_right _ h)
theorem m_X11_write_f63 : Cond.fieldLink RX11 63 "LongestMetModel" "sizes" "[I" ∈ wsX11_write := List.mem_cons_of_mem _ (List.mem_append_left _ (List.mem_append_left _ (List.mem_of_getElem? (i := 1) rfl)))
set_option maxRecDepth 100000 in
set_option maxHeartbeats 4000000 in
theorem xL_X11_write_47 {E : zCx} {g : zGx} (B : zGood E (WM g) (zT g) cX11_write RX11 wsX11_write (some .int) rm_X11_write) (hE : E.2.2 = 4) (a1 : Int32) (a2 : Int32) (k : zSt → Int32 → Option (Int32 × zSt)) (hk : ∀ (S47x : zSt) (w3 : Int32), Xo E (WM g) eIw S47x 81 [(3, .int w3)] [] (k S47x w3)) : ∀ (n : Nat) (S47 : zSt) (v3_47 : Int32), Xo E (WM g) eIw S47 47 [(0, .ref (g.1 0)), (1, .int a1), (2, .int a2), (3, .int v3_47)] [] (L_X11_write_47 a1 a2 k n S47 v3_47) := by
  have n3 : 3 < E.2.2 := by rw [hE]; decide
  intro n
  induction n with
  | zero =>
    intro _ _
    exact r_none
  | succ n ih =>
    intro S47 v3_47
    rw [L_X11_write_47]
    refine r_iload_n B 3 dX11_write_47 rfl rfl ?_
    refine r_aload_n B 0 dX11_write_48 rfl rfl ?_
    refine r_get B 0 10 23 (Nat.le_of_ble_eq_true rfl) rfl (cM_0 g _) rfl m_X11_write_inX11 (Nat.le_of_ble_eq_true rfl) m_X11_write_f63 rfl dX11_write_49 ?_
    refine r_iload_n B 2 dX11_write_52 rfl rfl ?_
    refine r_iald B 17 0 (Nat.le_of_ble_eq_true rfl) rfl (cM_17 g _) rfl dX11_write_53 ?_
    refine r_icmp_ge B 81 dX11_write_54 (by decide) (fun _ => ?_) (fun _ => ?_)
    · refine r_sub [3] rfl ?_
      exact hk S47 v3_47
    · refine r_iload_n B 3 dX11_write_57 rfl rfl ?_
      refine r_bipush B (60 : Int32) dX11_write_58 (by decide) ?_
      refine r_icmp_ge B 81 dX11_write_60 (by decide) (fun _ => ?_) (fun _ => ?_)
      · refine r_sub [3] rfl ?_
        exact hk S47 v3_47
      · refine r_aload_n B 0 dX11_write_63 rfl rfl ?_
        refine r_iload_n B 2 dX11_write_64 rfl rfl ?_
        refine r_iload_n B 3 dX11_write_65 rfl rfl ?_
        refine r_aload_n B 0 dX11_write_66 rfl rfl ?_
        refine r_iload_n B 1 dX11_write_67 rfl rfl ?_
        refine r_iload_n B 3 dX11_write_68 rfl rfl ?_
        refine r_cI (zrunV (As := [.int a1, .int v3_47]) (rest := [.int v3_47, .int a2, .ref (g.1 0)]) B 2 0 (fun b hb => k_X11_waitOf B.2.2.1 hb) gX11_write_X11_waitOf rfl rfl rfl y_X11_waitOf ⟨Nat.le_of_ble_eq_true rfl, Nat.le_of_ble_eq_true rfl⟩ (Nat.le_of_ble_eq_true rfl) rfl (cM_0 g _) rfl rfl rfl (Nat.le_of_ble_eq_true rfl) dX11_write_69) (fun r69 => ?_)
        refine r_cVw (zrunV (As := [.int a2, .int v3_47, .int r69]) (rest := []) B 3 0 (fun b hb => k_X11_keep B.2.2.1 hb) gX11_write_X11_keep rfl rfl rfl y_X11_keep ⟨Nat.le_of_ble_eq_true rfl, Nat.le_of_ble_eq_true rfl⟩ (Nat.le_of_ble_eq_true rfl) rfl (cM_0 g _) rfl rfl rfl (Nat.le_of_ble_eq_true rfl) dX11_write_72) (fun S72 => ?_)
        refine r_iinc (lv' := fun x3_75 => [(3, .int x3_75), (0, .ref (g.1 0)), (1, .int a1), (2, .int a2)]) B 3 (1 : Int32) dX11_write_75 rfl (by decide) n3 (fun _ => rfl) (fun x3_75 => ?_)
        refine r_goto B 47 dX11_write_78 (by decide) ?_
        refine r_sub [1, 2, 3, 0] rfl ?_
        exact ih S72 x3_75
set_option maxRecDepth 100000 in
set_option maxHeartbeats 4000000 in
theorem x_X11_write {E : zCx} {g : zGx} (B : zGood E (WM g) (zT g) cX11_write RX11 wsX11_write (some .int) rm_X11_write) (hE : E.2.2 = 4) (S : zSt) (a1 : Int32) (a2 : Int32) : Xo E (WM g) eIw S 0 [(0, .ref (g.1 0)), (1, .int a1), (2, .int a2)] [] (F_X11_write S a1 a2) := by
  have n3 : 3 < E.2.2 := by rw [hE]; decide
  unfold F_X11_write
  refine r_iload_n B 1 dX11_write_0 rfl rfl ?_
  refine r_iconst B (0 : Int32) dX11_write_1 (by decide) ?_
  refine r_iconst B (2 : Int32) dX11_write_2 (by decide) ?_
  refine r_cI (zrunS (As := [.int a1, .int (0 : Int32), .int (2 : Int32)]) (rest := []) B 3 (fun b hb => k_X11_in B.2.2.1 hb) gX11_write_X11_in rfl rfl rfl y_X11_in ⟨Nat.le_of_ble_eq_true rfl, Nat.le_of_ble_eq_true rfl⟩ rfl rfl (Nat.le_of_ble_eq_true rfl) dX11_write_3) (fun r3 => ?_)
  refine r_if_eq B 16 dX11_write_6 (by decide) (fun _ => ?_) (fun _ => ?_)
  · refine r_bipush B (-2 : Int32) dX11_write_16 (by decide) ?_
    exact r_iret B dX11_write_18 rfl
  · refine r_iload_n B 2 dX11_write_9 rfl rfl ?_
    refine r_cI (zrunS (As := [.int a2]) (rest := []) B 1 (fun b hb => k_X11_isSheet B.2.2.1 hb) gX11_write_X11_isSheet rfl rfl rfl y_X11_isSheet ⟨Nat.le_of_ble_eq_true rfl, Nat.le_of_ble_eq_true rfl⟩ rfl rfl (Nat.le_of_ble_eq_true rfl) dX11_write_10) (fun r10 => ?_)
    refine r_if_ne B 19 dX11_write_13 (by decide) (fun _ => ?_) (fun _ => ?_)
    · refine r_aload_n B 0 dX11_write_19 rfl rfl ?_
      refine r_get B 0 10 21 (Nat.le_of_ble_eq_true rfl) rfl (cM_0 g _) rfl m_X11_write_inX11 (Nat.le_of_ble_eq_true rfl) m_X11_write_f56 rfl dX11_write_20 ?_
      refine r_iload_n B 2 dX11_write_23 rfl rfl ?_
      refine r_zald B 15 3 (Nat.le_of_ble_eq_true rfl) rfl (cM_15 g _) rfl dX11_write_24 ?_
      refine r_if_ne B 34 dX11_write_25 (by decide) (fun _ => ?_) (fun _ => ?_)
      · refine r_aload_n B 0 dX11_write_34 rfl rfl ?_
        refine r_iload_n B 1 dX11_write_35 rfl rfl ?_
        refine r_cI (zrunV (As := [.int a1]) (rest := []) B 1 0 (fun b hb => k_X11_many B.2.2.1 hb) gX11_write_X11_many rfl rfl rfl y_X11_many ⟨Nat.le_of_ble_eq_true rfl, Nat.le_of_ble_eq_true rfl⟩ (Nat.le_of_ble_eq_true rfl) rfl (cM_0 g _) rfl rfl rfl (Nat.le_of_ble_eq_true rfl) dX11_write_36) (fun r36 => ?_)
        refine r_if_ne B 45 dX11_write_39 (by decide) (fun _ => ?_) (fun _ => ?_)
        · refine r_iconst B (0 : Int32) dX11_write_45 (by decide) ?_
          refine r_istore_n (lv' := fun x3_46 => [(3, .int x3_46), (0, .ref (g.1 0)), (1, .int a1), (2, .int a2)]) B dX11_write_46 rfl n3 (fun _ => rfl) (fun x3_46 => ?_)
          refine r_sub [1, 2, 3, 0] rfl ?_
          refine xL_X11_write_47 B hE a1 a2 _ ?_ 1000 S x3_46
          intro S47x_47 w3_47
          refine r_iload_n B 0 dX11_write_81 rfl rfl ?_
          exact r_iret B dX11_write_82 rfl
        · refine r_bipush B (-3 : Int32) dX11_write_42 (by decide) ?_
          exact r_iret B dX11_write_44 rfl
      · refine r_aload_n B 0 dX11_write_28 rfl rfl ?_
        refine r_iconst B (1 : Int32) dX11_write_29 (by decide) ?_
        refine r_cIw (zrunV (As := [.int (1 : Int32)]) (rest := []) B 1 0 (fun b hb => k_X11_meets B.2.2.1 hb) gX11_write_X11_meets rfl rfl rfl y_X11_meets ⟨Nat.le_of_ble_eq_true rfl, Nat.le_of_ble_eq_true rfl⟩ (Nat.le_of_ble_eq_true rfl) rfl (cM_0 g _) rfl rfl rfl (Nat.le_of_ble_eq_true rfl) dX11_write_30) (fun r30 S30 => ?_)
        exact r_iret B dX11_write_33 rfl
    · refine r_bipush B (-2 : Int32) dX11_write_16 (by decide) ?_
      exact r_iret B dX11_write_18 rfl
set_option maxRecDepth 20000 in
theorem k_X11_write {l : Launch} {D : va_G} {g : zGx} (hz : zin (WM g)) {S : zSt} {a1 : Int32} {a2 : Int32} {b : (Int32 × zSt)} (h : F_X11_write S a1 a2 = some b) : zMet l D (WM g) (zT g) yX11_write wsX11_write rm_X11_write S [.ref (g.1 0), .int a1, .int a2] (eIw b) := zmet_of (by decide +kernel) rfl hz (Nat.le_of_ble_eq_true rfl) rfl (fun E _ _ hE B => x_X11_write B hE S a1 a2) h
abbrev rm_X11_friendships : Room := { frames := 1, cells := 0, slots := 0, locals := 22 }
theorem y_X11_friendships : yX11_friendships.cls = RX11 ∧ yX11_friendships.cls ≠ "java/lang/invoke/MethodHandle" ∧ yX11_friendships.cls ≠ "java/lang/invoke/VarHandle" ∧ (parseMethodDescriptor yX11_friendships.desc).map (fun d => d.parameters.length) = some 0 := by decide +kernel
theorem m_X11_friendships_f50 : Cond.fieldLink RX11 50 "LongestMetModel" "friendsOf" "[I" ∈ wsX11_friendships := List.mem_cons_of_mem _ (List.mem_append_left _ (List.mem_of_getElem? (i := 0) rfl))
theorem m_X11_friendships_inX11 : ∀ x ∈ u_ws RX11 TX11 27, x ∈ wsX11_friendships := fun _ h => List.mem_cons_of_mem _ (List.mem_append_right _ h)
set_option maxRecDepth 100000 in
set_option maxHeartbeats 4000000 in
theorem xL_X11_friendships_4 {E : zCx} {g : zGx} (B : zGood E (WM g) (zT g) cX11_friendships RX11 wsX11_friendships (some .int) rm_X11_friendships) (hE : E.2.2 = 3) (S : zSt) (k : Int32 → Option Int32) (hk : ∀ (w1 : Int32), Xo E (WM g) (eI S) S 28 [(1, .int w1)] [] (k w1)) : ∀ (n : Nat) (v1_4 : Int32) (v2_4 : Int32), Xo E (WM g) (eI S) S 4 [(0, .ref (g.1 0)), (1, .int v1_4), (2, .int v2_4)] [] (L_X11_friendships_4 S k n v1_4 v2_4) := by
  have n1 : 1 < E.2.2 := by rw [hE]; decide
  have n2 : 2 < E.2.2 := by rw [hE]; decide
  intro n
  induction n with
  | zero =>
    intro _ _
    exact r_none
  | succ n ih =>
    intro v1_4 v2_4
    rw [L_X11_friendships_4]
    refine r_iload_n B 2 dX11_friendships_4 rfl rfl ?_
    refine r_bipush B (8 : Int32) dX11_friendships_5 (by decide) ?_
    refine r_icmp_ge B 28 dX11_friendships_7 (by decide) (fun _ => ?_) (fun _ => ?_)
    · refine r_sub [1] rfl ?_
      exact hk v1_4
    · refine r_iload_n B 1 dX11_friendships_10 rfl rfl ?_
      refine r_aload_n B 0 dX11_friendships_11 rfl rfl ?_
      refine r_get B 0 10 18 (Nat.le_of_ble_eq_true rfl) rfl (cM_0 g _) rfl m_X11_friendships_inX11 (Nat.le_of_ble_eq_true rfl) m_X11_friendships_f50 rfl dX11_friendships_12 ?_
      refine r_iload_n B 2 dX11_friendships_15 rfl rfl ?_
      refine r_iald B 13 0 (Nat.le_of_ble_eq_true rfl) rfl (cM_13 g _) rfl dX11_friendships_16 ?_
      refine r_cI (zrunS (As := [.int (zA S 13 v2_4.toNatClampNeg)]) (rest := [.int v1_4]) B 1 (fun b hb => k_X11_ones B.2.2.1 hb) gX11_friendships_X11_ones rfl rfl rfl y_X11_ones ⟨Nat.le_of_ble_eq_true rfl, Nat.le_of_ble_eq_true rfl⟩ rfl rfl (Nat.le_of_ble_eq_true rfl) dX11_friendships_17) (fun r17 => ?_)
      refine r_iadd B dX11_friendships_20 ?_
      refine r_istore_n (lv' := fun x1_21 => [(1, .int x1_21), (0, .ref (g.1 0)), (2, .int v2_4)]) B dX11_friendships_21 rfl n1 (fun _ => rfl) (fun x1_21 => ?_)
      refine r_iinc (lv' := fun x2_22 => [(2, .int x2_22), (1, .int x1_21), (0, .ref (g.1 0))]) B 2 (1 : Int32) dX11_friendships_22 rfl (by decide) n2 (fun _ => rfl) (fun x2_22 => ?_)
      refine r_goto B 4 dX11_friendships_25 (by decide) ?_
      refine r_sub [2, 1, 0] rfl ?_
      exact ih x1_21 x2_22
set_option maxRecDepth 100000 in
set_option maxHeartbeats 4000000 in
theorem x_X11_friendships {E : zCx} {g : zGx} (B : zGood E (WM g) (zT g) cX11_friendships RX11 wsX11_friendships (some .int) rm_X11_friendships) (hE : E.2.2 = 3) (S : zSt) : Xo E (WM g) (eI S) S 0 [(0, .ref (g.1 0))] [] (F_X11_friendships S) := by
  have n1 : 1 < E.2.2 := by rw [hE]; decide
  have n2 : 2 < E.2.2 := by rw [hE]; decide
  unfold F_X11_friendships
  refine r_iconst B (0 : Int32) dX11_friendships_0 (by decide) ?_
  refine r_istore_n (lv' := fun x1_1 => [(1, .int x1_1), (0, .ref (g.1 0))]) B dX11_friendships_1 rfl n1 (fun _ => rfl) (fun x1_1 => ?_)
  refine r_iconst B (0 : Int32) dX11_friendships_2 (by decide) ?_
  refine r_istore_n (lv' := fun x2_3 => [(2, .int x2_3), (1, .int x1_1), (0, .ref (g.1 0))]) B dX11_friendships_3 rfl n2 (fun _ => rfl) (fun x2_3 => ?_)
  refine r_sub [2, 1, 0] rfl ?_
  refine xL_X11_friendships_4 B hE S _ ?_ 1000 x1_1 x2_3
  intro w1_4
  refine r_iload_n B 0 dX11_friendships_28 rfl rfl ?_
  refine r_iconst B (2 : Int32) dX11_friendships_29 (by decide) ?_
  refine r_idiv B dX11_friendships_30 (fun _ => ?_)
  exact r_iret B dX11_friendships_31 rfl
set_option maxRecDepth 20000 in
theorem k_X11_friendships {l : Launch} {D : va_G} {g : zGx} (hz : zin (WM g)) {S : zSt} {b : Int32} (h : F_X11_friendships S = some b) : zMet l D (WM g) (zT g) yX11_friendships wsX11_friendships rm_X11_friendships S [.ref (g.1 0)] ((eI S) b) := zmet_of (by decide +kernel) rfl hz (Nat.le_of_ble_eq_true rfl) rfl (fun E _ _ hE B => x_X11_friendships B hE S) h
abbrev rm_X11_count : Room := { frames := 2, cells := 0, slots := 0, locals := 45 }
theorem y_X11_count : yX11_count.cls = RX11 ∧ yX11_count.cls ≠ "java/lang/invoke/MethodHandle" ∧ yX11_count.cls ≠ "java/lang/invoke/VarHandle" ∧ (parseMethodDescriptor yX11_count.desc).map (fun d => d.parameters.length) = some 1 := by decide +kernel
theorem m_X11_count_f78 : Cond.fieldLink RX11 78 "LongestMetModel" "typed" "I" ∈ wsX11_count := List.mem_cons_of_mem _ (List.mem_append_left _ (List.mem_append_left _ (List.mem_of_getElem? (i := 0) rfl)))
theorem m_X11_count_inX11 : ∀ x ∈ u_ws RX11 TX11 27, x ∈ wsX11_count := fun _ h => List.mem_cons_of_mem _ (List.mem_append_right _ h)
theorem m_X11_count_f137 : Cond.fieldLink RX11 137 "LongestMetModel" "answers" "I" ∈ wsX11_count := List.mem_cons_of_mem _ (List.mem_append_left _ (List.mem_append_left _ (List.mem_of_getElem? (i := 1) rfl)))
theorem m_X11_count_f176 : Cond.fieldLink RX11 176 "LongestMetModel" "stays" "I" ∈ wsX11_count := List.mem_cons_of_mem _ (List.mem_append_left _ (List.mem_append_left _ (List.mem_of_getElem? (i := 2) rfl)))
theorem m_X11_count_f240 : Cond.fieldLink RX11 240 "LongestMetModel" "finding" "I" ∈ wsX11_count := List.mem_cons_of_mem _ (List.mem_append_left _ (List.mem_append_left _ (List.mem_of_getElem? (i := 3) rfl)))
set_option maxRecDepth 100000 in
set_option maxHeartbeats 4000000 in
theorem x_X11_count {E : zCx} {g : zGx} (B : zGood E (WM g) (zT g) cX11_count RX11 wsX11_count (some .int) rm_X11_count) (hE : E.2.2 = 2) (S : zSt) (a1 : Int32) : Xo E (WM g) (eI S) S 0 [(0, .ref (g.1 0)), (1, .int a1)] [] (F_X11_count S a1) := by
  unfold F_X11_count
  refine r_iload_n B 1 dX11_count_0 rfl rfl ?_
  refine r_swc (0 : Int32) ?_ (fun h1_0 => ?_)
  · refine r_tabIn B 52 dX11_count_1 (by decide) (by decide) rfl (by decide) ?_
    refine r_aload_n B 0 dX11_count_52 rfl rfl ?_
    refine r_iload_n B 1 dX11_count_53 rfl rfl ?_
    refine r_cI (zrunV (As := [.int a1]) (rest := []) B 1 0 (fun b hb => k_X11_many B.2.2.1 hb) gX11_count_X11_many rfl rfl rfl y_X11_many ⟨Nat.le_of_ble_eq_true rfl, Nat.le_of_ble_eq_true rfl⟩ (Nat.le_of_ble_eq_true rfl) rfl (cM_0 g _) rfl rfl rfl (Nat.le_of_ble_eq_true rfl) dX11_count_54) (fun r54 => ?_)
    exact r_iret B dX11_count_57 rfl
  refine r_swc (1 : Int32) ?_ (fun h1_1 => ?_)
  · refine r_tabIn B 52 dX11_count_1 (by decide) (by decide) rfl (by decide) ?_
    refine r_aload_n B 0 dX11_count_52 rfl rfl ?_
    refine r_iload_n B 1 dX11_count_53 rfl rfl ?_
    refine r_cI (zrunV (As := [.int a1]) (rest := []) B 1 0 (fun b hb => k_X11_many B.2.2.1 hb) gX11_count_X11_many rfl rfl rfl y_X11_many ⟨Nat.le_of_ble_eq_true rfl, Nat.le_of_ble_eq_true rfl⟩ (Nat.le_of_ble_eq_true rfl) rfl (cM_0 g _) rfl rfl rfl (Nat.le_of_ble_eq_true rfl) dX11_count_54) (fun r54 => ?_)
    exact r_iret B dX11_count_57 rfl
  refine r_swc (2 : Int32) ?_ (fun h1_2 => ?_)
  · refine r_tabIn B 58 dX11_count_1 (by decide) (by decide) rfl (by decide) ?_
    refine r_aload_n B 0 dX11_count_58 rfl rfl ?_
    refine r_get B 0 10 0 (Nat.le_of_ble_eq_true rfl) rfl (cM_0 g _) rfl m_X11_count_inX11 (Nat.le_of_ble_eq_true rfl) m_X11_count_f78 rfl dX11_count_59 ?_
    exact r_iret B dX11_count_62 rfl
  refine r_swc (3 : Int32) ?_ (fun h1_3 => ?_)
  · refine r_tabIn B 63 dX11_count_1 (by decide) (by decide) rfl (by decide) ?_
    refine r_aload_n B 0 dX11_count_63 rfl rfl ?_
    refine r_get B 0 10 8 (Nat.le_of_ble_eq_true rfl) rfl (cM_0 g _) rfl m_X11_count_inX11 (Nat.le_of_ble_eq_true rfl) m_X11_count_f137 rfl dX11_count_64 ?_
    exact r_iret B dX11_count_67 rfl
  refine r_swc (4 : Int32) ?_ (fun h1_4 => ?_)
  · refine r_tabIn B 68 dX11_count_1 (by decide) (by decide) rfl (by decide) ?_
    refine r_aload_n B 0 dX11_count_68 rfl rfl ?_
    refine r_iconst B (0 : Int32) dX11_count_69 (by decide) ?_
    refine r_cI (zrunV (As := [.int (0 : Int32)]) (rest := []) B 1 0 (fun b hb => k_X11_saidOf B.2.2.1 hb) gX11_count_X11_saidOf rfl rfl rfl y_X11_saidOf ⟨Nat.le_of_ble_eq_true rfl, Nat.le_of_ble_eq_true rfl⟩ (Nat.le_of_ble_eq_true rfl) rfl (cM_0 g _) rfl rfl rfl (Nat.le_of_ble_eq_true rfl) dX11_count_70) (fun r70 => ?_)
    exact r_iret B dX11_count_73 rfl
  refine r_swc (5 : Int32) ?_ (fun h1_5 => ?_)
  · refine r_tabIn B 74 dX11_count_1 (by decide) (by decide) rfl (by decide) ?_
    refine r_aload_n B 0 dX11_count_74 rfl rfl ?_
    refine r_get B 0 10 15 (Nat.le_of_ble_eq_true rfl) rfl (cM_0 g _) rfl m_X11_count_inX11 (Nat.le_of_ble_eq_true rfl) m_X11_count_f176 rfl dX11_count_75 ?_
    exact r_iret B dX11_count_78 rfl
  refine r_swc (6 : Int32) ?_ (fun h1_6 => ?_)
  · refine r_tabIn B 79 dX11_count_1 (by decide) (by decide) rfl (by decide) ?_
    refine r_aload_n B 0 dX11_count_79 rfl rfl ?_
    refine r_cI (zrunV (As := []) (rest := []) B 0 0 (fun b hb => k_X11_friendships B.2.2.1 hb) gX11_count_X11_friendships rfl rfl rfl y_X11_friendships ⟨Nat.le_of_ble_eq_true rfl, Nat.le_of_ble_eq_true rfl⟩ (Nat.le_of_ble_eq_true rfl) rfl (cM_0 g _) rfl rfl rfl (Nat.le_of_ble_eq_true rfl) dX11_count_80) (fun r80 => ?_)
    exact r_iret B dX11_count_83 rfl
  refine r_swc (7 : Int32) ?_ (fun h1_7 => ?_)
  · refine r_tabIn B 84 dX11_count_1 (by decide) (by decide) rfl (by decide) ?_
    refine r_aload_n B 0 dX11_count_84 rfl rfl ?_
    refine r_cI (zrunV (As := []) (rest := []) B 0 0 (fun b hb => k_X11_whole B.2.2.1 hb) gX11_count_X11_whole rfl rfl rfl y_X11_whole ⟨Nat.le_of_ble_eq_true rfl, Nat.le_of_ble_eq_true rfl⟩ (Nat.le_of_ble_eq_true rfl) rfl (cM_0 g _) rfl rfl rfl (Nat.le_of_ble_eq_true rfl) dX11_count_85) (fun r85 => ?_)
    exact r_iret B dX11_count_88 rfl
  refine r_swc (8 : Int32) ?_ (fun h1_8 => ?_)
  · refine r_tabIn B 89 dX11_count_1 (by decide) (by decide) rfl (by decide) ?_
    refine r_aload_n B 0 dX11_count_89 rfl rfl ?_
    refine r_get B 0 10 26 (Nat.le_of_ble_eq_true rfl) rfl (cM_0 g _) rfl m_X11_count_inX11 (Nat.le_of_ble_eq_true rfl) m_X11_count_f240 rfl dX11_count_90 ?_
    exact r_iret B dX11_count_93 rfl
  refine r_tabOut B 94 dX11_count_1 (by have z0 := lv_neT h1_0 (a := 0) (by decide); have z1 := lv_neT h1_1 (a := 1) (by decide); have z2 := lv_neT h1_2 (a := 2) (by decide); have z3 := lv_neT h1_3 (a := 3) (by decide); have z4 := lv_neT h1_4 (a := 4) (by decide); have z5 := lv_neT h1_5 (a := 5) (by decide); have z6 := lv_neT h1_6 (a := 6) (by decide); have z7 := lv_neT h1_7 (a := 7) (by decide); have z8 := lv_neT h1_8 (a := 8) (by decide); omega) (by decide) ?_
  refine r_bipush B (-2 : Int32) dX11_count_94 (by decide) ?_
  exact r_iret B dX11_count_96 rfl
set_option maxRecDepth 20000 in
theorem k_X11_count {l : Launch} {D : va_G} {g : zGx} (hz : zin (WM g)) {S : zSt} {a1 : Int32} {b : Int32} (h : F_X11_count S a1 = some b) : zMet l D (WM g) (zT g) yX11_count wsX11_count rm_X11_count S [.ref (g.1 0), .int a1] ((eI S) b) := zmet_of (by decide +kernel) rfl hz (Nat.le_of_ble_eq_true rfl) rfl (fun E _ _ hE B => x_X11_count B hE S a1) h
abbrev rm_X11_digest : Room := { frames := 4, cells := 0, slots := 0, locals := 99 }
theorem y_X11_digest : yX11_digest.cls = RX11 ∧ yX11_digest.cls ≠ "java/lang/invoke/MethodHandle" ∧ yX11_digest.cls ≠ "java/lang/invoke/VarHandle" ∧ (parseMethodDescriptor yX11_digest.desc).map (fun d => d.parameters.length) = some 0 := by decide +kernel
theorem m_X11_digest_c254 : Cond.constantLong RX11 254 (17) ∈ wsX11_digest := List.mem_cons_of_mem _ (List.mem_append_left _ (List.mem_append_left _ (List.mem_of_getElem? (i := 0) rfl)))
theorem m_X11_digest_c256 : Cond.constantLong RX11 256 (31) ∈ wsX11_digest := List.mem_cons_of_mem _ (List.mem_append_left _ (List.mem_append_left _ (List.mem_of_getElem? (i := 1) rfl)))
set_option maxRecDepth 100000 in
set_option maxHeartbeats 4000000 in
theorem xL_X11_digest_6 {E : zCx} {g : zGx} (B : zGood E (WM g) (zT g) cX11_digest RX11 wsX11_digest (some .long) rm_X11_digest) (hE : E.2.2 = 5) (S : zSt) (k : Int64 → Option (Int64 × zSt)) (hk : ∀ (w1 : Int64), Xo E (WM g) eLw S 31 [(0, .ref (g.1 0)), (1, .long w1)] [] (k w1)) : ∀ (n : Nat) (v1_6 : Int64) (v3_6 : Int32), Xo E (WM g) eLw S 6 [(0, .ref (g.1 0)), (1, .long v1_6), (3, .int v3_6)] [] (L_X11_digest_6 S k n v1_6 v3_6) := by
  have nn1 : 1 + 1 < E.2.2 := by rw [hE]; decide
  have n3 : 3 < E.2.2 := by rw [hE]; decide
  have n4 : 4 < E.2.2 := by rw [hE]; decide
  intro n
  induction n with
  | zero =>
    intro _ _
    exact r_none
  | succ n ih =>
    intro v1_6 v3_6
    rw [L_X11_digest_6]
    refine r_iload_n B 2 dX11_digest_6 rfl rfl ?_
    refine r_bipush B (8 : Int32) dX11_digest_7 (by decide) ?_
    refine r_icmp_ge B 31 dX11_digest_9 (by decide) (fun _ => ?_) (fun _ => ?_)
    · refine r_sub [0, 1] rfl ?_
      exact hk v1_6
    · refine r_ldc2 B (31 : Int64) m_X11_digest_c256 dX11_digest_12 ?_
      refine r_lload_n B 1 dX11_digest_15 rfl rfl ?_
      refine r_lmul B dX11_digest_16 ?_
      refine r_aload_n B 0 dX11_digest_17 rfl rfl ?_
      refine r_iload_n B 2 dX11_digest_18 rfl rfl ?_
      refine r_cI (zrunV (As := [.int v3_6]) (rest := [.long ((31 : Int64) * v1_6)]) B 1 0 (fun b hb => k_X11_count B.2.2.1 hb) gX11_digest_X11_count rfl rfl rfl y_X11_count ⟨Nat.le_of_ble_eq_true rfl, Nat.le_of_ble_eq_true rfl⟩ (Nat.le_of_ble_eq_true rfl) rfl (cM_0 g _) rfl rfl rfl (Nat.le_of_ble_eq_true rfl) dX11_digest_19) (fun r19 => ?_)
      refine r_i2l B dX11_digest_22 ?_
      refine r_ladd B dX11_digest_23 ?_
      refine r_lstore_n (lv' := fun x1_24 => [(1, .long x1_24), (0, .ref (g.1 0)), (3, .int v3_6)]) B dX11_digest_24 rfl nn1 (fun _ => rfl) (fun x1_24 => ?_)
      refine r_iinc (lv' := fun x3_25 => [(3, .int x3_25), (1, .long x1_24), (0, .ref (g.1 0))]) B 2 (1 : Int32) dX11_digest_25 rfl (by decide) n3 (fun _ => rfl) (fun x3_25 => ?_)
      refine r_goto B 6 dX11_digest_28 (by decide) ?_
      refine r_sub [2, 1, 0] rfl ?_
      exact ih x1_24 x3_25
set_option maxRecDepth 100000 in
set_option maxHeartbeats 4000000 in
theorem xL_X11_digest_53 {E : zCx} {g : zGx} (B : zGood E (WM g) (zT g) cX11_digest RX11 wsX11_digest (some .long) rm_X11_digest) (hE : E.2.2 = 5) (S37 : zSt) (v3_45 : Int32) (k : Int64 → Option (Int64 × zSt)) (hk : ∀ (w1 : Int64), Xo E (WM g) eLw S37 95 [(0, .ref (g.1 0)), (1, .long w1), (3, .int v3_45)] [] (k w1)) : ∀ (n : Nat) (v1_53 : Int64) (v4_53 : Int32), Xo E (WM g) eLw S37 53 [(0, .ref (g.1 0)), (1, .long v1_53), (3, .int v3_45), (4, .int v4_53)] [] (L_X11_digest_53 S37 v3_45 k n v1_53 v4_53) := by
  have nn1 : 1 + 1 < E.2.2 := by rw [hE]; decide
  have n3 : 3 < E.2.2 := by rw [hE]; decide
  have n4 : 4 < E.2.2 := by rw [hE]; decide
  intro n
  induction n with
  | zero =>
    intro _ _
    exact r_none
  | succ n ih =>
    intro v1_53 v4_53
    rw [L_X11_digest_53]
    refine r_iload B 3 dX11_digest_53 rfl ?_
    refine r_iconst B (3 : Int32) dX11_digest_55 (by decide) ?_
    refine r_icmp_ge B 95 dX11_digest_56 (by decide) (fun _ => ?_) (fun _ => ?_)
    · refine r_sub [0, 1, 2] rfl ?_
      exact hk v1_53
    · refine r_ldc2 B (31 : Int64) m_X11_digest_c256 dX11_digest_59 ?_
      refine r_lload_n B 1 dX11_digest_62 rfl rfl ?_
      refine r_lmul B dX11_digest_63 ?_
      refine r_aload_n B 0 dX11_digest_64 rfl rfl ?_
      refine r_iload_n B 2 dX11_digest_65 rfl rfl ?_
      refine r_iload B 3 dX11_digest_66 rfl ?_
      refine r_iconst B (0 : Int32) dX11_digest_68 (by decide) ?_
      refine r_cL (zrunV (As := [.int v3_45, .int v4_53, .int (0 : Int32)]) (rest := [.long ((31 : Int64) * v1_53)]) B 3 0 (fun b hb => k_X11_gapsNow B.2.2.1 hb) gX11_digest_X11_gapsNow rfl rfl rfl y_X11_gapsNow ⟨Nat.le_of_ble_eq_true rfl, Nat.le_of_ble_eq_true rfl⟩ (Nat.le_of_ble_eq_true rfl) rfl (cM_0 g _) rfl rfl rfl (Nat.le_of_ble_eq_true rfl) dX11_digest_69) (fun r69 => ?_)
      refine r_ladd B dX11_digest_72 ?_
      refine r_lstore_n (lv' := fun x1_73 => [(1, .long x1_73), (0, .ref (g.1 0)), (3, .int v3_45), (4, .int v4_53)]) B dX11_digest_73 rfl nn1 (fun _ => rfl) (fun x1_73 => ?_)
      refine r_ldc2 B (31 : Int64) m_X11_digest_c256 dX11_digest_74 ?_
      refine r_lload_n B 0 dX11_digest_77 rfl rfl ?_
      refine r_lmul B dX11_digest_78 ?_
      refine r_aload_n B 1 dX11_digest_79 rfl rfl ?_
      refine r_iload_n B 2 dX11_digest_80 rfl rfl ?_
      refine r_iload B 3 dX11_digest_81 rfl ?_
      refine r_iconst B (1 : Int32) dX11_digest_83 (by decide) ?_
      refine r_cL (zrunV (As := [.int v3_45, .int v4_53, .int (1 : Int32)]) (rest := [.long ((31 : Int64) * x1_73)]) B 3 0 (fun b hb => k_X11_gapsNow B.2.2.1 hb) gX11_digest_X11_gapsNow rfl rfl rfl y_X11_gapsNow ⟨Nat.le_of_ble_eq_true rfl, Nat.le_of_ble_eq_true rfl⟩ (Nat.le_of_ble_eq_true rfl) rfl (cM_0 g _) rfl rfl rfl (Nat.le_of_ble_eq_true rfl) dX11_digest_84) (fun r84 => ?_)
      refine r_ladd B dX11_digest_87 ?_
      refine r_lstore_n (lv' := fun x1_88 => [(1, .long x1_88), (0, .ref (g.1 0)), (3, .int v3_45), (4, .int v4_53)]) B dX11_digest_88 rfl nn1 (fun _ => rfl) (fun x1_88 => ?_)
      refine r_iinc (lv' := fun x4_89 => [(4, .int x4_89), (1, .long x1_88), (0, .ref (g.1 0)), (3, .int v3_45)]) B 3 (1 : Int32) dX11_digest_89 rfl (by decide) n4 (fun _ => rfl) (fun x4_89 => ?_)
      refine r_goto B 53 dX11_digest_92 (by decide) ?_
      refine r_sub [2, 1, 3, 0] rfl ?_
      exact ih x1_88 x4_89
set_option maxRecDepth 100000 in
set_option maxHeartbeats 4000000 in
theorem xL_X11_digest_45 {E : zCx} {g : zGx} (B : zGood E (WM g) (zT g) cX11_digest RX11 wsX11_digest (some .long) rm_X11_digest) (hE : E.2.2 = 5) (S37 : zSt) (k : Int64 → Option (Int64 × zSt)) (hk : ∀ (w1 : Int64), Xo E (WM g) eLw S37 101 [(0, .ref (g.1 0)), (1, .long w1)] [] (k w1)) : ∀ (n : Nat) (v1_45 : Int64) (v3_45 : Int32), Xo E (WM g) eLw S37 45 [(0, .ref (g.1 0)), (1, .long v1_45), (3, .int v3_45)] [] (L_X11_digest_45 S37 k n v1_45 v3_45) := by
  have nn1 : 1 + 1 < E.2.2 := by rw [hE]; decide
  have n3 : 3 < E.2.2 := by rw [hE]; decide
  have n4 : 4 < E.2.2 := by rw [hE]; decide
  intro n
  induction n with
  | zero =>
    intro _ _
    exact r_none
  | succ n ih =>
    intro v1_45 v3_45
    rw [L_X11_digest_45]
    refine r_iload_n B 2 dX11_digest_45 rfl rfl ?_
    refine r_iconst B (3 : Int32) dX11_digest_46 (by decide) ?_
    refine r_icmp_ge B 101 dX11_digest_47 (by decide) (fun _ => ?_) (fun _ => ?_)
    · refine r_sub [0, 1] rfl ?_
      exact hk v1_45
    · refine r_iconst B (0 : Int32) dX11_digest_50 (by decide) ?_
      refine r_istore (lv' := fun x4_51 => [(4, .int x4_51), (0, .ref (g.1 0)), (1, .long v1_45), (3, .int v3_45)]) B dX11_digest_51 n4 (fun _ => rfl) (fun x4_51 => ?_)
      refine r_sub [1, 2, 3, 0] rfl ?_
      refine xL_X11_digest_53 B hE S37 v3_45 _ ?_ 1000 v1_45 x4_51
      intro w1_53
      refine r_iinc (lv' := fun x3_95 => [(3, .int x3_95), (0, .ref (g.1 0)), (1, .long w1_53)]) B 2 (1 : Int32) dX11_digest_95 rfl (by decide) n3 (fun _ => rfl) (fun x3_95 => ?_)
      refine r_goto B 45 dX11_digest_98 (by decide) ?_
      refine r_sub [1, 2, 0] rfl ?_
      exact ih w1_53 x3_95
set_option maxRecDepth 100000 in
set_option maxHeartbeats 4000000 in
theorem xL_X11_digest_133 {E : zCx} {g : zGx} (B : zGood E (WM g) (zT g) cX11_digest RX11 wsX11_digest (some .long) rm_X11_digest) (hE : E.2.2 = 5) (S125 : zSt) (k : Int64 → Option (Int64 × zSt)) (hk : ∀ (w1 : Int64), Xo E (WM g) eLw S125 170 [(0, .ref (g.1 0)), (1, .long w1)] [] (k w1)) : ∀ (n : Nat) (v1_133 : Int64) (v3_133 : Int32), Xo E (WM g) eLw S125 133 [(0, .ref (g.1 0)), (1, .long v1_133), (3, .int v3_133)] [] (L_X11_digest_133 S125 k n v1_133 v3_133) := by
  have nn1 : 1 + 1 < E.2.2 := by rw [hE]; decide
  have n3 : 3 < E.2.2 := by rw [hE]; decide
  have n4 : 4 < E.2.2 := by rw [hE]; decide
  intro n
  induction n with
  | zero =>
    intro _ _
    exact r_none
  | succ n ih =>
    intro v1_133 v3_133
    rw [L_X11_digest_133]
    refine r_iload_n B 2 dX11_digest_133 rfl rfl ?_
    refine r_iconst B (2 : Int32) dX11_digest_134 (by decide) ?_
    refine r_icmp_ge B 170 dX11_digest_135 (by decide) (fun _ => ?_) (fun _ => ?_)
    · refine r_sub [0, 1] rfl ?_
      exact hk v1_133
    · refine r_ldc2 B (31 : Int64) m_X11_digest_c256 dX11_digest_138 ?_
      refine r_lload_n B 1 dX11_digest_141 rfl rfl ?_
      refine r_lmul B dX11_digest_142 ?_
      refine r_aload_n B 0 dX11_digest_143 rfl rfl ?_
      refine r_iload_n B 2 dX11_digest_144 rfl rfl ?_
      refine r_iconst B (0 : Int32) dX11_digest_145 (by decide) ?_
      refine r_cL (zrunV (As := [.int v3_133, .int (0 : Int32)]) (rest := [.long ((31 : Int64) * v1_133)]) B 2 0 (fun b hb => k_X11_sizeNow B.2.2.1 hb) gX11_digest_X11_sizeNow rfl rfl rfl y_X11_sizeNow ⟨Nat.le_of_ble_eq_true rfl, Nat.le_of_ble_eq_true rfl⟩ (Nat.le_of_ble_eq_true rfl) rfl (cM_0 g _) rfl rfl rfl (Nat.le_of_ble_eq_true rfl) dX11_digest_146) (fun r146 => ?_)
      refine r_ladd B dX11_digest_149 ?_
      refine r_lstore_n (lv' := fun x1_150 => [(1, .long x1_150), (0, .ref (g.1 0)), (3, .int v3_133)]) B dX11_digest_150 rfl nn1 (fun _ => rfl) (fun x1_150 => ?_)
      refine r_ldc2 B (31 : Int64) m_X11_digest_c256 dX11_digest_151 ?_
      refine r_lload_n B 0 dX11_digest_154 rfl rfl ?_
      refine r_lmul B dX11_digest_155 ?_
      refine r_aload_n B 1 dX11_digest_156 rfl rfl ?_
      refine r_iload_n B 2 dX11_digest_157 rfl rfl ?_
      refine r_iconst B (1 : Int32) dX11_digest_158 (by decide) ?_
      refine r_cL (zrunV (As := [.int v3_133, .int (1 : Int32)]) (rest := [.long ((31 : Int64) * x1_150)]) B 2 0 (fun b hb => k_X11_sizeNow B.2.2.1 hb) gX11_digest_X11_sizeNow rfl rfl rfl y_X11_sizeNow ⟨Nat.le_of_ble_eq_true rfl, Nat.le_of_ble_eq_true rfl⟩ (Nat.le_of_ble_eq_true rfl) rfl (cM_0 g _) rfl rfl rfl (Nat.le_of_ble_eq_true rfl) dX11_digest_159) (fun r159 => ?_)
      refine r_ladd B dX11_digest_162 ?_
      refine r_lstore_n (lv' := fun x1_163 => [(1, .long x1_163), (0, .ref (g.1 0)), (3, .int v3_133)]) B dX11_digest_163 rfl nn1 (fun _ => rfl) (fun x1_163 => ?_)
      refine r_iinc (lv' := fun x3_164 => [(3, .int x3_164), (1, .long x1_163), (0, .ref (g.1 0))]) B 2 (1 : Int32) dX11_digest_164 rfl (by decide) n3 (fun _ => rfl) (fun x3_164 => ?_)
      refine r_goto B 133 dX11_digest_167 (by decide) ?_
      refine r_sub [2, 1, 0] rfl ?_
      exact ih x1_163 x3_164
set_option maxRecDepth 100000 in
set_option maxHeartbeats 4000000 in
theorem xL_X11_digest_184 {E : zCx} {g : zGx} (B : zGood E (WM g) (zT g) cX11_digest RX11 wsX11_digest (some .long) rm_X11_digest) (hE : E.2.2 = 5) (S125 : zSt) (k : Int64 → Option (Int64 × zSt)) (hk : ∀ (w1 : Int64), Xo E (WM g) eLw S125 212 [(0, .ref (g.1 0)), (1, .long w1)] [] (k w1)) : ∀ (n : Nat) (v1_184 : Int64) (v3_184 : Int32), Xo E (WM g) eLw S125 184 [(0, .ref (g.1 0)), (1, .long v1_184), (3, .int v3_184)] [] (L_X11_digest_184 S125 k n v1_184 v3_184) := by
  have nn1 : 1 + 1 < E.2.2 := by rw [hE]; decide
  have n3 : 3 < E.2.2 := by rw [hE]; decide
  have n4 : 4 < E.2.2 := by rw [hE]; decide
  intro n
  induction n with
  | zero =>
    intro _ _
    exact r_none
  | succ n ih =>
    intro v1_184 v3_184
    rw [L_X11_digest_184]
    refine r_iload_n B 2 dX11_digest_184 rfl rfl ?_
    refine r_iconst B (4 : Int32) dX11_digest_185 (by decide) ?_
    refine r_icmp_ge B 212 dX11_digest_186 (by decide) (fun _ => ?_) (fun _ => ?_)
    · refine r_sub [0, 1] rfl ?_
      exact hk v1_184
    · refine r_ldc2 B (31 : Int64) m_X11_digest_c256 dX11_digest_189 ?_
      refine r_lload_n B 1 dX11_digest_192 rfl rfl ?_
      refine r_lmul B dX11_digest_193 ?_
      refine r_aload_n B 0 dX11_digest_194 rfl rfl ?_
      refine r_bipush B (10 : Int32) dX11_digest_195 (by decide) ?_
      refine r_bipush B (30 : Int32) dX11_digest_197 (by decide) ?_
      refine r_iload_n B 2 dX11_digest_199 rfl rfl ?_
      refine r_cI (zrunV (As := [.int (10 : Int32), .int (30 : Int32), .int v3_184]) (rest := [.long ((31 : Int64) * v1_184)]) B 3 0 (fun b hb => k_X11_wardNow B.2.2.1 hb) gX11_digest_X11_wardNow rfl rfl rfl y_X11_wardNow ⟨Nat.le_of_ble_eq_true rfl, Nat.le_of_ble_eq_true rfl⟩ (Nat.le_of_ble_eq_true rfl) rfl (cM_0 g _) rfl rfl rfl (Nat.le_of_ble_eq_true rfl) dX11_digest_200) (fun r200 => ?_)
      refine r_i2l B dX11_digest_203 ?_
      refine r_ladd B dX11_digest_204 ?_
      refine r_lstore_n (lv' := fun x1_205 => [(1, .long x1_205), (0, .ref (g.1 0)), (3, .int v3_184)]) B dX11_digest_205 rfl nn1 (fun _ => rfl) (fun x1_205 => ?_)
      refine r_iinc (lv' := fun x3_206 => [(3, .int x3_206), (1, .long x1_205), (0, .ref (g.1 0))]) B 2 (1 : Int32) dX11_digest_206 rfl (by decide) n3 (fun _ => rfl) (fun x3_206 => ?_)
      refine r_goto B 184 dX11_digest_209 (by decide) ?_
      refine r_sub [2, 1, 0] rfl ?_
      exact ih x1_205 x3_206
set_option maxRecDepth 100000 in
set_option maxHeartbeats 4000000 in
theorem xL_X11_digest_214 {E : zCx} {g : zGx} (B : zGood E (WM g) (zT g) cX11_digest RX11 wsX11_digest (some .long) rm_X11_digest) (hE : E.2.2 = 5) (S125 : zSt) (k : Int64 → Option (Int64 × zSt)) (hk : ∀ (w1 : Int64), Xo E (WM g) eLw S125 260 [(0, .ref (g.1 0)), (1, .long w1)] [] (k w1)) : ∀ (n : Nat) (v1_214 : Int64) (v3_214 : Int32), Xo E (WM g) eLw S125 214 [(0, .ref (g.1 0)), (1, .long v1_214), (3, .int v3_214)] [] (L_X11_digest_214 S125 k n v1_214 v3_214) := by
  have nn1 : 1 + 1 < E.2.2 := by rw [hE]; decide
  have n3 : 3 < E.2.2 := by rw [hE]; decide
  have n4 : 4 < E.2.2 := by rw [hE]; decide
  intro n
  induction n with
  | zero =>
    intro _ _
    exact r_none
  | succ n ih =>
    intro v1_214 v3_214
    rw [L_X11_digest_214]
    refine r_iload_n B 2 dX11_digest_214 rfl rfl ?_
    refine r_bipush B (6 : Int32) dX11_digest_215 (by decide) ?_
    refine r_icmp_ge B 260 dX11_digest_217 (by decide) (fun _ => ?_) (fun _ => ?_)
    · refine r_sub [0, 1] rfl ?_
      exact hk v1_214
    · refine r_ldc2 B (31 : Int64) m_X11_digest_c256 dX11_digest_220 ?_
      refine r_lload_n B 1 dX11_digest_223 rfl rfl ?_
      refine r_lmul B dX11_digest_224 ?_
      refine r_aload_n B 0 dX11_digest_225 rfl rfl ?_
      refine r_bipush B (10 : Int32) dX11_digest_226 (by decide) ?_
      refine r_bipush B (30 : Int32) dX11_digest_228 (by decide) ?_
      refine r_iload_n B 2 dX11_digest_230 rfl rfl ?_
      refine r_iconst B (0 : Int32) dX11_digest_231 (by decide) ?_
      refine r_cL (zrunV (As := [.int (10 : Int32), .int (30 : Int32), .int v3_214, .int (0 : Int32)]) (rest := [.long ((31 : Int64) * v1_214)]) B 4 0 (fun b hb => k_X11_meansNow B.2.2.1 hb) gX11_digest_X11_meansNow rfl rfl rfl y_X11_meansNow ⟨Nat.le_of_ble_eq_true rfl, Nat.le_of_ble_eq_true rfl⟩ (Nat.le_of_ble_eq_true rfl) rfl (cM_0 g _) rfl rfl rfl (Nat.le_of_ble_eq_true rfl) dX11_digest_232) (fun r232 => ?_)
      refine r_ladd B dX11_digest_235 ?_
      refine r_lstore_n (lv' := fun x1_236 => [(1, .long x1_236), (0, .ref (g.1 0)), (3, .int v3_214)]) B dX11_digest_236 rfl nn1 (fun _ => rfl) (fun x1_236 => ?_)
      refine r_ldc2 B (31 : Int64) m_X11_digest_c256 dX11_digest_237 ?_
      refine r_lload_n B 0 dX11_digest_240 rfl rfl ?_
      refine r_lmul B dX11_digest_241 ?_
      refine r_aload_n B 1 dX11_digest_242 rfl rfl ?_
      refine r_bipush B (10 : Int32) dX11_digest_243 (by decide) ?_
      refine r_bipush B (30 : Int32) dX11_digest_245 (by decide) ?_
      refine r_iload_n B 2 dX11_digest_247 rfl rfl ?_
      refine r_iconst B (1 : Int32) dX11_digest_248 (by decide) ?_
      refine r_cL (zrunV (As := [.int (10 : Int32), .int (30 : Int32), .int v3_214, .int (1 : Int32)]) (rest := [.long ((31 : Int64) * x1_236)]) B 4 0 (fun b hb => k_X11_meansNow B.2.2.1 hb) gX11_digest_X11_meansNow rfl rfl rfl y_X11_meansNow ⟨Nat.le_of_ble_eq_true rfl, Nat.le_of_ble_eq_true rfl⟩ (Nat.le_of_ble_eq_true rfl) rfl (cM_0 g _) rfl rfl rfl (Nat.le_of_ble_eq_true rfl) dX11_digest_249) (fun r249 => ?_)
      refine r_ladd B dX11_digest_252 ?_
      refine r_lstore_n (lv' := fun x1_253 => [(1, .long x1_253), (0, .ref (g.1 0)), (3, .int v3_214)]) B dX11_digest_253 rfl nn1 (fun _ => rfl) (fun x1_253 => ?_)
      refine r_iinc (lv' := fun x3_254 => [(3, .int x3_254), (1, .long x1_253), (0, .ref (g.1 0))]) B 2 (1 : Int32) dX11_digest_254 rfl (by decide) n3 (fun _ => rfl) (fun x3_254 => ?_)
      refine r_goto B 214 dX11_digest_257 (by decide) ?_
      refine r_sub [2, 1, 0] rfl ?_
      exact ih x1_253 x3_254
set_option maxRecDepth 100000 in
set_option maxHeartbeats 4000000 in
theorem xL_X11_digest_262 {E : zCx} {g : zGx} (B : zGood E (WM g) (zT g) cX11_digest RX11 wsX11_digest (some .long) rm_X11_digest) (hE : E.2.2 = 5) (S125 : zSt) (k : Int64 → Option (Int64 × zSt)) (hk : ∀ (w1 : Int64), Xo E (WM g) eLw S125 286 [(0, .ref (g.1 0)), (1, .long w1)] [] (k w1)) : ∀ (n : Nat) (v1_262 : Int64) (v3_262 : Int32), Xo E (WM g) eLw S125 262 [(0, .ref (g.1 0)), (1, .long v1_262), (3, .int v3_262)] [] (L_X11_digest_262 S125 k n v1_262 v3_262) := by
  have nn1 : 1 + 1 < E.2.2 := by rw [hE]; decide
  have n3 : 3 < E.2.2 := by rw [hE]; decide
  have n4 : 4 < E.2.2 := by rw [hE]; decide
  intro n
  induction n with
  | zero =>
    intro _ _
    exact r_none
  | succ n ih =>
    intro v1_262 v3_262
    rw [L_X11_digest_262]
    refine r_iload_n B 2 dX11_digest_262 rfl rfl ?_
    refine r_iconst B (3 : Int32) dX11_digest_263 (by decide) ?_
    refine r_icmp_ge B 286 dX11_digest_264 (by decide) (fun _ => ?_) (fun _ => ?_)
    · refine r_sub [0, 1] rfl ?_
      exact hk v1_262
    · refine r_ldc2 B (31 : Int64) m_X11_digest_c256 dX11_digest_267 ?_
      refine r_lload_n B 1 dX11_digest_270 rfl rfl ?_
      refine r_lmul B dX11_digest_271 ?_
      refine r_aload_n B 0 dX11_digest_272 rfl rfl ?_
      refine r_iload_n B 2 dX11_digest_273 rfl rfl ?_
      refine r_cI (zrunV (As := [.int v3_262]) (rest := [.long ((31 : Int64) * v1_262)]) B 1 0 (fun b hb => k_X11_fullestNow B.2.2.1 hb) gX11_digest_X11_fullestNow rfl rfl rfl y_X11_fullestNow ⟨Nat.le_of_ble_eq_true rfl, Nat.le_of_ble_eq_true rfl⟩ (Nat.le_of_ble_eq_true rfl) rfl (cM_0 g _) rfl rfl rfl (Nat.le_of_ble_eq_true rfl) dX11_digest_274) (fun r274 => ?_)
      refine r_i2l B dX11_digest_277 ?_
      refine r_ladd B dX11_digest_278 ?_
      refine r_lstore_n (lv' := fun x1_279 => [(1, .long x1_279), (0, .ref (g.1 0)), (3, .int v3_262)]) B dX11_digest_279 rfl nn1 (fun _ => rfl) (fun x1_279 => ?_)
      refine r_iinc (lv' := fun x3_280 => [(3, .int x3_280), (1, .long x1_279), (0, .ref (g.1 0))]) B 2 (1 : Int32) dX11_digest_280 rfl (by decide) n3 (fun _ => rfl) (fun x3_280 => ?_)
      refine r_goto B 262 dX11_digest_283 (by decide) ?_
      refine r_sub [2, 1, 0] rfl ?_
      exact ih x1_279 x3_280
set_option maxRecDepth 100000 in
set_option maxHeartbeats 4000000 in
theorem xL_X11_digest_288 {E : zCx} {g : zGx} (B : zGood E (WM g) (zT g) cX11_digest RX11 wsX11_digest (some .long) rm_X11_digest) (hE : E.2.2 = 5) (S125 : zSt) (k : Int64 → Option (Int64 × zSt)) (hk : ∀ (w1 : Int64), Xo E (WM g) eLw S125 325 [(0, .ref (g.1 0)), (1, .long w1)] [] (k w1)) : ∀ (n : Nat) (v1_288 : Int64) (v3_288 : Int32), Xo E (WM g) eLw S125 288 [(0, .ref (g.1 0)), (1, .long v1_288), (3, .int v3_288)] [] (L_X11_digest_288 S125 k n v1_288 v3_288) := by
  have nn1 : 1 + 1 < E.2.2 := by rw [hE]; decide
  have n3 : 3 < E.2.2 := by rw [hE]; decide
  have n4 : 4 < E.2.2 := by rw [hE]; decide
  intro n
  induction n with
  | zero =>
    intro _ _
    exact r_none
  | succ n ih =>
    intro v1_288 v3_288
    rw [L_X11_digest_288]
    refine r_iload_n B 2 dX11_digest_288 rfl rfl ?_
    refine r_iconst B (3 : Int32) dX11_digest_289 (by decide) ?_
    refine r_icmp_ge B 325 dX11_digest_290 (by decide) (fun _ => ?_) (fun _ => ?_)
    · refine r_sub [0, 1] rfl ?_
      exact hk v1_288
    · refine r_ldc2 B (31 : Int64) m_X11_digest_c256 dX11_digest_293 ?_
      refine r_lload_n B 1 dX11_digest_296 rfl rfl ?_
      refine r_lmul B dX11_digest_297 ?_
      refine r_aload_n B 0 dX11_digest_298 rfl rfl ?_
      refine r_iload_n B 2 dX11_digest_299 rfl rfl ?_
      refine r_iconst B (0 : Int32) dX11_digest_300 (by decide) ?_
      refine r_cL (zrunV (As := [.int v3_288, .int (0 : Int32)]) (rest := [.long ((31 : Int64) * v1_288)]) B 2 0 (fun b hb => k_X11_meanNow B.2.2.1 hb) gX11_digest_X11_meanNow rfl rfl rfl y_X11_meanNow ⟨Nat.le_of_ble_eq_true rfl, Nat.le_of_ble_eq_true rfl⟩ (Nat.le_of_ble_eq_true rfl) rfl (cM_0 g _) rfl rfl rfl (Nat.le_of_ble_eq_true rfl) dX11_digest_301) (fun r301 => ?_)
      refine r_ladd B dX11_digest_304 ?_
      refine r_lstore_n (lv' := fun x1_305 => [(1, .long x1_305), (0, .ref (g.1 0)), (3, .int v3_288)]) B dX11_digest_305 rfl nn1 (fun _ => rfl) (fun x1_305 => ?_)
      refine r_ldc2 B (31 : Int64) m_X11_digest_c256 dX11_digest_306 ?_
      refine r_lload_n B 0 dX11_digest_309 rfl rfl ?_
      refine r_lmul B dX11_digest_310 ?_
      refine r_aload_n B 1 dX11_digest_311 rfl rfl ?_
      refine r_iload_n B 2 dX11_digest_312 rfl rfl ?_
      refine r_iconst B (1 : Int32) dX11_digest_313 (by decide) ?_
      refine r_cL (zrunV (As := [.int v3_288, .int (1 : Int32)]) (rest := [.long ((31 : Int64) * x1_305)]) B 2 0 (fun b hb => k_X11_meanNow B.2.2.1 hb) gX11_digest_X11_meanNow rfl rfl rfl y_X11_meanNow ⟨Nat.le_of_ble_eq_true rfl, Nat.le_of_ble_eq_true rfl⟩ (Nat.le_of_ble_eq_true rfl) rfl (cM_0 g _) rfl rfl rfl (Nat.le_of_ble_eq_true rfl) dX11_digest_314) (fun r314 => ?_)
      refine r_ladd B dX11_digest_317 ?_
      refine r_lstore_n (lv' := fun x1_318 => [(1, .long x1_318), (0, .ref (g.1 0)), (3, .int v3_288)]) B dX11_digest_318 rfl nn1 (fun _ => rfl) (fun x1_318 => ?_)
      refine r_iinc (lv' := fun x3_319 => [(3, .int x3_319), (1, .long x1_318), (0, .ref (g.1 0))]) B 2 (1 : Int32) dX11_digest_319 rfl (by decide) n3 (fun _ => rfl) (fun x3_319 => ?_)
      refine r_goto B 288 dX11_digest_322 (by decide) ?_
      refine r_sub [2, 1, 0] rfl ?_
      exact ih x1_318 x3_319
set_option maxRecDepth 100000 in
set_option maxHeartbeats 4000000 in
theorem xL_X11_digest_353 {E : zCx} {g : zGx} (B : zGood E (WM g) (zT g) cX11_digest RX11 wsX11_digest (some .long) rm_X11_digest) (hE : E.2.2 = 5) (S125 : zSt) (k : Int64 → Option (Int64 × zSt)) (hk : ∀ (w1 : Int64), Xo E (WM g) eLw S125 392 [(1, .long w1)] [] (k w1)) : ∀ (n : Nat) (v1_353 : Int64) (v3_353 : Int32), Xo E (WM g) eLw S125 353 [(0, .ref (g.1 0)), (1, .long v1_353), (3, .int v3_353)] [] (L_X11_digest_353 S125 k n v1_353 v3_353) := by
  have nn1 : 1 + 1 < E.2.2 := by rw [hE]; decide
  have n3 : 3 < E.2.2 := by rw [hE]; decide
  have n4 : 4 < E.2.2 := by rw [hE]; decide
  intro n
  induction n with
  | zero =>
    intro _ _
    exact r_none
  | succ n ih =>
    intro v1_353 v3_353
    rw [L_X11_digest_353]
    refine r_iload_n B 2 dX11_digest_353 rfl rfl ?_
    refine r_iconst B (3 : Int32) dX11_digest_354 (by decide) ?_
    refine r_icmp_ge B 392 dX11_digest_355 (by decide) (fun _ => ?_) (fun _ => ?_)
    · refine r_sub [1] rfl ?_
      exact hk v1_353
    · refine r_ldc2 B (31 : Int64) m_X11_digest_c256 dX11_digest_358 ?_
      refine r_lload_n B 1 dX11_digest_361 rfl rfl ?_
      refine r_lmul B dX11_digest_362 ?_
      refine r_aload_n B 0 dX11_digest_363 rfl rfl ?_
      refine r_iload_n B 2 dX11_digest_364 rfl rfl ?_
      refine r_iconst B (1 : Int32) dX11_digest_365 (by decide) ?_
      refine r_iconst B (0 : Int32) dX11_digest_366 (by decide) ?_
      refine r_cL (zrunV (As := [.int v3_353, .int (1 : Int32), .int (0 : Int32)]) (rest := [.long ((31 : Int64) * v1_353)]) B 3 0 (fun b hb => k_X11_stickNow B.2.2.1 hb) gX11_digest_X11_stickNow rfl rfl rfl y_X11_stickNow ⟨Nat.le_of_ble_eq_true rfl, Nat.le_of_ble_eq_true rfl⟩ (Nat.le_of_ble_eq_true rfl) rfl (cM_0 g _) rfl rfl rfl (Nat.le_of_ble_eq_true rfl) dX11_digest_367) (fun r367 => ?_)
      refine r_ladd B dX11_digest_370 ?_
      refine r_lstore_n (lv' := fun x1_371 => [(1, .long x1_371), (0, .ref (g.1 0)), (3, .int v3_353)]) B dX11_digest_371 rfl nn1 (fun _ => rfl) (fun x1_371 => ?_)
      refine r_ldc2 B (31 : Int64) m_X11_digest_c256 dX11_digest_372 ?_
      refine r_lload_n B 0 dX11_digest_375 rfl rfl ?_
      refine r_lmul B dX11_digest_376 ?_
      refine r_aload_n B 1 dX11_digest_377 rfl rfl ?_
      refine r_iload_n B 2 dX11_digest_378 rfl rfl ?_
      refine r_iconst B (1 : Int32) dX11_digest_379 (by decide) ?_
      refine r_iconst B (1 : Int32) dX11_digest_380 (by decide) ?_
      refine r_cL (zrunV (As := [.int v3_353, .int (1 : Int32), .int (1 : Int32)]) (rest := [.long ((31 : Int64) * x1_371)]) B 3 0 (fun b hb => k_X11_stickNow B.2.2.1 hb) gX11_digest_X11_stickNow rfl rfl rfl y_X11_stickNow ⟨Nat.le_of_ble_eq_true rfl, Nat.le_of_ble_eq_true rfl⟩ (Nat.le_of_ble_eq_true rfl) rfl (cM_0 g _) rfl rfl rfl (Nat.le_of_ble_eq_true rfl) dX11_digest_381) (fun r381 => ?_)
      refine r_ladd B dX11_digest_384 ?_
      refine r_lstore_n (lv' := fun x1_385 => [(1, .long x1_385), (0, .ref (g.1 0)), (3, .int v3_353)]) B dX11_digest_385 rfl nn1 (fun _ => rfl) (fun x1_385 => ?_)
      refine r_iinc (lv' := fun x3_386 => [(3, .int x3_386), (1, .long x1_385), (0, .ref (g.1 0))]) B 2 (1 : Int32) dX11_digest_386 rfl (by decide) n3 (fun _ => rfl) (fun x3_386 => ?_)
      refine r_goto B 353 dX11_digest_389 (by decide) ?_
      refine r_sub [2, 1, 0] rfl ?_
      exact ih x1_385 x3_386
set_option maxRecDepth 100000 in
set_option maxHeartbeats 4000000 in
theorem x_X11_digest {E : zCx} {g : zGx} (B : zGood E (WM g) (zT g) cX11_digest RX11 wsX11_digest (some .long) rm_X11_digest) (hE : E.2.2 = 5) (S : zSt) : Xo E (WM g) eLw S 0 [(0, .ref (g.1 0))] [] (F_X11_digest S) := by
  have nn1 : 1 + 1 < E.2.2 := by rw [hE]; decide
  have n3 : 3 < E.2.2 := by rw [hE]; decide
  have n4 : 4 < E.2.2 := by rw [hE]; decide
  unfold F_X11_digest
  refine r_ldc2 B (17 : Int64) m_X11_digest_c254 dX11_digest_0 ?_
  refine r_lstore_n (lv' := fun x1_3 => [(1, .long x1_3), (0, .ref (g.1 0))]) B dX11_digest_3 rfl nn1 (fun _ => rfl) (fun x1_3 => ?_)
  refine r_iconst B (0 : Int32) dX11_digest_4 (by decide) ?_
  refine r_istore_n (lv' := fun x3_5 => [(3, .int x3_5), (1, .long x1_3), (0, .ref (g.1 0))]) B dX11_digest_5 rfl n3 (fun _ => rfl) (fun x3_5 => ?_)
  refine r_sub [2, 1, 0] rfl ?_
  refine xL_X11_digest_6 B hE S _ ?_ 1000 x1_3 x3_5
  intro w1_6
  refine r_ldc2 B (31 : Int64) m_X11_digest_c256 dX11_digest_31 ?_
  refine r_lload_n B 1 dX11_digest_34 rfl rfl ?_
  refine r_lmul B dX11_digest_35 ?_
  refine r_aload_n B 0 dX11_digest_36 rfl rfl ?_
  refine r_cIw (zrunV (As := []) (rest := [.long ((31 : Int64) * w1_6)]) B 0 0 (fun b hb => k_X11_faultNow B.2.2.1 hb) gX11_digest_X11_faultNow rfl rfl rfl y_X11_faultNow ⟨Nat.le_of_ble_eq_true rfl, Nat.le_of_ble_eq_true rfl⟩ (Nat.le_of_ble_eq_true rfl) rfl (cM_0 g _) rfl rfl rfl (Nat.le_of_ble_eq_true rfl) dX11_digest_37) (fun r37 S37 => ?_)
  refine r_i2l B dX11_digest_40 ?_
  refine r_ladd B dX11_digest_41 ?_
  refine r_lstore_n (lv' := fun x1_42 => [(1, .long x1_42), (0, .ref (g.1 0))]) B dX11_digest_42 rfl nn1 (fun _ => rfl) (fun x1_42 => ?_)
  refine r_iconst B (0 : Int32) dX11_digest_43 (by decide) ?_
  refine r_istore_n (lv' := fun x3_44 => [(3, .int x3_44), (1, .long x1_42), (0, .ref (g.1 0))]) B dX11_digest_44 rfl n3 (fun _ => rfl) (fun x3_44 => ?_)
  refine r_sub [2, 1, 0] rfl ?_
  refine xL_X11_digest_45 B hE S37 _ ?_ 1000 x1_42 x3_44
  intro w1_45
  refine r_ldc2 B (31 : Int64) m_X11_digest_c256 dX11_digest_101 ?_
  refine r_lload_n B 1 dX11_digest_104 rfl rfl ?_
  refine r_lmul B dX11_digest_105 ?_
  refine r_aload_n B 0 dX11_digest_106 rfl rfl ?_
  refine r_iconst B (0 : Int32) dX11_digest_107 (by decide) ?_
  refine r_iconst B (2 : Int32) dX11_digest_108 (by decide) ?_
  refine r_iconst B (-1 : Int32) dX11_digest_109 (by decide) ?_
  refine r_cIw (zrunV (As := [.int (0 : Int32), .int (2 : Int32), .int (-1 : Int32)]) (rest := [.long ((31 : Int64) * w1_45)]) B 3 0 (fun b hb => k_X11_heldNow B.2.2.1 hb) gX11_digest_X11_heldNow rfl rfl rfl y_X11_heldNow ⟨Nat.le_of_ble_eq_true rfl, Nat.le_of_ble_eq_true rfl⟩ (Nat.le_of_ble_eq_true rfl) rfl (cM_0 g _) rfl rfl rfl (Nat.le_of_ble_eq_true rfl) dX11_digest_110) (fun r110 S110 => ?_)
  refine r_i2l B dX11_digest_113 ?_
  refine r_ladd B dX11_digest_114 ?_
  refine r_lstore_n (lv' := fun x1_115 => [(1, .long x1_115), (0, .ref (g.1 0))]) B dX11_digest_115 rfl nn1 (fun _ => rfl) (fun x1_115 => ?_)
  refine r_ldc2 B (31 : Int64) m_X11_digest_c256 dX11_digest_116 ?_
  refine r_lload_n B 0 dX11_digest_119 rfl rfl ?_
  refine r_lmul B dX11_digest_120 ?_
  refine r_aload_n B 1 dX11_digest_121 rfl rfl ?_
  refine r_iconst B (1 : Int32) dX11_digest_122 (by decide) ?_
  refine r_iconst B (2 : Int32) dX11_digest_123 (by decide) ?_
  refine r_iconst B (-1 : Int32) dX11_digest_124 (by decide) ?_
  refine r_cIw (zrunV (As := [.int (1 : Int32), .int (2 : Int32), .int (-1 : Int32)]) (rest := [.long ((31 : Int64) * x1_115)]) B 3 0 (fun b hb => k_X11_heldNow B.2.2.1 hb) gX11_digest_X11_heldNow rfl rfl rfl y_X11_heldNow ⟨Nat.le_of_ble_eq_true rfl, Nat.le_of_ble_eq_true rfl⟩ (Nat.le_of_ble_eq_true rfl) rfl (cM_0 g _) rfl rfl rfl (Nat.le_of_ble_eq_true rfl) dX11_digest_125) (fun r125 S125 => ?_)
  refine r_i2l B dX11_digest_128 ?_
  refine r_ladd B dX11_digest_129 ?_
  refine r_lstore_n (lv' := fun x1_130 => [(1, .long x1_130), (0, .ref (g.1 0))]) B dX11_digest_130 rfl nn1 (fun _ => rfl) (fun x1_130 => ?_)
  refine r_iconst B (0 : Int32) dX11_digest_131 (by decide) ?_
  refine r_istore_n (lv' := fun x3_132 => [(3, .int x3_132), (1, .long x1_130), (0, .ref (g.1 0))]) B dX11_digest_132 rfl n3 (fun _ => rfl) (fun x3_132 => ?_)
  refine r_sub [2, 1, 0] rfl ?_
  refine xL_X11_digest_133 B hE S125 _ ?_ 1000 x1_130 x3_132
  intro w1_133
  refine r_ldc2 B (31 : Int64) m_X11_digest_c256 dX11_digest_170 ?_
  refine r_lload_n B 1 dX11_digest_173 rfl rfl ?_
  refine r_lmul B dX11_digest_174 ?_
  refine r_aload_n B 0 dX11_digest_175 rfl rfl ?_
  refine r_cI (zrunV (As := []) (rest := [.long ((31 : Int64) * w1_133)]) B 0 0 (fun b hb => k_X11_likeliestNow B.2.2.1 hb) gX11_digest_X11_likeliestNow rfl rfl rfl y_X11_likeliestNow ⟨Nat.le_of_ble_eq_true rfl, Nat.le_of_ble_eq_true rfl⟩ (Nat.le_of_ble_eq_true rfl) rfl (cM_0 g _) rfl rfl rfl (Nat.le_of_ble_eq_true rfl) dX11_digest_176) (fun r176 => ?_)
  refine r_i2l B dX11_digest_179 ?_
  refine r_ladd B dX11_digest_180 ?_
  refine r_lstore_n (lv' := fun x1_181 => [(1, .long x1_181), (0, .ref (g.1 0))]) B dX11_digest_181 rfl nn1 (fun _ => rfl) (fun x1_181 => ?_)
  refine r_iconst B (0 : Int32) dX11_digest_182 (by decide) ?_
  refine r_istore_n (lv' := fun x3_183 => [(3, .int x3_183), (1, .long x1_181), (0, .ref (g.1 0))]) B dX11_digest_183 rfl n3 (fun _ => rfl) (fun x3_183 => ?_)
  refine r_sub [2, 1, 0] rfl ?_
  refine xL_X11_digest_184 B hE S125 _ ?_ 1000 x1_181 x3_183
  intro w1_184
  refine r_iconst B (0 : Int32) dX11_digest_212 (by decide) ?_
  refine r_istore_n (lv' := fun x3_213 => [(3, .int x3_213), (0, .ref (g.1 0)), (1, .long w1_184)]) B dX11_digest_213 rfl n3 (fun _ => rfl) (fun x3_213 => ?_)
  refine r_sub [1, 2, 0] rfl ?_
  refine xL_X11_digest_214 B hE S125 _ ?_ 1000 w1_184 x3_213
  intro w1_214
  refine r_iconst B (0 : Int32) dX11_digest_260 (by decide) ?_
  refine r_istore_n (lv' := fun x3_261 => [(3, .int x3_261), (0, .ref (g.1 0)), (1, .long w1_214)]) B dX11_digest_261 rfl n3 (fun _ => rfl) (fun x3_261 => ?_)
  refine r_sub [1, 2, 0] rfl ?_
  refine xL_X11_digest_262 B hE S125 _ ?_ 1000 w1_214 x3_261
  intro w1_262
  refine r_iconst B (0 : Int32) dX11_digest_286 (by decide) ?_
  refine r_istore_n (lv' := fun x3_287 => [(3, .int x3_287), (0, .ref (g.1 0)), (1, .long w1_262)]) B dX11_digest_287 rfl n3 (fun _ => rfl) (fun x3_287 => ?_)
  refine r_sub [1, 2, 0] rfl ?_
  refine xL_X11_digest_288 B hE S125 _ ?_ 1000 w1_262 x3_287
  intro w1_288
  refine r_ldc2 B (31 : Int64) m_X11_digest_c256 dX11_digest_325 ?_
  refine r_lload_n B 1 dX11_digest_328 rfl rfl ?_
  refine r_lmul B dX11_digest_329 ?_
  refine r_aload_n B 0 dX11_digest_330 rfl rfl ?_
  refine r_cI (zrunV (As := []) (rest := [.long ((31 : Int64) * w1_288)]) B 0 0 (fun b hb => k_X11_fewerNow B.2.2.1 hb) gX11_digest_X11_fewerNow rfl rfl rfl y_X11_fewerNow ⟨Nat.le_of_ble_eq_true rfl, Nat.le_of_ble_eq_true rfl⟩ (Nat.le_of_ble_eq_true rfl) rfl (cM_0 g _) rfl rfl rfl (Nat.le_of_ble_eq_true rfl) dX11_digest_331) (fun r331 => ?_)
  refine r_i2l B dX11_digest_334 ?_
  refine r_ladd B dX11_digest_335 ?_
  refine r_lstore_n (lv' := fun x1_336 => [(1, .long x1_336), (0, .ref (g.1 0))]) B dX11_digest_336 rfl nn1 (fun _ => rfl) (fun x1_336 => ?_)
  refine r_ldc2 B (31 : Int64) m_X11_digest_c256 dX11_digest_337 ?_
  refine r_lload_n B 0 dX11_digest_340 rfl rfl ?_
  refine r_lmul B dX11_digest_341 ?_
  refine r_aload_n B 1 dX11_digest_342 rfl rfl ?_
  refine r_iconst B (2 : Int32) dX11_digest_343 (by decide) ?_
  refine r_iconst B (0 : Int32) dX11_digest_344 (by decide) ?_
  refine r_cI (zrunV (As := [.int (2 : Int32), .int (0 : Int32)]) (rest := [.long ((31 : Int64) * x1_336)]) B 2 0 (fun b hb => k_X11_bestNow B.2.2.1 hb) gX11_digest_X11_bestNow rfl rfl rfl y_X11_bestNow ⟨Nat.le_of_ble_eq_true rfl, Nat.le_of_ble_eq_true rfl⟩ (Nat.le_of_ble_eq_true rfl) rfl (cM_0 g _) rfl rfl rfl (Nat.le_of_ble_eq_true rfl) dX11_digest_345) (fun r345 => ?_)
  refine r_i2l B dX11_digest_348 ?_
  refine r_ladd B dX11_digest_349 ?_
  refine r_lstore_n (lv' := fun x1_350 => [(1, .long x1_350), (0, .ref (g.1 0))]) B dX11_digest_350 rfl nn1 (fun _ => rfl) (fun x1_350 => ?_)
  refine r_iconst B (0 : Int32) dX11_digest_351 (by decide) ?_
  refine r_istore_n (lv' := fun x3_352 => [(3, .int x3_352), (1, .long x1_350), (0, .ref (g.1 0))]) B dX11_digest_352 rfl n3 (fun _ => rfl) (fun x3_352 => ?_)
  refine r_sub [2, 1, 0] rfl ?_
  refine xL_X11_digest_353 B hE S125 _ ?_ 1000 x1_350 x3_352
  intro w1_353
  refine r_lload_n B 0 dX11_digest_392 rfl rfl ?_
  exact r_lret B dX11_digest_393 rfl
set_option maxRecDepth 20000 in
theorem k_X11_digest {l : Launch} {D : va_G} {g : zGx} (hz : zin (WM g)) {S : zSt} {b : (Int64 × zSt)} (h : F_X11_digest S = some b) : zMet l D (WM g) (zT g) yX11_digest wsX11_digest rm_X11_digest S [.ref (g.1 0)] (eLw b) := zmet_of (by decide +kernel) rfl hz (Nat.le_of_ble_eq_true rfl) rfl (fun E _ _ hE B => x_X11_digest B hE S) h
