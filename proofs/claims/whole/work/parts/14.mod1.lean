set_option maxRecDepth 100000 in
def F_X11_in (a0 : Int32) (a1 : Int32) (a2 : Int32) : Option Int32 :=
 if a0 < a1 then (some (0 : Int32)) else
 (if a2 < a0 then (some (0 : Int32)) else
 (some (1 : Int32)))
set_option maxRecDepth 100000 in
def F_X11_has (a0 : Int32) (a1 : Int32) : Option Int32 :=
 if ((a0 >>> (a1 &&& 31)) &&& (1 : Int32)) = (1 : Int32) then (some (1 : Int32)) else
 (some (0 : Int32))
set_option maxRecDepth 100000 in
def L_X11_ones_4 (a0 : Int32) (k : Int32 → Option Int32) : Nat → Int32 → Int32 → Option Int32
  | 0, _, _ => none
  | n + 1, v1_4, v2_4 =>
    (if (8 : Int32) ≤ v2_4 then (k v1_4) else
 (lt (v1_4 + ((a0 >>> (v2_4 &&& 31)) &&& (1 : Int32))) (fun x1_17 : Int32 =>
 lt (v2_4 + (1 : Int32)) (fun x2_18 : Int32 =>
 L_X11_ones_4 a0 k n x1_17 x2_18))))
set_option maxRecDepth 100000 in
def F_X11_ones (a0 : Int32) : Option Int32 :=
 lt (0 : Int32) (fun x1_1 : Int32 =>
 lt (0 : Int32) (fun x2_3 : Int32 =>
 L_X11_ones_4 a0 (fun (w1_4 : Int32) =>
 some w1_4) 1000 x1_1 x2_3))
set_option maxRecDepth 100000 in
def F_X11_no (a0 : Int32) : Option Int64 :=
 some ((-9223372036854775808 : Int64) - (a0.toInt64))
set_option maxRecDepth 100000 in
def L_X11_lowest_6 (a0 : Int64) (a2 : Int64) (a4 : Int32) (k : Int64 → Option Int64) : Nat → Int64 → Int64 → Option Int64
  | 0, _, _ => none
  | n + 1, v5_6, v7_6 =>
    (if (lg_cmp v7_6 (0 : Int64)) = 0 then (k v5_6) else
 (nzl v7_6 (lt (v5_6 - v5_6 / v7_6 * v7_6) (fun x9_18 : Int64 =>
 lt v7_6 (fun x5_22 : Int64 =>
 lt x9_18 (fun x7_26 : Int64 =>
 L_X11_lowest_6 a0 a2 a4 k n x5_22 x7_26))))))
set_option maxRecDepth 100000 in
def F_X11_lowest (a0 : Int64) (a2 : Int64) (a4 : Int32) : Option Int64 :=
 lt a0 (fun x5_1 : Int64 =>
 lt a2 (fun x7_4 : Int64 =>
 L_X11_lowest_6 a0 a2 a4 (fun (w5_6 : Int64) =>
 if a4 = 0 then (nzl w5_6 (some (a0 / w5_6))) else
 (nzl w5_6 (some (a2 / w5_6)))) 1000 x5_1 x7_4))
set_option maxRecDepth 100000 in
def L_X11_way_17  : Nat → Int64 → Int64 → Int64 → Int64 → Int32 → Option Int32
  | 0, _, _, _, _, _ => none
  | n + 1, v8_17, v10_17, v12_17, v14_17, v16_17 =>
    (nzl v10_17 (lt (v8_17 / v10_17) (fun x17_22 : Int64 =>
 nzl v14_17 (lt (v12_17 / v14_17) (fun x19_29 : Int64 =>
 if (lg_cmp x17_22 x19_29) = 0 then (lt (v8_17 - (x17_22 * v10_17)) (fun x8_64 : Int64 =>
 lt (v12_17 - (x19_29 * v14_17)) (fun x12_74 : Int64 =>
 jn (if (lg_cmp x8_64 x12_74) = 0 then (some (0 : Int32)) else
 (if (lg_cmp x8_64 (0 : Int64)) ≤ 0 then (some (-v16_17)) else
 (some v16_17))) (fun j90 : Option Int32 =>
 if (lg_cmp x8_64 (0 : Int64)) = 0 then (j90) else
 (if (lg_cmp x12_74 (0 : Int64)) = 0 then (j90) else
 (lt x8_64 (fun x21_120 : Int64 =>
 lt v10_17 (fun x8_124 : Int64 =>
 lt x21_120 (fun x10_128 : Int64 =>
 lt x12_74 (fun x21_132 : Int64 =>
 lt v14_17 (fun x12_136 : Int64 =>
 lt x21_132 (fun x14_140 : Int64 =>
 lt (-v16_17) (fun x16_145 : Int32 =>
 L_X11_way_17 n x8_124 x10_128 x12_136 x14_140 x16_145))))))))))))) else
 (if (lg_cmp x17_22 x19_29) ≤ 0 then (some (-v16_17)) else
 (some v16_17)))))))
set_option maxRecDepth 100000 in
def F_X11_way (a0 : Int64) (a2 : Int64) (a4 : Int64) (a6 : Int64) : Option Int32 :=
 lt a0 (fun x8_1 : Int64 =>
 lt a2 (fun x10_4 : Int64 =>
 lt a4 (fun x12_8 : Int64 =>
 lt a6 (fun x14_12 : Int64 =>
 lt (1 : Int32) (fun x16_15 : Int32 =>
 L_X11_way_17 1000 x8_1 x10_4 x12_8 x14_12 x16_15)))))
set_option maxRecDepth 100000 in
def F_X11_type (S : zSt) (a1 : Int32) : Option (Int32 × zSt) :=
 (F_X11_in a1 (0 : Int32) (255 : Int32)).bind (fun r5 : Int32 =>
 if r5 = 0 then (some ((-2 : Int32), S)) else
 (if (zI S 0) = (40 : Int32) then (some ((-4 : Int32), S)) else
 (ibd (zI S 0) 40 (lt (sA S 1 (upd (zA S 1) (zI S 0).toNatClampNeg a1)) (fun S35 : zSt =>
 lt (sI S35 0 ((zI S35 0) + (1 : Int32))) (fun S43 : zSt =>
 some ((zI S43 0), S43)))))))
set_option maxRecDepth 100000 in
def F_X11_wipe (S : zSt) : Option (Int32 × zSt) :=
 lt (zI S 0) (fun x1_4 : Int32 =>
 lt (sI S 0 (0 : Int32)) (fun S7 : zSt =>
 some (x1_4, S7)))
set_option maxRecDepth 100000 in
def F_X11_byteAt (S : zSt) (a1 : Int32) : Option Int32 :=
 if (zI S 0) ≤ a1 then (some (-1 : Int32)) else
 (ibd a1 40 (some (zA S 1 a1.toNatClampNeg)))
set_option maxRecDepth 100000 in
def L_X11_number_7 (a1 : Int32) (x2_4 : Int32) (k : zSt → Int32 → Option (Int32 × zSt)) : Nat → zSt → Int32 → Option (Int32 × zSt)
  | 0, _, _ => none
  | n + 1, S7, v3_7 =>
    (if (x2_4 + (2 : Int32)) ≤ (zI S7 1) then (k S7 v3_7) else
 ((F_X11_byteAt S7 (zI S7 1)).bind (fun r22 : Int32 =>
 if r22 < (48 : Int32) then (k S7 v3_7) else
 ((F_X11_byteAt S7 (zI S7 1)).bind (fun r35 : Int32 =>
 if (57 : Int32) < r35 then (k S7 v3_7) else
 ((F_X11_byteAt S7 (zI S7 1)).bind (fun r52 : Int32 =>
 lt ((((10 : Int32) * v3_7) + r52) - (48 : Int32)) (fun x3_59 : Int32 =>
 lt (sI S7 1 ((zI S7 1) + (1 : Int32))) (fun S67 : zSt =>
 L_X11_number_7 a1 x2_4 k n S67 x3_59)))))))))
set_option maxRecDepth 100000 in
def F_X11_number (S : zSt) (a1 : Int32) : Option (Int32 × zSt) :=
 lt (zI S 1) (fun x2_4 : Int32 =>
 lt (0 : Int32) (fun x3_6 : Int32 =>
 L_X11_number_7 a1 x2_4 (fun (S7x_7 : zSt) (w3_7 : Int32) =>
 if (zI S7x_7 1) = x2_4 then (lt (sI S7x_7 1 x2_4) (fun S93 : zSt =>
 some ((-1 : Int32), S93))) else
 ((F_X11_in w3_7 a1 (59 : Int32)).bind (fun r85 : Int32 =>
 if r85 = 0 then (lt (sI S7x_7 1 x2_4) (fun S93 : zSt =>
 some ((-1 : Int32), S93))) else
 (some (w3_7, S7x_7))))) 1000 S x3_6))
set_option maxRecDepth 100000 in
def L_X11_faultNow_2  (k : zSt → Option (Int32 × zSt)) : Nat → zSt → Int32 → Option (Int32 × zSt)
  | 0, _, _ => none
  | n + 1, S2, v1_2 =>
    (if (60 : Int32) ≤ v1_2 then (k S2) else
 (ibd v1_2 60 (lt (sA S2 2 (upd (zA S2 2) v1_2.toNatClampNeg (0 : Int32))) (fun S14 : zSt =>
 lt (v1_2 + (1 : Int32)) (fun x1_15 : Int32 =>
 L_X11_faultNow_2 k n S14 x1_15)))))
set_option maxRecDepth 100000 in
def L_X11_faultNow_86 (x2_84 : Int32) (k : zSt → Option (Int32 × zSt)) : Nat → zSt → Int32 → Option (Int32 × zSt)
  | 0, _, _ => none
  | n + 1, S86, v3_86 =>
    (if (60 : Int32) ≤ v3_86 then (k S86) else
 (ibd v3_86 60 (lt (sA S86 2 (upd (zA S86 2) v3_86.toNatClampNeg (1 : Int32))) (fun S98 : zSt =>
 lt (v3_86 + x2_84) (fun x3_102 : Int32 =>
 L_X11_faultNow_86 x2_84 k n S98 x3_102)))))
set_option maxRecDepth 100000 in
def L_X11_faultNow_26  : Nat → zSt → Option (Int32 × zSt)
  | 0, _ => none
  | n + 1, S26 =>
    (b2 (F_X11_number S26 (0 : Int32)) (fun (r28 : Int32) (S28 : zSt) =>
 lt r28 (fun x1_31 : Int32 =>
 if x1_31 = (-1 : Int32) then (some ((zI S28 1), S28)) else
 (lt (60 : Int32) (fun x2_44 : Int32 =>
 (F_X11_byteAt S28 (zI S28 1)).bind (fun r50 : Int32 =>
 jn (fun (S84j : zSt) (x2_84 : Int32) =>
 lt x1_31 (fun x3_85 : Int32 =>
 L_X11_faultNow_86 x2_84 (fun (S86x_86 : zSt) =>
 if (zI S86x_86 1) = (zI S86x_86 0) then (some ((-1 : Int32), S86x_86)) else
 ((F_X11_byteAt S86x_86 (zI S86x_86 1)).bind (fun r124 : Int32 =>
 if r124 = (44 : Int32) then (lt (sI S86x_86 1 ((zI S86x_86 1) + (1 : Int32))) (fun S144 : zSt =>
 L_X11_faultNow_26 n S144)) else
 (some ((zI S86x_86 1), S86x_86))))) 1000 S84j x3_85)) (fun j84 : zSt → Int32 → Option (Int32 × zSt) =>
 if r50 = (43 : Int32) then (lt (sI S28 1 ((zI S28 1) + (1 : Int32))) (fun S65 : zSt =>
 b2 (F_X11_number S65 (1 : Int32)) (fun (r70 : Int32) (S70 : zSt) =>
 lt r70 (fun x2_73 : Int32 =>
 if x2_73 = (-1 : Int32) then (some ((zI S70 1), S70)) else
 (j84 S70 x2_73))))) else
 (j84 S28 x2_44))))))))
set_option maxRecDepth 100000 in
def F_X11_faultNow (S : zSt) : Option (Int32 × zSt) :=
 lt (0 : Int32) (fun x1_1 : Int32 =>
 L_X11_faultNow_2 (fun (S2x_2 : zSt) =>
 lt (sI S2x_2 1 (0 : Int32)) (fun S23 : zSt =>
 L_X11_faultNow_26 1000 S23)) 1000 S x1_1)
set_option maxRecDepth 100000 in
def F_X11_fault (S : zSt) : Option (Int32 × zSt) :=
 b2 (F_X11_faultNow S) (fun (r1 : Int32) (S1 : zSt) =>
 some (r1, S1))
set_option maxRecDepth 100000 in
def F_X11_isBus (S : zSt) (a1 : Int32) (a2 : Int32) : Option Int32 :=
 jn (if a1 = 0 then (some (0 : Int32)) else
 (ibd ((60 : Int32) + a2) 120 (if (zA S 3 ((60 : Int32) + a2).toNatClampNeg) = (1 : Int32) then (some (1 : Int32)) else
 (some (0 : Int32))))) (fun j15 : Option Int32 =>
 if a1 = (1 : Int32) then (j15) else
 (ibd a2 120 (if (zA S 3 a2.toNatClampNeg) = (1 : Int32) then (some (1 : Int32)) else
 (j15))))
set_option maxRecDepth 100000 in
def L_X11_many_4 (S : zSt) (a1 : Int32) (k : Int32 → Option Int32) : Nat → Int32 → Int32 → Option Int32
  | 0, _, _ => none
  | n + 1, v2_4, v3_4 =>
    (if (60 : Int32) ≤ v3_4 then (k v2_4) else
 ((F_X11_isBus S a1 v3_4).bind (fun r14 : Int32 =>
 if r14 = 0 then (lt (v2_4 + (0 : Int32)) (fun x2_26 : Int32 =>
 lt (v3_4 + (1 : Int32)) (fun x3_27 : Int32 =>
 L_X11_many_4 S a1 k n x2_26 x3_27))) else
 (lt (v2_4 + (1 : Int32)) (fun x2_26 : Int32 =>
 lt (v3_4 + (1 : Int32)) (fun x3_27 : Int32 =>
 L_X11_many_4 S a1 k n x2_26 x3_27))))))
set_option maxRecDepth 100000 in
def F_X11_many (S : zSt) (a1 : Int32) : Option Int32 :=
 lt (0 : Int32) (fun x2_1 : Int32 =>
 lt (0 : Int32) (fun x3_3 : Int32 =>
 L_X11_many_4 S a1 (fun (w2_4 : Int32) =>
 some w2_4) 1000 x2_1 x3_3))
set_option maxRecDepth 100000 in
def L_X11_line_25 (a1 : Int32) (k : zSt → Option (Int32 × zSt)) : Nat → zSt → Int32 → Option (Int32 × zSt)
  | 0, _, _ => none
  | n + 1, S25, v2_25 =>
    (if (60 : Int32) ≤ v2_25 then (k S25) else
 (ibd v2_25 60 (ibd (((60 : Int32) * a1) + v2_25) 120 (lt (sA S25 3 (upd (zA S25 3) (((60 : Int32) * a1) + v2_25).toNatClampNeg (zA S25 2 v2_25.toNatClampNeg))) (fun S47 : zSt =>
 lt (v2_25 + (1 : Int32)) (fun x2_48 : Int32 =>
 L_X11_line_25 a1 k n S47 x2_48))))))
set_option maxRecDepth 100000 in
def F_X11_line (S : zSt) (a1 : Int32) : Option (Int32 × zSt) :=
 (F_X11_in a1 (0 : Int32) (1 : Int32)).bind (fun r3 : Int32 =>
 if r3 = 0 then (some ((-2 : Int32), S)) else
 (b2 (F_X11_faultNow S) (fun (r13 : Int32) (S13 : zSt) =>
 if r13 = (-1 : Int32) then (lt (0 : Int32) (fun x2_24 : Int32 =>
 L_X11_line_25 a1 (fun (S25x_25 : zSt) =>
 lt (sI S25x_25 0 (0 : Int32)) (fun S56 : zSt =>
 (F_X11_many S56 a1).bind (fun r61 : Int32 =>
 some (r61, S56)))) 1000 S13 x2_24)) else
 (some ((-3 : Int32), S13)))))
set_option maxRecDepth 100000 in
def L_X11_waitOf_2 (S : zSt) (a1 : Int32) (a2 : Int32) (k : Int32 → Option Int32) : Nat → Int32 → Option Int32
  | 0, _ => none
  | n + 1, v3_2 =>
    (nz (60 : Int32) ((F_X11_isBus S a1 ((a2 + v3_2) - (a2 + v3_2) / (60 : Int32) * (60 : Int32))).bind (fun r10 : Int32 =>
 if r10 = 0 then (lt (v3_2 + (1 : Int32)) (fun x3_16 : Int32 =>
 L_X11_waitOf_2 S a1 a2 k n x3_16)) else
 (k v3_2))))
set_option maxRecDepth 100000 in
def F_X11_waitOf (S : zSt) (a1 : Int32) (a2 : Int32) : Option Int32 :=
 lt (0 : Int32) (fun x3_1 : Int32 =>
 L_X11_waitOf_2 S a1 a2 (fun (w3_2 : Int32) =>
 some w3_2) 1000 x3_1)
set_option maxRecDepth 100000 in
def F_X11_waits (S : zSt) (a1 : Int32) (a2 : Int32) : Option Int32 :=
 (F_X11_in a1 (0 : Int32) (2 : Int32)).bind (fun r3 : Int32 =>
 if r3 = 0 then (some (-2 : Int32)) else
 ((F_X11_in a2 (0 : Int32) (59 : Int32)).bind (fun r13 : Int32 =>
 if r13 = 0 then (some (-2 : Int32)) else
 ((F_X11_many S a1).bind (fun r24 : Int32 =>
 if r24 = 0 then (some (-3 : Int32)) else
 ((F_X11_waitOf S a1 a2).bind (fun r38 : Int32 =>
 some r38)))))))
set_option maxRecDepth 100000 in
def F_X11_gapBehind (S : zSt) (a1 : Int32) (a2 : Int32) : Option Int32 :=
 nz (60 : Int32) ((F_X11_waitOf S a1 ((a2 + (1 : Int32)) - (a2 + (1 : Int32)) / (60 : Int32) * (60 : Int32))).bind (fun r9 : Int32 =>
 some ((1 : Int32) + r9)))
set_option maxRecDepth 100000 in
def L_X11_met_27 (S : zSt) (a1 : Int32) (a2 : Int32) (k : Int32 → Option Int32) : Nat → Int32 → Int32 → Option Int32
  | 0, _, _ => none
  | n + 1, v3_27, v4_27 =>
    (if (60 : Int32) ≤ v4_27 then (k v3_27) else
 ((F_X11_isBus S a1 v4_27).bind (fun r39 : Int32 =>
 if r39 = 0 then (lt (v3_27 + (0 : Int32)) (fun x3_62 : Int32 =>
 lt (v4_27 + (1 : Int32)) (fun x4_63 : Int32 =>
 L_X11_met_27 S a1 a2 k n x3_62 x4_63))) else
 ((F_X11_gapBehind S a1 v4_27).bind (fun r49 : Int32 =>
 if r49 = a2 then (lt (v3_27 + a2) (fun x3_62 : Int32 =>
 lt (v4_27 + (1 : Int32)) (fun x4_63 : Int32 =>
 L_X11_met_27 S a1 a2 k n x3_62 x4_63))) else
 (lt (v3_27 + (0 : Int32)) (fun x3_62 : Int32 =>
 lt (v4_27 + (1 : Int32)) (fun x4_63 : Int32 =>
 L_X11_met_27 S a1 a2 k n x3_62 x4_63))))))))
set_option maxRecDepth 100000 in
def F_X11_met (S : zSt) (a1 : Int32) (a2 : Int32) : Option Int32 :=
 (F_X11_in a1 (0 : Int32) (2 : Int32)).bind (fun r3 : Int32 =>
 if r3 = 0 then (some (-2 : Int32)) else
 ((F_X11_in a2 (1 : Int32) (60 : Int32)).bind (fun r13 : Int32 =>
 if r13 = 0 then (some (-2 : Int32)) else
 (lt (0 : Int32) (fun x3_23 : Int32 =>
 lt (0 : Int32) (fun x4_25 : Int32 =>
 L_X11_met_27 S a1 a2 (fun (w3_27 : Int32) =>
 some w3_27) 1000 x3_23 x4_25))))))
set_option maxRecDepth 100000 in
def L_X11_gapsNow_27 (S : zSt) (a1 : Int32) (a2 : Int32) (a3 : Int32) (x4_5 : Int32) (k : Int64 → Int64 → Option Int64) : Nat → Int64 → Int64 → Int32 → Option Int64
  | 0, _, _, _ => none
  | n + 1, v5_27, v7_27, v9_27 =>
    (if (60 : Int32) ≤ v9_27 then (k v5_27 v7_27) else
 ((F_X11_isBus S a1 v9_27).bind (fun r38 : Int32 =>
 jn (fun (y0_55 : Int32) =>
 lt y0_55 (fun x10_55 : Int32 =>
 lt (v5_27 + ((x10_55 * x10_55).toInt64)) (fun x5_66 : Int64 =>
 (F_X11_waitOf S a1 v9_27).bind (fun r74 : Int32 =>
 lt (v7_27 + (r74.toInt64)) (fun x7_79 : Int64 =>
 lt (v9_27 + (1 : Int32)) (fun x9_81 : Int32 =>
 L_X11_gapsNow_27 S a1 a2 a3 x4_5 k n x5_66 x7_79 x9_81)))))) (fun j55 : Int32 → Option Int64 =>
 if r38 = 0 then (j55 (0 : Int32)) else
 ((F_X11_gapBehind S a1 v9_27).bind (fun r48 : Int32 =>
 j55 r48))))))
set_option maxRecDepth 100000 in
def F_X11_gapsNow (S : zSt) (a1 : Int32) (a2 : Int32) (a3 : Int32) : Option Int64 :=
 (F_X11_many S a1).bind (fun r2 : Int32 =>
 lt r2 (fun x4_5 : Int32 =>
 if x4_5 = 0 then ((F_X11_no (-3 : Int32)).bind (fun r14 : Int64 =>
 some r14)) else
 (lt (0 : Int64) (fun x5_19 : Int64 =>
 lt (0 : Int64) (fun x7_22 : Int64 =>
 lt (0 : Int32) (fun x9_25 : Int32 =>
 L_X11_gapsNow_27 S a1 a2 a3 x4_5 (fun (w5_27 : Int64) (w7_27 : Int64) =>
 if a2 = 0 then ((F_X11_lowest (60 : Int64) (x4_5.toInt64) a3).bind (fun r98 : Int64 =>
 some r98)) else
 (jn (fun (y0_116 : Int64) =>
 (F_X11_lowest y0_116 (60 : Int64) a3).bind (fun r120 : Int64 =>
 some r120)) (fun j116 : Int64 → Option Int64 =>
 if a2 = (1 : Int32) then (j116 w5_27) else
 (j116 w7_27)))) 1000 x5_19 x7_22 x9_25))))))
set_option maxRecDepth 100000 in
def F_X11_gaps (S : zSt) (a1 : Int32) (a2 : Int32) (a3 : Int32) : Option Int64 :=
 (F_X11_in a1 (0 : Int32) (2 : Int32)).bind (fun r3 : Int32 =>
 jn ((F_X11_no (-2 : Int32)).bind (fun r39 : Int64 =>
 some r39)) (fun j37 : Option Int64 =>
 if r3 = 0 then (j37) else
 ((F_X11_in a2 (0 : Int32) (2 : Int32)).bind (fun r12 : Int32 =>
 if r12 = 0 then (j37) else
 ((F_X11_in a3 (0 : Int32) (1 : Int32)).bind (fun r21 : Int32 =>
 if r21 = 0 then (j37) else
 ((F_X11_gapsNow S a1 a2 a3).bind (fun r31 : Int64 =>
 some r31))))))))
set_option maxRecDepth 100000 in
def F_X11_waitsIn (a0 : Int32) : Option Int32 :=
 nz (2 : Int32) (some ((a0 * (a0 - (1 : Int32))) / (2 : Int32)))
set_option maxRecDepth 100000 in
def L_X11_backFrom_83 (a1 : Int32) (a2 : Int32) (a3 : Int32) (v4_5 : Int32) (S13 : zSt) (v5_13 : Int32) (x6_29 : Int32) (k : Int32 → Option (Int32 × zSt)) : Nat → Int32 → Int32 → Option (Int32 × zSt)
  | 0, _, _ => none
  | n + 1, v7_83, v8_83 =>
    (if a2 < v8_83 then (k v7_83) else
 (if a1 ≤ (v4_5 + (1 : Int32)) then (k v7_83) else
 (ibd (v4_5 + (1 : Int32)) 60 (lt (((zA S13 4 (v4_5 + (1 : Int32)).toNatClampNeg) + v8_83) - x6_29) (fun x9_112 : Int32 =>
 jn (fun (y0_145 : Int32) =>
 lt y0_145 (fun x10_145 : Int32 =>
 if v7_83 ≤ x10_145 then (lt v7_83 (fun x7_161 : Int32 =>
 lt (v8_83 + (1 : Int32)) (fun x8_163 : Int32 =>
 L_X11_backFrom_83 a1 a2 a3 v4_5 S13 v5_13 x6_29 k n x7_161 x8_163))) else
 (lt x10_145 (fun x7_161 : Int32 =>
 lt (v8_83 + (1 : Int32)) (fun x8_163 : Int32 =>
 L_X11_backFrom_83 a1 a2 a3 v4_5 S13 v5_13 x6_29 k n x7_161 x8_163))))) (fun j145 : Int32 → Option (Int32 × zSt) =>
 if x9_112 ≤ 0 then (j145 (100000 : Int32)) else
 ((F_X11_waitsIn x9_112).bind (fun r121 : Int32 =>
 ibd (((6 : Int32) * (v4_5 + (1 : Int32))) + v8_83) 72 (j145 (r121 + (zA S13 5 (((6 : Int32) * (v4_5 + (1 : Int32))) + v8_83).toNatClampNeg)))))))))))
set_option maxRecDepth 100000 in
def L_X11_backFrom_13 (a1 : Int32) (a2 : Int32) (a3 : Int32) (v4_5 : Int32) (k : zSt → Option (Int32 × zSt)) : Nat → zSt → Int32 → Option (Int32 × zSt)
  | 0, _, _ => none
  | n + 1, S13, v5_13 =>
    (if a2 < v5_13 then (k S13) else
 (ibd v4_5 60 (lt ((zA S13 4 v4_5.toNatClampNeg) + v5_13) (fun x6_29 : Int32 =>
 lt (100000 : Int32) (fun x7_33 : Int32 =>
 jn (fun (x7_169 : Int32) =>
 ibd (((6 : Int32) * v4_5) + v5_13) 72 (lt (sA S13 5 (upd (zA S13 5) (((6 : Int32) * v4_5) + v5_13).toNatClampNeg x7_169)) (fun S183 : zSt =>
 lt (v5_13 + (1 : Int32)) (fun x5_184 : Int32 =>
 L_X11_backFrom_13 a1 a2 a3 v4_5 k n S183 x5_184)))) (fun j169 : Int32 → Option (Int32 × zSt) =>
 if (59 : Int32) < x6_29 then (j169 x7_33) else
 (jn (jn (fun (x7_80 : Int32) =>
 lt (0 : Int32) (fun x8_81 : Int32 =>
 L_X11_backFrom_83 a1 a2 a3 v4_5 S13 v5_13 x6_29 (fun (w7_83 : Int32) =>
 j169 w7_83) 1000 x7_80 x8_81)) (fun j80 : Int32 → Option (Int32 × zSt) =>
 if v4_5 = (a1 - (1 : Int32)) then (ibd (0 : Int32) 60 ((F_X11_waitsIn ((((60 : Int32) - x6_29) + (zA S13 4 (0 : Int32).toNatClampNeg)) + a3)).bind (fun r75 : Int32 =>
 lt r75 (fun x7_78 : Int32 =>
 j80 x7_78)))) else
 (j80 x7_33))) (fun j53 : Option (Int32 × zSt) =>
 if 0 < v4_5 then (j53) else
 (if v5_13 = a3 then (j53) else
 (j169 x7_33))))))))))
set_option maxRecDepth 100000 in
def L_X11_backFrom_5 (a1 : Int32) (a2 : Int32) (a3 : Int32) (k : zSt → Option (Int32 × zSt)) : Nat → zSt → Int32 → Option (Int32 × zSt)
  | 0, _, _ => none
  | n + 1, S5, v4_5 =>
    (if v4_5 < 0 then (k S5) else
 (lt (0 : Int32) (fun x5_11 : Int32 =>
 L_X11_backFrom_13 a1 a2 a3 v4_5 (fun (S13x_13 : zSt) =>
 lt (v4_5 + (-1 : Int32)) (fun x4_190 : Int32 =>
 L_X11_backFrom_5 a1 a2 a3 k n S13x_13 x4_190)) 1000 S5 x5_11)))
set_option maxRecDepth 100000 in
def F_X11_backFrom (S : zSt) (a1 : Int32) (a2 : Int32) (a3 : Int32) : Option (Int32 × zSt) :=
 lt (a1 - (1 : Int32)) (fun x4_3 : Int32 =>
 L_X11_backFrom_5 a1 a2 a3 (fun (S5x_5 : zSt) =>
 ibd a3 72 (some ((zA S5x_5 5 a3.toNatClampNeg), S5x_5))) 1000 S x4_3)
set_option maxRecDepth 100000 in
def L_X11_heldNow_6 (a1 : Int32) (a2 : Int32) (a3 : Int32) (k : zSt → Int32 → Option (Int32 × zSt)) : Nat → zSt → Int32 → Int32 → Option (Int32 × zSt)
  | 0, _, _, _ => none
  | n + 1, S6, v4_6, v5_6 =>
    (if (60 : Int32) ≤ v5_6 then (k S6 v4_6) else
 ((F_X11_isBus S6 a1 v5_6).bind (fun r17 : Int32 =>
 if r17 = 0 then (lt (v5_6 + (1 : Int32)) (fun x5_35 : Int32 =>
 L_X11_heldNow_6 a1 a2 a3 k n S6 v4_6 x5_35)) else
 (ibd v4_6 60 (lt (sA S6 4 (upd (zA S6 4) v4_6.toNatClampNeg v5_6)) (fun S31 : zSt =>
 lt (v4_6 + (1 : Int32)) (fun x4_32 : Int32 =>
 lt (v5_6 + (1 : Int32)) (fun x5_35 : Int32 =>
 L_X11_heldNow_6 a1 a2 a3 k n S31 x4_32 x5_35))))))))
set_option maxRecDepth 100000 in
def L_X11_heldNow_78 (a2 : Int32) (a3 : Int32) (w4_6 : Int32) (k : zSt → Int32 → Int32 → Option (Int32 × zSt)) : Nat → zSt → Int32 → Int32 → Int32 → Option (Int32 × zSt)
  | 0, _, _, _, _ => none
  | n + 1, S78, v5_78, v6_78, v7_78 =>
    (if a2 < v7_78 then (k S78 v5_78 v6_78) else
 (b2 (F_X11_backFrom S78 w4_6 a2 v7_78) (fun (r90 : Int32) (S90 : zSt) =>
 lt r90 (fun x8_93 : Int32 =>
 jn (fun (y0_109 : Int32) =>
 lt y0_109 (fun x5_109 : Int32 =>
 if v6_78 ≤ x8_93 then (lt v6_78 (fun x6_125 : Int32 =>
 lt (v7_78 + (1 : Int32)) (fun x7_127 : Int32 =>
 L_X11_heldNow_78 a2 a3 w4_6 k n S90 x5_109 x6_125 x7_127))) else
 (lt x8_93 (fun x6_125 : Int32 =>
 lt (v7_78 + (1 : Int32)) (fun x7_127 : Int32 =>
 L_X11_heldNow_78 a2 a3 w4_6 k n S90 x5_109 x6_125 x7_127))))) (fun j109 : Int32 → Option (Int32 × zSt) =>
 if v6_78 ≤ x8_93 then (j109 v5_78) else
 (j109 v7_78))))))
set_option maxRecDepth 100000 in
def L_X11_heldNow_176 (a2 : Int32) (a3 : Int32) (w4_6 : Int32) (x7_150 : Int32) (S163 : zSt) (v8_163 : Int32) (k : Int32 → Option (Int32 × zSt)) : Nat → Int32 → Int32 → Option (Int32 × zSt)
  | 0, _, _ => none
  | n + 1, v9_176, v10_176 =>
    (if a2 < v10_176 then (k v9_176) else
 (if v9_176 = (-1 : Int32) then (ibd v8_163 60 (ibd (v8_163 - (1 : Int32)) 60 (ibd (v8_163 - (1 : Int32)) 12 (lt ((((zA S163 4 v8_163.toNatClampNeg) + v10_176) - (zA S163 4 (v8_163 - (1 : Int32)).toNatClampNeg)) - (zA S163 6 (v8_163 - (1 : Int32)).toNatClampNeg)) (fun x11_218 : Int32 =>
 if x11_218 ≤ 0 then (lt (-1 : Int32) (fun x9_275 : Int32 =>
 lt (v10_176 + (1 : Int32)) (fun x10_277 : Int32 =>
 L_X11_heldNow_176 a2 a3 w4_6 x7_150 S163 v8_163 k n x9_275 x10_277))) else
 ((F_X11_waitsIn x11_218).bind (fun r227 : Int32 =>
 ibd (((6 : Int32) * v8_163) + v10_176) 72 (ibd (v8_163 - (1 : Int32)) 12 (ibd (((6 : Int32) * (v8_163 - (1 : Int32))) + (zA S163 6 (v8_163 - (1 : Int32)).toNatClampNeg)) 72 (if (r227 + (zA S163 5 (((6 : Int32) * v8_163) + v10_176).toNatClampNeg)) = (zA S163 5 (((6 : Int32) * (v8_163 - (1 : Int32))) + (zA S163 6 (v8_163 - (1 : Int32)).toNatClampNeg)).toNatClampNeg) then (lt v10_176 (fun x9_275 : Int32 =>
 lt (v10_176 + (1 : Int32)) (fun x10_277 : Int32 =>
 L_X11_heldNow_176 a2 a3 w4_6 x7_150 S163 v8_163 k n x9_275 x10_277))) else
 (lt (-1 : Int32) (fun x9_275 : Int32 =>
 lt (v10_176 + (1 : Int32)) (fun x10_277 : Int32 =>
 L_X11_heldNow_176 a2 a3 w4_6 x7_150 S163 v8_163 k n x9_275 x10_277))))))))))))) else
 (k v9_176)))
set_option maxRecDepth 100000 in
def L_X11_heldNow_163 (a2 : Int32) (a3 : Int32) (w4_6 : Int32) (x7_150 : Int32) (k : zSt → Option (Int32 × zSt)) : Nat → zSt → Int32 → Option (Int32 × zSt)
  | 0, _, _ => none
  | n + 1, S163, v8_163 =>
    (if w4_6 ≤ v8_163 then (k S163) else
 (lt (-1 : Int32) (fun x9_171 : Int32 =>
 lt (0 : Int32) (fun x10_174 : Int32 =>
 L_X11_heldNow_176 a2 a3 w4_6 x7_150 S163 v8_163 (fun (w9_176 : Int32) =>
 ibd v8_163 12 (lt (sA S163 6 (upd (zA S163 6) v8_163.toNatClampNeg w9_176)) (fun S291 : zSt =>
 lt (v8_163 + (1 : Int32)) (fun x8_292 : Int32 =>
 L_X11_heldNow_163 a2 a3 w4_6 x7_150 k n S291 x8_292)))) 1000 x9_171 x10_174))))
set_option maxRecDepth 100000 in
def F_X11_heldNow (S : zSt) (a1 : Int32) (a2 : Int32) (a3 : Int32) : Option (Int32 × zSt) :=
 lt (0 : Int32) (fun x4_1 : Int32 =>
 lt (0 : Int32) (fun x5_4 : Int32 =>
 L_X11_heldNow_6 a1 a2 a3 (fun (S6x_6 : zSt) (w4_6 : Int32) =>
 if w4_6 = 0 then (some ((-3 : Int32), S6x_6)) else
 (if w4_6 ≤ (12 : Int32) then (if a3 < w4_6 then (lt (0 : Int32) (fun x5_69 : Int32 =>
 lt (100000 : Int32) (fun x6_73 : Int32 =>
 lt (0 : Int32) (fun x7_76 : Int32 =>
 L_X11_heldNow_78 a2 a3 w4_6 (fun (S78x_78 : zSt) (w5_78 : Int32) (w6_78 : Int32) =>
 if a3 = (-1 : Int32) then (some (w6_78, S78x_78)) else
 (b2 (F_X11_backFrom S78x_78 w4_6 a2 w5_78) (fun (r147 : Int32) (S147 : zSt) =>
 lt r147 (fun x7_150 : Int32 =>
 ibd (0 : Int32) 12 (lt (sA S147 6 (upd (zA S147 6) (0 : Int32).toNatClampNeg w5_78)) (fun S159 : zSt =>
 lt (1 : Int32) (fun x8_161 : Int32 =>
 L_X11_heldNow_163 a2 a3 w4_6 x7_150 (fun (S163x_163 : zSt) =>
 if (100000 : Int32) ≤ x7_150 then (some ((-3 : Int32), S163x_163)) else
 (ibd a3 12 (some ((zA S163x_163 6 a3.toNatClampNeg), S163x_163)))) 1000 S159 x8_161))))))) 1000 S6x_6 x5_69 x6_73 x7_76)))) else
 (some ((-3 : Int32), S6x_6))) else
 (some ((-4 : Int32), S6x_6)))) 1000 S x4_1 x5_4))
set_option maxRecDepth 100000 in
def F_X11_held (S : zSt) (a1 : Int32) (a2 : Int32) (a3 : Int32) : Option (Int32 × zSt) :=
 (F_X11_in a1 (0 : Int32) (1 : Int32)).bind (fun r3 : Int32 =>
 if r3 = 0 then (some ((-2 : Int32), S)) else
 ((F_X11_in a2 (0 : Int32) (5 : Int32)).bind (fun r12 : Int32 =>
 if r12 = 0 then (some ((-2 : Int32), S)) else
 ((F_X11_in a3 (-1 : Int32) (59 : Int32)).bind (fun r22 : Int32 =>
 if r22 = 0 then (some ((-2 : Int32), S)) else
 (b2 (F_X11_heldNow S a1 a2 a3) (fun (r32 : Int32) (S32 : zSt) =>
 some (r32, S32))))))))
set_option maxRecDepth 100000 in
def F_X11_answerMore (S : zSt) (a1 : Int32) (a2 : Int32) : Option (Int32 × zSt) :=
 (F_X11_in a1 (1 : Int32) (8 : Int32)).bind (fun r4 : Int32 =>
 if r4 = 0 then (some ((-2 : Int32), S)) else
 ((F_X11_in a2 (zI S 3) (999 : Int32)).bind (fun r18 : Int32 =>
 if r18 = 0 then (some ((-2 : Int32), S)) else
 (if (zI S 2) = (40 : Int32) then (some ((-4 : Int32), S)) else
 (ibd (zI S 2) 40 (lt (sA S 7 (upd (zA S 7) (zI S 2).toNatClampNeg a1)) (fun S48 : zSt =>
 ibd (zI S48 2) 40 (lt (sA S48 8 (upd (zA S48 8) (zI S48 2).toNatClampNeg a2)) (fun S58 : zSt =>
 ibd (zI S58 2) 40 (lt (sA S58 9 (upd (zA S58 9) (zI S58 2).toNatClampNeg (-1 : Int32))) (fun S68 : zSt =>
 lt (sI S68 3 a2) (fun S71 : zSt =>
 lt (sI S71 2 ((zI S71 2) + (1 : Int32))) (fun S81 : zSt =>
 some (((zI S81 2) - (1 : Int32)), S81))))))))))))))
set_option maxRecDepth 100000 in
def F_X11_asked (S : zSt) (a1 : Int32) (a2 : Int32) : Option (Int32 × zSt) :=
 b2 (F_X11_answerMore S a1 a2) (fun (r3 : Int32) (S3 : zSt) =>
 some (r3, S3))
set_option maxRecDepth 100000 in
def F_X11_isSheet (a0 : Int32) : Option Int32 :=
 (F_X11_in a0 (0 : Int32) (3 : Int32)).bind (fun r3 : Int32 =>
 zb r3 (some r3))
set_option maxRecDepth 100000 in
def F_X11_meets (S : zSt) (a1 : Int32) : Option (Int32 × zSt) :=
 lt (sI S 7 a1) (fun S2 : zSt =>
 some (((-10 : Int32) - a1), S2))
set_option maxRecDepth 100000 in
def L_X11_read_41 (a1 : Int32) (a2 : Int32) (k : zSt → Int32 → Option (Int32 × zSt)) : Nat → zSt → Int32 → Option (Int32 × zSt)
  | 0, _, _ => none
  | n + 1, S41, v3_41 =>
    (ibd a1 4 (if (zA S41 17 a1.toNatClampNeg) ≤ v3_41 then (k S41 v3_41) else
 (ibd (((60 : Int32) * a1) + v3_41) 240 (b2 (F_X11_answerMore S41 (zA S41 18 (((60 : Int32) * a1) + v3_41).toNatClampNeg) a2) (fun (r64 : Int32) (S64 : zSt) =>
 if r64 < 0 then (k S64 v3_41) else
 (lt (v3_41 + (1 : Int32)) (fun x3_70 : Int32 =>
 L_X11_read_41 a1 a2 k n S64 x3_70)))))))
set_option maxRecDepth 100000 in
def F_X11_read (S : zSt) (a1 : Int32) (a2 : Int32) : Option (Int32 × zSt) :=
 (F_X11_isSheet a1).bind (fun r1 : Int32 =>
 if r1 = 0 then (some ((-2 : Int32), S)) else
 ((F_X11_in a2 (zI S 3) (999 : Int32)).bind (fun r15 : Int32 =>
 if r15 = 0 then (some ((-2 : Int32), S)) else
 (ibd a1 4 (if (zA S 15 a1.toNatClampNeg) = 0 then (b2 (F_X11_meets S (1 : Int32)) (fun (r35 : Int32) (S35 : zSt) =>
 some (r35, S35))) else
 (lt (0 : Int32) (fun x3_40 : Int32 =>
 L_X11_read_41 a1 a2 (fun (S41x_41 : zSt) (w3_41 : Int32) =>
 some (w3_41, S41x_41)) 1000 S x3_40)))))))
abbrev rm_X11_in : Room := { frames := 0, cells := 0, slots := 0, locals := 0 }
theorem y_X11_in : yX11_in.cls ≠ "java/lang/invoke/MethodHandle" ∧ yX11_in.cls ≠ "java/lang/invoke/VarHandle" ∧ (parseMethodDescriptor yX11_in.desc).map (fun d => d.parameters.length) = some 3 := by decide +kernel
set_option maxRecDepth 100000 in
set_option maxHeartbeats 4000000 in
theorem x_X11_in {E : zCx} {g : zGx} (B : zGood E (WM g) (zT g) cX11_in RX11 wsX11_in (some .boolean) rm_X11_in) (hE : E.2.2 = 3) (S : zSt) (a0 : Int32) (a1 : Int32) (a2 : Int32) : Xo E (WM g) (eI S) S 0 [(0, .int a0), (1, .int a1), (2, .int a2)] [] (F_X11_in a0 a1 a2) := by
  unfold F_X11_in
  refine r_iload_n B 0 dX11_in_0 rfl rfl ?_
  refine r_iload_n B 1 dX11_in_1 rfl rfl ?_
  refine r_icmp_lt B 14 dX11_in_2 (by decide) (fun _ => ?_) (fun _ => ?_)
  · refine r_iconst B (0 : Int32) dX11_in_14 (by decide) ?_
    exact r_zret0 B dX11_in_15 rfl
  · refine r_iload_n B 0 dX11_in_5 rfl rfl ?_
    refine r_iload_n B 2 dX11_in_6 rfl rfl ?_
    refine r_icmp_gt B 14 dX11_in_7 (by decide) (fun _ => ?_) (fun _ => ?_)
    · refine r_iconst B (0 : Int32) dX11_in_14 (by decide) ?_
      exact r_zret0 B dX11_in_15 rfl
    · refine r_iconst B (1 : Int32) dX11_in_10 (by decide) ?_
      refine r_goto B 15 dX11_in_11 (by decide) ?_
      exact r_zret1 B dX11_in_15 rfl
set_option maxRecDepth 20000 in
theorem k_X11_in {l : Launch} {D : va_G} {g : zGx} (hz : zin (WM g)) {S : zSt} {a0 : Int32} {a1 : Int32} {a2 : Int32} {b : Int32} (h : F_X11_in a0 a1 a2 = some b) : zMet l D (WM g) (zT g) yX11_in wsX11_in rm_X11_in S [.int a0, .int a1, .int a2] ((eI S) b) := zmet_of (by decide +kernel) rfl hz (Nat.le_of_ble_eq_true rfl) rfl (fun E _ _ hE B => x_X11_in B hE S a0 a1 a2) h
abbrev rm_X11_has : Room := { frames := 0, cells := 0, slots := 0, locals := 0 }
theorem y_X11_has : yX11_has.cls ≠ "java/lang/invoke/MethodHandle" ∧ yX11_has.cls ≠ "java/lang/invoke/VarHandle" ∧ (parseMethodDescriptor yX11_has.desc).map (fun d => d.parameters.length) = some 2 := by decide +kernel
set_option maxRecDepth 100000 in
set_option maxHeartbeats 4000000 in
theorem x_X11_has {E : zCx} {g : zGx} (B : zGood E (WM g) (zT g) cX11_has RX11 wsX11_has (some .boolean) rm_X11_has) (hE : E.2.2 = 2) (S : zSt) (a0 : Int32) (a1 : Int32) : Xo E (WM g) (eI S) S 0 [(0, .int a0), (1, .int a1)] [] (F_X11_has a0 a1) := by
  unfold F_X11_has
  refine r_iload_n B 0 dX11_has_0 rfl rfl ?_
  refine r_iload_n B 1 dX11_has_1 rfl rfl ?_
  refine r_ishr B dX11_has_2 ?_
  refine r_iconst B (1 : Int32) dX11_has_3 (by decide) ?_
  refine r_iand B dX11_has_4 ?_
  refine r_iconst B (1 : Int32) dX11_has_5 (by decide) ?_
  refine r_icmp_ne B 13 dX11_has_6 (by decide) (fun _ => ?_) (fun _ => ?_)
  · refine r_iconst B (0 : Int32) dX11_has_13 (by decide) ?_
    exact r_zret0 B dX11_has_14 rfl
  · refine r_iconst B (1 : Int32) dX11_has_9 (by decide) ?_
    refine r_goto B 14 dX11_has_10 (by decide) ?_
    exact r_zret1 B dX11_has_14 rfl
set_option maxRecDepth 20000 in
theorem k_X11_has {l : Launch} {D : va_G} {g : zGx} (hz : zin (WM g)) {S : zSt} {a0 : Int32} {a1 : Int32} {b : Int32} (h : F_X11_has a0 a1 = some b) : zMet l D (WM g) (zT g) yX11_has wsX11_has rm_X11_has S [.int a0, .int a1] ((eI S) b) := zmet_of (by decide +kernel) rfl hz (Nat.le_of_ble_eq_true rfl) rfl (fun E _ _ hE B => x_X11_has B hE S a0 a1) h
abbrev rm_X11_ones : Room := { frames := 0, cells := 0, slots := 0, locals := 0 }
theorem y_X11_ones : yX11_ones.cls ≠ "java/lang/invoke/MethodHandle" ∧ yX11_ones.cls ≠ "java/lang/invoke/VarHandle" ∧ (parseMethodDescriptor yX11_ones.desc).map (fun d => d.parameters.length) = some 1 := by decide +kernel
set_option maxRecDepth 100000 in
set_option maxHeartbeats 4000000 in
theorem xL_X11_ones_4 {E : zCx} {g : zGx} (B : zGood E (WM g) (zT g) cX11_ones RX11 wsX11_ones (some .int) rm_X11_ones) (hE : E.2.2 = 3) (S : zSt) (a0 : Int32) (k : Int32 → Option Int32) (hk : ∀ (w1 : Int32), Xo E (WM g) (eI S) S 24 [(1, .int w1)] [] (k w1)) : ∀ (n : Nat) (v1_4 : Int32) (v2_4 : Int32), Xo E (WM g) (eI S) S 4 [(0, .int a0), (1, .int v1_4), (2, .int v2_4)] [] (L_X11_ones_4 a0 k n v1_4 v2_4) := by
  have n1 : 1 < E.2.2 := by rw [hE]; decide
  have n2 : 2 < E.2.2 := by rw [hE]; decide
  intro n
  induction n with
  | zero =>
    intro _ _
    exact r_none
  | succ n ih =>
    intro v1_4 v2_4
    rw [L_X11_ones_4]
    refine r_iload_n B 2 dX11_ones_4 rfl rfl ?_
    refine r_bipush B (8 : Int32) dX11_ones_5 (by decide) ?_
    refine r_icmp_ge B 24 dX11_ones_7 (by decide) (fun _ => ?_) (fun _ => ?_)
    · refine r_sub [1] rfl ?_
      exact hk v1_4
    · refine r_iload_n B 1 dX11_ones_10 rfl rfl ?_
      refine r_iload_n B 0 dX11_ones_11 rfl rfl ?_
      refine r_iload_n B 2 dX11_ones_12 rfl rfl ?_
      refine r_ishr B dX11_ones_13 ?_
      refine r_iconst B (1 : Int32) dX11_ones_14 (by decide) ?_
      refine r_iand B dX11_ones_15 ?_
      refine r_iadd B dX11_ones_16 ?_
      refine r_istore_n (lv' := fun x1_17 => [(1, .int x1_17), (0, .int a0), (2, .int v2_4)]) B dX11_ones_17 rfl n1 (fun _ => rfl) (fun x1_17 => ?_)
      refine r_iinc (lv' := fun x2_18 => [(2, .int x2_18), (1, .int x1_17), (0, .int a0)]) B 2 (1 : Int32) dX11_ones_18 rfl (by decide) n2 (fun _ => rfl) (fun x2_18 => ?_)
      refine r_goto B 4 dX11_ones_21 (by decide) ?_
      refine r_sub [2, 1, 0] rfl ?_
      exact ih x1_17 x2_18
set_option maxRecDepth 100000 in
set_option maxHeartbeats 4000000 in
theorem x_X11_ones {E : zCx} {g : zGx} (B : zGood E (WM g) (zT g) cX11_ones RX11 wsX11_ones (some .int) rm_X11_ones) (hE : E.2.2 = 3) (S : zSt) (a0 : Int32) : Xo E (WM g) (eI S) S 0 [(0, .int a0)] [] (F_X11_ones a0) := by
  have n1 : 1 < E.2.2 := by rw [hE]; decide
  have n2 : 2 < E.2.2 := by rw [hE]; decide
  unfold F_X11_ones
  refine r_iconst B (0 : Int32) dX11_ones_0 (by decide) ?_
  refine r_istore_n (lv' := fun x1_1 => [(1, .int x1_1), (0, .int a0)]) B dX11_ones_1 rfl n1 (fun _ => rfl) (fun x1_1 => ?_)
  refine r_iconst B (0 : Int32) dX11_ones_2 (by decide) ?_
  refine r_istore_n (lv' := fun x2_3 => [(2, .int x2_3), (1, .int x1_1), (0, .int a0)]) B dX11_ones_3 rfl n2 (fun _ => rfl) (fun x2_3 => ?_)
  refine r_sub [2, 1, 0] rfl ?_
  refine xL_X11_ones_4 B hE S a0 _ ?_ 1000 x1_1 x2_3
  intro w1_4
  refine r_iload_n B 0 dX11_ones_24 rfl rfl ?_
  exact r_iret B dX11_ones_25 rfl
set_option maxRecDepth 20000 in
theorem k_X11_ones {l : Launch} {D : va_G} {g : zGx} (hz : zin (WM g)) {S : zSt} {a0 : Int32} {b : Int32} (h : F_X11_ones a0 = some b) : zMet l D (WM g) (zT g) yX11_ones wsX11_ones rm_X11_ones S [.int a0] ((eI S) b) := zmet_of (by decide +kernel) rfl hz (Nat.le_of_ble_eq_true rfl) rfl (fun E _ _ hE B => x_X11_ones B hE S a0) h
abbrev rm_X11_no : Room := { frames := 0, cells := 0, slots := 0, locals := 0 }
theorem y_X11_no : yX11_no.cls ≠ "java/lang/invoke/MethodHandle" ∧ yX11_no.cls ≠ "java/lang/invoke/VarHandle" ∧ (parseMethodDescriptor yX11_no.desc).map (fun d => d.parameters.length) = some 1 := by decide +kernel
theorem m_X11_no_c72 : Cond.constantLong RX11 72 (-9223372036854775808) ∈ wsX11_no := List.mem_cons_of_mem _ (List.mem_of_getElem? (i := 0) rfl)
set_option maxRecDepth 100000 in
set_option maxHeartbeats 4000000 in
theorem x_X11_no {E : zCx} {g : zGx} (B : zGood E (WM g) (zT g) cX11_no RX11 wsX11_no (some .long) rm_X11_no) (hE : E.2.2 = 1) (S : zSt) (a0 : Int32) : Xo E (WM g) (eL S) S 0 [(0, .int a0)] [] (F_X11_no a0) := by
  unfold F_X11_no
  refine r_ldc2 B (-9223372036854775808 : Int64) m_X11_no_c72 dX11_no_0 ?_
  refine r_iload_n B 0 dX11_no_3 rfl rfl ?_
  refine r_i2l B dX11_no_4 ?_
  refine r_lsub B dX11_no_5 ?_
  exact r_lret B dX11_no_6 rfl
set_option maxRecDepth 20000 in
theorem k_X11_no {l : Launch} {D : va_G} {g : zGx} (hz : zin (WM g)) {S : zSt} {a0 : Int32} {b : Int64} (h : F_X11_no a0 = some b) : zMet l D (WM g) (zT g) yX11_no wsX11_no rm_X11_no S [.int a0] ((eL S) b) := zmet_of (by decide +kernel) rfl hz (Nat.le_of_ble_eq_true rfl) rfl (fun E _ _ hE B => x_X11_no B hE S a0) h
abbrev rm_X11_lowest : Room := { frames := 0, cells := 0, slots := 0, locals := 0 }
theorem y_X11_lowest : yX11_lowest.cls ≠ "java/lang/invoke/MethodHandle" ∧ yX11_lowest.cls ≠ "java/lang/invoke/VarHandle" ∧ (parseMethodDescriptor yX11_lowest.desc).map (fun d => d.parameters.length) = some 3 := by decide +kernel
set_option maxRecDepth 100000 in
set_option maxHeartbeats 4000000 in
theorem xL_X11_lowest_6 {E : zCx} {g : zGx} (B : zGood E (WM g) (zT g) cX11_lowest RX11 wsX11_lowest (some .long) rm_X11_lowest) (hE : E.2.2 = 11) (S : zSt) (a0 : Int64) (a2 : Int64) (a4 : Int32) (k : Int64 → Option Int64) (hk : ∀ (w5 : Int64), Xo E (WM g) (eL S) S 31 [(0, .long a0), (2, .long a2), (4, .int a4), (5, .long w5)] [] (k w5)) : ∀ (n : Nat) (v5_6 : Int64) (v7_6 : Int64), Xo E (WM g) (eL S) S 6 [(0, .long a0), (2, .long a2), (4, .int a4), (5, .long v5_6), (7, .long v7_6)] [] (L_X11_lowest_6 a0 a2 a4 k n v5_6 v7_6) := by
  have nn5 : 5 + 1 < E.2.2 := by rw [hE]; decide
  have nn7 : 7 + 1 < E.2.2 := by rw [hE]; decide
  have nn9 : 9 + 1 < E.2.2 := by rw [hE]; decide
  intro n
  induction n with
  | zero =>
    intro _ _
    exact r_none
  | succ n ih =>
    intro v5_6 v7_6
    rw [L_X11_lowest_6]
    refine r_lload B 4 dX11_lowest_6 rfl ?_
    refine r_lconst B (0 : Int64) dX11_lowest_8 (by decide) ?_
    refine r_lcmp B dX11_lowest_9 ?_
    refine r_if_eq B 31 dX11_lowest_10 (by decide) (fun _ => ?_) (fun _ => ?_)
    · refine r_sub [0, 1, 2, 3] rfl ?_
      exact hk v5_6
    · refine r_lload B 3 dX11_lowest_13 rfl ?_
      refine r_lload B 4 dX11_lowest_15 rfl ?_
      refine r_lrem B dX11_lowest_17 (fun _ => ?_)
      refine r_lstore (lv' := fun x9_18 => [(9, .long x9_18), (0, .long a0), (2, .long a2), (4, .int a4), (5, .long v5_6), (7, .long v7_6)]) B dX11_lowest_18 nn9 (fun _ => rfl) (fun x9_18 => ?_)
      refine r_lload B 5 dX11_lowest_20 rfl ?_
      refine r_lstore (lv' := fun x5_22 => [(5, .long x5_22), (9, .long x9_18), (0, .long a0), (2, .long a2), (4, .int a4), (7, .long v7_6)]) B dX11_lowest_22 nn5 (fun _ => rfl) (fun x5_22 => ?_)
      refine r_lload B 1 dX11_lowest_24 rfl ?_
      refine r_lstore (lv' := fun x7_26 => [(7, .long x7_26), (5, .long x5_22), (9, .long x9_18), (0, .long a0), (2, .long a2), (4, .int a4)]) B dX11_lowest_26 nn7 (fun _ => rfl) (fun x7_26 => ?_)
      refine r_goto B 6 dX11_lowest_28 (by decide) ?_
      refine r_sub [3, 4, 5, 1, 0] rfl ?_
      exact ih x5_22 x7_26
set_option maxRecDepth 100000 in
set_option maxHeartbeats 4000000 in
theorem x_X11_lowest {E : zCx} {g : zGx} (B : zGood E (WM g) (zT g) cX11_lowest RX11 wsX11_lowest (some .long) rm_X11_lowest) (hE : E.2.2 = 11) (S : zSt) (a0 : Int64) (a2 : Int64) (a4 : Int32) : Xo E (WM g) (eL S) S 0 [(0, .long a0), (2, .long a2), (4, .int a4)] [] (F_X11_lowest a0 a2 a4) := by
  have nn5 : 5 + 1 < E.2.2 := by rw [hE]; decide
  have nn7 : 7 + 1 < E.2.2 := by rw [hE]; decide
  have nn9 : 9 + 1 < E.2.2 := by rw [hE]; decide
  unfold F_X11_lowest
  refine r_lload_n B 0 dX11_lowest_0 rfl rfl ?_
  refine r_lstore (lv' := fun x5_1 => [(5, .long x5_1), (0, .long a0), (2, .long a2), (4, .int a4)]) B dX11_lowest_1 nn5 (fun _ => rfl) (fun x5_1 => ?_)
  refine r_lload_n B 2 dX11_lowest_3 rfl rfl ?_
  refine r_lstore (lv' := fun x7_4 => [(7, .long x7_4), (5, .long x5_1), (0, .long a0), (2, .long a2), (4, .int a4)]) B dX11_lowest_4 nn7 (fun _ => rfl) (fun x7_4 => ?_)
  refine r_sub [2, 3, 4, 1, 0] rfl ?_
  refine xL_X11_lowest_6 B hE S a0 a2 a4 _ ?_ 1000 x5_1 x7_4
  intro w5_6
  refine r_iload B 2 dX11_lowest_31 rfl ?_
  refine r_if_ne B 43 dX11_lowest_33 (by decide) (fun _ => ?_) (fun _ => ?_)
  · refine r_lload_n B 1 dX11_lowest_43 rfl rfl ?_
    refine r_lload B 3 dX11_lowest_44 rfl ?_
    refine r_ldiv B dX11_lowest_46 (fun _ => ?_)
    exact r_lret B dX11_lowest_47 rfl
  · refine r_lload_n B 0 dX11_lowest_36 rfl rfl ?_
    refine r_lload B 3 dX11_lowest_37 rfl ?_
    refine r_ldiv B dX11_lowest_39 (fun _ => ?_)
    refine r_goto B 47 dX11_lowest_40 (by decide) ?_
    exact r_lret B dX11_lowest_47 rfl
set_option maxRecDepth 20000 in
theorem k_X11_lowest {l : Launch} {D : va_G} {g : zGx} (hz : zin (WM g)) {S : zSt} {a0 : Int64} {a2 : Int64} {a4 : Int32} {b : Int64} (h : F_X11_lowest a0 a2 a4 = some b) : zMet l D (WM g) (zT g) yX11_lowest wsX11_lowest rm_X11_lowest S [.long a0, .long a2, .int a4] ((eL S) b) := zmet_of (by decide +kernel) rfl hz (Nat.le_of_ble_eq_true rfl) rfl (fun E _ _ hE B => x_X11_lowest B hE S a0 a2 a4) h
abbrev rm_X11_way : Room := { frames := 0, cells := 0, slots := 0, locals := 0 }
theorem y_X11_way : yX11_way.cls ≠ "java/lang/invoke/MethodHandle" ∧ yX11_way.cls ≠ "java/lang/invoke/VarHandle" ∧ (parseMethodDescriptor yX11_way.desc).map (fun d => d.parameters.length) = some 4 := by decide +kernel
set_option maxRecDepth 100000 in
set_option maxHeartbeats 4000000 in
theorem xL_X11_way_17 {E : zCx} {g : zGx} (B : zGood E (WM g) (zT g) cX11_way RX11 wsX11_way (some .int) rm_X11_way) (hE : E.2.2 = 23) (S : zSt)  : ∀ (n : Nat) (v8_17 : Int64) (v10_17 : Int64) (v12_17 : Int64) (v14_17 : Int64) (v16_17 : Int32), Xo E (WM g) (eI S) S 17 [(8, .long v8_17), (10, .long v10_17), (12, .long v12_17), (14, .long v14_17), (16, .int v16_17)] [] (L_X11_way_17 n v8_17 v10_17 v12_17 v14_17 v16_17) := by
  have nn8 : 8 + 1 < E.2.2 := by rw [hE]; decide
  have nn10 : 10 + 1 < E.2.2 := by rw [hE]; decide
  have nn12 : 12 + 1 < E.2.2 := by rw [hE]; decide
  have nn14 : 14 + 1 < E.2.2 := by rw [hE]; decide
  have n16 : 16 < E.2.2 := by rw [hE]; decide
  have nn17 : 17 + 1 < E.2.2 := by rw [hE]; decide
  have nn19 : 19 + 1 < E.2.2 := by rw [hE]; decide
  have nn21 : 21 + 1 < E.2.2 := by rw [hE]; decide
  intro n
  induction n with
  | zero =>
    intro _ _ _ _ _
    exact r_none
  | succ n ih =>
    intro v8_17 v10_17 v12_17 v14_17 v16_17
    rw [L_X11_way_17]
    refine r_lload B 0 dX11_way_17 rfl ?_
    refine r_lload B 1 dX11_way_19 rfl ?_
    refine r_ldiv B dX11_way_21 (fun _ => ?_)
    refine r_lstore (lv' := fun x17_22 => [(17, .long x17_22), (8, .long v8_17), (10, .long v10_17), (12, .long v12_17), (14, .long v14_17), (16, .int v16_17)]) B dX11_way_22 nn17 (fun _ => rfl) (fun x17_22 => ?_)
    refine r_lload B 3 dX11_way_24 rfl ?_
    refine r_lload B 4 dX11_way_26 rfl ?_
    refine r_ldiv B dX11_way_28 (fun _ => ?_)
    refine r_lstore (lv' := fun x19_29 => [(19, .long x19_29), (17, .long x17_22), (8, .long v8_17), (10, .long v10_17), (12, .long v12_17), (14, .long v14_17), (16, .int v16_17)]) B dX11_way_29 nn19 (fun _ => rfl) (fun x19_29 => ?_)
    refine r_lload B 1 dX11_way_31 rfl ?_
    refine r_lload B 0 dX11_way_33 rfl ?_
    refine r_lcmp B dX11_way_35 ?_
    refine r_if_eq B 56 dX11_way_36 (by decide) (fun _ => ?_) (fun _ => ?_)
    · refine r_lload B 2 dX11_way_56 rfl ?_
      refine r_lload B 1 dX11_way_58 rfl ?_
      refine r_lload B 3 dX11_way_60 rfl ?_
      refine r_lmul B dX11_way_62 ?_
      refine r_lsub B dX11_way_63 ?_
      refine r_lstore (lv' := fun x8_64 => [(8, .long x8_64), (19, .long x19_29), (17, .long x17_22), (10, .long v10_17), (12, .long v12_17), (14, .long v14_17), (16, .int v16_17)]) B dX11_way_64 nn8 (fun _ => rfl) (fun x8_64 => ?_)
      refine r_lload B 4 dX11_way_66 rfl ?_
      refine r_lload B 1 dX11_way_68 rfl ?_
      refine r_lload B 5 dX11_way_70 rfl ?_
      refine r_lmul B dX11_way_72 ?_
      refine r_lsub B dX11_way_73 ?_
      refine r_lstore (lv' := fun x12_74 => [(12, .long x12_74), (8, .long x8_64), (19, .long x19_29), (17, .long x17_22), (10, .long v10_17), (14, .long v14_17), (16, .int v16_17)]) B dX11_way_74 nn12 (fun _ => rfl) (fun x12_74 => ?_)
      refine r_lload B 1 dX11_way_76 rfl ?_
      refine r_lconst B (0 : Int64) dX11_way_78 (by decide) ?_
      refine r_lcmp B dX11_way_79 ?_
      refine r_jn2 (P := fun j90 : Option Int32 => Xo E (WM g) (eI S) S 90 [(8, .long x8_64), (12, .long x12_74), (16, .int v16_17)] [] (j90)) ?_ (fun j90 hj90 => ?_)
      · refine r_lload B 0 dX11_way_90 rfl ?_
        refine r_lload B 1 dX11_way_92 rfl ?_
        refine r_lcmp B dX11_way_94 ?_
        refine r_if_ne B 102 dX11_way_95 (by decide) (fun _ => ?_) (fun _ => ?_)
        · refine r_lload B 0 dX11_way_102 rfl ?_
          refine r_lconst B (0 : Int64) dX11_way_104 (by decide) ?_
          refine r_lcmp B dX11_way_105 ?_
          refine r_if_le B 114 dX11_way_106 (by decide) (fun _ => ?_) (fun _ => ?_)
          · refine r_iload B 2 dX11_way_114 rfl ?_
            refine r_ineg B dX11_way_116 ?_
            exact r_iret B dX11_way_117 rfl
          · refine r_iload B 2 dX11_way_109 rfl ?_
            refine r_goto B 117 dX11_way_111 (by decide) ?_
            exact r_iret B dX11_way_117 rfl
        · refine r_iconst B (0 : Int32) dX11_way_98 (by decide) ?_
          refine r_goto B 117 dX11_way_99 (by decide) ?_
          exact r_iret B dX11_way_117 rfl
      refine r_if_eq B 90 dX11_way_80 (by decide) (fun _ => ?_) (fun _ => ?_)
      · refine r_sub [1, 0, 6] rfl ?_
        exact hj90
      · refine r_lload B 0 dX11_way_83 rfl ?_
        refine r_lconst B (0 : Int64) dX11_way_85 (by decide) ?_
        refine r_lcmp B dX11_way_86 ?_
        refine r_if_ne B 118 dX11_way_87 (by decide) (fun _ => ?_) (fun _ => ?_)
        · refine r_lload B 1 dX11_way_118 rfl ?_
          refine r_lstore (lv' := fun x21_120 => [(21, .long x21_120), (12, .long x12_74), (8, .long x8_64), (19, .long x19_29), (17, .long x17_22), (10, .long v10_17), (14, .long v14_17), (16, .int v16_17)]) B dX11_way_120 nn21 (fun _ => rfl) (fun x21_120 => ?_)
          refine r_lload B 5 dX11_way_122 rfl ?_
          refine r_lstore (lv' := fun x8_124 => [(8, .long x8_124), (21, .long x21_120), (12, .long x12_74), (19, .long x19_29), (17, .long x17_22), (10, .long v10_17), (14, .long v14_17), (16, .int v16_17)]) B dX11_way_124 nn8 (fun _ => rfl) (fun x8_124 => ?_)
          refine r_lload B 1 dX11_way_126 rfl ?_
          refine r_lstore (lv' := fun x10_128 => [(10, .long x10_128), (8, .long x8_124), (21, .long x21_120), (12, .long x12_74), (19, .long x19_29), (17, .long x17_22), (14, .long v14_17), (16, .int v16_17)]) B dX11_way_128 nn10 (fun _ => rfl) (fun x10_128 => ?_)
          refine r_lload B 3 dX11_way_130 rfl ?_
          refine r_lstore (lv' := fun x21_132 => [(21, .long x21_132), (10, .long x10_128), (8, .long x8_124), (12, .long x12_74), (19, .long x19_29), (17, .long x17_22), (14, .long v14_17), (16, .int v16_17)]) B dX11_way_132 nn21 (fun _ => rfl) (fun x21_132 => ?_)
          refine r_lload B 6 dX11_way_134 rfl ?_
          refine r_lstore (lv' := fun x12_136 => [(12, .long x12_136), (21, .long x21_132), (10, .long x10_128), (8, .long x8_124), (19, .long x19_29), (17, .long x17_22), (14, .long v14_17), (16, .int v16_17)]) B dX11_way_136 nn12 (fun _ => rfl) (fun x12_136 => ?_)
          refine r_lload B 1 dX11_way_138 rfl ?_
          refine r_lstore (lv' := fun x14_140 => [(14, .long x14_140), (12, .long x12_136), (21, .long x21_132), (10, .long x10_128), (8, .long x8_124), (19, .long x19_29), (17, .long x17_22), (16, .int v16_17)]) B dX11_way_140 nn14 (fun _ => rfl) (fun x14_140 => ?_)
          refine r_iload B 7 dX11_way_142 rfl ?_
          refine r_ineg B dX11_way_144 ?_
          refine r_istore (lv' := fun x16_145 => [(16, .int x16_145), (14, .long x14_140), (12, .long x12_136), (21, .long x21_132), (10, .long x10_128), (8, .long x8_124), (19, .long x19_29), (17, .long x17_22)]) B dX11_way_145 n16 (fun _ => rfl) (fun x16_145 => ?_)
          refine r_goto B 17 dX11_way_147 (by decide) ?_
          refine r_sub [5, 4, 2, 1, 0] rfl ?_
          exact ih x8_124 x10_128 x12_136 x14_140 x16_145
        · refine r_sub [1, 0, 6] rfl ?_
          exact hj90
    · refine r_lload B 1 dX11_way_39 rfl ?_
      refine r_lload B 0 dX11_way_41 rfl ?_
      refine r_lcmp B dX11_way_43 ?_
      refine r_if_le B 52 dX11_way_44 (by decide) (fun _ => ?_) (fun _ => ?_)
      · refine r_iload B 6 dX11_way_52 rfl ?_
        refine r_ineg B dX11_way_54 ?_
        exact r_iret B dX11_way_55 rfl
      · refine r_iload B 6 dX11_way_47 rfl ?_
        refine r_goto B 55 dX11_way_49 (by decide) ?_
        exact r_iret B dX11_way_55 rfl
set_option maxRecDepth 100000 in
set_option maxHeartbeats 4000000 in
theorem x_X11_way {E : zCx} {g : zGx} (B : zGood E (WM g) (zT g) cX11_way RX11 wsX11_way (some .int) rm_X11_way) (hE : E.2.2 = 23) (S : zSt) (a0 : Int64) (a2 : Int64) (a4 : Int64) (a6 : Int64) : Xo E (WM g) (eI S) S 0 [(0, .long a0), (2, .long a2), (4, .long a4), (6, .long a6)] [] (F_X11_way a0 a2 a4 a6) := by
  have nn8 : 8 + 1 < E.2.2 := by rw [hE]; decide
  have nn10 : 10 + 1 < E.2.2 := by rw [hE]; decide
  have nn12 : 12 + 1 < E.2.2 := by rw [hE]; decide
  have nn14 : 14 + 1 < E.2.2 := by rw [hE]; decide
  have n16 : 16 < E.2.2 := by rw [hE]; decide
  have nn17 : 17 + 1 < E.2.2 := by rw [hE]; decide
  have nn19 : 19 + 1 < E.2.2 := by rw [hE]; decide
  have nn21 : 21 + 1 < E.2.2 := by rw [hE]; decide
  unfold F_X11_way
  refine r_lload_n B 0 dX11_way_0 rfl rfl ?_
  refine r_lstore (lv' := fun x8_1 => [(8, .long x8_1), (0, .long a0), (2, .long a2), (4, .long a4), (6, .long a6)]) B dX11_way_1 nn8 (fun _ => rfl) (fun x8_1 => ?_)
  refine r_lload_n B 2 dX11_way_3 rfl rfl ?_
  refine r_lstore (lv' := fun x10_4 => [(10, .long x10_4), (8, .long x8_1), (0, .long a0), (2, .long a2), (4, .long a4), (6, .long a6)]) B dX11_way_4 nn10 (fun _ => rfl) (fun x10_4 => ?_)
  refine r_lload B 4 dX11_way_6 rfl ?_
  refine r_lstore (lv' := fun x12_8 => [(12, .long x12_8), (10, .long x10_4), (8, .long x8_1), (0, .long a0), (2, .long a2), (4, .long a4), (6, .long a6)]) B dX11_way_8 nn12 (fun _ => rfl) (fun x12_8 => ?_)
  refine r_lload B 6 dX11_way_10 rfl ?_
  refine r_lstore (lv' := fun x14_12 => [(14, .long x14_12), (12, .long x12_8), (10, .long x10_4), (8, .long x8_1), (0, .long a0), (2, .long a2), (4, .long a4), (6, .long a6)]) B dX11_way_12 nn14 (fun _ => rfl) (fun x14_12 => ?_)
  refine r_iconst B (1 : Int32) dX11_way_14 (by decide) ?_
  refine r_istore (lv' := fun x16_15 => [(16, .int x16_15), (14, .long x14_12), (12, .long x12_8), (10, .long x10_4), (8, .long x8_1), (0, .long a0), (2, .long a2), (4, .long a4), (6, .long a6)]) B dX11_way_15 n16 (fun _ => rfl) (fun x16_15 => ?_)
  refine r_sub [4, 3, 2, 1, 0] rfl ?_
  exact xL_X11_way_17 B hE S  1000 x8_1 x10_4 x12_8 x14_12 x16_15
set_option maxRecDepth 20000 in
theorem k_X11_way {l : Launch} {D : va_G} {g : zGx} (hz : zin (WM g)) {S : zSt} {a0 : Int64} {a2 : Int64} {a4 : Int64} {a6 : Int64} {b : Int32} (h : F_X11_way a0 a2 a4 a6 = some b) : zMet l D (WM g) (zT g) yX11_way wsX11_way rm_X11_way S [.long a0, .long a2, .long a4, .long a6] ((eI S) b) := zmet_of (by decide +kernel) rfl hz (Nat.le_of_ble_eq_true rfl) rfl (fun E _ _ hE B => x_X11_way B hE S a0 a2 a4 a6) h
abbrev rm_X11_type : Room := { frames := 1, cells := 0, slots := 0, locals := 22 }
theorem y_X11_type : yX11_type.cls = RX11 ∧ yX11_type.cls ≠ "java/lang/invoke/MethodHandle" ∧ yX11_type.cls ≠ "java/lang/invoke/VarHandle" ∧ (parseMethodDescriptor yX11_type.desc).map (fun d => d.parameters.length) = some 1 := by decide +kernel
theorem m_X11_type_f78 : Cond.fieldLink RX11 78 "LongestMetModel" "typed" "I" ∈ wsX11_type := List.mem_cons_of_mem _ (List.mem_append_left _ (List.mem_of_getElem? (i := 0) rfl))
theorem m_X11_type_inX11 : ∀ x ∈ u_ws RX11 TX11 27, x ∈ wsX11_type := fun _ h => List.mem_cons_of_mem _ (List.mem_append_right _ h)
theorem m_X11_type_f7 : Cond.fieldLink RX11 7 "LongestMetModel" "text" "[I" ∈ wsX11_type := List.mem_cons_of_mem _ (List.mem_append_left _ (List.mem_of_getElem? (i := 1) rfl))
set_option maxRecDepth 100000 in
set_option maxHeartbeats 4000000 in
theorem x_X11_type {E : zCx} {g : zGx} (B : zGood E (WM g) (zT g) cX11_type RX11 wsX11_type (some .int) rm_X11_type) (hE : E.2.2 = 2) (S : zSt) (a1 : Int32) : Xo E (WM g) eIw S 0 [(0, .ref (g.1 0)), (1, .int a1)] [] (F_X11_type S a1) := by
  unfold F_X11_type
  refine r_iload_n B 1 dX11_type_0 rfl rfl ?_
  refine r_iconst B (0 : Int32) dX11_type_1 (by decide) ?_
  refine r_sipush B (255 : Int32) dX11_type_2 (by decide) ?_
  refine r_cI (zrunS (As := [.int a1, .int (0 : Int32), .int (255 : Int32)]) (rest := []) B 3 (fun b hb => k_X11_in B.2.2.1 hb) gX11_type_X11_in rfl rfl rfl y_X11_in ⟨Nat.le_of_ble_eq_true rfl, Nat.le_of_ble_eq_true rfl⟩ rfl rfl (Nat.le_of_ble_eq_true rfl) dX11_type_5) (fun r5 => ?_)
  refine r_if_ne B 14 dX11_type_8 (by decide) (fun _ => ?_) (fun _ => ?_)
  · refine r_aload_n B 0 dX11_type_14 rfl rfl ?_
    refine r_get B 0 10 0 (Nat.le_of_ble_eq_true rfl) rfl (cM_0 g _) rfl m_X11_type_inX11 (Nat.le_of_ble_eq_true rfl) m_X11_type_f78 rfl dX11_type_15 ?_
    refine r_bipush B (40 : Int32) dX11_type_18 (by decide) ?_
    refine r_icmp_ne B 26 dX11_type_20 (by decide) (fun _ => ?_) (fun _ => ?_)
    · refine r_aload_n B 0 dX11_type_26 rfl rfl ?_
      refine r_get B 0 10 1 (Nat.le_of_ble_eq_true rfl) rfl (cM_0 g _) rfl m_X11_type_inX11 (Nat.le_of_ble_eq_true rfl) m_X11_type_f7 rfl dX11_type_27 ?_
      refine r_aload_n B 0 dX11_type_30 rfl rfl ?_
      refine r_get B 0 10 0 (Nat.le_of_ble_eq_true rfl) rfl (cM_0 g _) rfl m_X11_type_inX11 (Nat.le_of_ble_eq_true rfl) m_X11_type_f78 rfl dX11_type_31 ?_
      refine r_iload_n B 1 dX11_type_34 rfl rfl ?_
      refine r_iast B 1 0 (Nat.le_of_ble_eq_true rfl) rfl (cM_1 g _) rfl (uM_1 g _ _) dX11_type_35 (fun S35 => ?_)
      refine r_aload_n B 0 dX11_type_36 rfl rfl ?_
      refine r_dup B rfl dX11_type_37 ?_
      refine r_get B 0 10 0 (Nat.le_of_ble_eq_true rfl) rfl (cM_0 g _) rfl m_X11_type_inX11 (Nat.le_of_ble_eq_true rfl) m_X11_type_f78 rfl dX11_type_38 ?_
      refine r_iconst B (1 : Int32) dX11_type_41 (by decide) ?_
      refine r_iadd B dX11_type_42 ?_
      refine r_put (ty := .int) B 0 10 0 tyX11 tyX11_ok nmX11 (Nat.le_of_ble_eq_true rfl) rfl (cM_0 g _) rfl m_X11_type_inX11 (Nat.le_of_ble_eq_true rfl) m_X11_type_f78 rfl (by decide +kernel) rfl rfl (Nat.le_of_ble_eq_true rfl) (pM_0_0 g _ _) dX11_type_43 (fun S43 => ?_)
      refine r_aload_n B 0 dX11_type_46 rfl rfl ?_
      refine r_get B 0 10 0 (Nat.le_of_ble_eq_true rfl) rfl (cM_0 g _) rfl m_X11_type_inX11 (Nat.le_of_ble_eq_true rfl) m_X11_type_f78 rfl dX11_type_47 ?_
      exact r_iret B dX11_type_50 rfl
    · refine r_bipush B (-4 : Int32) dX11_type_23 (by decide) ?_
      exact r_iret B dX11_type_25 rfl
  · refine r_bipush B (-2 : Int32) dX11_type_11 (by decide) ?_
    exact r_iret B dX11_type_13 rfl
set_option maxRecDepth 20000 in
theorem k_X11_type {l : Launch} {D : va_G} {g : zGx} (hz : zin (WM g)) {S : zSt} {a1 : Int32} {b : (Int32 × zSt)} (h : F_X11_type S a1 = some b) : zMet l D (WM g) (zT g) yX11_type wsX11_type rm_X11_type S [.ref (g.1 0), .int a1] (eIw b) := zmet_of (by decide +kernel) rfl hz (Nat.le_of_ble_eq_true rfl) rfl (fun E _ _ hE B => x_X11_type B hE S a1) h
abbrev rm_X11_wipe : Room := { frames := 0, cells := 0, slots := 0, locals := 0 }
theorem y_X11_wipe : yX11_wipe.cls = RX11 ∧ yX11_wipe.cls ≠ "java/lang/invoke/MethodHandle" ∧ yX11_wipe.cls ≠ "java/lang/invoke/VarHandle" ∧ (parseMethodDescriptor yX11_wipe.desc).map (fun d => d.parameters.length) = some 0 := by decide +kernel
theorem m_X11_wipe_f78 : Cond.fieldLink RX11 78 "LongestMetModel" "typed" "I" ∈ wsX11_wipe := List.mem_cons_of_mem _ (List.mem_append_left _ (List.mem_of_getElem? (i := 0) rfl))
theorem m_X11_wipe_inX11 : ∀ x ∈ u_ws RX11 TX11 27, x ∈ wsX11_wipe := fun _ h => List.mem_cons_of_mem _ (List.mem_append_right _ h)
set_option maxRecDepth 100000 in
set_option maxHeartbeats 4000000 in
theorem x_X11_wipe {E : zCx} {g : zGx} (B : zGood E (WM g) (zT g) cX11_wipe RX11 wsX11_wipe (some .int) rm_X11_wipe) (hE : E.2.2 = 2) (S : zSt) : Xo E (WM g) eIw S 0 [(0, .ref (g.1 0))] [] (F_X11_wipe S) := by
  have n1 : 1 < E.2.2 := by rw [hE]; decide
  unfold F_X11_wipe
  refine r_aload_n B 0 dX11_wipe_0 rfl rfl ?_
  refine r_get B 0 10 0 (Nat.le_of_ble_eq_true rfl) rfl (cM_0 g _) rfl m_X11_wipe_inX11 (Nat.le_of_ble_eq_true rfl) m_X11_wipe_f78 rfl dX11_wipe_1 ?_
  refine r_istore_n (lv' := fun x1_4 => [(1, .int x1_4), (0, .ref (g.1 0))]) B dX11_wipe_4 rfl n1 (fun _ => rfl) (fun x1_4 => ?_)
  refine r_aload_n B 1 dX11_wipe_5 rfl rfl ?_
  refine r_iconst B (0 : Int32) dX11_wipe_6 (by decide) ?_
  refine r_put (ty := .int) B 0 10 0 tyX11 tyX11_ok nmX11 (Nat.le_of_ble_eq_true rfl) rfl (cM_0 g _) rfl m_X11_wipe_inX11 (Nat.le_of_ble_eq_true rfl) m_X11_wipe_f78 rfl (by decide +kernel) rfl rfl (Nat.le_of_ble_eq_true rfl) (pM_0_0 g _ _) dX11_wipe_7 (fun S7 => ?_)
  refine r_iload_n B 0 dX11_wipe_10 rfl rfl ?_
  exact r_iret B dX11_wipe_11 rfl
set_option maxRecDepth 20000 in
theorem k_X11_wipe {l : Launch} {D : va_G} {g : zGx} (hz : zin (WM g)) {S : zSt} {b : (Int32 × zSt)} (h : F_X11_wipe S = some b) : zMet l D (WM g) (zT g) yX11_wipe wsX11_wipe rm_X11_wipe S [.ref (g.1 0)] (eIw b) := zmet_of (by decide +kernel) rfl hz (Nat.le_of_ble_eq_true rfl) rfl (fun E _ _ hE B => x_X11_wipe B hE S) h
abbrev rm_X11_byteAt : Room := { frames := 0, cells := 0, slots := 0, locals := 0 }
theorem y_X11_byteAt : yX11_byteAt.cls = RX11 ∧ yX11_byteAt.cls ≠ "java/lang/invoke/MethodHandle" ∧ yX11_byteAt.cls ≠ "java/lang/invoke/VarHandle" ∧ (parseMethodDescriptor yX11_byteAt.desc).map (fun d => d.parameters.length) = some 1 := by decide +kernel
theorem m_X11_byteAt_f78 : Cond.fieldLink RX11 78 "LongestMetModel" "typed" "I" ∈ wsX11_byteAt := List.mem_cons_of_mem _ (List.mem_append_left _ (List.mem_of_getElem? (i := 0) rfl))
theorem m_X11_byteAt_inX11 : ∀ x ∈ u_ws RX11 TX11 27, x ∈ wsX11_byteAt := fun _ h => List.mem_cons_of_mem _ (List.mem_append_right _ h)
theorem m_X11_byteAt_f7 : Cond.fieldLink RX11 7 "LongestMetModel" "text" "[I" ∈ wsX11_byteAt := List.mem_cons_of_mem _ (List.mem_append_left _ (List.mem_of_getElem? (i := 1) rfl))
set_option maxRecDepth 100000 in
set_option maxHeartbeats 4000000 in
theorem x_X11_byteAt {E : zCx} {g : zGx} (B : zGood E (WM g) (zT g) cX11_byteAt RX11 wsX11_byteAt (some .int) rm_X11_byteAt) (hE : E.2.2 = 2) (S : zSt) (a1 : Int32) : Xo E (WM g) (eI S) S 0 [(0, .ref (g.1 0)), (1, .int a1)] [] (F_X11_byteAt S a1) := by
  unfold F_X11_byteAt
  refine r_iload_n B 1 dX11_byteAt_0 rfl rfl ?_
  refine r_aload_n B 0 dX11_byteAt_1 rfl rfl ?_
  refine r_get B 0 10 0 (Nat.le_of_ble_eq_true rfl) rfl (cM_0 g _) rfl m_X11_byteAt_inX11 (Nat.le_of_ble_eq_true rfl) m_X11_byteAt_f78 rfl dX11_byteAt_2 ?_
  refine r_icmp_ge B 17 dX11_byteAt_5 (by decide) (fun _ => ?_) (fun _ => ?_)
  · refine r_iconst B (-1 : Int32) dX11_byteAt_17 (by decide) ?_
    exact r_iret B dX11_byteAt_18 rfl
  · refine r_aload_n B 0 dX11_byteAt_8 rfl rfl ?_
    refine r_get B 0 10 1 (Nat.le_of_ble_eq_true rfl) rfl (cM_0 g _) rfl m_X11_byteAt_inX11 (Nat.le_of_ble_eq_true rfl) m_X11_byteAt_f7 rfl dX11_byteAt_9 ?_
    refine r_iload_n B 1 dX11_byteAt_12 rfl rfl ?_
    refine r_iald B 1 0 (Nat.le_of_ble_eq_true rfl) rfl (cM_1 g _) rfl dX11_byteAt_13 ?_
    refine r_goto B 18 dX11_byteAt_14 (by decide) ?_
    exact r_iret B dX11_byteAt_18 rfl
set_option maxRecDepth 20000 in
theorem k_X11_byteAt {l : Launch} {D : va_G} {g : zGx} (hz : zin (WM g)) {S : zSt} {a1 : Int32} {b : Int32} (h : F_X11_byteAt S a1 = some b) : zMet l D (WM g) (zT g) yX11_byteAt wsX11_byteAt rm_X11_byteAt S [.ref (g.1 0), .int a1] ((eI S) b) := zmet_of (by decide +kernel) rfl hz (Nat.le_of_ble_eq_true rfl) rfl (fun E _ _ hE B => x_X11_byteAt B hE S a1) h
abbrev rm_X11_number : Room := { frames := 1, cells := 0, slots := 0, locals := 22 }
theorem y_X11_number : yX11_number.cls = RX11 ∧ yX11_number.cls ≠ "java/lang/invoke/MethodHandle" ∧ yX11_number.cls ≠ "java/lang/invoke/VarHandle" ∧ (parseMethodDescriptor yX11_number.desc).map (fun d => d.parameters.length) = some 1 := by decide +kernel
theorem m_X11_number_f81 : Cond.fieldLink RX11 81 "LongestMetModel" "at" "I" ∈ wsX11_number := List.mem_cons_of_mem _ (List.mem_append_left _ (List.mem_of_getElem? (i := 0) rfl))
theorem m_X11_number_inX11 : ∀ x ∈ u_ws RX11 TX11 27, x ∈ wsX11_number := fun _ h => List.mem_cons_of_mem _ (List.mem_append_right _ h)
set_option maxRecDepth 100000 in
set_option maxHeartbeats 4000000 in
theorem xL_X11_number_7 {E : zCx} {g : zGx} (B : zGood E (WM g) (zT g) cX11_number RX11 wsX11_number (some .int) rm_X11_number) (hE : E.2.2 = 4) (a1 : Int32) (x2_4 : Int32) (k : zSt → Int32 → Option (Int32 × zSt)) (hk : ∀ (S7x : zSt) (w3 : Int32), Xo E (WM g) eIw S7x 73 [(0, .ref (g.1 0)), (1, .int a1), (2, .int x2_4), (3, .int w3)] [] (k S7x w3)) : ∀ (n : Nat) (S7 : zSt) (v3_7 : Int32), Xo E (WM g) eIw S7 7 [(0, .ref (g.1 0)), (1, .int a1), (2, .int x2_4), (3, .int v3_7)] [] (L_X11_number_7 a1 x2_4 k n S7 v3_7) := by
  have n2 : 2 < E.2.2 := by rw [hE]; decide
  have n3 : 3 < E.2.2 := by rw [hE]; decide
  intro n
  induction n with
  | zero =>
    intro _ _
    exact r_none
  | succ n ih =>
    intro S7 v3_7
    rw [L_X11_number_7]
    refine r_aload_n B 0 dX11_number_7 rfl rfl ?_
    refine r_get B 0 10 4 (Nat.le_of_ble_eq_true rfl) rfl (cM_0 g _) rfl m_X11_number_inX11 (Nat.le_of_ble_eq_true rfl) m_X11_number_f81 rfl dX11_number_8 ?_
    refine r_iload_n B 2 dX11_number_11 rfl rfl ?_
    refine r_iconst B (2 : Int32) dX11_number_12 (by decide) ?_
    refine r_iadd B dX11_number_13 ?_
    refine r_icmp_ge B 73 dX11_number_14 (by decide) (fun _ => ?_) (fun _ => ?_)
    · refine r_sub [0, 1, 2, 3] rfl ?_
      exact hk S7 v3_7
    · refine r_aload_n B 0 dX11_number_17 rfl rfl ?_
      refine r_aload_n B 0 dX11_number_18 rfl rfl ?_
      refine r_get B 0 10 4 (Nat.le_of_ble_eq_true rfl) rfl (cM_0 g _) rfl m_X11_number_inX11 (Nat.le_of_ble_eq_true rfl) m_X11_number_f81 rfl dX11_number_19 ?_
      refine r_cI (zrunV (As := [.int (zI S7 1)]) (rest := []) B 1 0 (fun b hb => k_X11_byteAt B.2.2.1 hb) gX11_number_X11_byteAt rfl rfl rfl y_X11_byteAt ⟨Nat.le_of_ble_eq_true rfl, Nat.le_of_ble_eq_true rfl⟩ (Nat.le_of_ble_eq_true rfl) rfl (cM_0 g _) rfl rfl rfl (Nat.le_of_ble_eq_true rfl) dX11_number_22) (fun r22 => ?_)
      refine r_bipush B (48 : Int32) dX11_number_25 (by decide) ?_
      refine r_icmp_lt B 73 dX11_number_27 (by decide) (fun _ => ?_) (fun _ => ?_)
      · refine r_sub [0, 1, 2, 3] rfl ?_
        exact hk S7 v3_7
      · refine r_aload_n B 0 dX11_number_30 rfl rfl ?_
        refine r_aload_n B 0 dX11_number_31 rfl rfl ?_
        refine r_get B 0 10 4 (Nat.le_of_ble_eq_true rfl) rfl (cM_0 g _) rfl m_X11_number_inX11 (Nat.le_of_ble_eq_true rfl) m_X11_number_f81 rfl dX11_number_32 ?_
        refine r_cI (zrunV (As := [.int (zI S7 1)]) (rest := []) B 1 0 (fun b hb => k_X11_byteAt B.2.2.1 hb) gX11_number_X11_byteAt rfl rfl rfl y_X11_byteAt ⟨Nat.le_of_ble_eq_true rfl, Nat.le_of_ble_eq_true rfl⟩ (Nat.le_of_ble_eq_true rfl) rfl (cM_0 g _) rfl rfl rfl (Nat.le_of_ble_eq_true rfl) dX11_number_35) (fun r35 => ?_)
        refine r_bipush B (57 : Int32) dX11_number_38 (by decide) ?_
        refine r_icmp_gt B 73 dX11_number_40 (by decide) (fun _ => ?_) (fun _ => ?_)
        · refine r_sub [0, 1, 2, 3] rfl ?_
          exact hk S7 v3_7
        · refine r_bipush B (10 : Int32) dX11_number_43 (by decide) ?_
          refine r_iload_n B 3 dX11_number_45 rfl rfl ?_
          refine r_imul B dX11_number_46 ?_
          refine r_aload_n B 0 dX11_number_47 rfl rfl ?_
          refine r_aload_n B 0 dX11_number_48 rfl rfl ?_
          refine r_get B 0 10 4 (Nat.le_of_ble_eq_true rfl) rfl (cM_0 g _) rfl m_X11_number_inX11 (Nat.le_of_ble_eq_true rfl) m_X11_number_f81 rfl dX11_number_49 ?_
          refine r_cI (zrunV (As := [.int (zI S7 1)]) (rest := [.int ((10 : Int32) * v3_7)]) B 1 0 (fun b hb => k_X11_byteAt B.2.2.1 hb) gX11_number_X11_byteAt rfl rfl rfl y_X11_byteAt ⟨Nat.le_of_ble_eq_true rfl, Nat.le_of_ble_eq_true rfl⟩ (Nat.le_of_ble_eq_true rfl) rfl (cM_0 g _) rfl rfl rfl (Nat.le_of_ble_eq_true rfl) dX11_number_52) (fun r52 => ?_)
          refine r_iadd B dX11_number_55 ?_
          refine r_bipush B (48 : Int32) dX11_number_56 (by decide) ?_
          refine r_isub B dX11_number_58 ?_
          refine r_istore_n (lv' := fun x3_59 => [(3, .int x3_59), (0, .ref (g.1 0)), (1, .int a1), (2, .int x2_4)]) B dX11_number_59 rfl n3 (fun _ => rfl) (fun x3_59 => ?_)
          refine r_aload_n B 1 dX11_number_60 rfl rfl ?_
          refine r_dup B rfl dX11_number_61 ?_
          refine r_get B 0 10 4 (Nat.le_of_ble_eq_true rfl) rfl (cM_0 g _) rfl m_X11_number_inX11 (Nat.le_of_ble_eq_true rfl) m_X11_number_f81 rfl dX11_number_62 ?_
          refine r_iconst B (1 : Int32) dX11_number_65 (by decide) ?_
          refine r_iadd B dX11_number_66 ?_
          refine r_put (ty := .int) B 0 10 4 tyX11 tyX11_ok nmX11 (Nat.le_of_ble_eq_true rfl) rfl (cM_0 g _) rfl m_X11_number_inX11 (Nat.le_of_ble_eq_true rfl) m_X11_number_f81 rfl (by decide +kernel) rfl rfl (Nat.le_of_ble_eq_true rfl) (pM_0_4 g _ _) dX11_number_67 (fun S67 => ?_)
          refine r_goto B 7 dX11_number_70 (by decide) ?_
          refine r_sub [1, 2, 3, 0] rfl ?_
          exact ih S67 x3_59
set_option maxRecDepth 100000 in
set_option maxHeartbeats 4000000 in
theorem x_X11_number {E : zCx} {g : zGx} (B : zGood E (WM g) (zT g) cX11_number RX11 wsX11_number (some .int) rm_X11_number) (hE : E.2.2 = 4) (S : zSt) (a1 : Int32) : Xo E (WM g) eIw S 0 [(0, .ref (g.1 0)), (1, .int a1)] [] (F_X11_number S a1) := by
  have n2 : 2 < E.2.2 := by rw [hE]; decide
  have n3 : 3 < E.2.2 := by rw [hE]; decide
  unfold F_X11_number
  refine r_aload_n B 0 dX11_number_0 rfl rfl ?_
  refine r_get B 0 10 4 (Nat.le_of_ble_eq_true rfl) rfl (cM_0 g _) rfl m_X11_number_inX11 (Nat.le_of_ble_eq_true rfl) m_X11_number_f81 rfl dX11_number_1 ?_
  refine r_istore_n (lv' := fun x2_4 => [(2, .int x2_4), (0, .ref (g.1 0)), (1, .int a1)]) B dX11_number_4 rfl n2 (fun _ => rfl) (fun x2_4 => ?_)
  refine r_iconst B (0 : Int32) dX11_number_5 (by decide) ?_
  refine r_istore_n (lv' := fun x3_6 => [(3, .int x3_6), (2, .int x2_4), (0, .ref (g.1 0)), (1, .int a1)]) B dX11_number_6 rfl n3 (fun _ => rfl) (fun x3_6 => ?_)
  refine r_sub [2, 3, 1, 0] rfl ?_
  refine xL_X11_number_7 B hE a1 x2_4 _ ?_ 1000 S x3_6
  intro S7x_7 w3_7
  refine r_aload_n B 0 dX11_number_73 rfl rfl ?_
  refine r_get B 0 10 4 (Nat.le_of_ble_eq_true rfl) rfl (cM_0 g _) rfl m_X11_number_inX11 (Nat.le_of_ble_eq_true rfl) m_X11_number_f81 rfl dX11_number_74 ?_
  refine r_iload_n B 2 dX11_number_77 rfl rfl ?_
  refine r_icmp_eq B 91 dX11_number_78 (by decide) (fun _ => ?_) (fun _ => ?_)
  · refine r_aload_n B 0 dX11_number_91 rfl rfl ?_
    refine r_iload_n B 2 dX11_number_92 rfl rfl ?_
    refine r_put (ty := .int) B 0 10 4 tyX11 tyX11_ok nmX11 (Nat.le_of_ble_eq_true rfl) rfl (cM_0 g _) rfl m_X11_number_inX11 (Nat.le_of_ble_eq_true rfl) m_X11_number_f81 rfl (by decide +kernel) rfl rfl (Nat.le_of_ble_eq_true rfl) (pM_0_4 g _ _) dX11_number_93 (fun S93 => ?_)
    refine r_iconst B (-1 : Int32) dX11_number_96 (by decide) ?_
    exact r_iret B dX11_number_97 rfl
  · refine r_iload_n B 3 dX11_number_81 rfl rfl ?_
    refine r_iload_n B 1 dX11_number_82 rfl rfl ?_
    refine r_bipush B (59 : Int32) dX11_number_83 (by decide) ?_
    refine r_cI (zrunS (As := [.int w3_7, .int a1, .int (59 : Int32)]) (rest := []) B 3 (fun b hb => k_X11_in B.2.2.1 hb) gX11_number_X11_in rfl rfl rfl y_X11_in ⟨Nat.le_of_ble_eq_true rfl, Nat.le_of_ble_eq_true rfl⟩ rfl rfl (Nat.le_of_ble_eq_true rfl) dX11_number_85) (fun r85 => ?_)
    refine r_if_ne B 98 dX11_number_88 (by decide) (fun _ => ?_) (fun _ => ?_)
    · refine r_iload_n B 3 dX11_number_98 rfl rfl ?_
      exact r_iret B dX11_number_99 rfl
    · refine r_aload_n B 0 dX11_number_91 rfl rfl ?_
      refine r_iload_n B 2 dX11_number_92 rfl rfl ?_
      refine r_put (ty := .int) B 0 10 4 tyX11 tyX11_ok nmX11 (Nat.le_of_ble_eq_true rfl) rfl (cM_0 g _) rfl m_X11_number_inX11 (Nat.le_of_ble_eq_true rfl) m_X11_number_f81 rfl (by decide +kernel) rfl rfl (Nat.le_of_ble_eq_true rfl) (pM_0_4 g _ _) dX11_number_93 (fun S93 => ?_)
      refine r_iconst B (-1 : Int32) dX11_number_96 (by decide) ?_
      exact r_iret B dX11_number_97 rfl
set_option maxRecDepth 20000 in
theorem k_X11_number {l : Launch} {D : va_G} {g : zGx} (hz : zin (WM g)) {S : zSt} {a1 : Int32} {b : (Int32 × zSt)} (h : F_X11_number S a1 = some b) : zMet l D (WM g) (zT g) yX11_number wsX11_number rm_X11_number S [.ref (g.1 0), .int a1] (eIw b) := zmet_of (by decide +kernel) rfl hz (Nat.le_of_ble_eq_true rfl) rfl (fun E _ _ hE B => x_X11_number B hE S a1) h
abbrev rm_X11_faultNow : Room := { frames := 2, cells := 0, slots := 0, locals := 45 }
theorem y_X11_faultNow : yX11_faultNow.cls = RX11 ∧ yX11_faultNow.cls ≠ "java/lang/invoke/MethodHandle" ∧ yX11_faultNow.cls ≠ "java/lang/invoke/VarHandle" ∧ (parseMethodDescriptor yX11_faultNow.desc).map (fun d => d.parameters.length) = some 0 := by decide +kernel
theorem m_X11_faultNow_f13 : Cond.fieldLink RX11 13 "LongestMetModel" "said60" "[I" ∈ wsX11_faultNow := List.mem_cons_of_mem _ (List.mem_append_left _ (List.mem_of_getElem? (i := 0) rfl))
theorem m_X11_faultNow_inX11 : ∀ x ∈ u_ws RX11 TX11 27, x ∈ wsX11_faultNow := fun _ h => List.mem_cons_of_mem _ (List.mem_append_right _ h)
theorem m_X11_faultNow_f81 : Cond.fieldLink RX11 81 "LongestMetModel" "at" "I" ∈ wsX11_faultNow := List.mem_cons_of_mem _ (List.mem_append_left _ (List.mem_of_getElem? (i := 1) rfl))
theorem m_X11_faultNow_f78 : Cond.fieldLink RX11 78 "LongestMetModel" "typed" "I" ∈ wsX11_faultNow := List.mem_cons_of_mem _ (List.mem_append_left _ (List.mem_of_getElem? (i := 2) rfl))
set_option maxRecDepth 100000 in
set_option maxHeartbeats 4000000 in
theorem xL_X11_faultNow_2 {E : zCx} {g : zGx} (B : zGood E (WM g) (zT g) cX11_faultNow RX11 wsX11_faultNow (some .int) rm_X11_faultNow) (hE : E.2.2 = 4)  (k : zSt → Option (Int32 × zSt)) (hk : ∀ (S2x : zSt), Xo E (WM g) eIw S2x 21 [(0, .ref (g.1 0))] [] (k S2x)) : ∀ (n : Nat) (S2 : zSt) (v1_2 : Int32), Xo E (WM g) eIw S2 2 [(0, .ref (g.1 0)), (1, .int v1_2)] [] (L_X11_faultNow_2 k n S2 v1_2) := by
  have n1 : 1 < E.2.2 := by rw [hE]; decide
  have n2 : 2 < E.2.2 := by rw [hE]; decide
  have n3 : 3 < E.2.2 := by rw [hE]; decide
  intro n
  induction n with
  | zero =>
    intro _ _
    exact r_none
  | succ n ih =>
    intro S2 v1_2
    rw [L_X11_faultNow_2]
    refine r_iload_n B 1 dX11_faultNow_2 rfl rfl ?_
    refine r_bipush B (60 : Int32) dX11_faultNow_3 (by decide) ?_
    refine r_icmp_ge B 21 dX11_faultNow_5 (by decide) (fun _ => ?_) (fun _ => ?_)
    · refine r_sub [0] rfl ?_
      exact hk S2
    · refine r_aload_n B 0 dX11_faultNow_8 rfl rfl ?_
      refine r_get B 0 10 2 (Nat.le_of_ble_eq_true rfl) rfl (cM_0 g _) rfl m_X11_faultNow_inX11 (Nat.le_of_ble_eq_true rfl) m_X11_faultNow_f13 rfl dX11_faultNow_9 ?_
      refine r_iload_n B 1 dX11_faultNow_12 rfl rfl ?_
      refine r_iconst B (0 : Int32) dX11_faultNow_13 (by decide) ?_
      refine r_iast B 2 0 (Nat.le_of_ble_eq_true rfl) rfl (cM_2 g _) rfl (uM_2 g _ _) dX11_faultNow_14 (fun S14 => ?_)
      refine r_iinc (lv' := fun x1_15 => [(1, .int x1_15), (0, .ref (g.1 0))]) B 1 (1 : Int32) dX11_faultNow_15 rfl (by decide) n1 (fun _ => rfl) (fun x1_15 => ?_)
      refine r_goto B 2 dX11_faultNow_18 (by decide) ?_
      refine r_sub [1, 0] rfl ?_
      exact ih S14 x1_15
set_option maxRecDepth 100000 in
set_option maxHeartbeats 4000000 in
theorem xL_X11_faultNow_86 {E : zCx} {g : zGx} (B : zGood E (WM g) (zT g) cX11_faultNow RX11 wsX11_faultNow (some .int) rm_X11_faultNow) (hE : E.2.2 = 4) (x2_84 : Int32) (k : zSt → Option (Int32 × zSt)) (hk : ∀ (S86x : zSt), Xo E (WM g) eIw S86x 106 [(0, .ref (g.1 0))] [] (k S86x)) : ∀ (n : Nat) (S86 : zSt) (v3_86 : Int32), Xo E (WM g) eIw S86 86 [(0, .ref (g.1 0)), (2, .int x2_84), (3, .int v3_86)] [] (L_X11_faultNow_86 x2_84 k n S86 v3_86) := by
  have n1 : 1 < E.2.2 := by rw [hE]; decide
  have n2 : 2 < E.2.2 := by rw [hE]; decide
  have n3 : 3 < E.2.2 := by rw [hE]; decide
  intro n
  induction n with
  | zero =>
    intro _ _
    exact r_none
  | succ n ih =>
    intro S86 v3_86
    rw [L_X11_faultNow_86]
    refine r_iload_n B 2 dX11_faultNow_86 rfl rfl ?_
    refine r_bipush B (60 : Int32) dX11_faultNow_87 (by decide) ?_
    refine r_icmp_ge B 106 dX11_faultNow_89 (by decide) (fun _ => ?_) (fun _ => ?_)
    · refine r_sub [0] rfl ?_
      exact hk S86
    · refine r_aload_n B 0 dX11_faultNow_92 rfl rfl ?_
      refine r_get B 0 10 2 (Nat.le_of_ble_eq_true rfl) rfl (cM_0 g _) rfl m_X11_faultNow_inX11 (Nat.le_of_ble_eq_true rfl) m_X11_faultNow_f13 rfl dX11_faultNow_93 ?_
      refine r_iload_n B 2 dX11_faultNow_96 rfl rfl ?_
      refine r_iconst B (1 : Int32) dX11_faultNow_97 (by decide) ?_
      refine r_iast B 2 0 (Nat.le_of_ble_eq_true rfl) rfl (cM_2 g _) rfl (uM_2 g _ _) dX11_faultNow_98 (fun S98 => ?_)
      refine r_iload_n B 2 dX11_faultNow_99 rfl rfl ?_
      refine r_iload_n B 1 dX11_faultNow_100 rfl rfl ?_
      refine r_iadd B dX11_faultNow_101 ?_
      refine r_istore_n (lv' := fun x3_102 => [(3, .int x3_102), (0, .ref (g.1 0)), (2, .int x2_84)]) B dX11_faultNow_102 rfl n3 (fun _ => rfl) (fun x3_102 => ?_)
      refine r_goto B 86 dX11_faultNow_103 (by decide) ?_
      refine r_sub [1, 2, 0] rfl ?_
      exact ih S98 x3_102
set_option maxRecDepth 100000 in
set_option maxHeartbeats 4000000 in
theorem xL_X11_faultNow_26 {E : zCx} {g : zGx} (B : zGood E (WM g) (zT g) cX11_faultNow RX11 wsX11_faultNow (some .int) rm_X11_faultNow) (hE : E.2.2 = 4)  : ∀ (n : Nat) (S26 : zSt), Xo E (WM g) eIw S26 26 [(0, .ref (g.1 0))] [] (L_X11_faultNow_26 n S26) := by
  have n1 : 1 < E.2.2 := by rw [hE]; decide
  have n2 : 2 < E.2.2 := by rw [hE]; decide
  have n3 : 3 < E.2.2 := by rw [hE]; decide
  intro n
  induction n with
  | zero =>
    intro _
    exact r_none
  | succ n ih =>
    intro S26
    rw [L_X11_faultNow_26]
    refine r_aload_n B 0 dX11_faultNow_26 rfl rfl ?_
    refine r_iconst B (0 : Int32) dX11_faultNow_27 (by decide) ?_
    refine r_cIw (zrunV (As := [.int (0 : Int32)]) (rest := []) B 1 0 (fun b hb => k_X11_number B.2.2.1 hb) gX11_faultNow_X11_number rfl rfl rfl y_X11_number ⟨Nat.le_of_ble_eq_true rfl, Nat.le_of_ble_eq_true rfl⟩ (Nat.le_of_ble_eq_true rfl) rfl (cM_0 g _) rfl rfl rfl (Nat.le_of_ble_eq_true rfl) dX11_faultNow_28) (fun r28 S28 => ?_)
    refine r_istore_n (lv' := fun x1_31 => [(1, .int x1_31), (0, .ref (g.1 0))]) B dX11_faultNow_31 rfl n1 (fun _ => rfl) (fun x1_31 => ?_)
    refine r_iload_n B 0 dX11_faultNow_32 rfl rfl ?_
    refine r_iconst B (-1 : Int32) dX11_faultNow_33 (by decide) ?_
    refine r_icmp_ne B 42 dX11_faultNow_34 (by decide) (fun _ => ?_) (fun _ => ?_)
    · refine r_bipush B (60 : Int32) dX11_faultNow_42 (by decide) ?_
      refine r_istore_n (lv' := fun x2_44 => [(2, .int x2_44), (1, .int x1_31), (0, .ref (g.1 0))]) B dX11_faultNow_44 rfl n2 (fun _ => rfl) (fun x2_44 => ?_)
      refine r_aload_n B 2 dX11_faultNow_45 rfl rfl ?_
      refine r_aload_n B 2 dX11_faultNow_46 rfl rfl ?_
      refine r_get B 0 10 4 (Nat.le_of_ble_eq_true rfl) rfl (cM_0 g _) rfl m_X11_faultNow_inX11 (Nat.le_of_ble_eq_true rfl) m_X11_faultNow_f81 rfl dX11_faultNow_47 ?_
      refine r_cI (zrunV (As := [.int (zI S28 1)]) (rest := []) B 1 0 (fun b hb => k_X11_byteAt B.2.2.1 hb) gX11_faultNow_X11_byteAt rfl rfl rfl y_X11_byteAt ⟨Nat.le_of_ble_eq_true rfl, Nat.le_of_ble_eq_true rfl⟩ (Nat.le_of_ble_eq_true rfl) rfl (cM_0 g _) rfl rfl rfl (Nat.le_of_ble_eq_true rfl) dX11_faultNow_50) (fun r50 => ?_)
      refine r_bipush B (43 : Int32) dX11_faultNow_53 (by decide) ?_
      refine r_jn2 (P := fun j84 : zSt → Int32 → Option (Int32 × zSt) => ∀ (S84j : zSt) (x2_84 : Int32), Xo E (WM g) eIw S84j 84 [(0, .ref (g.1 0)), (1, .int x1_31), (2, .int x2_84)] [] (j84 S84j x2_84)) ?_ (fun j84 hj84 => ?_)
      · intro S84j x2_84
        refine r_iload_n B 1 dX11_faultNow_84 rfl rfl ?_
        refine r_istore_n (lv' := fun x3_85 => [(3, .int x3_85), (0, .ref (g.1 0)), (1, .int x1_31), (2, .int x2_84)]) B dX11_faultNow_85 rfl n3 (fun _ => rfl) (fun x3_85 => ?_)
        refine r_sub [1, 3, 0] rfl ?_
        refine xL_X11_faultNow_86 B hE x2_84 _ ?_ 1000 S84j x3_85
        intro S86x_86
        refine r_aload_n B 0 dX11_faultNow_106 rfl rfl ?_
        refine r_get B 0 10 4 (Nat.le_of_ble_eq_true rfl) rfl (cM_0 g _) rfl m_X11_faultNow_inX11 (Nat.le_of_ble_eq_true rfl) m_X11_faultNow_f81 rfl dX11_faultNow_107 ?_
        refine r_aload_n B 0 dX11_faultNow_110 rfl rfl ?_
        refine r_get B 0 10 0 (Nat.le_of_ble_eq_true rfl) rfl (cM_0 g _) rfl m_X11_faultNow_inX11 (Nat.le_of_ble_eq_true rfl) m_X11_faultNow_f78 rfl dX11_faultNow_111 ?_
        refine r_icmp_ne B 119 dX11_faultNow_114 (by decide) (fun _ => ?_) (fun _ => ?_)
        · refine r_aload_n B 0 dX11_faultNow_119 rfl rfl ?_
          refine r_aload_n B 0 dX11_faultNow_120 rfl rfl ?_
          refine r_get B 0 10 4 (Nat.le_of_ble_eq_true rfl) rfl (cM_0 g _) rfl m_X11_faultNow_inX11 (Nat.le_of_ble_eq_true rfl) m_X11_faultNow_f81 rfl dX11_faultNow_121 ?_
          refine r_cI (zrunV (As := [.int (zI S86x_86 1)]) (rest := []) B 1 0 (fun b hb => k_X11_byteAt B.2.2.1 hb) gX11_faultNow_X11_byteAt rfl rfl rfl y_X11_byteAt ⟨Nat.le_of_ble_eq_true rfl, Nat.le_of_ble_eq_true rfl⟩ (Nat.le_of_ble_eq_true rfl) rfl (cM_0 g _) rfl rfl rfl (Nat.le_of_ble_eq_true rfl) dX11_faultNow_124) (fun r124 => ?_)
          refine r_bipush B (44 : Int32) dX11_faultNow_127 (by decide) ?_
          refine r_icmp_eq B 137 dX11_faultNow_129 (by decide) (fun _ => ?_) (fun _ => ?_)
          · refine r_aload_n B 0 dX11_faultNow_137 rfl rfl ?_
            refine r_dup B rfl dX11_faultNow_138 ?_
            refine r_get B 0 10 4 (Nat.le_of_ble_eq_true rfl) rfl (cM_0 g _) rfl m_X11_faultNow_inX11 (Nat.le_of_ble_eq_true rfl) m_X11_faultNow_f81 rfl dX11_faultNow_139 ?_
            refine r_iconst B (1 : Int32) dX11_faultNow_142 (by decide) ?_
            refine r_iadd B dX11_faultNow_143 ?_
            refine r_put (ty := .int) B 0 10 4 tyX11 tyX11_ok nmX11 (Nat.le_of_ble_eq_true rfl) rfl (cM_0 g _) rfl m_X11_faultNow_inX11 (Nat.le_of_ble_eq_true rfl) m_X11_faultNow_f81 rfl (by decide +kernel) rfl rfl (Nat.le_of_ble_eq_true rfl) (pM_0_4 g _ _) dX11_faultNow_144 (fun S144 => ?_)
            refine r_goto B 26 dX11_faultNow_147 (by decide) ?_
            refine r_sub [0] rfl ?_
            exact ih S144
          · refine r_aload_n B 0 dX11_faultNow_132 rfl rfl ?_
            refine r_get B 0 10 4 (Nat.le_of_ble_eq_true rfl) rfl (cM_0 g _) rfl m_X11_faultNow_inX11 (Nat.le_of_ble_eq_true rfl) m_X11_faultNow_f81 rfl dX11_faultNow_133 ?_
            exact r_iret B dX11_faultNow_136 rfl
        · refine r_iconst B (-1 : Int32) dX11_faultNow_117 (by decide) ?_
          exact r_iret B dX11_faultNow_118 rfl
      refine r_icmp_ne B 84 dX11_faultNow_55 (by decide) (fun _ => ?_) (fun _ => ?_)
      · refine r_sub [2, 1, 0] rfl ?_
        exact hj84 S28 x2_44
      · refine r_aload_n B 2 dX11_faultNow_58 rfl rfl ?_
        refine r_dup B rfl dX11_faultNow_59 ?_
        refine r_get B 0 10 4 (Nat.le_of_ble_eq_true rfl) rfl (cM_0 g _) rfl m_X11_faultNow_inX11 (Nat.le_of_ble_eq_true rfl) m_X11_faultNow_f81 rfl dX11_faultNow_60 ?_
        refine r_iconst B (1 : Int32) dX11_faultNow_63 (by decide) ?_
        refine r_iadd B dX11_faultNow_64 ?_
        refine r_put (ty := .int) B 0 10 4 tyX11 tyX11_ok nmX11 (Nat.le_of_ble_eq_true rfl) rfl (cM_0 g _) rfl m_X11_faultNow_inX11 (Nat.le_of_ble_eq_true rfl) m_X11_faultNow_f81 rfl (by decide +kernel) rfl rfl (Nat.le_of_ble_eq_true rfl) (pM_0_4 g _ _) dX11_faultNow_65 (fun S65 => ?_)
        refine r_aload_n B 2 dX11_faultNow_68 rfl rfl ?_
        refine r_iconst B (1 : Int32) dX11_faultNow_69 (by decide) ?_
        refine r_cIw (zrunV (As := [.int (1 : Int32)]) (rest := []) B 1 0 (fun b hb => k_X11_number B.2.2.1 hb) gX11_faultNow_X11_number rfl rfl rfl y_X11_number ⟨Nat.le_of_ble_eq_true rfl, Nat.le_of_ble_eq_true rfl⟩ (Nat.le_of_ble_eq_true rfl) rfl (cM_0 g _) rfl rfl rfl (Nat.le_of_ble_eq_true rfl) dX11_faultNow_70) (fun r70 S70 => ?_)
        refine r_istore_n (lv' := fun x2_73 => [(2, .int x2_73), (1, .int x1_31), (0, .ref (g.1 0))]) B dX11_faultNow_73 rfl n2 (fun _ => rfl) (fun x2_73 => ?_)
        refine r_iload_n B 0 dX11_faultNow_74 rfl rfl ?_
        refine r_iconst B (-1 : Int32) dX11_faultNow_75 (by decide) ?_
        refine r_icmp_ne B 84 dX11_faultNow_76 (by decide) (fun _ => ?_) (fun _ => ?_)
        · refine r_sub [2, 1, 0] rfl ?_
          exact hj84 S70 x2_73
        · refine r_aload_n B 2 dX11_faultNow_79 rfl rfl ?_
          refine r_get B 0 10 4 (Nat.le_of_ble_eq_true rfl) rfl (cM_0 g _) rfl m_X11_faultNow_inX11 (Nat.le_of_ble_eq_true rfl) m_X11_faultNow_f81 rfl dX11_faultNow_80 ?_
          exact r_iret B dX11_faultNow_83 rfl
    · refine r_aload_n B 1 dX11_faultNow_37 rfl rfl ?_
      refine r_get B 0 10 4 (Nat.le_of_ble_eq_true rfl) rfl (cM_0 g _) rfl m_X11_faultNow_inX11 (Nat.le_of_ble_eq_true rfl) m_X11_faultNow_f81 rfl dX11_faultNow_38 ?_
      exact r_iret B dX11_faultNow_41 rfl
set_option maxRecDepth 100000 in
set_option maxHeartbeats 4000000 in
theorem x_X11_faultNow {E : zCx} {g : zGx} (B : zGood E (WM g) (zT g) cX11_faultNow RX11 wsX11_faultNow (some .int) rm_X11_faultNow) (hE : E.2.2 = 4) (S : zSt) : Xo E (WM g) eIw S 0 [(0, .ref (g.1 0))] [] (F_X11_faultNow S) := by
  have n1 : 1 < E.2.2 := by rw [hE]; decide
  have n2 : 2 < E.2.2 := by rw [hE]; decide
  have n3 : 3 < E.2.2 := by rw [hE]; decide
  unfold F_X11_faultNow
  refine r_iconst B (0 : Int32) dX11_faultNow_0 (by decide) ?_
  refine r_istore_n (lv' := fun x1_1 => [(1, .int x1_1), (0, .ref (g.1 0))]) B dX11_faultNow_1 rfl n1 (fun _ => rfl) (fun x1_1 => ?_)
  refine r_sub [1, 0] rfl ?_
  refine xL_X11_faultNow_2 B hE  _ ?_ 1000 S x1_1
  intro S2x_2
  refine r_aload_n B 0 dX11_faultNow_21 rfl rfl ?_
  refine r_iconst B (0 : Int32) dX11_faultNow_22 (by decide) ?_
  refine r_put (ty := .int) B 0 10 4 tyX11 tyX11_ok nmX11 (Nat.le_of_ble_eq_true rfl) rfl (cM_0 g _) rfl m_X11_faultNow_inX11 (Nat.le_of_ble_eq_true rfl) m_X11_faultNow_f81 rfl (by decide +kernel) rfl rfl (Nat.le_of_ble_eq_true rfl) (pM_0_4 g _ _) dX11_faultNow_23 (fun S23 => ?_)
  refine r_sub [0] rfl ?_
  exact xL_X11_faultNow_26 B hE  1000 S23
set_option maxRecDepth 20000 in
theorem k_X11_faultNow {l : Launch} {D : va_G} {g : zGx} (hz : zin (WM g)) {S : zSt} {b : (Int32 × zSt)} (h : F_X11_faultNow S = some b) : zMet l D (WM g) (zT g) yX11_faultNow wsX11_faultNow rm_X11_faultNow S [.ref (g.1 0)] (eIw b) := zmet_of (by decide +kernel) rfl hz (Nat.le_of_ble_eq_true rfl) rfl (fun E _ _ hE B => x_X11_faultNow B hE S) h
abbrev rm_X11_fault : Room := { frames := 3, cells := 0, slots := 0, locals := 68 }
theorem y_X11_fault : yX11_fault.cls = RX11 ∧ yX11_fault.cls ≠ "java/lang/invoke/MethodHandle" ∧ yX11_fault.cls ≠ "java/lang/invoke/VarHandle" ∧ (parseMethodDescriptor yX11_fault.desc).map (fun d => d.parameters.length) = some 0 := by decide +kernel
set_option maxRecDepth 100000 in
set_option maxHeartbeats 4000000 in
theorem x_X11_fault {E : zCx} {g : zGx} (B : zGood E (WM g) (zT g) cX11_fault RX11 wsX11_fault (some .int) rm_X11_fault) (hE : E.2.2 = 1) (S : zSt) : Xo E (WM g) eIw S 0 [(0, .ref (g.1 0))] [] (F_X11_fault S) := by
  unfold F_X11_fault
  refine r_aload_n B 0 dX11_fault_0 rfl rfl ?_
  refine r_cIw (zrunV (As := []) (rest := []) B 0 0 (fun b hb => k_X11_faultNow B.2.2.1 hb) gX11_fault_X11_faultNow rfl rfl rfl y_X11_faultNow ⟨Nat.le_of_ble_eq_true rfl, Nat.le_of_ble_eq_true rfl⟩ (Nat.le_of_ble_eq_true rfl) rfl (cM_0 g _) rfl rfl rfl (Nat.le_of_ble_eq_true rfl) dX11_fault_1) (fun r1 S1 => ?_)
  exact r_iret B dX11_fault_4 rfl
set_option maxRecDepth 20000 in
theorem k_X11_fault {l : Launch} {D : va_G} {g : zGx} (hz : zin (WM g)) {S : zSt} {b : (Int32 × zSt)} (h : F_X11_fault S = some b) : zMet l D (WM g) (zT g) yX11_fault wsX11_fault rm_X11_fault S [.ref (g.1 0)] (eIw b) := zmet_of (by decide +kernel) rfl hz (Nat.le_of_ble_eq_true rfl) rfl (fun E _ _ hE B => x_X11_fault B hE S) h
abbrev rm_X11_isBus : Room := { frames := 0, cells := 0, slots := 0, locals := 0 }
theorem y_X11_isBus : yX11_isBus.cls = RX11 ∧ yX11_isBus.cls ≠ "java/lang/invoke/MethodHandle" ∧ yX11_isBus.cls ≠ "java/lang/invoke/VarHandle" ∧ (parseMethodDescriptor yX11_isBus.desc).map (fun d => d.parameters.length) = some 2 := by decide +kernel
theorem m_X11_isBus_f16 : Cond.fieldLink RX11 16 "LongestMetModel" "goes" "[I" ∈ wsX11_isBus := List.mem_cons_of_mem _ (List.mem_append_left _ (List.mem_of_getElem? (i := 0) rfl))
theorem m_X11_isBus_inX11 : ∀ x ∈ u_ws RX11 TX11 27, x ∈ wsX11_isBus := fun _ h => List.mem_cons_of_mem _ (List.mem_append_right _ h)
set_option maxRecDepth 100000 in
set_option maxHeartbeats 4000000 in
theorem x_X11_isBus {E : zCx} {g : zGx} (B : zGood E (WM g) (zT g) cX11_isBus RX11 wsX11_isBus (some .boolean) rm_X11_isBus) (hE : E.2.2 = 3) (S : zSt) (a1 : Int32) (a2 : Int32) : Xo E (WM g) (eI S) S 0 [(0, .ref (g.1 0)), (1, .int a1), (2, .int a2)] [] (F_X11_isBus S a1 a2) := by
  unfold F_X11_isBus
  refine r_iload_n B 1 dX11_isBus_0 rfl rfl ?_
  refine r_iconst B (1 : Int32) dX11_isBus_1 (by decide) ?_
  refine r_jn2 (P := fun j15 : Option Int32 => Xo E (WM g) (eI S) S 15 [(0, .ref (g.1 0)), (1, .int a1), (2, .int a2)] [] (j15)) ?_ (fun j15 hj15 => ?_)
  · refine r_iload_n B 1 dX11_isBus_15 rfl rfl ?_
    refine r_if_eq B 36 dX11_isBus_16 (by decide) (fun _ => ?_) (fun _ => ?_)
    · refine r_iconst B (0 : Int32) dX11_isBus_36 (by decide) ?_
      exact r_zret0 B dX11_isBus_37 rfl
    · refine r_aload_n B 0 dX11_isBus_19 rfl rfl ?_
      refine r_get B 0 10 3 (Nat.le_of_ble_eq_true rfl) rfl (cM_0 g _) rfl m_X11_isBus_inX11 (Nat.le_of_ble_eq_true rfl) m_X11_isBus_f16 rfl dX11_isBus_20 ?_
      refine r_bipush B (60 : Int32) dX11_isBus_23 (by decide) ?_
      refine r_iload_n B 2 dX11_isBus_25 rfl rfl ?_
      refine r_iadd B dX11_isBus_26 ?_
      refine r_iald B 3 0 (Nat.le_of_ble_eq_true rfl) rfl (cM_3 g _) rfl dX11_isBus_27 ?_
      refine r_iconst B (1 : Int32) dX11_isBus_28 (by decide) ?_
      refine r_icmp_ne B 36 dX11_isBus_29 (by decide) (fun _ => ?_) (fun _ => ?_)
      · refine r_iconst B (0 : Int32) dX11_isBus_36 (by decide) ?_
        exact r_zret0 B dX11_isBus_37 rfl
      · refine r_iconst B (1 : Int32) dX11_isBus_32 (by decide) ?_
        refine r_goto B 37 dX11_isBus_33 (by decide) ?_
        exact r_zret1 B dX11_isBus_37 rfl
  refine r_icmp_eq B 15 dX11_isBus_2 (by decide) (fun _ => ?_) (fun _ => ?_)
  · exact hj15
  · refine r_aload_n B 0 dX11_isBus_5 rfl rfl ?_
    refine r_get B 0 10 3 (Nat.le_of_ble_eq_true rfl) rfl (cM_0 g _) rfl m_X11_isBus_inX11 (Nat.le_of_ble_eq_true rfl) m_X11_isBus_f16 rfl dX11_isBus_6 ?_
    refine r_iload_n B 2 dX11_isBus_9 rfl rfl ?_
    refine r_iald B 3 0 (Nat.le_of_ble_eq_true rfl) rfl (cM_3 g _) rfl dX11_isBus_10 ?_
    refine r_iconst B (1 : Int32) dX11_isBus_11 (by decide) ?_
    refine r_icmp_eq B 32 dX11_isBus_12 (by decide) (fun _ => ?_) (fun _ => ?_)
    · refine r_iconst B (1 : Int32) dX11_isBus_32 (by decide) ?_
      refine r_goto B 37 dX11_isBus_33 (by decide) ?_
      exact r_zret1 B dX11_isBus_37 rfl
    · exact hj15
set_option maxRecDepth 20000 in
theorem k_X11_isBus {l : Launch} {D : va_G} {g : zGx} (hz : zin (WM g)) {S : zSt} {a1 : Int32} {a2 : Int32} {b : Int32} (h : F_X11_isBus S a1 a2 = some b) : zMet l D (WM g) (zT g) yX11_isBus wsX11_isBus rm_X11_isBus S [.ref (g.1 0), .int a1, .int a2] ((eI S) b) := zmet_of (by decide +kernel) rfl hz (Nat.le_of_ble_eq_true rfl) rfl (fun E _ _ hE B => x_X11_isBus B hE S a1 a2) h
abbrev rm_X11_many : Room := { frames := 1, cells := 0, slots := 0, locals := 22 }
theorem y_X11_many : yX11_many.cls = RX11 ∧ yX11_many.cls ≠ "java/lang/invoke/MethodHandle" ∧ yX11_many.cls ≠ "java/lang/invoke/VarHandle" ∧ (parseMethodDescriptor yX11_many.desc).map (fun d => d.parameters.length) = some 1 := by decide +kernel
set_option maxRecDepth 100000 in
set_option maxHeartbeats 4000000 in
theorem xL_X11_many_4 {E : zCx} {g : zGx} (B : zGood E (WM g) (zT g) cX11_many RX11 wsX11_many (some .int) rm_X11_many) (hE : E.2.2 = 4) (S : zSt) (a1 : Int32) (k : Int32 → Option Int32) (hk : ∀ (w2 : Int32), Xo E (WM g) (eI S) S 33 [(2, .int w2)] [] (k w2)) : ∀ (n : Nat) (v2_4 : Int32) (v3_4 : Int32), Xo E (WM g) (eI S) S 4 [(0, .ref (g.1 0)), (1, .int a1), (2, .int v2_4), (3, .int v3_4)] [] (L_X11_many_4 S a1 k n v2_4 v3_4) := by
  have n2 : 2 < E.2.2 := by rw [hE]; decide
  have n3 : 3 < E.2.2 := by rw [hE]; decide
  intro n
  induction n with
  | zero =>
    intro _ _
    exact r_none
  | succ n ih =>
    intro v2_4 v3_4
    rw [L_X11_many_4]
    refine r_iload_n B 3 dX11_many_4 rfl rfl ?_
    refine r_bipush B (60 : Int32) dX11_many_5 (by decide) ?_
    refine r_icmp_ge B 33 dX11_many_7 (by decide) (fun _ => ?_) (fun _ => ?_)
    · refine r_sub [2] rfl ?_
      exact hk v2_4
    · refine r_iload_n B 2 dX11_many_10 rfl rfl ?_
      refine r_aload_n B 0 dX11_many_11 rfl rfl ?_
      refine r_iload_n B 1 dX11_many_12 rfl rfl ?_
      refine r_iload_n B 3 dX11_many_13 rfl rfl ?_
      refine r_cI (zrunV (As := [.int a1, .int v3_4]) (rest := [.int v2_4]) B 2 0 (fun b hb => k_X11_isBus B.2.2.1 hb) gX11_many_X11_isBus rfl rfl rfl y_X11_isBus ⟨Nat.le_of_ble_eq_true rfl, Nat.le_of_ble_eq_true rfl⟩ (Nat.le_of_ble_eq_true rfl) rfl (cM_0 g _) rfl rfl rfl (Nat.le_of_ble_eq_true rfl) dX11_many_14) (fun r14 => ?_)
      refine r_if_eq B 24 dX11_many_17 (by decide) (fun _ => ?_) (fun _ => ?_)
      · refine r_iconst B (0 : Int32) dX11_many_24 (by decide) ?_
        refine r_iadd B dX11_many_25 ?_
        refine r_istore_n (lv' := fun x2_26 => [(2, .int x2_26), (0, .ref (g.1 0)), (1, .int a1), (3, .int v3_4)]) B dX11_many_26 rfl n2 (fun _ => rfl) (fun x2_26 => ?_)
        refine r_iinc (lv' := fun x3_27 => [(3, .int x3_27), (2, .int x2_26), (0, .ref (g.1 0)), (1, .int a1)]) B 3 (1 : Int32) dX11_many_27 rfl (by decide) n3 (fun _ => rfl) (fun x3_27 => ?_)
        refine r_goto B 4 dX11_many_30 (by decide) ?_
        refine r_sub [2, 3, 1, 0] rfl ?_
        exact ih x2_26 x3_27
      · refine r_iconst B (1 : Int32) dX11_many_20 (by decide) ?_
        refine r_goto B 25 dX11_many_21 (by decide) ?_
        refine r_iadd B dX11_many_25 ?_
        refine r_istore_n (lv' := fun x2_26 => [(2, .int x2_26), (0, .ref (g.1 0)), (1, .int a1), (3, .int v3_4)]) B dX11_many_26 rfl n2 (fun _ => rfl) (fun x2_26 => ?_)
        refine r_iinc (lv' := fun x3_27 => [(3, .int x3_27), (2, .int x2_26), (0, .ref (g.1 0)), (1, .int a1)]) B 3 (1 : Int32) dX11_many_27 rfl (by decide) n3 (fun _ => rfl) (fun x3_27 => ?_)
        refine r_goto B 4 dX11_many_30 (by decide) ?_
        refine r_sub [2, 3, 1, 0] rfl ?_
        exact ih x2_26 x3_27
set_option maxRecDepth 100000 in
set_option maxHeartbeats 4000000 in
theorem x_X11_many {E : zCx} {g : zGx} (B : zGood E (WM g) (zT g) cX11_many RX11 wsX11_many (some .int) rm_X11_many) (hE : E.2.2 = 4) (S : zSt) (a1 : Int32) : Xo E (WM g) (eI S) S 0 [(0, .ref (g.1 0)), (1, .int a1)] [] (F_X11_many S a1) := by
  have n2 : 2 < E.2.2 := by rw [hE]; decide
  have n3 : 3 < E.2.2 := by rw [hE]; decide
  unfold F_X11_many
  refine r_iconst B (0 : Int32) dX11_many_0 (by decide) ?_
  refine r_istore_n (lv' := fun x2_1 => [(2, .int x2_1), (0, .ref (g.1 0)), (1, .int a1)]) B dX11_many_1 rfl n2 (fun _ => rfl) (fun x2_1 => ?_)
  refine r_iconst B (0 : Int32) dX11_many_2 (by decide) ?_
  refine r_istore_n (lv' := fun x3_3 => [(3, .int x3_3), (2, .int x2_1), (0, .ref (g.1 0)), (1, .int a1)]) B dX11_many_3 rfl n3 (fun _ => rfl) (fun x3_3 => ?_)
  refine r_sub [2, 3, 1, 0] rfl ?_
  refine xL_X11_many_4 B hE S a1 _ ?_ 1000 x2_1 x3_3
  intro w2_4
  refine r_iload_n B 0 dX11_many_33 rfl rfl ?_
  exact r_iret B dX11_many_34 rfl
set_option maxRecDepth 20000 in
theorem k_X11_many {l : Launch} {D : va_G} {g : zGx} (hz : zin (WM g)) {S : zSt} {a1 : Int32} {b : Int32} (h : F_X11_many S a1 = some b) : zMet l D (WM g) (zT g) yX11_many wsX11_many rm_X11_many S [.ref (g.1 0), .int a1] ((eI S) b) := zmet_of (by decide +kernel) rfl hz (Nat.le_of_ble_eq_true rfl) rfl (fun E _ _ hE B => x_X11_many B hE S a1) h
abbrev rm_X11_line : Room := { frames := 3, cells := 0, slots := 0, locals := 68 }
theorem y_X11_line : yX11_line.cls = RX11 ∧ yX11_line.cls ≠ "java/lang/invoke/MethodHandle" ∧ yX11_line.cls ≠ "java/lang/invoke/VarHandle" ∧ (parseMethodDescriptor yX11_line.desc).map (fun d => d.parameters.length) = some 1 := by decide +kernel
theorem m_X11_line_f16 : Cond.fieldLink RX11 16 "LongestMetModel" "goes" "[I" ∈ wsX11_line := List.mem_cons_of_mem _ (List.mem_append_left _ (List.mem_append_left _ (List.mem_of_getElem? (i := 0) rfl)))
theorem m_X11_line_inX11 : ∀ x ∈ u_ws RX11 TX11 27, x ∈ wsX11_line := fun _ h => List.mem_cons_of_mem _ (List.mem_append_right _ h)
theorem m_X11_line_f13 : Cond.fieldLink RX11 13 "LongestMetModel" "said60" "[I" ∈ wsX11_line := List.mem_cons_of_mem _ (List.mem_append_left _ (List.mem_append_left _ (List.mem_of_getElem? (i := 1) rfl)))
theorem m_X11_line_f78 : Cond.fieldLink RX11 78 "LongestMetModel" "typed" "I" ∈ wsX11_line := List.mem_cons_of_mem _ (List.mem_append_left _ (List.mem_append_left _ (List.mem_of_getElem? (i := 2) rfl)))
set_option maxRecDepth 100000 in
set_option maxHeartbeats 4000000 in
theorem xL_X11_line_25 {E : zCx} {g : zGx} (B : zGood E (WM g) (zT g) cX11_line RX11 wsX11_line (some .int) rm_X11_line) (hE : E.2.2 = 3) (a1 : Int32) (k : zSt → Option (Int32 × zSt)) (hk : ∀ (S25x : zSt), Xo E (WM g) eIw S25x 54 [(0, .ref (g.1 0)), (1, .int a1)] [] (k S25x)) : ∀ (n : Nat) (S25 : zSt) (v2_25 : Int32), Xo E (WM g) eIw S25 25 [(0, .ref (g.1 0)), (1, .int a1), (2, .int v2_25)] [] (L_X11_line_25 a1 k n S25 v2_25) := by
  have n2 : 2 < E.2.2 := by rw [hE]; decide
  intro n
  induction n with
  | zero =>
    intro _ _
    exact r_none
  | succ n ih =>
    intro S25 v2_25
    rw [L_X11_line_25]
    refine r_iload_n B 2 dX11_line_25 rfl rfl ?_
    refine r_bipush B (60 : Int32) dX11_line_26 (by decide) ?_
    refine r_icmp_ge B 54 dX11_line_28 (by decide) (fun _ => ?_) (fun _ => ?_)
    · refine r_sub [0, 1] rfl ?_
      exact hk S25
    · refine r_aload_n B 0 dX11_line_31 rfl rfl ?_
      refine r_get B 0 10 3 (Nat.le_of_ble_eq_true rfl) rfl (cM_0 g _) rfl m_X11_line_inX11 (Nat.le_of_ble_eq_true rfl) m_X11_line_f16 rfl dX11_line_32 ?_
      refine r_bipush B (60 : Int32) dX11_line_35 (by decide) ?_
      refine r_iload_n B 1 dX11_line_37 rfl rfl ?_
      refine r_imul B dX11_line_38 ?_
      refine r_iload_n B 2 dX11_line_39 rfl rfl ?_
      refine r_iadd B dX11_line_40 ?_
      refine r_aload_n B 0 dX11_line_41 rfl rfl ?_
      refine r_get B 0 10 2 (Nat.le_of_ble_eq_true rfl) rfl (cM_0 g _) rfl m_X11_line_inX11 (Nat.le_of_ble_eq_true rfl) m_X11_line_f13 rfl dX11_line_42 ?_
      refine r_iload_n B 2 dX11_line_45 rfl rfl ?_
      refine r_iald B 2 0 (Nat.le_of_ble_eq_true rfl) rfl (cM_2 g _) rfl dX11_line_46 ?_
      refine r_iast B 3 0 (Nat.le_of_ble_eq_true rfl) rfl (cM_3 g _) rfl (uM_3 g _ _) dX11_line_47 (fun S47 => ?_)
      refine r_iinc (lv' := fun x2_48 => [(2, .int x2_48), (0, .ref (g.1 0)), (1, .int a1)]) B 2 (1 : Int32) dX11_line_48 rfl (by decide) n2 (fun _ => rfl) (fun x2_48 => ?_)
      refine r_goto B 25 dX11_line_51 (by decide) ?_
      refine r_sub [1, 2, 0] rfl ?_
      exact ih S47 x2_48
set_option maxRecDepth 100000 in
set_option maxHeartbeats 4000000 in
theorem x_X11_line {E : zCx} {g : zGx} (B : zGood E (WM g) (zT g) cX11_line RX11 wsX11_line (some .int) rm_X11_line) (hE : E.2.2 = 3) (S : zSt) (a1 : Int32) : Xo E (WM g) eIw S 0 [(0, .ref (g.1 0)), (1, .int a1)] [] (F_X11_line S a1) := by
  have n2 : 2 < E.2.2 := by rw [hE]; decide
  unfold F_X11_line
  refine r_iload_n B 1 dX11_line_0 rfl rfl ?_
  refine r_iconst B (0 : Int32) dX11_line_1 (by decide) ?_
  refine r_iconst B (1 : Int32) dX11_line_2 (by decide) ?_
  refine r_cI (zrunS (As := [.int a1, .int (0 : Int32), .int (1 : Int32)]) (rest := []) B 3 (fun b hb => k_X11_in B.2.2.1 hb) gX11_line_X11_in rfl rfl rfl y_X11_in ⟨Nat.le_of_ble_eq_true rfl, Nat.le_of_ble_eq_true rfl⟩ rfl rfl (Nat.le_of_ble_eq_true rfl) dX11_line_3) (fun r3 => ?_)
  refine r_if_ne B 12 dX11_line_6 (by decide) (fun _ => ?_) (fun _ => ?_)
  · refine r_aload_n B 0 dX11_line_12 rfl rfl ?_
    refine r_cIw (zrunV (As := []) (rest := []) B 0 0 (fun b hb => k_X11_faultNow B.2.2.1 hb) gX11_line_X11_faultNow rfl rfl rfl y_X11_faultNow ⟨Nat.le_of_ble_eq_true rfl, Nat.le_of_ble_eq_true rfl⟩ (Nat.le_of_ble_eq_true rfl) rfl (cM_0 g _) rfl rfl rfl (Nat.le_of_ble_eq_true rfl) dX11_line_13) (fun r13 S13 => ?_)
    refine r_iconst B (-1 : Int32) dX11_line_16 (by decide) ?_
    refine r_icmp_eq B 23 dX11_line_17 (by decide) (fun _ => ?_) (fun _ => ?_)
    · refine r_iconst B (0 : Int32) dX11_line_23 (by decide) ?_
      refine r_istore_n (lv' := fun x2_24 => [(2, .int x2_24), (0, .ref (g.1 0)), (1, .int a1)]) B dX11_line_24 rfl n2 (fun _ => rfl) (fun x2_24 => ?_)
      refine r_sub [1, 2, 0] rfl ?_
      refine xL_X11_line_25 B hE a1 _ ?_ 1000 S13 x2_24
      intro S25x_25
      refine r_aload_n B 0 dX11_line_54 rfl rfl ?_
      refine r_iconst B (0 : Int32) dX11_line_55 (by decide) ?_
      refine r_put (ty := .int) B 0 10 0 tyX11 tyX11_ok nmX11 (Nat.le_of_ble_eq_true rfl) rfl (cM_0 g _) rfl m_X11_line_inX11 (Nat.le_of_ble_eq_true rfl) m_X11_line_f78 rfl (by decide +kernel) rfl rfl (Nat.le_of_ble_eq_true rfl) (pM_0_0 g _ _) dX11_line_56 (fun S56 => ?_)
      refine r_aload_n B 0 dX11_line_59 rfl rfl ?_
      refine r_iload_n B 1 dX11_line_60 rfl rfl ?_
      refine r_cI (zrunV (As := [.int a1]) (rest := []) B 1 0 (fun b hb => k_X11_many B.2.2.1 hb) gX11_line_X11_many rfl rfl rfl y_X11_many ⟨Nat.le_of_ble_eq_true rfl, Nat.le_of_ble_eq_true rfl⟩ (Nat.le_of_ble_eq_true rfl) rfl (cM_0 g _) rfl rfl rfl (Nat.le_of_ble_eq_true rfl) dX11_line_61) (fun r61 => ?_)
      exact r_iret B dX11_line_64 rfl
    · refine r_bipush B (-3 : Int32) dX11_line_20 (by decide) ?_
      exact r_iret B dX11_line_22 rfl
  · refine r_bipush B (-2 : Int32) dX11_line_9 (by decide) ?_
    exact r_iret B dX11_line_11 rfl
set_option maxRecDepth 20000 in
theorem k_X11_line {l : Launch} {D : va_G} {g : zGx} (hz : zin (WM g)) {S : zSt} {a1 : Int32} {b : (Int32 × zSt)} (h : F_X11_line S a1 = some b) : zMet l D (WM g) (zT g) yX11_line wsX11_line rm_X11_line S [.ref (g.1 0), .int a1] (eIw b) := zmet_of (by decide +kernel) rfl hz (Nat.le_of_ble_eq_true rfl) rfl (fun E _ _ hE B => x_X11_line B hE S a1) h
abbrev rm_X11_waitOf : Room := { frames := 1, cells := 0, slots := 0, locals := 22 }
theorem y_X11_waitOf : yX11_waitOf.cls = RX11 ∧ yX11_waitOf.cls ≠ "java/lang/invoke/MethodHandle" ∧ yX11_waitOf.cls ≠ "java/lang/invoke/VarHandle" ∧ (parseMethodDescriptor yX11_waitOf.desc).map (fun d => d.parameters.length) = some 2 := by decide +kernel
set_option maxRecDepth 100000 in
set_option maxHeartbeats 4000000 in
theorem xL_X11_waitOf_2 {E : zCx} {g : zGx} (B : zGood E (WM g) (zT g) cX11_waitOf RX11 wsX11_waitOf (some .int) rm_X11_waitOf) (hE : E.2.2 = 4) (S : zSt) (a1 : Int32) (a2 : Int32) (k : Int32 → Option Int32) (hk : ∀ (w3 : Int32), Xo E (WM g) (eI S) S 22 [(3, .int w3)] [] (k w3)) : ∀ (n : Nat) (v3_2 : Int32), Xo E (WM g) (eI S) S 2 [(0, .ref (g.1 0)), (1, .int a1), (2, .int a2), (3, .int v3_2)] [] (L_X11_waitOf_2 S a1 a2 k n v3_2) := by
  have n3 : 3 < E.2.2 := by rw [hE]; decide
  intro n
  induction n with
  | zero =>
    intro _
    exact r_none
  | succ n ih =>
    intro v3_2
    rw [L_X11_waitOf_2]
    refine r_aload_n B 0 dX11_waitOf_2 rfl rfl ?_
    refine r_iload_n B 1 dX11_waitOf_3 rfl rfl ?_
    refine r_iload_n B 2 dX11_waitOf_4 rfl rfl ?_
    refine r_iload_n B 3 dX11_waitOf_5 rfl rfl ?_
    refine r_iadd B dX11_waitOf_6 ?_
    refine r_bipush B (60 : Int32) dX11_waitOf_7 (by decide) ?_
    refine r_irem B dX11_waitOf_9 (fun _ => ?_)
    refine r_cI (zrunV (As := [.int a1, .int ((a2 + v3_2) - (a2 + v3_2) / (60 : Int32) * (60 : Int32))]) (rest := []) B 2 0 (fun b hb => k_X11_isBus B.2.2.1 hb) gX11_waitOf_X11_isBus rfl rfl rfl y_X11_isBus ⟨Nat.le_of_ble_eq_true rfl, Nat.le_of_ble_eq_true rfl⟩ (Nat.le_of_ble_eq_true rfl) rfl (cM_0 g _) rfl rfl rfl (Nat.le_of_ble_eq_true rfl) dX11_waitOf_10) (fun r10 => ?_)
    refine r_if_ne B 22 dX11_waitOf_13 (by decide) (fun _ => ?_) (fun _ => ?_)
    · refine r_sub [3] rfl ?_
      exact hk v3_2
    · refine r_iinc (lv' := fun x3_16 => [(3, .int x3_16), (0, .ref (g.1 0)), (1, .int a1), (2, .int a2)]) B 3 (1 : Int32) dX11_waitOf_16 rfl (by decide) n3 (fun _ => rfl) (fun x3_16 => ?_)
      refine r_goto B 2 dX11_waitOf_19 (by decide) ?_
      refine r_sub [1, 2, 3, 0] rfl ?_
      exact ih x3_16
set_option maxRecDepth 100000 in
set_option maxHeartbeats 4000000 in
theorem x_X11_waitOf {E : zCx} {g : zGx} (B : zGood E (WM g) (zT g) cX11_waitOf RX11 wsX11_waitOf (some .int) rm_X11_waitOf) (hE : E.2.2 = 4) (S : zSt) (a1 : Int32) (a2 : Int32) : Xo E (WM g) (eI S) S 0 [(0, .ref (g.1 0)), (1, .int a1), (2, .int a2)] [] (F_X11_waitOf S a1 a2) := by
  have n3 : 3 < E.2.2 := by rw [hE]; decide
  unfold F_X11_waitOf
  refine r_iconst B (0 : Int32) dX11_waitOf_0 (by decide) ?_
  refine r_istore_n (lv' := fun x3_1 => [(3, .int x3_1), (0, .ref (g.1 0)), (1, .int a1), (2, .int a2)]) B dX11_waitOf_1 rfl n3 (fun _ => rfl) (fun x3_1 => ?_)
  refine r_sub [1, 2, 3, 0] rfl ?_
  refine xL_X11_waitOf_2 B hE S a1 a2 _ ?_ 1000 x3_1
  intro w3_2
  refine r_iload_n B 0 dX11_waitOf_22 rfl rfl ?_
  exact r_iret B dX11_waitOf_23 rfl
set_option maxRecDepth 20000 in
theorem k_X11_waitOf {l : Launch} {D : va_G} {g : zGx} (hz : zin (WM g)) {S : zSt} {a1 : Int32} {a2 : Int32} {b : Int32} (h : F_X11_waitOf S a1 a2 = some b) : zMet l D (WM g) (zT g) yX11_waitOf wsX11_waitOf rm_X11_waitOf S [.ref (g.1 0), .int a1, .int a2] ((eI S) b) := zmet_of (by decide +kernel) rfl hz (Nat.le_of_ble_eq_true rfl) rfl (fun E _ _ hE B => x_X11_waitOf B hE S a1 a2) h
abbrev rm_X11_waits : Room := { frames := 2, cells := 0, slots := 0, locals := 45 }
theorem y_X11_waits : yX11_waits.cls = RX11 ∧ yX11_waits.cls ≠ "java/lang/invoke/MethodHandle" ∧ yX11_waits.cls ≠ "java/lang/invoke/VarHandle" ∧ (parseMethodDescriptor yX11_waits.desc).map (fun d => d.parameters.length) = some 2 := by decide +kernel
set_option maxRecDepth 100000 in
set_option maxHeartbeats 4000000 in
theorem x_X11_waits {E : zCx} {g : zGx} (B : zGood E (WM g) (zT g) cX11_waits RX11 wsX11_waits (some .int) rm_X11_waits) (hE : E.2.2 = 3) (S : zSt) (a1 : Int32) (a2 : Int32) : Xo E (WM g) (eI S) S 0 [(0, .ref (g.1 0)), (1, .int a1), (2, .int a2)] [] (F_X11_waits S a1 a2) := by
  unfold F_X11_waits
  refine r_iload_n B 1 dX11_waits_0 rfl rfl ?_
  refine r_iconst B (0 : Int32) dX11_waits_1 (by decide) ?_
  refine r_iconst B (2 : Int32) dX11_waits_2 (by decide) ?_
  refine r_cI (zrunS (As := [.int a1, .int (0 : Int32), .int (2 : Int32)]) (rest := []) B 3 (fun b hb => k_X11_in B.2.2.1 hb) gX11_waits_X11_in rfl rfl rfl y_X11_in ⟨Nat.le_of_ble_eq_true rfl, Nat.le_of_ble_eq_true rfl⟩ rfl rfl (Nat.le_of_ble_eq_true rfl) dX11_waits_3) (fun r3 => ?_)
  refine r_if_eq B 19 dX11_waits_6 (by decide) (fun _ => ?_) (fun _ => ?_)
  · refine r_bipush B (-2 : Int32) dX11_waits_19 (by decide) ?_
    exact r_iret B dX11_waits_21 rfl
  · refine r_iload_n B 2 dX11_waits_9 rfl rfl ?_
    refine r_iconst B (0 : Int32) dX11_waits_10 (by decide) ?_
    refine r_bipush B (59 : Int32) dX11_waits_11 (by decide) ?_
    refine r_cI (zrunS (As := [.int a2, .int (0 : Int32), .int (59 : Int32)]) (rest := []) B 3 (fun b hb => k_X11_in B.2.2.1 hb) gX11_waits_X11_in rfl rfl rfl y_X11_in ⟨Nat.le_of_ble_eq_true rfl, Nat.le_of_ble_eq_true rfl⟩ rfl rfl (Nat.le_of_ble_eq_true rfl) dX11_waits_13) (fun r13 => ?_)
    refine r_if_ne B 22 dX11_waits_16 (by decide) (fun _ => ?_) (fun _ => ?_)
    · refine r_aload_n B 0 dX11_waits_22 rfl rfl ?_
      refine r_iload_n B 1 dX11_waits_23 rfl rfl ?_
      refine r_cI (zrunV (As := [.int a1]) (rest := []) B 1 0 (fun b hb => k_X11_many B.2.2.1 hb) gX11_waits_X11_many rfl rfl rfl y_X11_many ⟨Nat.le_of_ble_eq_true rfl, Nat.le_of_ble_eq_true rfl⟩ (Nat.le_of_ble_eq_true rfl) rfl (cM_0 g _) rfl rfl rfl (Nat.le_of_ble_eq_true rfl) dX11_waits_24) (fun r24 => ?_)
      refine r_if_ne B 35 dX11_waits_27 (by decide) (fun _ => ?_) (fun _ => ?_)
      · refine r_aload_n B 0 dX11_waits_35 rfl rfl ?_
        refine r_iload_n B 1 dX11_waits_36 rfl rfl ?_
        refine r_iload_n B 2 dX11_waits_37 rfl rfl ?_
        refine r_cI (zrunV (As := [.int a1, .int a2]) (rest := []) B 2 0 (fun b hb => k_X11_waitOf B.2.2.1 hb) gX11_waits_X11_waitOf rfl rfl rfl y_X11_waitOf ⟨Nat.le_of_ble_eq_true rfl, Nat.le_of_ble_eq_true rfl⟩ (Nat.le_of_ble_eq_true rfl) rfl (cM_0 g _) rfl rfl rfl (Nat.le_of_ble_eq_true rfl) dX11_waits_38) (fun r38 => ?_)
        exact r_iret B dX11_waits_41 rfl
      · refine r_bipush B (-3 : Int32) dX11_waits_30 (by decide) ?_
        refine r_goto B 41 dX11_waits_32 (by decide) ?_
        exact r_iret B dX11_waits_41 rfl
    · refine r_bipush B (-2 : Int32) dX11_waits_19 (by decide) ?_
      exact r_iret B dX11_waits_21 rfl
set_option maxRecDepth 20000 in
theorem k_X11_waits {l : Launch} {D : va_G} {g : zGx} (hz : zin (WM g)) {S : zSt} {a1 : Int32} {a2 : Int32} {b : Int32} (h : F_X11_waits S a1 a2 = some b) : zMet l D (WM g) (zT g) yX11_waits wsX11_waits rm_X11_waits S [.ref (g.1 0), .int a1, .int a2] ((eI S) b) := zmet_of (by decide +kernel) rfl hz (Nat.le_of_ble_eq_true rfl) rfl (fun E _ _ hE B => x_X11_waits B hE S a1 a2) h
abbrev rm_X11_gapBehind : Room := { frames := 2, cells := 0, slots := 0, locals := 45 }
theorem y_X11_gapBehind : yX11_gapBehind.cls = RX11 ∧ yX11_gapBehind.cls ≠ "java/lang/invoke/MethodHandle" ∧ yX11_gapBehind.cls ≠ "java/lang/invoke/VarHandle" ∧ (parseMethodDescriptor yX11_gapBehind.desc).map (fun d => d.parameters.length) = some 2 := by decide +kernel
set_option maxRecDepth 100000 in
set_option maxHeartbeats 4000000 in
theorem x_X11_gapBehind {E : zCx} {g : zGx} (B : zGood E (WM g) (zT g) cX11_gapBehind RX11 wsX11_gapBehind (some .int) rm_X11_gapBehind) (hE : E.2.2 = 3) (S : zSt) (a1 : Int32) (a2 : Int32) : Xo E (WM g) (eI S) S 0 [(0, .ref (g.1 0)), (1, .int a1), (2, .int a2)] [] (F_X11_gapBehind S a1 a2) := by
  unfold F_X11_gapBehind
  refine r_iconst B (1 : Int32) dX11_gapBehind_0 (by decide) ?_
  refine r_aload_n B 0 dX11_gapBehind_1 rfl rfl ?_
  refine r_iload_n B 1 dX11_gapBehind_2 rfl rfl ?_
  refine r_iload_n B 2 dX11_gapBehind_3 rfl rfl ?_
  refine r_iconst B (1 : Int32) dX11_gapBehind_4 (by decide) ?_
  refine r_iadd B dX11_gapBehind_5 ?_
  refine r_bipush B (60 : Int32) dX11_gapBehind_6 (by decide) ?_
  refine r_irem B dX11_gapBehind_8 (fun _ => ?_)
  refine r_cI (zrunV (As := [.int a1, .int ((a2 + (1 : Int32)) - (a2 + (1 : Int32)) / (60 : Int32) * (60 : Int32))]) (rest := [.int (1 : Int32)]) B 2 0 (fun b hb => k_X11_waitOf B.2.2.1 hb) gX11_gapBehind_X11_waitOf rfl rfl rfl y_X11_waitOf ⟨Nat.le_of_ble_eq_true rfl, Nat.le_of_ble_eq_true rfl⟩ (Nat.le_of_ble_eq_true rfl) rfl (cM_0 g _) rfl rfl rfl (Nat.le_of_ble_eq_true rfl) dX11_gapBehind_9) (fun r9 => ?_)
  refine r_iadd B dX11_gapBehind_12 ?_
  exact r_iret B dX11_gapBehind_13 rfl
set_option maxRecDepth 20000 in
theorem k_X11_gapBehind {l : Launch} {D : va_G} {g : zGx} (hz : zin (WM g)) {S : zSt} {a1 : Int32} {a2 : Int32} {b : Int32} (h : F_X11_gapBehind S a1 a2 = some b) : zMet l D (WM g) (zT g) yX11_gapBehind wsX11_gapBehind rm_X11_gapBehind S [.ref (g.1 0), .int a1, .int a2] ((eI S) b) := zmet_of (by decide +kernel) rfl hz (Nat.le_of_ble_eq_true rfl) rfl (fun E _ _ hE B => x_X11_gapBehind B hE S a1 a2) h
abbrev rm_X11_met : Room := { frames := 3, cells := 0, slots := 0, locals := 67 }
theorem y_X11_met : yX11_met.cls = RX11 ∧ yX11_met.cls ≠ "java/lang/invoke/MethodHandle" ∧ yX11_met.cls ≠ "java/lang/invoke/VarHandle" ∧ (parseMethodDescriptor yX11_met.desc).map (fun d => d.parameters.length) = some 2 := by decide +kernel
set_option maxRecDepth 100000 in
set_option maxHeartbeats 4000000 in
theorem xL_X11_met_27 {E : zCx} {g : zGx} (B : zGood E (WM g) (zT g) cX11_met RX11 wsX11_met (some .int) rm_X11_met) (hE : E.2.2 = 5) (S : zSt) (a1 : Int32) (a2 : Int32) (k : Int32 → Option Int32) (hk : ∀ (w3 : Int32), Xo E (WM g) (eI S) S 69 [(3, .int w3)] [] (k w3)) : ∀ (n : Nat) (v3_27 : Int32) (v4_27 : Int32), Xo E (WM g) (eI S) S 27 [(0, .ref (g.1 0)), (1, .int a1), (2, .int a2), (3, .int v3_27), (4, .int v4_27)] [] (L_X11_met_27 S a1 a2 k n v3_27 v4_27) := by
  have n3 : 3 < E.2.2 := by rw [hE]; decide
  have n4 : 4 < E.2.2 := by rw [hE]; decide
  intro n
  induction n with
  | zero =>
    intro _ _
    exact r_none
  | succ n ih =>
    intro v3_27 v4_27
    rw [L_X11_met_27]
    refine r_iload B 4 dX11_met_27 rfl ?_
    refine r_bipush B (60 : Int32) dX11_met_29 (by decide) ?_
    refine r_icmp_ge B 69 dX11_met_31 (by decide) (fun _ => ?_) (fun _ => ?_)
    · refine r_sub [3] rfl ?_
      exact hk v3_27
    · refine r_iload_n B 3 dX11_met_34 rfl rfl ?_
      refine r_aload_n B 0 dX11_met_35 rfl rfl ?_
      refine r_iload_n B 1 dX11_met_36 rfl rfl ?_
      refine r_iload B 4 dX11_met_37 rfl ?_
      refine r_cI (zrunV (As := [.int a1, .int v4_27]) (rest := [.int v3_27]) B 2 0 (fun b hb => k_X11_isBus B.2.2.1 hb) gX11_met_X11_isBus rfl rfl rfl y_X11_isBus ⟨Nat.le_of_ble_eq_true rfl, Nat.le_of_ble_eq_true rfl⟩ (Nat.le_of_ble_eq_true rfl) rfl (cM_0 g _) rfl rfl rfl (Nat.le_of_ble_eq_true rfl) dX11_met_39) (fun r39 => ?_)
      refine r_if_eq B 60 dX11_met_42 (by decide) (fun _ => ?_) (fun _ => ?_)
      · refine r_iconst B (0 : Int32) dX11_met_60 (by decide) ?_
        refine r_iadd B dX11_met_61 ?_
        refine r_istore_n (lv' := fun x3_62 => [(3, .int x3_62), (0, .ref (g.1 0)), (1, .int a1), (2, .int a2), (4, .int v4_27)]) B dX11_met_62 rfl n3 (fun _ => rfl) (fun x3_62 => ?_)
        refine r_iinc (lv' := fun x4_63 => [(4, .int x4_63), (3, .int x3_62), (0, .ref (g.1 0)), (1, .int a1), (2, .int a2)]) B 4 (1 : Int32) dX11_met_63 rfl (by decide) n4 (fun _ => rfl) (fun x4_63 => ?_)
        refine r_goto B 27 dX11_met_66 (by decide) ?_
        refine r_sub [2, 3, 4, 1, 0] rfl ?_
        exact ih x3_62 x4_63
      · refine r_aload_n B 0 dX11_met_45 rfl rfl ?_
        refine r_iload_n B 1 dX11_met_46 rfl rfl ?_
        refine r_iload B 4 dX11_met_47 rfl ?_
        refine r_cI (zrunV (As := [.int a1, .int v4_27]) (rest := [.int v3_27]) B 2 0 (fun b hb => k_X11_gapBehind B.2.2.1 hb) gX11_met_X11_gapBehind rfl rfl rfl y_X11_gapBehind ⟨Nat.le_of_ble_eq_true rfl, Nat.le_of_ble_eq_true rfl⟩ (Nat.le_of_ble_eq_true rfl) rfl (cM_0 g _) rfl rfl rfl (Nat.le_of_ble_eq_true rfl) dX11_met_49) (fun r49 => ?_)
        refine r_iload_n B 2 dX11_met_52 rfl rfl ?_
        refine r_icmp_ne B 60 dX11_met_53 (by decide) (fun _ => ?_) (fun _ => ?_)
        · refine r_iconst B (0 : Int32) dX11_met_60 (by decide) ?_
          refine r_iadd B dX11_met_61 ?_
          refine r_istore_n (lv' := fun x3_62 => [(3, .int x3_62), (0, .ref (g.1 0)), (1, .int a1), (2, .int a2), (4, .int v4_27)]) B dX11_met_62 rfl n3 (fun _ => rfl) (fun x3_62 => ?_)
          refine r_iinc (lv' := fun x4_63 => [(4, .int x4_63), (3, .int x3_62), (0, .ref (g.1 0)), (1, .int a1), (2, .int a2)]) B 4 (1 : Int32) dX11_met_63 rfl (by decide) n4 (fun _ => rfl) (fun x4_63 => ?_)
          refine r_goto B 27 dX11_met_66 (by decide) ?_
          refine r_sub [2, 3, 4, 1, 0] rfl ?_
          exact ih x3_62 x4_63
        · refine r_iload_n B 2 dX11_met_56 rfl rfl ?_
          refine r_goto B 61 dX11_met_57 (by decide) ?_
          refine r_iadd B dX11_met_61 ?_
          refine r_istore_n (lv' := fun x3_62 => [(3, .int x3_62), (0, .ref (g.1 0)), (1, .int a1), (2, .int a2), (4, .int v4_27)]) B dX11_met_62 rfl n3 (fun _ => rfl) (fun x3_62 => ?_)
          refine r_iinc (lv' := fun x4_63 => [(4, .int x4_63), (3, .int x3_62), (0, .ref (g.1 0)), (1, .int a1), (2, .int a2)]) B 4 (1 : Int32) dX11_met_63 rfl (by decide) n4 (fun _ => rfl) (fun x4_63 => ?_)
          refine r_goto B 27 dX11_met_66 (by decide) ?_
          refine r_sub [2, 3, 4, 1, 0] rfl ?_
          exact ih x3_62 x4_63
set_option maxRecDepth 100000 in
set_option maxHeartbeats 4000000 in
theorem x_X11_met {E : zCx} {g : zGx} (B : zGood E (WM g) (zT g) cX11_met RX11 wsX11_met (some .int) rm_X11_met) (hE : E.2.2 = 5) (S : zSt) (a1 : Int32) (a2 : Int32) : Xo E (WM g) (eI S) S 0 [(0, .ref (g.1 0)), (1, .int a1), (2, .int a2)] [] (F_X11_met S a1 a2) := by
  have n3 : 3 < E.2.2 := by rw [hE]; decide
  have n4 : 4 < E.2.2 := by rw [hE]; decide
  unfold F_X11_met
  refine r_iload_n B 1 dX11_met_0 rfl rfl ?_
  refine r_iconst B (0 : Int32) dX11_met_1 (by decide) ?_
  refine r_iconst B (2 : Int32) dX11_met_2 (by decide) ?_
  refine r_cI (zrunS (As := [.int a1, .int (0 : Int32), .int (2 : Int32)]) (rest := []) B 3 (fun b hb => k_X11_in B.2.2.1 hb) gX11_met_X11_in rfl rfl rfl y_X11_in ⟨Nat.le_of_ble_eq_true rfl, Nat.le_of_ble_eq_true rfl⟩ rfl rfl (Nat.le_of_ble_eq_true rfl) dX11_met_3) (fun r3 => ?_)
  refine r_if_eq B 19 dX11_met_6 (by decide) (fun _ => ?_) (fun _ => ?_)
  · refine r_bipush B (-2 : Int32) dX11_met_19 (by decide) ?_
    exact r_iret B dX11_met_21 rfl
  · refine r_iload_n B 2 dX11_met_9 rfl rfl ?_
    refine r_iconst B (1 : Int32) dX11_met_10 (by decide) ?_
    refine r_bipush B (60 : Int32) dX11_met_11 (by decide) ?_
    refine r_cI (zrunS (As := [.int a2, .int (1 : Int32), .int (60 : Int32)]) (rest := []) B 3 (fun b hb => k_X11_in B.2.2.1 hb) gX11_met_X11_in rfl rfl rfl y_X11_in ⟨Nat.le_of_ble_eq_true rfl, Nat.le_of_ble_eq_true rfl⟩ rfl rfl (Nat.le_of_ble_eq_true rfl) dX11_met_13) (fun r13 => ?_)
    refine r_if_ne B 22 dX11_met_16 (by decide) (fun _ => ?_) (fun _ => ?_)
    · refine r_iconst B (0 : Int32) dX11_met_22 (by decide) ?_
      refine r_istore_n (lv' := fun x3_23 => [(3, .int x3_23), (0, .ref (g.1 0)), (1, .int a1), (2, .int a2)]) B dX11_met_23 rfl n3 (fun _ => rfl) (fun x3_23 => ?_)
      refine r_iconst B (0 : Int32) dX11_met_24 (by decide) ?_
      refine r_istore (lv' := fun x4_25 => [(4, .int x4_25), (3, .int x3_23), (0, .ref (g.1 0)), (1, .int a1), (2, .int a2)]) B dX11_met_25 n4 (fun _ => rfl) (fun x4_25 => ?_)
      refine r_sub [2, 3, 4, 1, 0] rfl ?_
      refine xL_X11_met_27 B hE S a1 a2 _ ?_ 1000 x3_23 x4_25
      intro w3_27
      refine r_iload_n B 0 dX11_met_69 rfl rfl ?_
      exact r_iret B dX11_met_70 rfl
    · refine r_bipush B (-2 : Int32) dX11_met_19 (by decide) ?_
      exact r_iret B dX11_met_21 rfl
set_option maxRecDepth 20000 in
theorem k_X11_met {l : Launch} {D : va_G} {g : zGx} (hz : zin (WM g)) {S : zSt} {a1 : Int32} {a2 : Int32} {b : Int32} (h : F_X11_met S a1 a2 = some b) : zMet l D (WM g) (zT g) yX11_met wsX11_met rm_X11_met S [.ref (g.1 0), .int a1, .int a2] ((eI S) b) := zmet_of (by decide +kernel) rfl hz (Nat.le_of_ble_eq_true rfl) rfl (fun E _ _ hE B => x_X11_met B hE S a1 a2) h
abbrev rm_X11_gapsNow : Room := { frames := 3, cells := 0, slots := 0, locals := 67 }
theorem y_X11_gapsNow : yX11_gapsNow.cls = RX11 ∧ yX11_gapsNow.cls ≠ "java/lang/invoke/MethodHandle" ∧ yX11_gapsNow.cls ≠ "java/lang/invoke/VarHandle" ∧ (parseMethodDescriptor yX11_gapsNow.desc).map (fun d => d.parameters.length) = some 3 := by decide +kernel
theorem m_X11_gapsNow_c113 : Cond.constantLong RX11 113 (60) ∈ wsX11_gapsNow := List.mem_cons_of_mem _ (List.mem_append_left _ (List.mem_append_left _ (List.mem_of_getElem? (i := 0) rfl)))
set_option maxRecDepth 100000 in
set_option maxHeartbeats 4000000 in
theorem xL_X11_gapsNow_27 {E : zCx} {g : zGx} (B : zGood E (WM g) (zT g) cX11_gapsNow RX11 wsX11_gapsNow (some .long) rm_X11_gapsNow) (hE : E.2.2 = 11) (S : zSt) (a1 : Int32) (a2 : Int32) (a3 : Int32) (x4_5 : Int32) (k : Int64 → Int64 → Option Int64) (hk : ∀ (w5 : Int64) (w7 : Int64), Xo E (WM g) (eL S) S 87 [(2, .int a2), (3, .int a3), (4, .int x4_5), (5, .long w5), (7, .long w7)] [] (k w5 w7)) : ∀ (n : Nat) (v5_27 : Int64) (v7_27 : Int64) (v9_27 : Int32), Xo E (WM g) (eL S) S 27 [(0, .ref (g.1 0)), (1, .int a1), (2, .int a2), (3, .int a3), (4, .int x4_5), (5, .long v5_27), (7, .long v7_27), (9, .int v9_27)] [] (L_X11_gapsNow_27 S a1 a2 a3 x4_5 k n v5_27 v7_27 v9_27) := by
  have n4 : 4 < E.2.2 := by rw [hE]; decide
  have nn5 : 5 + 1 < E.2.2 := by rw [hE]; decide
  have nn7 : 7 + 1 < E.2.2 := by rw [hE]; decide
  have n9 : 9 < E.2.2 := by rw [hE]; decide
  have n10 : 10 < E.2.2 := by rw [hE]; decide
  intro n
  induction n with
  | zero =>
    intro _ _ _
    exact r_none
  | succ n ih =>
    intro v5_27 v7_27 v9_27
    rw [L_X11_gapsNow_27]
    refine r_iload B 7 dX11_gapsNow_27 rfl ?_
    refine r_bipush B (60 : Int32) dX11_gapsNow_29 (by decide) ?_
    refine r_icmp_ge B 87 dX11_gapsNow_31 (by decide) (fun _ => ?_) (fun _ => ?_)
    · refine r_sub [2, 3, 4, 5, 6] rfl ?_
      exact hk v5_27 v7_27
    · refine r_aload_n B 0 dX11_gapsNow_34 rfl rfl ?_
      refine r_iload_n B 1 dX11_gapsNow_35 rfl rfl ?_
      refine r_iload B 7 dX11_gapsNow_36 rfl ?_
      refine r_cI (zrunV (As := [.int a1, .int v9_27]) (rest := []) B 2 0 (fun b hb => k_X11_isBus B.2.2.1 hb) gX11_gapsNow_X11_isBus rfl rfl rfl y_X11_isBus ⟨Nat.le_of_ble_eq_true rfl, Nat.le_of_ble_eq_true rfl⟩ (Nat.le_of_ble_eq_true rfl) rfl (cM_0 g _) rfl rfl rfl (Nat.le_of_ble_eq_true rfl) dX11_gapsNow_38) (fun r38 => ?_)
      refine r_jn2 (P := fun j55 : Int32 → Option Int64 => ∀ (y0_55 : Int32), Xo E (WM g) (eL S) S 55 [(0, .ref (g.1 0)), (1, .int a1), (2, .int a2), (3, .int a3), (4, .int x4_5), (5, .long v5_27), (7, .long v7_27), (9, .int v9_27)] [.int y0_55] (j55 y0_55)) ?_ (fun j55 hj55 => ?_)
      · intro y0_55
        refine r_istore (lv' := fun x10_55 => [(10, .int x10_55), (0, .ref (g.1 0)), (1, .int a1), (2, .int a2), (3, .int a3), (4, .int x4_5), (5, .long v5_27), (7, .long v7_27), (9, .int v9_27)]) B dX11_gapsNow_55 n10 (fun _ => rfl) (fun x10_55 => ?_)
        refine r_lload B 6 dX11_gapsNow_57 rfl ?_
        refine r_iload B 0 dX11_gapsNow_59 rfl ?_
        refine r_iload B 0 dX11_gapsNow_61 rfl ?_
        refine r_imul B dX11_gapsNow_63 ?_
        refine r_i2l B dX11_gapsNow_64 ?_
        refine r_ladd B dX11_gapsNow_65 ?_
        refine r_lstore (lv' := fun x5_66 => [(5, .long x5_66), (10, .int x10_55), (0, .ref (g.1 0)), (1, .int a1), (2, .int a2), (3, .int a3), (4, .int x4_5), (7, .long v7_27), (9, .int v9_27)]) B dX11_gapsNow_66 nn5 (fun _ => rfl) (fun x5_66 => ?_)
        refine r_lload B 7 dX11_gapsNow_68 rfl ?_
        refine r_aload_n B 2 dX11_gapsNow_70 rfl rfl ?_
        refine r_iload_n B 3 dX11_gapsNow_71 rfl rfl ?_
        refine r_iload B 8 dX11_gapsNow_72 rfl ?_
        refine r_cI (zrunV (As := [.int a1, .int v9_27]) (rest := [.long v7_27]) B 2 0 (fun b hb => k_X11_waitOf B.2.2.1 hb) gX11_gapsNow_X11_waitOf rfl rfl rfl y_X11_waitOf ⟨Nat.le_of_ble_eq_true rfl, Nat.le_of_ble_eq_true rfl⟩ (Nat.le_of_ble_eq_true rfl) rfl (cM_0 g _) rfl rfl rfl (Nat.le_of_ble_eq_true rfl) dX11_gapsNow_74) (fun r74 => ?_)
        refine r_i2l B dX11_gapsNow_77 ?_
        refine r_ladd B dX11_gapsNow_78 ?_
        refine r_lstore (lv' := fun x7_79 => [(7, .long x7_79), (5, .long x5_66), (10, .int x10_55), (0, .ref (g.1 0)), (1, .int a1), (2, .int a2), (3, .int a3), (4, .int x4_5), (9, .int v9_27)]) B dX11_gapsNow_79 nn7 (fun _ => rfl) (fun x7_79 => ?_)
        refine r_iinc (lv' := fun x9_81 => [(9, .int x9_81), (7, .long x7_79), (5, .long x5_66), (10, .int x10_55), (0, .ref (g.1 0)), (1, .int a1), (2, .int a2), (3, .int a3), (4, .int x4_5)]) B 8 (1 : Int32) dX11_gapsNow_81 rfl (by decide) n9 (fun _ => rfl) (fun x9_81 => ?_)
        refine r_goto B 27 dX11_gapsNow_84 (by decide) ?_
        refine r_sub [4, 5, 6, 7, 8, 2, 1, 0] rfl ?_
        exact ih x5_66 x7_79 x9_81
      refine r_if_eq B 54 dX11_gapsNow_41 (by decide) (fun _ => ?_) (fun _ => ?_)
      · refine r_iconst B (0 : Int32) dX11_gapsNow_54 (by decide) ?_
        exact hj55 (0 : Int32)
      · refine r_aload_n B 0 dX11_gapsNow_44 rfl rfl ?_
        refine r_iload_n B 1 dX11_gapsNow_45 rfl rfl ?_
        refine r_iload B 7 dX11_gapsNow_46 rfl ?_
        refine r_cI (zrunV (As := [.int a1, .int v9_27]) (rest := []) B 2 0 (fun b hb => k_X11_gapBehind B.2.2.1 hb) gX11_gapsNow_X11_gapBehind rfl rfl rfl y_X11_gapBehind ⟨Nat.le_of_ble_eq_true rfl, Nat.le_of_ble_eq_true rfl⟩ (Nat.le_of_ble_eq_true rfl) rfl (cM_0 g _) rfl rfl rfl (Nat.le_of_ble_eq_true rfl) dX11_gapsNow_48) (fun r48 => ?_)
        refine r_goto B 55 dX11_gapsNow_51 (by decide) ?_
        exact hj55 r48
set_option maxRecDepth 100000 in
set_option maxHeartbeats 4000000 in
theorem x_X11_gapsNow {E : zCx} {g : zGx} (B : zGood E (WM g) (zT g) cX11_gapsNow RX11 wsX11_gapsNow (some .long) rm_X11_gapsNow) (hE : E.2.2 = 11) (S : zSt) (a1 : Int32) (a2 : Int32) (a3 : Int32) : Xo E (WM g) (eL S) S 0 [(0, .ref (g.1 0)), (1, .int a1), (2, .int a2), (3, .int a3)] [] (F_X11_gapsNow S a1 a2 a3) := by
  have n4 : 4 < E.2.2 := by rw [hE]; decide
  have nn5 : 5 + 1 < E.2.2 := by rw [hE]; decide
  have nn7 : 7 + 1 < E.2.2 := by rw [hE]; decide
  have n9 : 9 < E.2.2 := by rw [hE]; decide
  have n10 : 10 < E.2.2 := by rw [hE]; decide
  unfold F_X11_gapsNow
  refine r_aload_n B 0 dX11_gapsNow_0 rfl rfl ?_
  refine r_iload_n B 1 dX11_gapsNow_1 rfl rfl ?_
  refine r_cI (zrunV (As := [.int a1]) (rest := []) B 1 0 (fun b hb => k_X11_many B.2.2.1 hb) gX11_gapsNow_X11_many rfl rfl rfl y_X11_many ⟨Nat.le_of_ble_eq_true rfl, Nat.le_of_ble_eq_true rfl⟩ (Nat.le_of_ble_eq_true rfl) rfl (cM_0 g _) rfl rfl rfl (Nat.le_of_ble_eq_true rfl) dX11_gapsNow_2) (fun r2 => ?_)
  refine r_istore (lv' := fun x4_5 => [(4, .int x4_5), (0, .ref (g.1 0)), (1, .int a1), (2, .int a2), (3, .int a3)]) B dX11_gapsNow_5 n4 (fun _ => rfl) (fun x4_5 => ?_)
  refine r_iload B 0 dX11_gapsNow_7 rfl ?_
  refine r_if_ne B 18 dX11_gapsNow_9 (by decide) (fun _ => ?_) (fun _ => ?_)
  · refine r_lconst B (0 : Int64) dX11_gapsNow_18 (by decide) ?_
    refine r_lstore (lv' := fun x5_19 => [(5, .long x5_19), (4, .int x4_5), (0, .ref (g.1 0)), (1, .int a1), (2, .int a2), (3, .int a3)]) B dX11_gapsNow_19 nn5 (fun _ => rfl) (fun x5_19 => ?_)
    refine r_lconst B (0 : Int64) dX11_gapsNow_21 (by decide) ?_
    refine r_lstore (lv' := fun x7_22 => [(7, .long x7_22), (5, .long x5_19), (4, .int x4_5), (0, .ref (g.1 0)), (1, .int a1), (2, .int a2), (3, .int a3)]) B dX11_gapsNow_22 nn7 (fun _ => rfl) (fun x7_22 => ?_)
    refine r_iconst B (0 : Int32) dX11_gapsNow_24 (by decide) ?_
    refine r_istore (lv' := fun x9_25 => [(9, .int x9_25), (7, .long x7_22), (5, .long x5_19), (4, .int x4_5), (0, .ref (g.1 0)), (1, .int a1), (2, .int a2), (3, .int a3)]) B dX11_gapsNow_25 n9 (fun _ => rfl) (fun x9_25 => ?_)
    refine r_sub [4, 5, 6, 7, 3, 2, 1, 0] rfl ?_
    refine xL_X11_gapsNow_27 B hE S a1 a2 a3 x4_5 _ ?_ 1000 x5_19 x7_22 x9_25
    intro w5_27 w7_27
    refine r_iload_n B 0 dX11_gapsNow_87 rfl rfl ?_
    refine r_if_ne B 104 dX11_gapsNow_88 (by decide) (fun _ => ?_) (fun _ => ?_)
    · refine r_iload_n B 0 dX11_gapsNow_104 rfl rfl ?_
      refine r_iconst B (1 : Int32) dX11_gapsNow_105 (by decide) ?_
      refine r_jn2 (P := fun j116 : Int64 → Option Int64 => ∀ (y0_116 : Int64), Xo E (WM g) (eL S) S 116 [(3, .int a3)] [.long y0_116] (j116 y0_116)) ?_ (fun j116 hj116 => ?_)
      · intro y0_116
        refine r_ldc2 B (60 : Int64) m_X11_gapsNow_c113 dX11_gapsNow_116 ?_
        refine r_iload_n B 0 dX11_gapsNow_119 rfl rfl ?_
        refine r_cL (zrunS (As := [.long y0_116, .long (60 : Int64), .int a3]) (rest := []) B 3 (fun b hb => k_X11_lowest B.2.2.1 hb) gX11_gapsNow_X11_lowest rfl rfl rfl y_X11_lowest ⟨Nat.le_of_ble_eq_true rfl, Nat.le_of_ble_eq_true rfl⟩ rfl rfl (Nat.le_of_ble_eq_true rfl) dX11_gapsNow_120) (fun r120 => ?_)
        exact r_lret B dX11_gapsNow_123 rfl
      refine r_icmp_ne B 114 dX11_gapsNow_106 (by decide) (fun _ => ?_) (fun _ => ?_)
      · refine r_lload B 4 dX11_gapsNow_114 rfl ?_
        refine r_sub [1] rfl ?_
        exact hj116 w7_27
      · refine r_lload B 3 dX11_gapsNow_109 rfl ?_
        refine r_goto B 116 dX11_gapsNow_111 (by decide) ?_
        refine r_sub [1] rfl ?_
        exact hj116 w5_27
    · refine r_ldc2 B (60 : Int64) m_X11_gapsNow_c113 dX11_gapsNow_91 ?_
      refine r_iload B 2 dX11_gapsNow_94 rfl ?_
      refine r_i2l B dX11_gapsNow_96 ?_
      refine r_iload_n B 1 dX11_gapsNow_97 rfl rfl ?_
      refine r_cL (zrunS (As := [.long (60 : Int64), .long (x4_5.toInt64), .int a3]) (rest := []) B 3 (fun b hb => k_X11_lowest B.2.2.1 hb) gX11_gapsNow_X11_lowest rfl rfl rfl y_X11_lowest ⟨Nat.le_of_ble_eq_true rfl, Nat.le_of_ble_eq_true rfl⟩ rfl rfl (Nat.le_of_ble_eq_true rfl) dX11_gapsNow_98) (fun r98 => ?_)
      refine r_goto B 123 dX11_gapsNow_101 (by decide) ?_
      exact r_lret B dX11_gapsNow_123 rfl
  · refine r_bipush B (-3 : Int32) dX11_gapsNow_12 (by decide) ?_
    refine r_cL (zrunS (As := [.int (-3 : Int32)]) (rest := []) B 1 (fun b hb => k_X11_no B.2.2.1 hb) gX11_gapsNow_X11_no rfl rfl rfl y_X11_no ⟨Nat.le_of_ble_eq_true rfl, Nat.le_of_ble_eq_true rfl⟩ rfl rfl (Nat.le_of_ble_eq_true rfl) dX11_gapsNow_14) (fun r14 => ?_)
    exact r_lret B dX11_gapsNow_17 rfl
set_option maxRecDepth 20000 in
theorem k_X11_gapsNow {l : Launch} {D : va_G} {g : zGx} (hz : zin (WM g)) {S : zSt} {a1 : Int32} {a2 : Int32} {a3 : Int32} {b : Int64} (h : F_X11_gapsNow S a1 a2 a3 = some b) : zMet l D (WM g) (zT g) yX11_gapsNow wsX11_gapsNow rm_X11_gapsNow S [.ref (g.1 0), .int a1, .int a2, .int a3] ((eL S) b) := zmet_of (by decide +kernel) rfl hz (Nat.le_of_ble_eq_true rfl) rfl (fun E _ _ hE B => x_X11_gapsNow B hE S a1 a2 a3) h
abbrev rm_X11_gaps : Room := { frames := 4, cells := 0, slots := 0, locals := 97 }
theorem y_X11_gaps : yX11_gaps.cls = RX11 ∧ yX11_gaps.cls ≠ "java/lang/invoke/MethodHandle" ∧ yX11_gaps.cls ≠ "java/lang/invoke/VarHandle" ∧ (parseMethodDescriptor yX11_gaps.desc).map (fun d => d.parameters.length) = some 3 := by decide +kernel
set_option maxRecDepth 100000 in
set_option maxHeartbeats 4000000 in
theorem x_X11_gaps {E : zCx} {g : zGx} (B : zGood E (WM g) (zT g) cX11_gaps RX11 wsX11_gaps (some .long) rm_X11_gaps) (hE : E.2.2 = 4) (S : zSt) (a1 : Int32) (a2 : Int32) (a3 : Int32) : Xo E (WM g) (eL S) S 0 [(0, .ref (g.1 0)), (1, .int a1), (2, .int a2), (3, .int a3)] [] (F_X11_gaps S a1 a2 a3) := by
  unfold F_X11_gaps
  refine r_iload_n B 1 dX11_gaps_0 rfl rfl ?_
  refine r_iconst B (0 : Int32) dX11_gaps_1 (by decide) ?_
  refine r_iconst B (2 : Int32) dX11_gaps_2 (by decide) ?_
  refine r_cI (zrunS (As := [.int a1, .int (0 : Int32), .int (2 : Int32)]) (rest := []) B 3 (fun b hb => k_X11_in B.2.2.1 hb) gX11_gaps_X11_in rfl rfl rfl y_X11_in ⟨Nat.le_of_ble_eq_true rfl, Nat.le_of_ble_eq_true rfl⟩ rfl rfl (Nat.le_of_ble_eq_true rfl) dX11_gaps_3) (fun r3 => ?_)
  refine r_jn2 (P := fun j37 : Option Int64 => Xo E (WM g) (eL S) S 37 [] [] (j37)) ?_ (fun j37 hj37 => ?_)
  · refine r_bipush B (-2 : Int32) dX11_gaps_37 (by decide) ?_
    refine r_cL (zrunS (As := [.int (-2 : Int32)]) (rest := []) B 1 (fun b hb => k_X11_no B.2.2.1 hb) gX11_gaps_X11_no rfl rfl rfl y_X11_no ⟨Nat.le_of_ble_eq_true rfl, Nat.le_of_ble_eq_true rfl⟩ rfl rfl (Nat.le_of_ble_eq_true rfl) dX11_gaps_39) (fun r39 => ?_)
    exact r_lret B dX11_gaps_42 rfl
  refine r_if_eq B 37 dX11_gaps_6 (by decide) (fun _ => ?_) (fun _ => ?_)
  · refine r_sub [] rfl ?_
    exact hj37
  · refine r_iload_n B 2 dX11_gaps_9 rfl rfl ?_
    refine r_iconst B (0 : Int32) dX11_gaps_10 (by decide) ?_
    refine r_iconst B (2 : Int32) dX11_gaps_11 (by decide) ?_
    refine r_cI (zrunS (As := [.int a2, .int (0 : Int32), .int (2 : Int32)]) (rest := []) B 3 (fun b hb => k_X11_in B.2.2.1 hb) gX11_gaps_X11_in rfl rfl rfl y_X11_in ⟨Nat.le_of_ble_eq_true rfl, Nat.le_of_ble_eq_true rfl⟩ rfl rfl (Nat.le_of_ble_eq_true rfl) dX11_gaps_12) (fun r12 => ?_)
    refine r_if_eq B 37 dX11_gaps_15 (by decide) (fun _ => ?_) (fun _ => ?_)
    · refine r_sub [] rfl ?_
      exact hj37
    · refine r_iload_n B 3 dX11_gaps_18 rfl rfl ?_
      refine r_iconst B (0 : Int32) dX11_gaps_19 (by decide) ?_
      refine r_iconst B (1 : Int32) dX11_gaps_20 (by decide) ?_
      refine r_cI (zrunS (As := [.int a3, .int (0 : Int32), .int (1 : Int32)]) (rest := []) B 3 (fun b hb => k_X11_in B.2.2.1 hb) gX11_gaps_X11_in rfl rfl rfl y_X11_in ⟨Nat.le_of_ble_eq_true rfl, Nat.le_of_ble_eq_true rfl⟩ rfl rfl (Nat.le_of_ble_eq_true rfl) dX11_gaps_21) (fun r21 => ?_)
      refine r_if_eq B 37 dX11_gaps_24 (by decide) (fun _ => ?_) (fun _ => ?_)
      · refine r_sub [] rfl ?_
        exact hj37
      · refine r_aload_n B 0 dX11_gaps_27 rfl rfl ?_
        refine r_iload_n B 1 dX11_gaps_28 rfl rfl ?_
        refine r_iload_n B 2 dX11_gaps_29 rfl rfl ?_
        refine r_iload_n B 3 dX11_gaps_30 rfl rfl ?_
        refine r_cL (zrunV (As := [.int a1, .int a2, .int a3]) (rest := []) B 3 0 (fun b hb => k_X11_gapsNow B.2.2.1 hb) gX11_gaps_X11_gapsNow rfl rfl rfl y_X11_gapsNow ⟨Nat.le_of_ble_eq_true rfl, Nat.le_of_ble_eq_true rfl⟩ (Nat.le_of_ble_eq_true rfl) rfl (cM_0 g _) rfl rfl rfl (Nat.le_of_ble_eq_true rfl) dX11_gaps_31) (fun r31 => ?_)
        refine r_goto B 42 dX11_gaps_34 (by decide) ?_
        exact r_lret B dX11_gaps_42 rfl
set_option maxRecDepth 20000 in
theorem k_X11_gaps {l : Launch} {D : va_G} {g : zGx} (hz : zin (WM g)) {S : zSt} {a1 : Int32} {a2 : Int32} {a3 : Int32} {b : Int64} (h : F_X11_gaps S a1 a2 a3 = some b) : zMet l D (WM g) (zT g) yX11_gaps wsX11_gaps rm_X11_gaps S [.ref (g.1 0), .int a1, .int a2, .int a3] ((eL S) b) := zmet_of (by decide +kernel) rfl hz (Nat.le_of_ble_eq_true rfl) rfl (fun E _ _ hE B => x_X11_gaps B hE S a1 a2 a3) h
abbrev rm_X11_waitsIn : Room := { frames := 0, cells := 0, slots := 0, locals := 0 }
theorem y_X11_waitsIn : yX11_waitsIn.cls ≠ "java/lang/invoke/MethodHandle" ∧ yX11_waitsIn.cls ≠ "java/lang/invoke/VarHandle" ∧ (parseMethodDescriptor yX11_waitsIn.desc).map (fun d => d.parameters.length) = some 1 := by decide +kernel
set_option maxRecDepth 100000 in
set_option maxHeartbeats 4000000 in
theorem x_X11_waitsIn {E : zCx} {g : zGx} (B : zGood E (WM g) (zT g) cX11_waitsIn RX11 wsX11_waitsIn (some .int) rm_X11_waitsIn) (hE : E.2.2 = 1) (S : zSt) (a0 : Int32) : Xo E (WM g) (eI S) S 0 [(0, .int a0)] [] (F_X11_waitsIn a0) := by
  unfold F_X11_waitsIn
  refine r_iload_n B 0 dX11_waitsIn_0 rfl rfl ?_
  refine r_iload_n B 0 dX11_waitsIn_1 rfl rfl ?_
  refine r_iconst B (1 : Int32) dX11_waitsIn_2 (by decide) ?_
  refine r_isub B dX11_waitsIn_3 ?_
  refine r_imul B dX11_waitsIn_4 ?_
  refine r_iconst B (2 : Int32) dX11_waitsIn_5 (by decide) ?_
  refine r_idiv B dX11_waitsIn_6 (fun _ => ?_)
  exact r_iret B dX11_waitsIn_7 rfl
set_option maxRecDepth 20000 in
theorem k_X11_waitsIn {l : Launch} {D : va_G} {g : zGx} (hz : zin (WM g)) {S : zSt} {a0 : Int32} {b : Int32} (h : F_X11_waitsIn a0 = some b) : zMet l D (WM g) (zT g) yX11_waitsIn wsX11_waitsIn rm_X11_waitsIn S [.int a0] ((eI S) b) := zmet_of (by decide +kernel) rfl hz (Nat.le_of_ble_eq_true rfl) rfl (fun E _ _ hE B => x_X11_waitsIn B hE S a0) h
abbrev rm_X11_backFrom : Room := { frames := 1, cells := 0, slots := 0, locals := 20 }
theorem y_X11_backFrom : yX11_backFrom.cls = RX11 ∧ yX11_backFrom.cls ≠ "java/lang/invoke/MethodHandle" ∧ yX11_backFrom.cls ≠ "java/lang/invoke/VarHandle" ∧ (parseMethodDescriptor yX11_backFrom.desc).map (fun d => d.parameters.length) = some 3 := by decide +kernel
theorem m_X11_backFrom_f19 : Cond.fieldLink RX11 19 "LongestMetModel" "minutes" "[I" ∈ wsX11_backFrom := List.mem_cons_of_mem _ (List.mem_append_left _ (List.mem_of_getElem? (i := 0) rfl))
theorem m_X11_backFrom_inX11 : ∀ x ∈ u_ws RX11 TX11 27, x ∈ wsX11_backFrom := fun _ h => List.mem_cons_of_mem _ (List.mem_append_right _ h)
theorem m_X11_backFrom_c123 : Cond.constant RX11 123 (100000) ∈ wsX11_backFrom := List.mem_cons_of_mem _ (List.mem_append_left _ (List.mem_of_getElem? (i := 1) rfl))
theorem m_X11_backFrom_f22 : Cond.fieldLink RX11 22 "LongestMetModel" "least" "[I" ∈ wsX11_backFrom := List.mem_cons_of_mem _ (List.mem_append_left _ (List.mem_of_getElem? (i := 2) rfl))
set_option maxRecDepth 100000 in
set_option maxHeartbeats 4000000 in
theorem xL_X11_backFrom_83 {E : zCx} {g : zGx} (B : zGood E (WM g) (zT g) cX11_backFrom RX11 wsX11_backFrom (some .int) rm_X11_backFrom) (hE : E.2.2 = 11) (a1 : Int32) (a2 : Int32) (a3 : Int32) (v4_5 : Int32) (S13 : zSt) (v5_13 : Int32) (x6_29 : Int32) (k : Int32 → Option (Int32 × zSt)) (hk : ∀ (w7 : Int32), Xo E (WM g) eIw S13 169 [(0, .ref (g.1 0)), (1, .int a1), (2, .int a2), (3, .int a3), (4, .int v4_5), (5, .int v5_13), (7, .int w7)] [] (k w7)) : ∀ (n : Nat) (v7_83 : Int32) (v8_83 : Int32), Xo E (WM g) eIw S13 83 [(0, .ref (g.1 0)), (1, .int a1), (2, .int a2), (3, .int a3), (4, .int v4_5), (5, .int v5_13), (6, .int x6_29), (7, .int v7_83), (8, .int v8_83)] [] (L_X11_backFrom_83 a1 a2 a3 v4_5 S13 v5_13 x6_29 k n v7_83 v8_83) := by
  have n4 : 4 < E.2.2 := by rw [hE]; decide
  have n5 : 5 < E.2.2 := by rw [hE]; decide
  have n6 : 6 < E.2.2 := by rw [hE]; decide
  have n7 : 7 < E.2.2 := by rw [hE]; decide
  have n8 : 8 < E.2.2 := by rw [hE]; decide
  have n9 : 9 < E.2.2 := by rw [hE]; decide
  have n10 : 10 < E.2.2 := by rw [hE]; decide
  intro n
  induction n with
  | zero =>
    intro _ _
    exact r_none
  | succ n ih =>
    intro v7_83 v8_83
    rw [L_X11_backFrom_83]
    refine r_iload B 8 dX11_backFrom_83 rfl ?_
    refine r_iload_n B 2 dX11_backFrom_85 rfl rfl ?_
    refine r_icmp_gt B 169 dX11_backFrom_86 (by decide) (fun _ => ?_) (fun _ => ?_)
    · refine r_sub [0, 1, 2, 3, 4, 5, 7] rfl ?_
      exact hk v7_83
    · refine r_iload B 4 dX11_backFrom_89 rfl ?_
      refine r_iconst B (1 : Int32) dX11_backFrom_91 (by decide) ?_
      refine r_iadd B dX11_backFrom_92 ?_
      refine r_iload_n B 1 dX11_backFrom_93 rfl rfl ?_
      refine r_icmp_ge B 169 dX11_backFrom_94 (by decide) (fun _ => ?_) (fun _ => ?_)
      · refine r_sub [0, 1, 2, 3, 4, 5, 7] rfl ?_
        exact hk v7_83
      · refine r_aload_n B 0 dX11_backFrom_97 rfl rfl ?_
        refine r_get B 0 10 5 (Nat.le_of_ble_eq_true rfl) rfl (cM_0 g _) rfl m_X11_backFrom_inX11 (Nat.le_of_ble_eq_true rfl) m_X11_backFrom_f19 rfl dX11_backFrom_98 ?_
        refine r_iload B 4 dX11_backFrom_101 rfl ?_
        refine r_iconst B (1 : Int32) dX11_backFrom_103 (by decide) ?_
        refine r_iadd B dX11_backFrom_104 ?_
        refine r_iald B 4 0 (Nat.le_of_ble_eq_true rfl) rfl (cM_4 g _) rfl dX11_backFrom_105 ?_
        refine r_iload B 8 dX11_backFrom_106 rfl ?_
        refine r_iadd B dX11_backFrom_108 ?_
        refine r_iload B 6 dX11_backFrom_109 rfl ?_
        refine r_isub B dX11_backFrom_111 ?_
        refine r_istore (lv' := fun x9_112 => [(9, .int x9_112), (0, .ref (g.1 0)), (1, .int a1), (2, .int a2), (3, .int a3), (4, .int v4_5), (5, .int v5_13), (6, .int x6_29), (7, .int v7_83), (8, .int v8_83)]) B dX11_backFrom_112 n9 (fun _ => rfl) (fun x9_112 => ?_)
        refine r_iload B 0 dX11_backFrom_114 rfl ?_
        refine r_jn2 (P := fun j145 : Int32 → Option (Int32 × zSt) => ∀ (y0_145 : Int32), Xo E (WM g) eIw S13 145 [(0, .ref (g.1 0)), (1, .int a1), (2, .int a2), (3, .int a3), (4, .int v4_5), (5, .int v5_13), (6, .int x6_29), (7, .int v7_83), (8, .int v8_83)] [.int y0_145] (j145 y0_145)) ?_ (fun j145 hj145 => ?_)
        · intro y0_145
          refine r_istore (lv' := fun x10_145 => [(10, .int x10_145), (0, .ref (g.1 0)), (1, .int a1), (2, .int a2), (3, .int a3), (4, .int v4_5), (5, .int v5_13), (6, .int x6_29), (7, .int v7_83), (8, .int v8_83)]) B dX11_backFrom_145 n10 (fun _ => rfl) (fun x10_145 => ?_)
          refine r_iload B 0 dX11_backFrom_147 rfl ?_
          refine r_iload B 8 dX11_backFrom_149 rfl ?_
          refine r_icmp_ge B 159 dX11_backFrom_151 (by decide) (fun _ => ?_) (fun _ => ?_)
          · refine r_iload B 8 dX11_backFrom_159 rfl ?_
            refine r_istore (lv' := fun x7_161 => [(7, .int x7_161), (10, .int x10_145), (0, .ref (g.1 0)), (1, .int a1), (2, .int a2), (3, .int a3), (4, .int v4_5), (5, .int v5_13), (6, .int x6_29), (8, .int v8_83)]) B dX11_backFrom_161 n7 (fun _ => rfl) (fun x7_161 => ?_)
            refine r_iinc (lv' := fun x8_163 => [(8, .int x8_163), (7, .int x7_161), (10, .int x10_145), (0, .ref (g.1 0)), (1, .int a1), (2, .int a2), (3, .int a3), (4, .int v4_5), (5, .int v5_13), (6, .int x6_29)]) B 9 (1 : Int32) dX11_backFrom_163 rfl (by decide) n8 (fun _ => rfl) (fun x8_163 => ?_)
            refine r_goto B 83 dX11_backFrom_166 (by decide) ?_
            refine r_sub [3, 4, 5, 6, 7, 8, 9, 1, 0] rfl ?_
            exact ih x7_161 x8_163
          · refine r_iload B 0 dX11_backFrom_154 rfl ?_
            refine r_goto B 161 dX11_backFrom_156 (by decide) ?_
            refine r_istore (lv' := fun x7_161 => [(7, .int x7_161), (10, .int x10_145), (0, .ref (g.1 0)), (1, .int a1), (2, .int a2), (3, .int a3), (4, .int v4_5), (5, .int v5_13), (6, .int x6_29), (8, .int v8_83)]) B dX11_backFrom_161 n7 (fun _ => rfl) (fun x7_161 => ?_)
            refine r_iinc (lv' := fun x8_163 => [(8, .int x8_163), (7, .int x7_161), (10, .int x10_145), (0, .ref (g.1 0)), (1, .int a1), (2, .int a2), (3, .int a3), (4, .int v4_5), (5, .int v5_13), (6, .int x6_29)]) B 9 (1 : Int32) dX11_backFrom_163 rfl (by decide) n8 (fun _ => rfl) (fun x8_163 => ?_)
            refine r_goto B 83 dX11_backFrom_166 (by decide) ?_
            refine r_sub [3, 4, 5, 6, 7, 8, 9, 1, 0] rfl ?_
            exact ih x7_161 x8_163
        refine r_if_le B 143 dX11_backFrom_116 (by decide) (fun _ => ?_) (fun _ => ?_)
        · refine r_ldc B (100000 : Int32) m_X11_backFrom_c123 dX11_backFrom_143 ?_
          refine r_sub [1, 2, 3, 4, 5, 6, 7, 8, 9] rfl ?_
          exact hj145 (100000 : Int32)
        · refine r_iload B 0 dX11_backFrom_119 rfl ?_
          refine r_cI (zrunS (As := [.int x9_112]) (rest := []) B 1 (fun b hb => k_X11_waitsIn B.2.2.1 hb) gX11_backFrom_X11_waitsIn rfl rfl rfl y_X11_waitsIn ⟨Nat.le_of_ble_eq_true rfl, Nat.le_of_ble_eq_true rfl⟩ rfl rfl (Nat.le_of_ble_eq_true rfl) dX11_backFrom_121) (fun r121 => ?_)
          refine r_aload_n B 1 dX11_backFrom_124 rfl rfl ?_
          refine r_get B 0 10 6 (Nat.le_of_ble_eq_true rfl) rfl (cM_0 g _) rfl m_X11_backFrom_inX11 (Nat.le_of_ble_eq_true rfl) m_X11_backFrom_f22 rfl dX11_backFrom_125 ?_
          refine r_bipush B (6 : Int32) dX11_backFrom_128 (by decide) ?_
          refine r_iload B 5 dX11_backFrom_130 rfl ?_
          refine r_iconst B (1 : Int32) dX11_backFrom_132 (by decide) ?_
          refine r_iadd B dX11_backFrom_133 ?_
          refine r_imul B dX11_backFrom_134 ?_
          refine r_iload B 9 dX11_backFrom_135 rfl ?_
          refine r_iadd B dX11_backFrom_137 ?_
          refine r_iald B 5 0 (Nat.le_of_ble_eq_true rfl) rfl (cM_5 g _) rfl dX11_backFrom_138 ?_
          refine r_iadd B dX11_backFrom_139 ?_
          refine r_goto B 145 dX11_backFrom_140 (by decide) ?_
          refine r_sub [1, 2, 3, 4, 5, 6, 7, 8, 9] rfl ?_
          exact hj145 (r121 + (zA S13 5 (((6 : Int32) * (v4_5 + (1 : Int32))) + v8_83).toNatClampNeg))
set_option maxRecDepth 100000 in
set_option maxHeartbeats 4000000 in
theorem xL_X11_backFrom_13 {E : zCx} {g : zGx} (B : zGood E (WM g) (zT g) cX11_backFrom RX11 wsX11_backFrom (some .int) rm_X11_backFrom) (hE : E.2.2 = 11) (a1 : Int32) (a2 : Int32) (a3 : Int32) (v4_5 : Int32) (k : zSt → Option (Int32 × zSt)) (hk : ∀ (S13x : zSt), Xo E (WM g) eIw S13x 190 [(0, .ref (g.1 0)), (1, .int a1), (2, .int a2), (3, .int a3), (4, .int v4_5)] [] (k S13x)) : ∀ (n : Nat) (S13 : zSt) (v5_13 : Int32), Xo E (WM g) eIw S13 13 [(0, .ref (g.1 0)), (1, .int a1), (2, .int a2), (3, .int a3), (4, .int v4_5), (5, .int v5_13)] [] (L_X11_backFrom_13 a1 a2 a3 v4_5 k n S13 v5_13) := by
  have n4 : 4 < E.2.2 := by rw [hE]; decide
  have n5 : 5 < E.2.2 := by rw [hE]; decide
  have n6 : 6 < E.2.2 := by rw [hE]; decide
  have n7 : 7 < E.2.2 := by rw [hE]; decide
  have n8 : 8 < E.2.2 := by rw [hE]; decide
  have n9 : 9 < E.2.2 := by rw [hE]; decide
  have n10 : 10 < E.2.2 := by rw [hE]; decide
  intro n
  induction n with
  | zero =>
    intro _ _
    exact r_none
  | succ n ih =>
    intro S13 v5_13
    rw [L_X11_backFrom_13]
    refine r_iload B 5 dX11_backFrom_13 rfl ?_
    refine r_iload_n B 2 dX11_backFrom_15 rfl rfl ?_
    refine r_icmp_gt B 190 dX11_backFrom_16 (by decide) (fun _ => ?_) (fun _ => ?_)
    · refine r_sub [0, 1, 2, 3, 4] rfl ?_
      exact hk S13
    · refine r_aload_n B 0 dX11_backFrom_19 rfl rfl ?_
      refine r_get B 0 10 5 (Nat.le_of_ble_eq_true rfl) rfl (cM_0 g _) rfl m_X11_backFrom_inX11 (Nat.le_of_ble_eq_true rfl) m_X11_backFrom_f19 rfl dX11_backFrom_20 ?_
      refine r_iload B 4 dX11_backFrom_23 rfl ?_
      refine r_iald B 4 0 (Nat.le_of_ble_eq_true rfl) rfl (cM_4 g _) rfl dX11_backFrom_25 ?_
      refine r_iload B 5 dX11_backFrom_26 rfl ?_
      refine r_iadd B dX11_backFrom_28 ?_
      refine r_istore (lv' := fun x6_29 => [(6, .int x6_29), (0, .ref (g.1 0)), (1, .int a1), (2, .int a2), (3, .int a3), (4, .int v4_5), (5, .int v5_13)]) B dX11_backFrom_29 n6 (fun _ => rfl) (fun x6_29 => ?_)
      refine r_ldc B (100000 : Int32) m_X11_backFrom_c123 dX11_backFrom_31 ?_
      refine r_istore (lv' := fun x7_33 => [(7, .int x7_33), (6, .int x6_29), (0, .ref (g.1 0)), (1, .int a1), (2, .int a2), (3, .int a3), (4, .int v4_5), (5, .int v5_13)]) B dX11_backFrom_33 n7 (fun _ => rfl) (fun x7_33 => ?_)
      refine r_iload B 1 dX11_backFrom_35 rfl ?_
      refine r_bipush B (59 : Int32) dX11_backFrom_37 (by decide) ?_
      refine r_jn2 (P := fun j169 : Int32 → Option (Int32 × zSt) => ∀ (x7_169 : Int32), Xo E (WM g) eIw S13 169 [(0, .ref (g.1 0)), (1, .int a1), (2, .int a2), (3, .int a3), (4, .int v4_5), (5, .int v5_13), (7, .int x7_169)] [] (j169 x7_169)) ?_ (fun j169 hj169 => ?_)
      · intro x7_169
        refine r_aload_n B 0 dX11_backFrom_169 rfl rfl ?_
        refine r_get B 0 10 6 (Nat.le_of_ble_eq_true rfl) rfl (cM_0 g _) rfl m_X11_backFrom_inX11 (Nat.le_of_ble_eq_true rfl) m_X11_backFrom_f22 rfl dX11_backFrom_170 ?_
        refine r_bipush B (6 : Int32) dX11_backFrom_173 (by decide) ?_
        refine r_iload B 4 dX11_backFrom_175 rfl ?_
        refine r_imul B dX11_backFrom_177 ?_
        refine r_iload B 5 dX11_backFrom_178 rfl ?_
        refine r_iadd B dX11_backFrom_180 ?_
        refine r_iload B 6 dX11_backFrom_181 rfl ?_
        refine r_iast B 5 0 (Nat.le_of_ble_eq_true rfl) rfl (cM_5 g _) rfl (uM_5 g _ _) dX11_backFrom_183 (fun S183 => ?_)
        refine r_iinc (lv' := fun x5_184 => [(5, .int x5_184), (0, .ref (g.1 0)), (1, .int a1), (2, .int a2), (3, .int a3), (4, .int v4_5), (7, .int x7_169)]) B 5 (1 : Int32) dX11_backFrom_184 rfl (by decide) n5 (fun _ => rfl) (fun x5_184 => ?_)
        refine r_goto B 13 dX11_backFrom_187 (by decide) ?_
        refine r_sub [1, 2, 3, 4, 5, 0] rfl ?_
        exact ih S183 x5_184
      refine r_icmp_gt B 169 dX11_backFrom_39 (by decide) (fun _ => ?_) (fun _ => ?_)
      · refine r_sub [2, 3, 4, 5, 6, 7, 0] rfl ?_
        exact hj169 x7_33
      · refine r_iload B 6 dX11_backFrom_42 rfl ?_
        refine r_jn2 (P := fun j53 : Option (Int32 × zSt) => Xo E (WM g) eIw S13 53 [(0, .ref (g.1 0)), (1, .int a1), (2, .int a2), (3, .int a3), (4, .int v4_5), (5, .int v5_13), (6, .int x6_29), (7, .int x7_33)] [] (j53)) ?_ (fun j53 hj53 => ?_)
        · refine r_iload B 4 dX11_backFrom_53 rfl ?_
          refine r_iload_n B 1 dX11_backFrom_55 rfl rfl ?_
          refine r_iconst B (1 : Int32) dX11_backFrom_56 (by decide) ?_
          refine r_isub B dX11_backFrom_57 ?_
          refine r_jn2 (P := fun j80 : Int32 → Option (Int32 × zSt) => ∀ (x7_80 : Int32), Xo E (WM g) eIw S13 80 [(0, .ref (g.1 0)), (1, .int a1), (2, .int a2), (3, .int a3), (4, .int v4_5), (5, .int v5_13), (6, .int x6_29), (7, .int x7_80)] [] (j80 x7_80)) ?_ (fun j80 hj80 => ?_)
          · intro x7_80
            refine r_iconst B (0 : Int32) dX11_backFrom_80 (by decide) ?_
            refine r_istore (lv' := fun x8_81 => [(8, .int x8_81), (0, .ref (g.1 0)), (1, .int a1), (2, .int a2), (3, .int a3), (4, .int v4_5), (5, .int v5_13), (6, .int x6_29), (7, .int x7_80)]) B dX11_backFrom_81 n8 (fun _ => rfl) (fun x8_81 => ?_)
            refine r_sub [1, 2, 3, 4, 5, 6, 7, 8, 0] rfl ?_
            refine xL_X11_backFrom_83 B hE a1 a2 a3 v4_5 S13 v5_13 x6_29 _ ?_ 1000 x7_80 x8_81
            intro w7_83
            exact hj169 w7_83
          refine r_icmp_ne B 80 dX11_backFrom_58 (by decide) (fun _ => ?_) (fun _ => ?_)
          · exact hj80 x7_33
          · refine r_bipush B (60 : Int32) dX11_backFrom_61 (by decide) ?_
            refine r_iload B 6 dX11_backFrom_63 rfl ?_
            refine r_isub B dX11_backFrom_65 ?_
            refine r_aload_n B 0 dX11_backFrom_66 rfl rfl ?_
            refine r_get B 0 10 5 (Nat.le_of_ble_eq_true rfl) rfl (cM_0 g _) rfl m_X11_backFrom_inX11 (Nat.le_of_ble_eq_true rfl) m_X11_backFrom_f19 rfl dX11_backFrom_67 ?_
            refine r_iconst B (0 : Int32) dX11_backFrom_70 (by decide) ?_
            refine r_iald B 4 0 (Nat.le_of_ble_eq_true rfl) rfl (cM_4 g _) rfl dX11_backFrom_71 ?_
            refine r_iadd B dX11_backFrom_72 ?_
            refine r_iload_n B 3 dX11_backFrom_73 rfl rfl ?_
            refine r_iadd B dX11_backFrom_74 ?_
            refine r_cI (zrunS (As := [.int ((((60 : Int32) - x6_29) + (zA S13 4 (0 : Int32).toNatClampNeg)) + a3)]) (rest := []) B 1 (fun b hb => k_X11_waitsIn B.2.2.1 hb) gX11_backFrom_X11_waitsIn rfl rfl rfl y_X11_waitsIn ⟨Nat.le_of_ble_eq_true rfl, Nat.le_of_ble_eq_true rfl⟩ rfl rfl (Nat.le_of_ble_eq_true rfl) dX11_backFrom_75) (fun r75 => ?_)
            refine r_istore (lv' := fun x7_78 => [(7, .int x7_78), (0, .ref (g.1 0)), (1, .int a1), (2, .int a2), (3, .int a3), (4, .int v4_5), (5, .int v5_13), (6, .int x6_29)]) B dX11_backFrom_78 n7 (fun _ => rfl) (fun x7_78 => ?_)
            refine r_sub [1, 2, 3, 4, 5, 6, 7, 0] rfl ?_
            exact hj80 x7_78
        refine r_if_gt B 53 dX11_backFrom_44 (by decide) (fun _ => ?_) (fun _ => ?_)
        · refine r_sub [2, 3, 4, 5, 6, 7, 1, 0] rfl ?_
          exact hj53
        · refine r_iload B 7 dX11_backFrom_47 rfl ?_
          refine r_iload_n B 5 dX11_backFrom_49 rfl rfl ?_
          refine r_icmp_ne B 169 dX11_backFrom_50 (by decide) (fun _ => ?_) (fun _ => ?_)
          · refine r_sub [2, 3, 4, 5, 6, 7, 0] rfl ?_
            exact hj169 x7_33
          · refine r_sub [2, 3, 4, 5, 6, 7, 1, 0] rfl ?_
            exact hj53
set_option maxRecDepth 100000 in
set_option maxHeartbeats 4000000 in
theorem xL_X11_backFrom_5 {E : zCx} {g : zGx} (B : zGood E (WM g) (zT g) cX11_backFrom RX11 wsX11_backFrom (some .int) rm_X11_backFrom) (hE : E.2.2 = 11) (a1 : Int32) (a2 : Int32) (a3 : Int32) (k : zSt → Option (Int32 × zSt)) (hk : ∀ (S5x : zSt), Xo E (WM g) eIw S5x 196 [(0, .ref (g.1 0)), (3, .int a3)] [] (k S5x)) : ∀ (n : Nat) (S5 : zSt) (v4_5 : Int32), Xo E (WM g) eIw S5 5 [(0, .ref (g.1 0)), (1, .int a1), (2, .int a2), (3, .int a3), (4, .int v4_5)] [] (L_X11_backFrom_5 a1 a2 a3 k n S5 v4_5) := by
  have n4 : 4 < E.2.2 := by rw [hE]; decide
  have n5 : 5 < E.2.2 := by rw [hE]; decide
  have n6 : 6 < E.2.2 := by rw [hE]; decide
  have n7 : 7 < E.2.2 := by rw [hE]; decide
  have n8 : 8 < E.2.2 := by rw [hE]; decide
  have n9 : 9 < E.2.2 := by rw [hE]; decide
  have n10 : 10 < E.2.2 := by rw [hE]; decide
  intro n
  induction n with
  | zero =>
    intro _ _
    exact r_none
  | succ n ih =>
    intro S5 v4_5
    rw [L_X11_backFrom_5]
    refine r_iload B 4 dX11_backFrom_5 rfl ?_
    refine r_if_lt B 196 dX11_backFrom_7 (by decide) (fun _ => ?_) (fun _ => ?_)
    · refine r_sub [0, 3] rfl ?_
      exact hk S5
    · refine r_iconst B (0 : Int32) dX11_backFrom_10 (by decide) ?_
      refine r_istore (lv' := fun x5_11 => [(5, .int x5_11), (0, .ref (g.1 0)), (1, .int a1), (2, .int a2), (3, .int a3), (4, .int v4_5)]) B dX11_backFrom_11 n5 (fun _ => rfl) (fun x5_11 => ?_)
      refine r_sub [1, 2, 3, 4, 5, 0] rfl ?_
      refine xL_X11_backFrom_13 B hE a1 a2 a3 v4_5 _ ?_ 1000 S5 x5_11
      intro S13x_13
      refine r_iinc (lv' := fun x4_190 => [(4, .int x4_190), (0, .ref (g.1 0)), (1, .int a1), (2, .int a2), (3, .int a3)]) B 4 (-1 : Int32) dX11_backFrom_190 rfl (by decide) n4 (fun _ => rfl) (fun x4_190 => ?_)
      refine r_goto B 5 dX11_backFrom_193 (by decide) ?_
      refine r_sub [1, 2, 3, 4, 0] rfl ?_
      exact ih S13x_13 x4_190
set_option maxRecDepth 100000 in
set_option maxHeartbeats 4000000 in
theorem x_X11_backFrom {E : zCx} {g : zGx} (B : zGood E (WM g) (zT g) cX11_backFrom RX11 wsX11_backFrom (some .int) rm_X11_backFrom) (hE : E.2.2 = 11) (S : zSt) (a1 : Int32) (a2 : Int32) (a3 : Int32) : Xo E (WM g) eIw S 0 [(0, .ref (g.1 0)), (1, .int a1), (2, .int a2), (3, .int a3)] [] (F_X11_backFrom S a1 a2 a3) := by
  have n4 : 4 < E.2.2 := by rw [hE]; decide
  have n5 : 5 < E.2.2 := by rw [hE]; decide
  have n6 : 6 < E.2.2 := by rw [hE]; decide
  have n7 : 7 < E.2.2 := by rw [hE]; decide
  have n8 : 8 < E.2.2 := by rw [hE]; decide
  have n9 : 9 < E.2.2 := by rw [hE]; decide
  have n10 : 10 < E.2.2 := by rw [hE]; decide
  unfold F_X11_backFrom
  refine r_iload_n B 1 dX11_backFrom_0 rfl rfl ?_
  refine r_iconst B (1 : Int32) dX11_backFrom_1 (by decide) ?_
  refine r_isub B dX11_backFrom_2 ?_
  refine r_istore (lv' := fun x4_3 => [(4, .int x4_3), (0, .ref (g.1 0)), (1, .int a1), (2, .int a2), (3, .int a3)]) B dX11_backFrom_3 n4 (fun _ => rfl) (fun x4_3 => ?_)
  refine r_sub [1, 2, 3, 4, 0] rfl ?_
  refine xL_X11_backFrom_5 B hE a1 a2 a3 _ ?_ 1000 S x4_3
  intro S5x_5
  refine r_aload_n B 0 dX11_backFrom_196 rfl rfl ?_
  refine r_get B 0 10 6 (Nat.le_of_ble_eq_true rfl) rfl (cM_0 g _) rfl m_X11_backFrom_inX11 (Nat.le_of_ble_eq_true rfl) m_X11_backFrom_f22 rfl dX11_backFrom_197 ?_
  refine r_iload_n B 1 dX11_backFrom_200 rfl rfl ?_
  refine r_iald B 5 0 (Nat.le_of_ble_eq_true rfl) rfl (cM_5 g _) rfl dX11_backFrom_201 ?_
  exact r_iret B dX11_backFrom_202 rfl
set_option maxRecDepth 20000 in
theorem k_X11_backFrom {l : Launch} {D : va_G} {g : zGx} (hz : zin (WM g)) {S : zSt} {a1 : Int32} {a2 : Int32} {a3 : Int32} {b : (Int32 × zSt)} (h : F_X11_backFrom S a1 a2 a3 = some b) : zMet l D (WM g) (zT g) yX11_backFrom wsX11_backFrom rm_X11_backFrom S [.ref (g.1 0), .int a1, .int a2, .int a3] (eIw b) := zmet_of (by decide +kernel) rfl hz (Nat.le_of_ble_eq_true rfl) rfl (fun E _ _ hE B => x_X11_backFrom B hE S a1 a2 a3) h
abbrev rm_X11_heldNow : Room := { frames := 2, cells := 0, slots := 0, locals := 50 }
theorem y_X11_heldNow : yX11_heldNow.cls = RX11 ∧ yX11_heldNow.cls ≠ "java/lang/invoke/MethodHandle" ∧ yX11_heldNow.cls ≠ "java/lang/invoke/VarHandle" ∧ (parseMethodDescriptor yX11_heldNow.desc).map (fun d => d.parameters.length) = some 3 := by decide +kernel
theorem m_X11_heldNow_f19 : Cond.fieldLink RX11 19 "LongestMetModel" "minutes" "[I" ∈ wsX11_heldNow := List.mem_cons_of_mem _ (List.mem_append_left _ (List.mem_of_getElem? (i := 0) rfl))
theorem m_X11_heldNow_inX11 : ∀ x ∈ u_ws RX11 TX11 27, x ∈ wsX11_heldNow := fun _ h => List.mem_cons_of_mem _ (List.mem_append_right _ h)
theorem m_X11_heldNow_c123 : Cond.constant RX11 123 (100000) ∈ wsX11_heldNow := List.mem_cons_of_mem _ (List.mem_append_left _ (List.mem_of_getElem? (i := 1) rfl))
theorem m_X11_heldNow_f25 : Cond.fieldLink RX11 25 "LongestMetModel" "later" "[I" ∈ wsX11_heldNow := List.mem_cons_of_mem _ (List.mem_append_left _ (List.mem_of_getElem? (i := 2) rfl))
theorem m_X11_heldNow_f22 : Cond.fieldLink RX11 22 "LongestMetModel" "least" "[I" ∈ wsX11_heldNow := List.mem_cons_of_mem _ (List.mem_append_left _ (List.mem_of_getElem? (i := 3) rfl))
set_option maxRecDepth 100000 in
set_option maxHeartbeats 4000000 in
theorem xL_X11_heldNow_6 {E : zCx} {g : zGx} (B : zGood E (WM g) (zT g) cX11_heldNow RX11 wsX11_heldNow (some .int) rm_X11_heldNow) (hE : E.2.2 = 12) (a1 : Int32) (a2 : Int32) (a3 : Int32) (k : zSt → Int32 → Option (Int32 × zSt)) (hk : ∀ (S6x : zSt) (w4 : Int32), Xo E (WM g) eIw S6x 41 [(0, .ref (g.1 0)), (2, .int a2), (3, .int a3), (4, .int w4)] [] (k S6x w4)) : ∀ (n : Nat) (S6 : zSt) (v4_6 : Int32) (v5_6 : Int32), Xo E (WM g) eIw S6 6 [(0, .ref (g.1 0)), (1, .int a1), (2, .int a2), (3, .int a3), (4, .int v4_6), (5, .int v5_6)] [] (L_X11_heldNow_6 a1 a2 a3 k n S6 v4_6 v5_6) := by
  have n4 : 4 < E.2.2 := by rw [hE]; decide
  have n5 : 5 < E.2.2 := by rw [hE]; decide
  have n6 : 6 < E.2.2 := by rw [hE]; decide
  have n7 : 7 < E.2.2 := by rw [hE]; decide
  have n8 : 8 < E.2.2 := by rw [hE]; decide
  have n9 : 9 < E.2.2 := by rw [hE]; decide
  have n10 : 10 < E.2.2 := by rw [hE]; decide
  have n11 : 11 < E.2.2 := by rw [hE]; decide
  intro n
  induction n with
  | zero =>
    intro _ _ _
    exact r_none
  | succ n ih =>
    intro S6 v4_6 v5_6
    rw [L_X11_heldNow_6]
    refine r_iload B 5 dX11_heldNow_6 rfl ?_
    refine r_bipush B (60 : Int32) dX11_heldNow_8 (by decide) ?_
    refine r_icmp_ge B 41 dX11_heldNow_10 (by decide) (fun _ => ?_) (fun _ => ?_)
    · refine r_sub [0, 2, 3, 4] rfl ?_
      exact hk S6 v4_6
    · refine r_aload_n B 0 dX11_heldNow_13 rfl rfl ?_
      refine r_iload_n B 1 dX11_heldNow_14 rfl rfl ?_
      refine r_iload B 5 dX11_heldNow_15 rfl ?_
      refine r_cI (zrunV (As := [.int a1, .int v5_6]) (rest := []) B 2 0 (fun b hb => k_X11_isBus B.2.2.1 hb) gX11_heldNow_X11_isBus rfl rfl rfl y_X11_isBus ⟨Nat.le_of_ble_eq_true rfl, Nat.le_of_ble_eq_true rfl⟩ (Nat.le_of_ble_eq_true rfl) rfl (cM_0 g _) rfl rfl rfl (Nat.le_of_ble_eq_true rfl) dX11_heldNow_17) (fun r17 => ?_)
      refine r_if_eq B 35 dX11_heldNow_20 (by decide) (fun _ => ?_) (fun _ => ?_)
      · refine r_iinc (lv' := fun x5_35 => [(5, .int x5_35), (0, .ref (g.1 0)), (1, .int a1), (2, .int a2), (3, .int a3), (4, .int v4_6)]) B 5 (1 : Int32) dX11_heldNow_35 rfl (by decide) n5 (fun _ => rfl) (fun x5_35 => ?_)
        refine r_goto B 6 dX11_heldNow_38 (by decide) ?_
        refine r_sub [1, 2, 3, 4, 5, 0] rfl ?_
        exact ih S6 v4_6 x5_35
      · refine r_aload_n B 0 dX11_heldNow_23 rfl rfl ?_
        refine r_get B 0 10 5 (Nat.le_of_ble_eq_true rfl) rfl (cM_0 g _) rfl m_X11_heldNow_inX11 (Nat.le_of_ble_eq_true rfl) m_X11_heldNow_f19 rfl dX11_heldNow_24 ?_
        refine r_iload B 4 dX11_heldNow_27 rfl ?_
        refine r_iload B 5 dX11_heldNow_29 rfl ?_
        refine r_iast B 4 0 (Nat.le_of_ble_eq_true rfl) rfl (cM_4 g _) rfl (uM_4 g _ _) dX11_heldNow_31 (fun S31 => ?_)
        refine r_iinc (lv' := fun x4_32 => [(4, .int x4_32), (0, .ref (g.1 0)), (1, .int a1), (2, .int a2), (3, .int a3), (5, .int v5_6)]) B 4 (1 : Int32) dX11_heldNow_32 rfl (by decide) n4 (fun _ => rfl) (fun x4_32 => ?_)
        refine r_iinc (lv' := fun x5_35 => [(5, .int x5_35), (4, .int x4_32), (0, .ref (g.1 0)), (1, .int a1), (2, .int a2), (3, .int a3)]) B 5 (1 : Int32) dX11_heldNow_35 rfl (by decide) n5 (fun _ => rfl) (fun x5_35 => ?_)
        refine r_goto B 6 dX11_heldNow_38 (by decide) ?_
        refine r_sub [2, 3, 4, 5, 1, 0] rfl ?_
        exact ih S31 x4_32 x5_35
set_option maxRecDepth 100000 in
set_option maxHeartbeats 4000000 in
theorem xL_X11_heldNow_78 {E : zCx} {g : zGx} (B : zGood E (WM g) (zT g) cX11_heldNow RX11 wsX11_heldNow (some .int) rm_X11_heldNow) (hE : E.2.2 = 12) (a2 : Int32) (a3 : Int32) (w4_6 : Int32) (k : zSt → Int32 → Int32 → Option (Int32 × zSt)) (hk : ∀ (S78x : zSt) (w5 : Int32) (w6 : Int32), Xo E (WM g) eIw S78x 133 [(0, .ref (g.1 0)), (2, .int a2), (3, .int a3), (4, .int w4_6), (5, .int w5), (6, .int w6)] [] (k S78x w5 w6)) : ∀ (n : Nat) (S78 : zSt) (v5_78 : Int32) (v6_78 : Int32) (v7_78 : Int32), Xo E (WM g) eIw S78 78 [(0, .ref (g.1 0)), (2, .int a2), (3, .int a3), (4, .int w4_6), (5, .int v5_78), (6, .int v6_78), (7, .int v7_78)] [] (L_X11_heldNow_78 a2 a3 w4_6 k n S78 v5_78 v6_78 v7_78) := by
  have n4 : 4 < E.2.2 := by rw [hE]; decide
  have n5 : 5 < E.2.2 := by rw [hE]; decide
  have n6 : 6 < E.2.2 := by rw [hE]; decide
  have n7 : 7 < E.2.2 := by rw [hE]; decide
  have n8 : 8 < E.2.2 := by rw [hE]; decide
  have n9 : 9 < E.2.2 := by rw [hE]; decide
  have n10 : 10 < E.2.2 := by rw [hE]; decide
  have n11 : 11 < E.2.2 := by rw [hE]; decide
  intro n
  induction n with
  | zero =>
    intro _ _ _ _
    exact r_none
  | succ n ih =>
    intro S78 v5_78 v6_78 v7_78
    rw [L_X11_heldNow_78]
    refine r_iload B 6 dX11_heldNow_78 rfl ?_
    refine r_iload_n B 1 dX11_heldNow_80 rfl rfl ?_
    refine r_icmp_gt B 133 dX11_heldNow_81 (by decide) (fun _ => ?_) (fun _ => ?_)
    · refine r_sub [0, 1, 2, 3, 4, 5] rfl ?_
      exact hk S78 v5_78 v6_78
    · refine r_aload_n B 0 dX11_heldNow_84 rfl rfl ?_
      refine r_iload B 3 dX11_heldNow_85 rfl ?_
      refine r_iload_n B 1 dX11_heldNow_87 rfl rfl ?_
      refine r_iload B 6 dX11_heldNow_88 rfl ?_
      refine r_cIw (zrunV (As := [.int w4_6, .int a2, .int v7_78]) (rest := []) B 3 0 (fun b hb => k_X11_backFrom B.2.2.1 hb) gX11_heldNow_X11_backFrom rfl rfl rfl y_X11_backFrom ⟨Nat.le_of_ble_eq_true rfl, Nat.le_of_ble_eq_true rfl⟩ (Nat.le_of_ble_eq_true rfl) rfl (cM_0 g _) rfl rfl rfl (Nat.le_of_ble_eq_true rfl) dX11_heldNow_90) (fun r90 S90 => ?_)
      refine r_istore (lv' := fun x8_93 => [(8, .int x8_93), (0, .ref (g.1 0)), (2, .int a2), (3, .int a3), (4, .int w4_6), (5, .int v5_78), (6, .int v6_78), (7, .int v7_78)]) B dX11_heldNow_93 n8 (fun _ => rfl) (fun x8_93 => ?_)
      refine r_iload B 0 dX11_heldNow_95 rfl ?_
      refine r_iload B 6 dX11_heldNow_97 rfl ?_
      refine r_jn2 (P := fun j109 : Int32 → Option (Int32 × zSt) => ∀ (y0_109 : Int32), Xo E (WM g) eIw S90 109 [(0, .ref (g.1 0)), (2, .int a2), (3, .int a3), (4, .int w4_6), (6, .int v6_78), (7, .int v7_78), (8, .int x8_93)] [.int y0_109] (j109 y0_109)) ?_ (fun j109 hj109 => ?_)
      · intro y0_109
        refine r_istore (lv' := fun x5_109 => [(5, .int x5_109), (0, .ref (g.1 0)), (2, .int a2), (3, .int a3), (4, .int w4_6), (6, .int v6_78), (7, .int v7_78), (8, .int x8_93)]) B dX11_heldNow_109 n5 (fun _ => rfl) (fun x5_109 => ?_)
        refine r_iload B 7 dX11_heldNow_111 rfl ?_
        refine r_iload B 5 dX11_heldNow_113 rfl ?_
        refine r_icmp_ge B 123 dX11_heldNow_115 (by decide) (fun _ => ?_) (fun _ => ?_)
        · refine r_iload B 5 dX11_heldNow_123 rfl ?_
          refine r_istore (lv' := fun x6_125 => [(6, .int x6_125), (5, .int x5_109), (0, .ref (g.1 0)), (2, .int a2), (3, .int a3), (4, .int w4_6), (7, .int v7_78), (8, .int x8_93)]) B dX11_heldNow_125 n6 (fun _ => rfl) (fun x6_125 => ?_)
          refine r_iinc (lv' := fun x7_127 => [(7, .int x7_127), (6, .int x6_125), (5, .int x5_109), (0, .ref (g.1 0)), (2, .int a2), (3, .int a3), (4, .int w4_6), (8, .int x8_93)]) B 6 (1 : Int32) dX11_heldNow_127 rfl (by decide) n7 (fun _ => rfl) (fun x7_127 => ?_)
          refine r_goto B 78 dX11_heldNow_130 (by decide) ?_
          refine r_sub [3, 4, 5, 6, 2, 1, 0] rfl ?_
          exact ih S90 x5_109 x6_125 x7_127
        · refine r_iload B 7 dX11_heldNow_118 rfl ?_
          refine r_goto B 125 dX11_heldNow_120 (by decide) ?_
          refine r_istore (lv' := fun x6_125 => [(6, .int x6_125), (5, .int x5_109), (0, .ref (g.1 0)), (2, .int a2), (3, .int a3), (4, .int w4_6), (7, .int v7_78), (8, .int x8_93)]) B dX11_heldNow_125 n6 (fun _ => rfl) (fun x6_125 => ?_)
          refine r_iinc (lv' := fun x7_127 => [(7, .int x7_127), (6, .int x6_125), (5, .int x5_109), (0, .ref (g.1 0)), (2, .int a2), (3, .int a3), (4, .int w4_6), (8, .int x8_93)]) B 6 (1 : Int32) dX11_heldNow_127 rfl (by decide) n7 (fun _ => rfl) (fun x7_127 => ?_)
          refine r_goto B 78 dX11_heldNow_130 (by decide) ?_
          refine r_sub [3, 4, 5, 6, 2, 1, 0] rfl ?_
          exact ih S90 x5_109 x6_125 x7_127
      refine r_icmp_ge B 107 dX11_heldNow_99 (by decide) (fun _ => ?_) (fun _ => ?_)
      · refine r_iload B 5 dX11_heldNow_107 rfl ?_
        refine r_sub [1, 2, 3, 4, 6, 7, 0] rfl ?_
        exact hj109 v5_78
      · refine r_iload B 7 dX11_heldNow_102 rfl ?_
        refine r_goto B 109 dX11_heldNow_104 (by decide) ?_
        refine r_sub [1, 2, 3, 4, 6, 7, 0] rfl ?_
        exact hj109 v7_78
set_option maxRecDepth 100000 in
set_option maxHeartbeats 4000000 in
theorem xL_X11_heldNow_176 {E : zCx} {g : zGx} (B : zGood E (WM g) (zT g) cX11_heldNow RX11 wsX11_heldNow (some .int) rm_X11_heldNow) (hE : E.2.2 = 12) (a2 : Int32) (a3 : Int32) (w4_6 : Int32) (x7_150 : Int32) (S163 : zSt) (v8_163 : Int32) (k : Int32 → Option (Int32 × zSt)) (hk : ∀ (w9 : Int32), Xo E (WM g) eIw S163 283 [(0, .ref (g.1 0)), (2, .int a2), (3, .int a3), (4, .int w4_6), (7, .int x7_150), (8, .int v8_163), (9, .int w9)] [] (k w9)) : ∀ (n : Nat) (v9_176 : Int32) (v10_176 : Int32), Xo E (WM g) eIw S163 176 [(0, .ref (g.1 0)), (2, .int a2), (3, .int a3), (4, .int w4_6), (7, .int x7_150), (8, .int v8_163), (9, .int v9_176), (10, .int v10_176)] [] (L_X11_heldNow_176 a2 a3 w4_6 x7_150 S163 v8_163 k n v9_176 v10_176) := by
  have n4 : 4 < E.2.2 := by rw [hE]; decide
  have n5 : 5 < E.2.2 := by rw [hE]; decide
  have n6 : 6 < E.2.2 := by rw [hE]; decide
  have n7 : 7 < E.2.2 := by rw [hE]; decide
  have n8 : 8 < E.2.2 := by rw [hE]; decide
  have n9 : 9 < E.2.2 := by rw [hE]; decide
  have n10 : 10 < E.2.2 := by rw [hE]; decide
  have n11 : 11 < E.2.2 := by rw [hE]; decide
  intro n
  induction n with
  | zero =>
    intro _ _
    exact r_none
  | succ n ih =>
    intro v9_176 v10_176
    rw [L_X11_heldNow_176]
    refine r_iload B 7 dX11_heldNow_176 rfl ?_
    refine r_iload_n B 1 dX11_heldNow_178 rfl rfl ?_
    refine r_icmp_gt B 283 dX11_heldNow_179 (by decide) (fun _ => ?_) (fun _ => ?_)
    · refine r_sub [0, 1, 2, 3, 4, 5, 6] rfl ?_
      exact hk v9_176
    · refine r_iload B 6 dX11_heldNow_182 rfl ?_
      refine r_iconst B (-1 : Int32) dX11_heldNow_184 (by decide) ?_
      refine r_icmp_ne B 283 dX11_heldNow_185 (by decide) (fun _ => ?_) (fun _ => ?_)
      · refine r_sub [0, 1, 2, 3, 4, 5, 6] rfl ?_
        exact hk v9_176
      · refine r_aload_n B 0 dX11_heldNow_188 rfl rfl ?_
        refine r_get B 0 10 5 (Nat.le_of_ble_eq_true rfl) rfl (cM_0 g _) rfl m_X11_heldNow_inX11 (Nat.le_of_ble_eq_true rfl) m_X11_heldNow_f19 rfl dX11_heldNow_189 ?_
        refine r_iload B 5 dX11_heldNow_192 rfl ?_
        refine r_iald B 4 0 (Nat.le_of_ble_eq_true rfl) rfl (cM_4 g _) rfl dX11_heldNow_194 ?_
        refine r_iload B 7 dX11_heldNow_195 rfl ?_
        refine r_iadd B dX11_heldNow_197 ?_
        refine r_aload_n B 0 dX11_heldNow_198 rfl rfl ?_
        refine r_get B 0 10 5 (Nat.le_of_ble_eq_true rfl) rfl (cM_0 g _) rfl m_X11_heldNow_inX11 (Nat.le_of_ble_eq_true rfl) m_X11_heldNow_f19 rfl dX11_heldNow_199 ?_
        refine r_iload B 5 dX11_heldNow_202 rfl ?_
        refine r_iconst B (1 : Int32) dX11_heldNow_204 (by decide) ?_
        refine r_isub B dX11_heldNow_205 ?_
        refine r_iald B 4 0 (Nat.le_of_ble_eq_true rfl) rfl (cM_4 g _) rfl dX11_heldNow_206 ?_
        refine r_isub B dX11_heldNow_207 ?_
        refine r_aload_n B 0 dX11_heldNow_208 rfl rfl ?_
        refine r_get B 0 10 7 (Nat.le_of_ble_eq_true rfl) rfl (cM_0 g _) rfl m_X11_heldNow_inX11 (Nat.le_of_ble_eq_true rfl) m_X11_heldNow_f25 rfl dX11_heldNow_209 ?_
        refine r_iload B 5 dX11_heldNow_212 rfl ?_
        refine r_iconst B (1 : Int32) dX11_heldNow_214 (by decide) ?_
        refine r_isub B dX11_heldNow_215 ?_
        refine r_iald B 6 0 (Nat.le_of_ble_eq_true rfl) rfl (cM_6 g _) rfl dX11_heldNow_216 ?_
        refine r_isub B dX11_heldNow_217 ?_
        refine r_istore (lv' := fun x11_218 => [(11, .int x11_218), (0, .ref (g.1 0)), (2, .int a2), (3, .int a3), (4, .int w4_6), (7, .int x7_150), (8, .int v8_163), (9, .int v9_176), (10, .int v10_176)]) B dX11_heldNow_218 n11 (fun _ => rfl) (fun x11_218 => ?_)
        refine r_iload B 0 dX11_heldNow_220 rfl ?_
        refine r_if_le B 274 dX11_heldNow_222 (by decide) (fun _ => ?_) (fun _ => ?_)
        · refine r_iconst B (-1 : Int32) dX11_heldNow_274 (by decide) ?_
          refine r_istore (lv' := fun x9_275 => [(9, .int x9_275), (11, .int x11_218), (0, .ref (g.1 0)), (2, .int a2), (3, .int a3), (4, .int w4_6), (7, .int x7_150), (8, .int v8_163), (10, .int v10_176)]) B dX11_heldNow_275 n9 (fun _ => rfl) (fun x9_275 => ?_)
          refine r_iinc (lv' := fun x10_277 => [(10, .int x10_277), (9, .int x9_275), (11, .int x11_218), (0, .ref (g.1 0)), (2, .int a2), (3, .int a3), (4, .int w4_6), (7, .int x7_150), (8, .int v8_163)]) B 8 (1 : Int32) dX11_heldNow_277 rfl (by decide) n10 (fun _ => rfl) (fun x10_277 => ?_)
          refine r_goto B 176 dX11_heldNow_280 (by decide) ?_
          refine r_sub [3, 4, 5, 6, 7, 8, 1, 0] rfl ?_
          exact ih x9_275 x10_277
        · refine r_iload B 0 dX11_heldNow_225 rfl ?_
          refine r_cI (zrunS (As := [.int x11_218]) (rest := []) B 1 (fun b hb => k_X11_waitsIn B.2.2.1 hb) gX11_heldNow_X11_waitsIn rfl rfl rfl y_X11_waitsIn ⟨Nat.le_of_ble_eq_true rfl, Nat.le_of_ble_eq_true rfl⟩ rfl rfl (Nat.le_of_ble_eq_true rfl) dX11_heldNow_227) (fun r227 => ?_)
          refine r_aload_n B 1 dX11_heldNow_230 rfl rfl ?_
          refine r_get B 0 10 6 (Nat.le_of_ble_eq_true rfl) rfl (cM_0 g _) rfl m_X11_heldNow_inX11 (Nat.le_of_ble_eq_true rfl) m_X11_heldNow_f22 rfl dX11_heldNow_231 ?_
          refine r_bipush B (6 : Int32) dX11_heldNow_234 (by decide) ?_
          refine r_iload B 6 dX11_heldNow_236 rfl ?_
          refine r_imul B dX11_heldNow_238 ?_
          refine r_iload B 8 dX11_heldNow_239 rfl ?_
          refine r_iadd B dX11_heldNow_241 ?_
          refine r_iald B 5 0 (Nat.le_of_ble_eq_true rfl) rfl (cM_5 g _) rfl dX11_heldNow_242 ?_
          refine r_iadd B dX11_heldNow_243 ?_
          refine r_aload_n B 1 dX11_heldNow_244 rfl rfl ?_
          refine r_get B 0 10 6 (Nat.le_of_ble_eq_true rfl) rfl (cM_0 g _) rfl m_X11_heldNow_inX11 (Nat.le_of_ble_eq_true rfl) m_X11_heldNow_f22 rfl dX11_heldNow_245 ?_
          refine r_bipush B (6 : Int32) dX11_heldNow_248 (by decide) ?_
          refine r_iload B 6 dX11_heldNow_250 rfl ?_
          refine r_iconst B (1 : Int32) dX11_heldNow_252 (by decide) ?_
          refine r_isub B dX11_heldNow_253 ?_
          refine r_imul B dX11_heldNow_254 ?_
          refine r_aload_n B 1 dX11_heldNow_255 rfl rfl ?_
          refine r_get B 0 10 7 (Nat.le_of_ble_eq_true rfl) rfl (cM_0 g _) rfl m_X11_heldNow_inX11 (Nat.le_of_ble_eq_true rfl) m_X11_heldNow_f25 rfl dX11_heldNow_256 ?_
          refine r_iload B 6 dX11_heldNow_259 rfl ?_
          refine r_iconst B (1 : Int32) dX11_heldNow_261 (by decide) ?_
          refine r_isub B dX11_heldNow_262 ?_
          refine r_iald B 6 0 (Nat.le_of_ble_eq_true rfl) rfl (cM_6 g _) rfl dX11_heldNow_263 ?_
          refine r_iadd B dX11_heldNow_264 ?_
          refine r_iald B 5 0 (Nat.le_of_ble_eq_true rfl) rfl (cM_5 g _) rfl dX11_heldNow_265 ?_
          refine r_icmp_ne B 274 dX11_heldNow_266 (by decide) (fun _ => ?_) (fun _ => ?_)
          · refine r_iconst B (-1 : Int32) dX11_heldNow_274 (by decide) ?_
            refine r_istore (lv' := fun x9_275 => [(9, .int x9_275), (11, .int x11_218), (0, .ref (g.1 0)), (2, .int a2), (3, .int a3), (4, .int w4_6), (7, .int x7_150), (8, .int v8_163), (10, .int v10_176)]) B dX11_heldNow_275 n9 (fun _ => rfl) (fun x9_275 => ?_)
            refine r_iinc (lv' := fun x10_277 => [(10, .int x10_277), (9, .int x9_275), (11, .int x11_218), (0, .ref (g.1 0)), (2, .int a2), (3, .int a3), (4, .int w4_6), (7, .int x7_150), (8, .int v8_163)]) B 8 (1 : Int32) dX11_heldNow_277 rfl (by decide) n10 (fun _ => rfl) (fun x10_277 => ?_)
            refine r_goto B 176 dX11_heldNow_280 (by decide) ?_
            refine r_sub [3, 4, 5, 6, 7, 8, 1, 0] rfl ?_
            exact ih x9_275 x10_277
          · refine r_iload B 8 dX11_heldNow_269 rfl ?_
            refine r_goto B 275 dX11_heldNow_271 (by decide) ?_
            refine r_istore (lv' := fun x9_275 => [(9, .int x9_275), (11, .int x11_218), (0, .ref (g.1 0)), (2, .int a2), (3, .int a3), (4, .int w4_6), (7, .int x7_150), (8, .int v8_163), (10, .int v10_176)]) B dX11_heldNow_275 n9 (fun _ => rfl) (fun x9_275 => ?_)
            refine r_iinc (lv' := fun x10_277 => [(10, .int x10_277), (9, .int x9_275), (11, .int x11_218), (0, .ref (g.1 0)), (2, .int a2), (3, .int a3), (4, .int w4_6), (7, .int x7_150), (8, .int v8_163)]) B 8 (1 : Int32) dX11_heldNow_277 rfl (by decide) n10 (fun _ => rfl) (fun x10_277 => ?_)
            refine r_goto B 176 dX11_heldNow_280 (by decide) ?_
            refine r_sub [3, 4, 5, 6, 7, 8, 1, 0] rfl ?_
            exact ih x9_275 x10_277
set_option maxRecDepth 100000 in
set_option maxHeartbeats 4000000 in
theorem xL_X11_heldNow_163 {E : zCx} {g : zGx} (B : zGood E (WM g) (zT g) cX11_heldNow RX11 wsX11_heldNow (some .int) rm_X11_heldNow) (hE : E.2.2 = 12) (a2 : Int32) (a3 : Int32) (w4_6 : Int32) (x7_150 : Int32) (k : zSt → Option (Int32 × zSt)) (hk : ∀ (S163x : zSt), Xo E (WM g) eIw S163x 298 [(0, .ref (g.1 0)), (3, .int a3), (7, .int x7_150)] [] (k S163x)) : ∀ (n : Nat) (S163 : zSt) (v8_163 : Int32), Xo E (WM g) eIw S163 163 [(0, .ref (g.1 0)), (2, .int a2), (3, .int a3), (4, .int w4_6), (7, .int x7_150), (8, .int v8_163)] [] (L_X11_heldNow_163 a2 a3 w4_6 x7_150 k n S163 v8_163) := by
  have n4 : 4 < E.2.2 := by rw [hE]; decide
  have n5 : 5 < E.2.2 := by rw [hE]; decide
  have n6 : 6 < E.2.2 := by rw [hE]; decide
  have n7 : 7 < E.2.2 := by rw [hE]; decide
  have n8 : 8 < E.2.2 := by rw [hE]; decide
  have n9 : 9 < E.2.2 := by rw [hE]; decide
  have n10 : 10 < E.2.2 := by rw [hE]; decide
  have n11 : 11 < E.2.2 := by rw [hE]; decide
  intro n
  induction n with
  | zero =>
    intro _ _
    exact r_none
  | succ n ih =>
    intro S163 v8_163
    rw [L_X11_heldNow_163]
    refine r_iload B 5 dX11_heldNow_163 rfl ?_
    refine r_iload B 3 dX11_heldNow_165 rfl ?_
    refine r_icmp_ge B 298 dX11_heldNow_167 (by decide) (fun _ => ?_) (fun _ => ?_)
    · refine r_sub [0, 2, 4] rfl ?_
      exact hk S163
    · refine r_iconst B (-1 : Int32) dX11_heldNow_170 (by decide) ?_
      refine r_istore (lv' := fun x9_171 => [(9, .int x9_171), (0, .ref (g.1 0)), (2, .int a2), (3, .int a3), (4, .int w4_6), (7, .int x7_150), (8, .int v8_163)]) B dX11_heldNow_171 n9 (fun _ => rfl) (fun x9_171 => ?_)
      refine r_iconst B (0 : Int32) dX11_heldNow_173 (by decide) ?_
      refine r_istore (lv' := fun x10_174 => [(10, .int x10_174), (9, .int x9_171), (0, .ref (g.1 0)), (2, .int a2), (3, .int a3), (4, .int w4_6), (7, .int x7_150), (8, .int v8_163)]) B dX11_heldNow_174 n10 (fun _ => rfl) (fun x10_174 => ?_)
      refine r_sub [2, 3, 4, 5, 6, 7, 1, 0] rfl ?_
      refine xL_X11_heldNow_176 B hE a2 a3 w4_6 x7_150 S163 v8_163 _ ?_ 1000 x9_171 x10_174
      intro w9_176
      refine r_aload_n B 0 dX11_heldNow_283 rfl rfl ?_
      refine r_get B 0 10 7 (Nat.le_of_ble_eq_true rfl) rfl (cM_0 g _) rfl m_X11_heldNow_inX11 (Nat.le_of_ble_eq_true rfl) m_X11_heldNow_f25 rfl dX11_heldNow_284 ?_
      refine r_iload B 5 dX11_heldNow_287 rfl ?_
      refine r_iload B 6 dX11_heldNow_289 rfl ?_
      refine r_iast B 6 0 (Nat.le_of_ble_eq_true rfl) rfl (cM_6 g _) rfl (uM_6 g _ _) dX11_heldNow_291 (fun S291 => ?_)
      refine r_iinc (lv' := fun x8_292 => [(8, .int x8_292), (0, .ref (g.1 0)), (2, .int a2), (3, .int a3), (4, .int w4_6), (7, .int x7_150), (9, .int w9_176)]) B 5 (1 : Int32) dX11_heldNow_292 rfl (by decide) n8 (fun _ => rfl) (fun x8_292 => ?_)
      refine r_goto B 163 dX11_heldNow_295 (by decide) ?_
      refine r_sub [1, 2, 3, 4, 5, 0] rfl ?_
      exact ih S291 x8_292
set_option maxRecDepth 100000 in
set_option maxHeartbeats 4000000 in
theorem x_X11_heldNow {E : zCx} {g : zGx} (B : zGood E (WM g) (zT g) cX11_heldNow RX11 wsX11_heldNow (some .int) rm_X11_heldNow) (hE : E.2.2 = 12) (S : zSt) (a1 : Int32) (a2 : Int32) (a3 : Int32) : Xo E (WM g) eIw S 0 [(0, .ref (g.1 0)), (1, .int a1), (2, .int a2), (3, .int a3)] [] (F_X11_heldNow S a1 a2 a3) := by
  have n4 : 4 < E.2.2 := by rw [hE]; decide
  have n5 : 5 < E.2.2 := by rw [hE]; decide
  have n6 : 6 < E.2.2 := by rw [hE]; decide
  have n7 : 7 < E.2.2 := by rw [hE]; decide
  have n8 : 8 < E.2.2 := by rw [hE]; decide
  have n9 : 9 < E.2.2 := by rw [hE]; decide
  have n10 : 10 < E.2.2 := by rw [hE]; decide
  have n11 : 11 < E.2.2 := by rw [hE]; decide
  unfold F_X11_heldNow
  refine r_iconst B (0 : Int32) dX11_heldNow_0 (by decide) ?_
  refine r_istore (lv' := fun x4_1 => [(4, .int x4_1), (0, .ref (g.1 0)), (1, .int a1), (2, .int a2), (3, .int a3)]) B dX11_heldNow_1 n4 (fun _ => rfl) (fun x4_1 => ?_)
  refine r_iconst B (0 : Int32) dX11_heldNow_3 (by decide) ?_
  refine r_istore (lv' := fun x5_4 => [(5, .int x5_4), (4, .int x4_1), (0, .ref (g.1 0)), (1, .int a1), (2, .int a2), (3, .int a3)]) B dX11_heldNow_4 n5 (fun _ => rfl) (fun x5_4 => ?_)
  refine r_sub [2, 3, 4, 5, 1, 0] rfl ?_
  refine xL_X11_heldNow_6 B hE a1 a2 a3 _ ?_ 1000 S x4_1 x5_4
  intro S6x_6 w4_6
  refine r_iload B 3 dX11_heldNow_41 rfl ?_
  refine r_if_ne B 49 dX11_heldNow_43 (by decide) (fun _ => ?_) (fun _ => ?_)
  · refine r_iload B 3 dX11_heldNow_49 rfl ?_
    refine r_bipush B (12 : Int32) dX11_heldNow_51 (by decide) ?_
    refine r_icmp_le B 59 dX11_heldNow_53 (by decide) (fun _ => ?_) (fun _ => ?_)
    · refine r_iload_n B 2 dX11_heldNow_59 rfl rfl ?_
      refine r_iload B 3 dX11_heldNow_60 rfl ?_
      refine r_icmp_lt B 68 dX11_heldNow_62 (by decide) (fun _ => ?_) (fun _ => ?_)
      · refine r_iconst B (0 : Int32) dX11_heldNow_68 (by decide) ?_
        refine r_istore (lv' := fun x5_69 => [(5, .int x5_69), (0, .ref (g.1 0)), (2, .int a2), (3, .int a3), (4, .int w4_6)]) B dX11_heldNow_69 n5 (fun _ => rfl) (fun x5_69 => ?_)
        refine r_ldc B (100000 : Int32) m_X11_heldNow_c123 dX11_heldNow_71 ?_
        refine r_istore (lv' := fun x6_73 => [(6, .int x6_73), (5, .int x5_69), (0, .ref (g.1 0)), (2, .int a2), (3, .int a3), (4, .int w4_6)]) B dX11_heldNow_73 n6 (fun _ => rfl) (fun x6_73 => ?_)
        refine r_iconst B (0 : Int32) dX11_heldNow_75 (by decide) ?_
        refine r_istore (lv' := fun x7_76 => [(7, .int x7_76), (6, .int x6_73), (5, .int x5_69), (0, .ref (g.1 0)), (2, .int a2), (3, .int a3), (4, .int w4_6)]) B dX11_heldNow_76 n7 (fun _ => rfl) (fun x7_76 => ?_)
        refine r_sub [3, 4, 5, 6, 2, 1, 0] rfl ?_
        refine xL_X11_heldNow_78 B hE a2 a3 w4_6 _ ?_ 1000 S6x_6 x5_69 x6_73 x7_76
        intro S78x_78 w5_78 w6_78
        refine r_iload_n B 2 dX11_heldNow_133 rfl rfl ?_
        refine r_iconst B (-1 : Int32) dX11_heldNow_134 (by decide) ?_
        refine r_icmp_ne B 141 dX11_heldNow_135 (by decide) (fun _ => ?_) (fun _ => ?_)
        · refine r_aload_n B 0 dX11_heldNow_141 rfl rfl ?_
          refine r_iload B 3 dX11_heldNow_142 rfl ?_
          refine r_iload_n B 1 dX11_heldNow_144 rfl rfl ?_
          refine r_iload B 4 dX11_heldNow_145 rfl ?_
          refine r_cIw (zrunV (As := [.int w4_6, .int a2, .int w5_78]) (rest := []) B 3 0 (fun b hb => k_X11_backFrom B.2.2.1 hb) gX11_heldNow_X11_backFrom rfl rfl rfl y_X11_backFrom ⟨Nat.le_of_ble_eq_true rfl, Nat.le_of_ble_eq_true rfl⟩ (Nat.le_of_ble_eq_true rfl) rfl (cM_0 g _) rfl rfl rfl (Nat.le_of_ble_eq_true rfl) dX11_heldNow_147) (fun r147 S147 => ?_)
          refine r_istore (lv' := fun x7_150 => [(7, .int x7_150), (0, .ref (g.1 0)), (2, .int a2), (3, .int a3), (4, .int w4_6), (5, .int w5_78), (6, .int w6_78)]) B dX11_heldNow_150 n7 (fun _ => rfl) (fun x7_150 => ?_)
          refine r_aload_n B 1 dX11_heldNow_152 rfl rfl ?_
          refine r_get B 0 10 7 (Nat.le_of_ble_eq_true rfl) rfl (cM_0 g _) rfl m_X11_heldNow_inX11 (Nat.le_of_ble_eq_true rfl) m_X11_heldNow_f25 rfl dX11_heldNow_153 ?_
          refine r_iconst B (0 : Int32) dX11_heldNow_156 (by decide) ?_
          refine r_iload B 5 dX11_heldNow_157 rfl ?_
          refine r_iast B 6 0 (Nat.le_of_ble_eq_true rfl) rfl (cM_6 g _) rfl (uM_6 g _ _) dX11_heldNow_159 (fun S159 => ?_)
          refine r_iconst B (1 : Int32) dX11_heldNow_160 (by decide) ?_
          refine r_istore (lv' := fun x8_161 => [(8, .int x8_161), (7, .int x7_150), (0, .ref (g.1 0)), (2, .int a2), (3, .int a3), (4, .int w4_6), (5, .int w5_78), (6, .int w6_78)]) B dX11_heldNow_161 n8 (fun _ => rfl) (fun x8_161 => ?_)
          refine r_sub [2, 3, 4, 5, 1, 0] rfl ?_
          refine xL_X11_heldNow_163 B hE a2 a3 w4_6 x7_150 _ ?_ 1000 S159 x8_161
          intro S163x_163
          refine r_iload B 2 dX11_heldNow_298 rfl ?_
          refine r_ldc B (100000 : Int32) m_X11_heldNow_c123 dX11_heldNow_300 ?_
          refine r_icmp_ge B 314 dX11_heldNow_302 (by decide) (fun _ => ?_) (fun _ => ?_)
          · refine r_bipush B (-3 : Int32) dX11_heldNow_314 (by decide) ?_
            exact r_iret B dX11_heldNow_316 rfl
          · refine r_aload_n B 0 dX11_heldNow_305 rfl rfl ?_
            refine r_get B 0 10 7 (Nat.le_of_ble_eq_true rfl) rfl (cM_0 g _) rfl m_X11_heldNow_inX11 (Nat.le_of_ble_eq_true rfl) m_X11_heldNow_f25 rfl dX11_heldNow_306 ?_
            refine r_iload_n B 1 dX11_heldNow_309 rfl rfl ?_
            refine r_iald B 6 0 (Nat.le_of_ble_eq_true rfl) rfl (cM_6 g _) rfl dX11_heldNow_310 ?_
            refine r_goto B 316 dX11_heldNow_311 (by decide) ?_
            exact r_iret B dX11_heldNow_316 rfl
        · refine r_iload B 5 dX11_heldNow_138 rfl ?_
          exact r_iret B dX11_heldNow_140 rfl
      · refine r_bipush B (-3 : Int32) dX11_heldNow_65 (by decide) ?_
        exact r_iret B dX11_heldNow_67 rfl
    · refine r_bipush B (-4 : Int32) dX11_heldNow_56 (by decide) ?_
      exact r_iret B dX11_heldNow_58 rfl
  · refine r_bipush B (-3 : Int32) dX11_heldNow_46 (by decide) ?_
    exact r_iret B dX11_heldNow_48 rfl
set_option maxRecDepth 20000 in
theorem k_X11_heldNow {l : Launch} {D : va_G} {g : zGx} (hz : zin (WM g)) {S : zSt} {a1 : Int32} {a2 : Int32} {a3 : Int32} {b : (Int32 × zSt)} (h : F_X11_heldNow S a1 a2 a3 = some b) : zMet l D (WM g) (zT g) yX11_heldNow wsX11_heldNow rm_X11_heldNow S [.ref (g.1 0), .int a1, .int a2, .int a3] (eIw b) := zmet_of (by decide +kernel) rfl hz (Nat.le_of_ble_eq_true rfl) rfl (fun E _ _ hE B => x_X11_heldNow B hE S a1 a2 a3) h
abbrev rm_X11_held : Room := { frames := 3, cells := 0, slots := 0, locals := 81 }
theorem y_X11_held : yX11_held.cls = RX11 ∧ yX11_held.cls ≠ "java/lang/invoke/MethodHandle" ∧ yX11_held.cls ≠ "java/lang/invoke/VarHandle" ∧ (parseMethodDescriptor yX11_held.desc).map (fun d => d.parameters.length) = some 3 := by decide +kernel
set_option maxRecDepth 100000 in
set_option maxHeartbeats 4000000 in
theorem x_X11_held {E : zCx} {g : zGx} (B : zGood E (WM g) (zT g) cX11_held RX11 wsX11_held (some .int) rm_X11_held) (hE : E.2.2 = 4) (S : zSt) (a1 : Int32) (a2 : Int32) (a3 : Int32) : Xo E (WM g) eIw S 0 [(0, .ref (g.1 0)), (1, .int a1), (2, .int a2), (3, .int a3)] [] (F_X11_held S a1 a2 a3) := by
  unfold F_X11_held
  refine r_iload_n B 1 dX11_held_0 rfl rfl ?_
  refine r_iconst B (0 : Int32) dX11_held_1 (by decide) ?_
  refine r_iconst B (1 : Int32) dX11_held_2 (by decide) ?_
  refine r_cI (zrunS (As := [.int a1, .int (0 : Int32), .int (1 : Int32)]) (rest := []) B 3 (fun b hb => k_X11_in B.2.2.1 hb) gX11_held_X11_in rfl rfl rfl y_X11_in ⟨Nat.le_of_ble_eq_true rfl, Nat.le_of_ble_eq_true rfl⟩ rfl rfl (Nat.le_of_ble_eq_true rfl) dX11_held_3) (fun r3 => ?_)
  refine r_if_eq B 38 dX11_held_6 (by decide) (fun _ => ?_) (fun _ => ?_)
  · refine r_bipush B (-2 : Int32) dX11_held_38 (by decide) ?_
    exact r_iret B dX11_held_40 rfl
  · refine r_iload_n B 2 dX11_held_9 rfl rfl ?_
    refine r_iconst B (0 : Int32) dX11_held_10 (by decide) ?_
    refine r_iconst B (5 : Int32) dX11_held_11 (by decide) ?_
    refine r_cI (zrunS (As := [.int a2, .int (0 : Int32), .int (5 : Int32)]) (rest := []) B 3 (fun b hb => k_X11_in B.2.2.1 hb) gX11_held_X11_in rfl rfl rfl y_X11_in ⟨Nat.le_of_ble_eq_true rfl, Nat.le_of_ble_eq_true rfl⟩ rfl rfl (Nat.le_of_ble_eq_true rfl) dX11_held_12) (fun r12 => ?_)
    refine r_if_eq B 38 dX11_held_15 (by decide) (fun _ => ?_) (fun _ => ?_)
    · refine r_bipush B (-2 : Int32) dX11_held_38 (by decide) ?_
      exact r_iret B dX11_held_40 rfl
    · refine r_iload_n B 3 dX11_held_18 rfl rfl ?_
      refine r_iconst B (-1 : Int32) dX11_held_19 (by decide) ?_
      refine r_bipush B (59 : Int32) dX11_held_20 (by decide) ?_
      refine r_cI (zrunS (As := [.int a3, .int (-1 : Int32), .int (59 : Int32)]) (rest := []) B 3 (fun b hb => k_X11_in B.2.2.1 hb) gX11_held_X11_in rfl rfl rfl y_X11_in ⟨Nat.le_of_ble_eq_true rfl, Nat.le_of_ble_eq_true rfl⟩ rfl rfl (Nat.le_of_ble_eq_true rfl) dX11_held_22) (fun r22 => ?_)
      refine r_if_eq B 38 dX11_held_25 (by decide) (fun _ => ?_) (fun _ => ?_)
      · refine r_bipush B (-2 : Int32) dX11_held_38 (by decide) ?_
        exact r_iret B dX11_held_40 rfl
      · refine r_aload_n B 0 dX11_held_28 rfl rfl ?_
        refine r_iload_n B 1 dX11_held_29 rfl rfl ?_
        refine r_iload_n B 2 dX11_held_30 rfl rfl ?_
        refine r_iload_n B 3 dX11_held_31 rfl rfl ?_
        refine r_cIw (zrunV (As := [.int a1, .int a2, .int a3]) (rest := []) B 3 0 (fun b hb => k_X11_heldNow B.2.2.1 hb) gX11_held_X11_heldNow rfl rfl rfl y_X11_heldNow ⟨Nat.le_of_ble_eq_true rfl, Nat.le_of_ble_eq_true rfl⟩ (Nat.le_of_ble_eq_true rfl) rfl (cM_0 g _) rfl rfl rfl (Nat.le_of_ble_eq_true rfl) dX11_held_32) (fun r32 S32 => ?_)
        refine r_goto B 40 dX11_held_35 (by decide) ?_
        exact r_iret B dX11_held_40 rfl
set_option maxRecDepth 20000 in
theorem k_X11_held {l : Launch} {D : va_G} {g : zGx} (hz : zin (WM g)) {S : zSt} {a1 : Int32} {a2 : Int32} {a3 : Int32} {b : (Int32 × zSt)} (h : F_X11_held S a1 a2 a3 = some b) : zMet l D (WM g) (zT g) yX11_held wsX11_held rm_X11_held S [.ref (g.1 0), .int a1, .int a2, .int a3] (eIw b) := zmet_of (by decide +kernel) rfl hz (Nat.le_of_ble_eq_true rfl) rfl (fun E _ _ hE B => x_X11_held B hE S a1 a2 a3) h
abbrev rm_X11_answerMore : Room := { frames := 1, cells := 0, slots := 0, locals := 22 }
theorem y_X11_answerMore : yX11_answerMore.cls = RX11 ∧ yX11_answerMore.cls ≠ "java/lang/invoke/MethodHandle" ∧ yX11_answerMore.cls ≠ "java/lang/invoke/VarHandle" ∧ (parseMethodDescriptor yX11_answerMore.desc).map (fun d => d.parameters.length) = some 2 := by decide +kernel
theorem m_X11_answerMore_f134 : Cond.fieldLink RX11 134 "LongestMetModel" "lastTime" "I" ∈ wsX11_answerMore := List.mem_cons_of_mem _ (List.mem_append_left _ (List.mem_of_getElem? (i := 0) rfl))
theorem m_X11_answerMore_inX11 : ∀ x ∈ u_ws RX11 TX11 27, x ∈ wsX11_answerMore := fun _ h => List.mem_cons_of_mem _ (List.mem_append_right _ h)
theorem m_X11_answerMore_f137 : Cond.fieldLink RX11 137 "LongestMetModel" "answers" "I" ∈ wsX11_answerMore := List.mem_cons_of_mem _ (List.mem_append_left _ (List.mem_of_getElem? (i := 1) rfl))
theorem m_X11_answerMore_f28 : Cond.fieldLink RX11 28 "LongestMetModel" "answerOf" "[I" ∈ wsX11_answerMore := List.mem_cons_of_mem _ (List.mem_append_left _ (List.mem_of_getElem? (i := 2) rfl))
theorem m_X11_answerMore_f31 : Cond.fieldLink RX11 31 "LongestMetModel" "answerTime" "[I" ∈ wsX11_answerMore := List.mem_cons_of_mem _ (List.mem_append_left _ (List.mem_of_getElem? (i := 3) rfl))
theorem m_X11_answerMore_f34 : Cond.fieldLink RX11 34 "LongestMetModel" "answerBack" "[I" ∈ wsX11_answerMore := List.mem_cons_of_mem _ (List.mem_append_left _ (List.mem_of_getElem? (i := 4) rfl))
set_option maxRecDepth 100000 in
set_option maxHeartbeats 4000000 in
theorem x_X11_answerMore {E : zCx} {g : zGx} (B : zGood E (WM g) (zT g) cX11_answerMore RX11 wsX11_answerMore (some .int) rm_X11_answerMore) (hE : E.2.2 = 3) (S : zSt) (a1 : Int32) (a2 : Int32) : Xo E (WM g) eIw S 0 [(0, .ref (g.1 0)), (1, .int a1), (2, .int a2)] [] (F_X11_answerMore S a1 a2) := by
  unfold F_X11_answerMore
  refine r_iload_n B 1 dX11_answerMore_0 rfl rfl ?_
  refine r_iconst B (1 : Int32) dX11_answerMore_1 (by decide) ?_
  refine r_bipush B (8 : Int32) dX11_answerMore_2 (by decide) ?_
  refine r_cI (zrunS (As := [.int a1, .int (1 : Int32), .int (8 : Int32)]) (rest := []) B 3 (fun b hb => k_X11_in B.2.2.1 hb) gX11_answerMore_X11_in rfl rfl rfl y_X11_in ⟨Nat.le_of_ble_eq_true rfl, Nat.le_of_ble_eq_true rfl⟩ rfl rfl (Nat.le_of_ble_eq_true rfl) dX11_answerMore_4) (fun r4 => ?_)
  refine r_if_eq B 24 dX11_answerMore_7 (by decide) (fun _ => ?_) (fun _ => ?_)
  · refine r_bipush B (-2 : Int32) dX11_answerMore_24 (by decide) ?_
    exact r_iret B dX11_answerMore_26 rfl
  · refine r_iload_n B 2 dX11_answerMore_10 rfl rfl ?_
    refine r_aload_n B 0 dX11_answerMore_11 rfl rfl ?_
    refine r_get B 0 10 12 (Nat.le_of_ble_eq_true rfl) rfl (cM_0 g _) rfl m_X11_answerMore_inX11 (Nat.le_of_ble_eq_true rfl) m_X11_answerMore_f134 rfl dX11_answerMore_12 ?_
    refine r_sipush B (999 : Int32) dX11_answerMore_15 (by decide) ?_
    refine r_cI (zrunS (As := [.int a2, .int (zI S 3), .int (999 : Int32)]) (rest := []) B 3 (fun b hb => k_X11_in B.2.2.1 hb) gX11_answerMore_X11_in rfl rfl rfl y_X11_in ⟨Nat.le_of_ble_eq_true rfl, Nat.le_of_ble_eq_true rfl⟩ rfl rfl (Nat.le_of_ble_eq_true rfl) dX11_answerMore_18) (fun r18 => ?_)
    refine r_if_ne B 27 dX11_answerMore_21 (by decide) (fun _ => ?_) (fun _ => ?_)
    · refine r_aload_n B 0 dX11_answerMore_27 rfl rfl ?_
      refine r_get B 0 10 8 (Nat.le_of_ble_eq_true rfl) rfl (cM_0 g _) rfl m_X11_answerMore_inX11 (Nat.le_of_ble_eq_true rfl) m_X11_answerMore_f137 rfl dX11_answerMore_28 ?_
      refine r_bipush B (40 : Int32) dX11_answerMore_31 (by decide) ?_
      refine r_icmp_ne B 39 dX11_answerMore_33 (by decide) (fun _ => ?_) (fun _ => ?_)
      · refine r_aload_n B 0 dX11_answerMore_39 rfl rfl ?_
        refine r_get B 0 10 9 (Nat.le_of_ble_eq_true rfl) rfl (cM_0 g _) rfl m_X11_answerMore_inX11 (Nat.le_of_ble_eq_true rfl) m_X11_answerMore_f28 rfl dX11_answerMore_40 ?_
        refine r_aload_n B 0 dX11_answerMore_43 rfl rfl ?_
        refine r_get B 0 10 8 (Nat.le_of_ble_eq_true rfl) rfl (cM_0 g _) rfl m_X11_answerMore_inX11 (Nat.le_of_ble_eq_true rfl) m_X11_answerMore_f137 rfl dX11_answerMore_44 ?_
        refine r_iload_n B 1 dX11_answerMore_47 rfl rfl ?_
        refine r_iast B 7 0 (Nat.le_of_ble_eq_true rfl) rfl (cM_7 g _) rfl (uM_7 g _ _) dX11_answerMore_48 (fun S48 => ?_)
        refine r_aload_n B 0 dX11_answerMore_49 rfl rfl ?_
        refine r_get B 0 10 10 (Nat.le_of_ble_eq_true rfl) rfl (cM_0 g _) rfl m_X11_answerMore_inX11 (Nat.le_of_ble_eq_true rfl) m_X11_answerMore_f31 rfl dX11_answerMore_50 ?_
        refine r_aload_n B 0 dX11_answerMore_53 rfl rfl ?_
        refine r_get B 0 10 8 (Nat.le_of_ble_eq_true rfl) rfl (cM_0 g _) rfl m_X11_answerMore_inX11 (Nat.le_of_ble_eq_true rfl) m_X11_answerMore_f137 rfl dX11_answerMore_54 ?_
        refine r_iload_n B 2 dX11_answerMore_57 rfl rfl ?_
        refine r_iast B 8 0 (Nat.le_of_ble_eq_true rfl) rfl (cM_8 g _) rfl (uM_8 g _ _) dX11_answerMore_58 (fun S58 => ?_)
        refine r_aload_n B 0 dX11_answerMore_59 rfl rfl ?_
        refine r_get B 0 10 11 (Nat.le_of_ble_eq_true rfl) rfl (cM_0 g _) rfl m_X11_answerMore_inX11 (Nat.le_of_ble_eq_true rfl) m_X11_answerMore_f34 rfl dX11_answerMore_60 ?_
        refine r_aload_n B 0 dX11_answerMore_63 rfl rfl ?_
        refine r_get B 0 10 8 (Nat.le_of_ble_eq_true rfl) rfl (cM_0 g _) rfl m_X11_answerMore_inX11 (Nat.le_of_ble_eq_true rfl) m_X11_answerMore_f137 rfl dX11_answerMore_64 ?_
        refine r_iconst B (-1 : Int32) dX11_answerMore_67 (by decide) ?_
        refine r_iast B 9 0 (Nat.le_of_ble_eq_true rfl) rfl (cM_9 g _) rfl (uM_9 g _ _) dX11_answerMore_68 (fun S68 => ?_)
        refine r_aload_n B 0 dX11_answerMore_69 rfl rfl ?_
        refine r_iload_n B 2 dX11_answerMore_70 rfl rfl ?_
        refine r_put (ty := .int) B 0 10 12 tyX11 tyX11_ok nmX11 (Nat.le_of_ble_eq_true rfl) rfl (cM_0 g _) rfl m_X11_answerMore_inX11 (Nat.le_of_ble_eq_true rfl) m_X11_answerMore_f134 rfl (by decide +kernel) rfl rfl (Nat.le_of_ble_eq_true rfl) (pM_0_12 g _ _) dX11_answerMore_71 (fun S71 => ?_)
        refine r_aload_n B 0 dX11_answerMore_74 rfl rfl ?_
        refine r_dup B rfl dX11_answerMore_75 ?_
        refine r_get B 0 10 8 (Nat.le_of_ble_eq_true rfl) rfl (cM_0 g _) rfl m_X11_answerMore_inX11 (Nat.le_of_ble_eq_true rfl) m_X11_answerMore_f137 rfl dX11_answerMore_76 ?_
        refine r_iconst B (1 : Int32) dX11_answerMore_79 (by decide) ?_
        refine r_iadd B dX11_answerMore_80 ?_
        refine r_put (ty := .int) B 0 10 8 tyX11 tyX11_ok nmX11 (Nat.le_of_ble_eq_true rfl) rfl (cM_0 g _) rfl m_X11_answerMore_inX11 (Nat.le_of_ble_eq_true rfl) m_X11_answerMore_f137 rfl (by decide +kernel) rfl rfl (Nat.le_of_ble_eq_true rfl) (pM_0_8 g _ _) dX11_answerMore_81 (fun S81 => ?_)
        refine r_aload_n B 0 dX11_answerMore_84 rfl rfl ?_
        refine r_get B 0 10 8 (Nat.le_of_ble_eq_true rfl) rfl (cM_0 g _) rfl m_X11_answerMore_inX11 (Nat.le_of_ble_eq_true rfl) m_X11_answerMore_f137 rfl dX11_answerMore_85 ?_
        refine r_iconst B (1 : Int32) dX11_answerMore_88 (by decide) ?_
        refine r_isub B dX11_answerMore_89 ?_
        exact r_iret B dX11_answerMore_90 rfl
      · refine r_bipush B (-4 : Int32) dX11_answerMore_36 (by decide) ?_
        exact r_iret B dX11_answerMore_38 rfl
    · refine r_bipush B (-2 : Int32) dX11_answerMore_24 (by decide) ?_
      exact r_iret B dX11_answerMore_26 rfl
set_option maxRecDepth 20000 in
theorem k_X11_answerMore {l : Launch} {D : va_G} {g : zGx} (hz : zin (WM g)) {S : zSt} {a1 : Int32} {a2 : Int32} {b : (Int32 × zSt)} (h : F_X11_answerMore S a1 a2 = some b) : zMet l D (WM g) (zT g) yX11_answerMore wsX11_answerMore rm_X11_answerMore S [.ref (g.1 0), .int a1, .int a2] (eIw b) := zmet_of (by decide +kernel) rfl hz (Nat.le_of_ble_eq_true rfl) rfl (fun E _ _ hE B => x_X11_answerMore B hE S a1 a2) h
abbrev rm_X11_asked : Room := { frames := 2, cells := 0, slots := 0, locals := 44 }
theorem y_X11_asked : yX11_asked.cls = RX11 ∧ yX11_asked.cls ≠ "java/lang/invoke/MethodHandle" ∧ yX11_asked.cls ≠ "java/lang/invoke/VarHandle" ∧ (parseMethodDescriptor yX11_asked.desc).map (fun d => d.parameters.length) = some 2 := by decide +kernel
set_option maxRecDepth 100000 in
set_option maxHeartbeats 4000000 in
theorem x_X11_asked {E : zCx} {g : zGx} (B : zGood E (WM g) (zT g) cX11_asked RX11 wsX11_asked (some .int) rm_X11_asked) (hE : E.2.2 = 3) (S : zSt) (a1 : Int32) (a2 : Int32) : Xo E (WM g) eIw S 0 [(0, .ref (g.1 0)), (1, .int a1), (2, .int a2)] [] (F_X11_asked S a1 a2) := by
  unfold F_X11_asked
  refine r_aload_n B 0 dX11_asked_0 rfl rfl ?_
  refine r_iload_n B 1 dX11_asked_1 rfl rfl ?_
  refine r_iload_n B 2 dX11_asked_2 rfl rfl ?_
  refine r_cIw (zrunV (As := [.int a1, .int a2]) (rest := []) B 2 0 (fun b hb => k_X11_answerMore B.2.2.1 hb) gX11_asked_X11_answerMore rfl rfl rfl y_X11_answerMore ⟨Nat.le_of_ble_eq_true rfl, Nat.le_of_ble_eq_true rfl⟩ (Nat.le_of_ble_eq_true rfl) rfl (cM_0 g _) rfl rfl rfl (Nat.le_of_ble_eq_true rfl) dX11_asked_3) (fun r3 S3 => ?_)
  exact r_iret B dX11_asked_6 rfl
set_option maxRecDepth 20000 in
theorem k_X11_asked {l : Launch} {D : va_G} {g : zGx} (hz : zin (WM g)) {S : zSt} {a1 : Int32} {a2 : Int32} {b : (Int32 × zSt)} (h : F_X11_asked S a1 a2 = some b) : zMet l D (WM g) (zT g) yX11_asked wsX11_asked rm_X11_asked S [.ref (g.1 0), .int a1, .int a2] (eIw b) := zmet_of (by decide +kernel) rfl hz (Nat.le_of_ble_eq_true rfl) rfl (fun E _ _ hE B => x_X11_asked B hE S a1 a2) h
abbrev rm_X11_isSheet : Room := { frames := 1, cells := 0, slots := 0, locals := 22 }
theorem y_X11_isSheet : yX11_isSheet.cls ≠ "java/lang/invoke/MethodHandle" ∧ yX11_isSheet.cls ≠ "java/lang/invoke/VarHandle" ∧ (parseMethodDescriptor yX11_isSheet.desc).map (fun d => d.parameters.length) = some 1 := by decide +kernel
set_option maxRecDepth 100000 in
set_option maxHeartbeats 4000000 in
theorem x_X11_isSheet {E : zCx} {g : zGx} (B : zGood E (WM g) (zT g) cX11_isSheet RX11 wsX11_isSheet (some .boolean) rm_X11_isSheet) (hE : E.2.2 = 1) (S : zSt) (a0 : Int32) : Xo E (WM g) (eI S) S 0 [(0, .int a0)] [] (F_X11_isSheet a0) := by
  unfold F_X11_isSheet
  refine r_iload_n B 0 dX11_isSheet_0 rfl rfl ?_
  refine r_iconst B (0 : Int32) dX11_isSheet_1 (by decide) ?_
  refine r_iconst B (3 : Int32) dX11_isSheet_2 (by decide) ?_
  refine r_cI (zrunS (As := [.int a0, .int (0 : Int32), .int (3 : Int32)]) (rest := []) B 3 (fun b hb => k_X11_in B.2.2.1 hb) gX11_isSheet_X11_in rfl rfl rfl y_X11_in ⟨Nat.le_of_ble_eq_true rfl, Nat.le_of_ble_eq_true rfl⟩ rfl rfl (Nat.le_of_ble_eq_true rfl) dX11_isSheet_3) (fun r3 => ?_)
  exact r_zret B dX11_isSheet_6 rfl
set_option maxRecDepth 20000 in
theorem k_X11_isSheet {l : Launch} {D : va_G} {g : zGx} (hz : zin (WM g)) {S : zSt} {a0 : Int32} {b : Int32} (h : F_X11_isSheet a0 = some b) : zMet l D (WM g) (zT g) yX11_isSheet wsX11_isSheet rm_X11_isSheet S [.int a0] ((eI S) b) := zmet_of (by decide +kernel) rfl hz (Nat.le_of_ble_eq_true rfl) rfl (fun E _ _ hE B => x_X11_isSheet B hE S a0) h
abbrev rm_X11_meets : Room := { frames := 0, cells := 0, slots := 0, locals := 0 }
theorem y_X11_meets : yX11_meets.cls = RX11 ∧ yX11_meets.cls ≠ "java/lang/invoke/MethodHandle" ∧ yX11_meets.cls ≠ "java/lang/invoke/VarHandle" ∧ (parseMethodDescriptor yX11_meets.desc).map (fun d => d.parameters.length) = some 1 := by decide +kernel
theorem m_X11_meets_f240 : Cond.fieldLink RX11 240 "LongestMetModel" "finding" "I" ∈ wsX11_meets := List.mem_cons_of_mem _ (List.mem_append_left _ (List.mem_of_getElem? (i := 0) rfl))
theorem m_X11_meets_inX11 : ∀ x ∈ u_ws RX11 TX11 27, x ∈ wsX11_meets := fun _ h => List.mem_cons_of_mem _ (List.mem_append_right _ h)
set_option maxRecDepth 100000 in
set_option maxHeartbeats 4000000 in
theorem x_X11_meets {E : zCx} {g : zGx} (B : zGood E (WM g) (zT g) cX11_meets RX11 wsX11_meets (some .int) rm_X11_meets) (hE : E.2.2 = 2) (S : zSt) (a1 : Int32) : Xo E (WM g) eIw S 0 [(0, .ref (g.1 0)), (1, .int a1)] [] (F_X11_meets S a1) := by
  unfold F_X11_meets
  refine r_aload_n B 0 dX11_meets_0 rfl rfl ?_
  refine r_iload_n B 1 dX11_meets_1 rfl rfl ?_
  refine r_put (ty := .int) B 0 10 26 tyX11 tyX11_ok nmX11 (Nat.le_of_ble_eq_true rfl) rfl (cM_0 g _) rfl m_X11_meets_inX11 (Nat.le_of_ble_eq_true rfl) m_X11_meets_f240 rfl (by decide +kernel) rfl rfl (Nat.le_of_ble_eq_true rfl) (pM_0_26 g _ _) dX11_meets_2 (fun S2 => ?_)
  refine r_bipush B (-10 : Int32) dX11_meets_5 (by decide) ?_
  refine r_iload_n B 1 dX11_meets_7 rfl rfl ?_
  refine r_isub B dX11_meets_8 ?_
  exact r_iret B dX11_meets_9 rfl
set_option maxRecDepth 20000 in
theorem k_X11_meets {l : Launch} {D : va_G} {g : zGx} (hz : zin (WM g)) {S : zSt} {a1 : Int32} {b : (Int32 × zSt)} (h : F_X11_meets S a1 = some b) : zMet l D (WM g) (zT g) yX11_meets wsX11_meets rm_X11_meets S [.ref (g.1 0), .int a1] (eIw b) := zmet_of (by decide +kernel) rfl hz (Nat.le_of_ble_eq_true rfl) rfl (fun E _ _ hE B => x_X11_meets B hE S a1) h
abbrev rm_X11_read : Room := { frames := 2, cells := 0, slots := 0, locals := 44 }
theorem y_X11_read : yX11_read.cls = RX11 ∧ yX11_read.cls ≠ "java/lang/invoke/MethodHandle" ∧ yX11_read.cls ≠ "java/lang/invoke/VarHandle" ∧ (parseMethodDescriptor yX11_read.desc).map (fun d => d.parameters.length) = some 2 := by decide +kernel
theorem m_X11_read_f134 : Cond.fieldLink RX11 134 "LongestMetModel" "lastTime" "I" ∈ wsX11_read := List.mem_cons_of_mem _ (List.mem_append_left _ (List.mem_of_getElem? (i := 0) rfl))
theorem m_X11_read_inX11 : ∀ x ∈ u_ws RX11 TX11 27, x ∈ wsX11_read := fun _ h => List.mem_cons_of_mem _ (List.mem_append_right _ h)
theorem m_X11_read_f56 : Cond.fieldLink RX11 56 "LongestMetModel" "isThere" "[Z" ∈ wsX11_read := List.mem_cons_of_mem _ (List.mem_append_left _ (List.mem_of_getElem? (i := 1) rfl))
theorem m_X11_read_f63 : Cond.fieldLink RX11 63 "LongestMetModel" "sizes" "[I" ∈ wsX11_read := List.mem_cons_of_mem _ (List.mem_append_left _ (List.mem_of_getElem? (i := 2) rfl))
theorem m_X11_read_f66 : Cond.fieldLink RX11 66 "LongestMetModel" "items" "[I" ∈ wsX11_read := List.mem_cons_of_mem _ (List.mem_append_left _ (List.mem_of_getElem? (i := 3) rfl))
set_option maxRecDepth 100000 in
set_option maxHeartbeats 4000000 in
theorem xL_X11_read_41 {E : zCx} {g : zGx} (B : zGood E (WM g) (zT g) cX11_read RX11 wsX11_read (some .int) rm_X11_read) (hE : E.2.2 = 4) (a1 : Int32) (a2 : Int32) (k : zSt → Int32 → Option (Int32 × zSt)) (hk : ∀ (S41x : zSt) (w3 : Int32), Xo E (WM g) eIw S41x 76 [(3, .int w3)] [] (k S41x w3)) : ∀ (n : Nat) (S41 : zSt) (v3_41 : Int32), Xo E (WM g) eIw S41 41 [(0, .ref (g.1 0)), (1, .int a1), (2, .int a2), (3, .int v3_41)] [] (L_X11_read_41 a1 a2 k n S41 v3_41) := by
  have n3 : 3 < E.2.2 := by rw [hE]; decide
  intro n
  induction n with
  | zero =>
    intro _ _
    exact r_none
  | succ n ih =>
    intro S41 v3_41
    rw [L_X11_read_41]
    refine r_iload_n B 3 dX11_read_41 rfl rfl ?_
    refine r_aload_n B 0 dX11_read_42 rfl rfl ?_
    refine r_get B 0 10 23 (Nat.le_of_ble_eq_true rfl) rfl (cM_0 g _) rfl m_X11_read_inX11 (Nat.le_of_ble_eq_true rfl) m_X11_read_f63 rfl dX11_read_43 ?_
    refine r_iload_n B 1 dX11_read_46 rfl rfl ?_
    refine r_iald B 17 0 (Nat.le_of_ble_eq_true rfl) rfl (cM_17 g _) rfl dX11_read_47 ?_
    refine r_icmp_ge B 76 dX11_read_48 (by decide) (fun _ => ?_) (fun _ => ?_)
    · refine r_sub [3] rfl ?_
      exact hk S41 v3_41
    · refine r_aload_n B 0 dX11_read_51 rfl rfl ?_
      refine r_aload_n B 0 dX11_read_52 rfl rfl ?_
      refine r_get B 0 10 24 (Nat.le_of_ble_eq_true rfl) rfl (cM_0 g _) rfl m_X11_read_inX11 (Nat.le_of_ble_eq_true rfl) m_X11_read_f66 rfl dX11_read_53 ?_
      refine r_bipush B (60 : Int32) dX11_read_56 (by decide) ?_
      refine r_iload_n B 1 dX11_read_58 rfl rfl ?_
      refine r_imul B dX11_read_59 ?_
      refine r_iload_n B 3 dX11_read_60 rfl rfl ?_
      refine r_iadd B dX11_read_61 ?_
      refine r_iald B 18 0 (Nat.le_of_ble_eq_true rfl) rfl (cM_18 g _) rfl dX11_read_62 ?_
      refine r_iload_n B 2 dX11_read_63 rfl rfl ?_
      refine r_cIw (zrunV (As := [.int (zA S41 18 (((60 : Int32) * a1) + v3_41).toNatClampNeg), .int a2]) (rest := []) B 2 0 (fun b hb => k_X11_answerMore B.2.2.1 hb) gX11_read_X11_answerMore rfl rfl rfl y_X11_answerMore ⟨Nat.le_of_ble_eq_true rfl, Nat.le_of_ble_eq_true rfl⟩ (Nat.le_of_ble_eq_true rfl) rfl (cM_0 g _) rfl rfl rfl (Nat.le_of_ble_eq_true rfl) dX11_read_64) (fun r64 S64 => ?_)
      refine r_if_lt B 76 dX11_read_67 (by decide) (fun _ => ?_) (fun _ => ?_)
      · refine r_sub [3] rfl ?_
        exact hk S64 v3_41
      · refine r_iinc (lv' := fun x3_70 => [(3, .int x3_70), (0, .ref (g.1 0)), (1, .int a1), (2, .int a2)]) B 3 (1 : Int32) dX11_read_70 rfl (by decide) n3 (fun _ => rfl) (fun x3_70 => ?_)
        refine r_goto B 41 dX11_read_73 (by decide) ?_
        refine r_sub [1, 2, 3, 0] rfl ?_
        exact ih S64 x3_70
set_option maxRecDepth 100000 in
set_option maxHeartbeats 4000000 in
theorem x_X11_read {E : zCx} {g : zGx} (B : zGood E (WM g) (zT g) cX11_read RX11 wsX11_read (some .int) rm_X11_read) (hE : E.2.2 = 4) (S : zSt) (a1 : Int32) (a2 : Int32) : Xo E (WM g) eIw S 0 [(0, .ref (g.1 0)), (1, .int a1), (2, .int a2)] [] (F_X11_read S a1 a2) := by
  have n3 : 3 < E.2.2 := by rw [hE]; decide
  unfold F_X11_read
  refine r_iload_n B 1 dX11_read_0 rfl rfl ?_
  refine r_cI (zrunS (As := [.int a1]) (rest := []) B 1 (fun b hb => k_X11_isSheet B.2.2.1 hb) gX11_read_X11_isSheet rfl rfl rfl y_X11_isSheet ⟨Nat.le_of_ble_eq_true rfl, Nat.le_of_ble_eq_true rfl⟩ rfl rfl (Nat.le_of_ble_eq_true rfl) dX11_read_1) (fun r1 => ?_)
  refine r_if_eq B 21 dX11_read_4 (by decide) (fun _ => ?_) (fun _ => ?_)
  · refine r_bipush B (-2 : Int32) dX11_read_21 (by decide) ?_
    exact r_iret B dX11_read_23 rfl
  · refine r_iload_n B 2 dX11_read_7 rfl rfl ?_
    refine r_aload_n B 0 dX11_read_8 rfl rfl ?_
    refine r_get B 0 10 12 (Nat.le_of_ble_eq_true rfl) rfl (cM_0 g _) rfl m_X11_read_inX11 (Nat.le_of_ble_eq_true rfl) m_X11_read_f134 rfl dX11_read_9 ?_
    refine r_sipush B (999 : Int32) dX11_read_12 (by decide) ?_
    refine r_cI (zrunS (As := [.int a2, .int (zI S 3), .int (999 : Int32)]) (rest := []) B 3 (fun b hb => k_X11_in B.2.2.1 hb) gX11_read_X11_in rfl rfl rfl y_X11_in ⟨Nat.le_of_ble_eq_true rfl, Nat.le_of_ble_eq_true rfl⟩ rfl rfl (Nat.le_of_ble_eq_true rfl) dX11_read_15) (fun r15 => ?_)
    refine r_if_ne B 24 dX11_read_18 (by decide) (fun _ => ?_) (fun _ => ?_)
    · refine r_aload_n B 0 dX11_read_24 rfl rfl ?_
      refine r_get B 0 10 21 (Nat.le_of_ble_eq_true rfl) rfl (cM_0 g _) rfl m_X11_read_inX11 (Nat.le_of_ble_eq_true rfl) m_X11_read_f56 rfl dX11_read_25 ?_
      refine r_iload_n B 1 dX11_read_28 rfl rfl ?_
      refine r_zald B 15 3 (Nat.le_of_ble_eq_true rfl) rfl (cM_15 g _) rfl dX11_read_29 ?_
      refine r_if_ne B 39 dX11_read_30 (by decide) (fun _ => ?_) (fun _ => ?_)
      · refine r_iconst B (0 : Int32) dX11_read_39 (by decide) ?_
        refine r_istore_n (lv' := fun x3_40 => [(3, .int x3_40), (0, .ref (g.1 0)), (1, .int a1), (2, .int a2)]) B dX11_read_40 rfl n3 (fun _ => rfl) (fun x3_40 => ?_)
        refine r_sub [1, 2, 3, 0] rfl ?_
        refine xL_X11_read_41 B hE a1 a2 _ ?_ 1000 S x3_40
        intro S41x_41 w3_41
        refine r_iload_n B 0 dX11_read_76 rfl rfl ?_
        exact r_iret B dX11_read_77 rfl
      · refine r_aload_n B 0 dX11_read_33 rfl rfl ?_
        refine r_iconst B (1 : Int32) dX11_read_34 (by decide) ?_
        refine r_cIw (zrunV (As := [.int (1 : Int32)]) (rest := []) B 1 0 (fun b hb => k_X11_meets B.2.2.1 hb) gX11_read_X11_meets rfl rfl rfl y_X11_meets ⟨Nat.le_of_ble_eq_true rfl, Nat.le_of_ble_eq_true rfl⟩ (Nat.le_of_ble_eq_true rfl) rfl (cM_0 g _) rfl rfl rfl (Nat.le_of_ble_eq_true rfl) dX11_read_35) (fun r35 S35 => ?_)
        exact r_iret B dX11_read_38 rfl
    · refine r_bipush B (-2 : Int32) dX11_read_21 (by decide) ?_
      exact r_iret B dX11_read_23 rfl
set_option maxRecDepth 20000 in
theorem k_X11_read {l : Launch} {D : va_G} {g : zGx} (hz : zin (WM g)) {S : zSt} {a1 : Int32} {a2 : Int32} {b : (Int32 × zSt)} (h : F_X11_read S a1 a2 = some b) : zMet l D (WM g) (zT g) yX11_read wsX11_read rm_X11_read S [.ref (g.1 0), .int a1, .int a2] (eIw b) := zmet_of (by decide +kernel) rfl hz (Nat.le_of_ble_eq_true rfl) rfl (fun E _ _ hE B => x_X11_read B hE S a1 a2) h
