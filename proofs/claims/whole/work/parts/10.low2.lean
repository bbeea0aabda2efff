set_option maxRecDepth 100000 in
def L_X3_leastOnward_45 (S : zSt) (a1 : Int32) (x4_8 : Int32) (k : Int32 → Option Int32) : Nat → Int32 → Int32 → Option Int32
  | 0, _, _ => none
  | n + 1, v5_45, v6_45 =>
    (if (zI S 3) < v6_45 then (k v5_45) else
 ((F_X3_through S x4_8 (a1 + (1 : Int32)) v6_45).bind (fun r64 : Int32 =>
 lt (zmin v5_45 r64) (fun x5_70 : Int32 =>
 lt (v6_45 + (1 : Int32)) (fun x6_72 : Int32 =>
 L_X3_leastOnward_45 S a1 x4_8 k n x5_70 x6_72)))))
set_option maxRecDepth 100000 in
def F_X3_leastOnward (S : zSt) (a1 : Int32) (a2 : Int32) (a3 : Int32) : Option Int32 :=
 ibd a1 12 (lt ((zA S 12 a1.toNatClampNeg) + a2) (fun x4_8 : Int32 =>
 if x4_8 < (60 : Int32) then (if a1 = ((zI S 2) - (1 : Int32)) then ((F_X6_waitsIn (a3 - x4_8)).bind (fun r34 : Int32 =>
 some r34)) else
 (lt (1000000 : Int32) (fun x5_40 : Int32 =>
 lt (0 : Int32) (fun x6_43 : Int32 =>
 L_X3_leastOnward_45 S a1 x4_8 (fun (w5_45 : Int32) =>
 some w5_45) 1000 x5_40 x6_43)))) else
 (some (1000000 : Int32))))
set_option maxRecDepth 100000 in
def L_X3_leastWithFirst_26 (a1 : Int32) (x2_11 : Int32) (v3_19 : Int32) (k : zSt → Option (Int32 × zSt)) : Nat → zSt → Int32 → Option (Int32 × zSt)
  | 0, _, _ => none
  | n + 1, S26, v4_26 =>
    (if (zI S26 3) < v4_26 then (k S26) else
 (ibd v3_19 12 ((F_X3_leastOnward S26 v3_19 v4_26 x2_11).bind (fun r48 : Int32 =>
 ibd v4_26 6 (lt (sA S26 (26 + v3_19.toNatClampNeg) (upd (zA S26 (26 + v3_19.toNatClampNeg)) v4_26.toNatClampNeg r48)) (fun S51 : zSt =>
 lt (v4_26 + (1 : Int32)) (fun x4_52 : Int32 =>
 L_X3_leastWithFirst_26 a1 x2_11 v3_19 k n S51 x4_52)))))))
set_option maxRecDepth 100000 in
def L_X3_leastWithFirst_19 (a1 : Int32) (x2_11 : Int32) (k : zSt → Option (Int32 × zSt)) : Nat → zSt → Int32 → Option (Int32 × zSt)
  | 0, _, _ => none
  | n + 1, S19, v3_19 =>
    (if v3_19 < 0 then (k S19) else
 (lt (0 : Int32) (fun x4_24 : Int32 =>
 L_X3_leastWithFirst_26 a1 x2_11 v3_19 (fun (S26x_26 : zSt) =>
 lt (v3_19 + (-1 : Int32)) (fun x3_58 : Int32 =>
 L_X3_leastWithFirst_19 a1 x2_11 k n S26x_26 x3_58)) 1000 S19 x4_24)))
set_option maxRecDepth 100000 in
def F_X3_leastWithFirst (S : zSt) (a1 : Int32) : Option (Int32 × zSt) :=
 ibd (0 : Int32) 12 (lt (((60 : Int32) + (zA S 12 (0 : Int32).toNatClampNeg)) + a1) (fun x2_11 : Int32 =>
 lt ((zI S 2) - (1 : Int32)) (fun x3_18 : Int32 =>
 L_X3_leastWithFirst_19 a1 x2_11 (fun (S19x_19 : zSt) =>
 ibd (0 : Int32) 12 (ibd a1 6 (some ((zA S19x_19 (26 + (0 : Int32).toNatClampNeg) a1.toNatClampNeg), S19x_19)))) 1000 S x3_18)))
set_option maxRecDepth 100000 in
def L_X3_leastLater_3 (S : zSt) (a1 : Int32) (a2 : Int32) (a3 : Int32) (k : Option Int32) : Nat → Int32 → Option Int32
  | 0, _ => none
  | n + 1, v4_3 =>
    (if (zI S 3) ≤ v4_3 then (k) else
 ((F_X3_through S a2 a1 v4_3).bind (fun r17 : Int32 =>
 if r17 = a3 then (some v4_3) else
 (lt (v4_3 + (1 : Int32)) (fun x4_27 : Int32 =>
 L_X3_leastLater_3 S a1 a2 a3 k n x4_27)))))
set_option maxRecDepth 100000 in
def F_X3_leastLater (S : zSt) (a1 : Int32) (a2 : Int32) (a3 : Int32) : Option Int32 :=
 lt (0 : Int32) (fun x4_1 : Int32 =>
 L_X3_leastLater_3 S a1 a2 a3 (some (zI S 3)) 1000 x4_1)
set_option maxRecDepth 100000 in
def L_X3_chooseLater_9  (k : zSt → Option zSt) : Nat → zSt → Int32 → Option zSt
  | 0, _, _ => none
  | n + 1, S9, v2_9 =>
    (if (zI S9 2) ≤ v2_9 then (k S9) else
 (ibd (v2_9 - (1 : Int32)) 12 (lt (zA S9 13 (v2_9 - (1 : Int32)).toNatClampNeg) (fun x3_25 : Int32 =>
 ibd (v2_9 - (1 : Int32)) 12 (ibd (v2_9 - (1 : Int32)) 12 (ibd x3_25 6 ((F_X3_leastLater S9 v2_9 ((zA S9 12 (v2_9 - (1 : Int32)).toNatClampNeg) + x3_25) (zA S9 (26 + (v2_9 - (1 : Int32)).toNatClampNeg) x3_25.toNatClampNeg)).bind (fun r53 : Int32 =>
 ibd v2_9 12 (lt (sA S9 13 (upd (zA S9 13) v2_9.toNatClampNeg r53)) (fun S56 : zSt =>
 lt (v2_9 + (1 : Int32)) (fun x2_57 : Int32 =>
 L_X3_chooseLater_9 k n S56 x2_57)))))))))))
set_option maxRecDepth 100000 in
def F_X3_chooseLater (S : zSt) (a1 : Int32) : Option zSt :=
 ibd (0 : Int32) 12 (lt (sA S 13 (upd (zA S 13) (0 : Int32).toNatClampNeg a1)) (fun S6 : zSt =>
 lt (1 : Int32) (fun x2_8 : Int32 =>
 L_X3_chooseLater_9 (fun (S9x_9 : zSt) =>
 some S9x_9) 1000 S6 x2_8)))
set_option maxRecDepth 100000 in
def L_X3_settle_20  (k : zSt → Int32 → Int32 → Option (Int32 × zSt)) : Nat → zSt → Int32 → Int32 → Int32 → Option (Int32 × zSt)
  | 0, _, _, _, _ => none
  | n + 1, S20, v4_20, v5_20, v6_20 =>
    (if (zI S20 3) < v6_20 then (k S20 v4_20 v5_20) else
 (b2 (F_X3_leastWithFirst S20 v6_20) (fun (r32 : Int32) (S32 : zSt) =>
 lt r32 (fun x7_35 : Int32 =>
 if v4_20 ≤ x7_35 then (lt (v6_20 + (1 : Int32)) (fun x6_52 : Int32 =>
 L_X3_settle_20 k n S32 v4_20 v5_20 x6_52)) else
 (lt x7_35 (fun x4_46 : Int32 =>
 lt v6_20 (fun x5_50 : Int32 =>
 lt (v6_20 + (1 : Int32)) (fun x6_52 : Int32 =>
 L_X3_settle_20 k n S32 x4_46 x5_50 x6_52))))))))
set_option maxRecDepth 100000 in
def F_X3_settle (S : zSt) (a1 : Int64) (a3 : Int32) : Option (Int32 × zSt) :=
 (F_X3_takeBuses S a1).bind (fun S2 : zSt =>
 lt (sI S2 3 a3) (fun S7 : zSt =>
 lt (1000000 : Int32) (fun x4_12 : Int32 =>
 lt (0 : Int32) (fun x5_15 : Int32 =>
 lt (0 : Int32) (fun x6_18 : Int32 =>
 L_X3_settle_20 (fun (S20x_20 : zSt) (w4_20 : Int32) (w5_20 : Int32) =>
 b2 (F_X3_leastWithFirst S20x_20 w5_20) (fun (r61 : Int32) (S61 : zSt) =>
 (F_X3_chooseLater S61 w5_20).bind (fun S68 : zSt =>
 some (w4_20, S68)))) 1000 S7 x4_12 x5_15 x6_18)))))
set_option maxRecDepth 100000 in
def F_X3_laterOf (S : zSt) (a1 : Int32) : Option Int32 :=
 ibd a1 12 (some (zA S 13 a1.toNatClampNeg))
set_option maxRecDepth 100000 in
def F_X4_lengthen (S : zSt) (a1 : Int32) : Option (Int32 × zSt) :=
 if (zI S 8) < (8 : Int32) then (ibd (zI S 8) 8 (lt (sA S 22 (upd (zA S 22) (zI S 8).toNatClampNeg a1)) (fun S21 : zSt =>
 lt (sI S21 8 ((zI S21 8) + (1 : Int32))) (fun S29 : zSt =>
 some ((zI S29 8), S29))))) else
 (some ((-4 : Int32), S))
set_option maxRecDepth 100000 in
def F_X4_clear (S : zSt) : Option (Int32 × zSt) :=
 lt (zI S 8) (fun x1_4 : Int32 =>
 lt (sI S 8 (0 : Int32)) (fun S7 : zSt =>
 some (x1_4, S7)))
set_option maxRecDepth 100000 in
def F_X4_piecesTold (S : zSt) : Option Int32 :=
 some (zI S 8)
set_option maxRecDepth 100000 in
def L_X4_lengthInAll_4 (S : zSt) (k : Int32 → Option Int32) : Nat → Int32 → Int32 → Option Int32
  | 0, _, _ => none
  | n + 1, v1_4, v2_4 =>
    (if (zI S 8) ≤ v2_4 then (k v1_4) else
 (ibd v2_4 8 (lt (v1_4 + (zA S 22 v2_4.toNatClampNeg)) (fun x1_20 : Int32 =>
 lt (v2_4 + (1 : Int32)) (fun x2_21 : Int32 =>
 L_X4_lengthInAll_4 S k n x1_20 x2_21)))))
set_option maxRecDepth 100000 in
def F_X4_lengthInAll (S : zSt) : Option Int32 :=
 lt (0 : Int32) (fun x1_1 : Int32 =>
 lt (0 : Int32) (fun x2_3 : Int32 =>
 L_X4_lengthInAll_4 S (fun (w1_4 : Int32) =>
 some w1_4) 1000 x1_1 x2_3))
set_option maxRecDepth 100000 in
def L_X4_squares_4 (S : zSt) (k : Int32 → Option Int32) : Nat → Int32 → Int32 → Option Int32
  | 0, _, _ => none
  | n + 1, v1_4, v2_4 =>
    (if (zI S 8) ≤ v2_4 then (k v1_4) else
 (ibd v2_4 8 (ibd v2_4 8 (lt (v1_4 + ((zA S 22 v2_4.toNatClampNeg) * (zA S 22 v2_4.toNatClampNeg))) (fun x1_27 : Int32 =>
 lt (v2_4 + (1 : Int32)) (fun x2_28 : Int32 =>
 L_X4_squares_4 S k n x1_27 x2_28))))))
set_option maxRecDepth 100000 in
def F_X4_squares (S : zSt) : Option Int32 :=
 lt (0 : Int32) (fun x1_1 : Int32 =>
 lt (0 : Int32) (fun x2_3 : Int32 =>
 L_X4_squares_4 S (fun (w1_4 : Int32) =>
 some w1_4) 1000 x1_1 x2_3))
set_option maxRecDepth 100000 in
def L_X4_power_5 (a0 : Int64) (a2 : Int32) (k : Int64 → Option Int64) : Nat → Int64 → Int32 → Option Int64
  | 0, _, _ => none
  | n + 1, v3_5, v5_5 =>
    (if a2 ≤ v5_5 then (k v3_5) else
 (lt (v3_5 * a0) (fun x3_14 : Int64 =>
 lt (v5_5 + (1 : Int32)) (fun x5_15 : Int32 =>
 L_X4_power_5 a0 a2 k n x3_14 x5_15))))
set_option maxRecDepth 100000 in
def F_X4_power (a0 : Int64) (a2 : Int32) : Option Int64 :=
 lt (1 : Int64) (fun x3_1 : Int64 =>
 lt (0 : Int32) (fun x5_3 : Int32 =>
 L_X4_power_5 a0 a2 (fun (w3_5 : Int64) =>
 some w3_5) 1000 x3_1 x5_3))
set_option maxRecDepth 100000 in
def F_X4_ways (S : zSt) (a1 : Int32) : Option Int64 :=
 (F_X4_lengthInAll S).bind (fun r1 : Int32 =>
 (F_X4_power (r1.toInt64) a1).bind (fun r6 : Int64 =>
 some r6))
set_option maxRecDepth 100000 in
def F_X4_waysToHit (S : zSt) (a1 : Int32) (a2 : Int32) : Option Int64 :=
 (F_X4_ways S a2).bind (fun r2 : Int64 =>
 (F_X4_lengthInAll S).bind (fun r6 : Int32 =>
 ibd a1 8 ((F_X4_power ((r6 - (zA S 22 a1.toNatClampNeg)).toInt64) a2).bind (fun r18 : Int64 =>
 some (r2 - r18)))))
set_option maxRecDepth 100000 in
def L_X4_allWaysToHit_5 (S : zSt) (a1 : Int32) (k : Int64 → Option Int64) : Nat → Int64 → Int32 → Option Int64
  | 0, _, _ => none
  | n + 1, v2_5, v4_5 =>
    (if (zI S 8) ≤ v4_5 then (k v2_5) else
 ((F_X4_waysToHit S v4_5 a1).bind (fun r19 : Int64 =>
 lt (v2_5 + r19) (fun x2_23 : Int64 =>
 lt (v4_5 + (1 : Int32)) (fun x4_24 : Int32 =>
 L_X4_allWaysToHit_5 S a1 k n x2_23 x4_24)))))
set_option maxRecDepth 100000 in
def F_X4_allWaysToHit (S : zSt) (a1 : Int32) : Option Int64 :=
 lt (0 : Int64) (fun x2_1 : Int64 =>
 lt (0 : Int32) (fun x4_3 : Int32 =>
 L_X4_allWaysToHit_5 S a1 (fun (w2_5 : Int64) =>
 some w2_5) 1000 x2_1 x4_3))
set_option maxRecDepth 100000 in
def L_X4_lengthWithout_4 (S : zSt) (a1 : Int32) (k : Int32 → Option Int32) : Nat → Int32 → Int32 → Option Int32
  | 0, _, _ => none
  | n + 1, v2_4, v3_4 =>
    (if (zI S 8) ≤ v3_4 then (k v2_4) else
 (if ((((a1).toUInt32 >>> ((v3_4).toUInt32 &&& Int32.toUInt32 31)).toInt32) &&& (1 : Int32)) = 0 then (ibd v3_4 8 (lt (v2_4 + (zA S 22 v3_4.toNatClampNeg)) (fun x2_28 : Int32 =>
 lt (v3_4 + (1 : Int32)) (fun x3_29 : Int32 =>
 L_X4_lengthWithout_4 S a1 k n x2_28 x3_29)))) else
 (lt (v3_4 + (1 : Int32)) (fun x3_29 : Int32 =>
 L_X4_lengthWithout_4 S a1 k n v2_4 x3_29))))
set_option maxRecDepth 100000 in
def F_X4_lengthWithout (S : zSt) (a1 : Int32) : Option Int32 :=
 lt (0 : Int32) (fun x2_1 : Int32 =>
 lt (0 : Int32) (fun x3_3 : Int32 =>
 L_X4_lengthWithout_4 S a1 (fun (w2_4 : Int32) =>
 some w2_4) 1000 x2_1 x3_3))
set_option maxRecDepth 100000 in
def L_X4_waysToHitAll_5 (S : zSt) (a1 : Int32) (k : Int64 → Option Int64) : Nat → Int64 → Int32 → Option Int64
  | 0, _, _ => none
  | n + 1, v2_5, v4_5 =>
    (if ((1 : Int32) <<< ((zI S 8) &&& 31)) ≤ v4_5 then (k v2_5) else
 ((F_X4_lengthWithout S v4_5).bind (fun r19 : Int32 =>
 (F_X4_power (r19.toInt64) a1).bind (fun r24 : Int64 =>
 lt r24 (fun x5_27 : Int64 =>
 (F_J6_bitCount_0f7a4 v4_5).bind (fun r32 : Int32 =>
 nz (2 : Int32) (if (r32 - r32 / (2 : Int32) * (2 : Int32)) = 0 then (lt (v2_5 + x5_27) (fun x2_49 : Int64 =>
 lt (v4_5 + (1 : Int32)) (fun x4_50 : Int32 =>
 L_X4_waysToHitAll_5 S a1 k n x2_49 x4_50))) else
 (lt (v2_5 + (-x5_27)) (fun x2_49 : Int64 =>
 lt (v4_5 + (1 : Int32)) (fun x4_50 : Int32 =>
 L_X4_waysToHitAll_5 S a1 k n x2_49 x4_50))))))))))
set_option maxRecDepth 100000 in
def F_X4_waysToHitAll (S : zSt) (a1 : Int32) : Option Int64 :=
 lt (0 : Int64) (fun x2_1 : Int64 =>
 lt (0 : Int32) (fun x4_3 : Int32 =>
 L_X4_waysToHitAll_5 S a1 (fun (w2_5 : Int64) =>
 some w2_5) 1000 x2_1 x4_3))
set_option maxRecDepth 100000 in
def F_X5_finding (S : zSt) (a1 : Int32) : Option (Int32 × zSt) :=
 lt (sI S 9 a1) (fun S2 : zSt =>
 some (((-10 : Int32) - a1), S2))
set_option maxRecDepth 100000 in
def F_X5_latestFinding (S : zSt) : Option Int32 :=
 some (zI S 9)
set_option maxRecDepth 100000 in
def F_X5_isLost (S : zSt) (a1 : Int32) : Option Int32 :=
 ibd a1 4 (if (zA S 25 a1.toNatClampNeg) = (-1 : Int32) then (some (1 : Int32)) else
 (some (0 : Int32)))
set_option maxRecDepth 100000 in
def F_X5_itemsOf (S : zSt) (a1 : Int32) : Option Int32 :=
 ibd a1 4 (some (zA S 25 a1.toNatClampNeg))
set_option maxRecDepth 100000 in
def L_X5_renew_17 (a1 : Int32) (a3 : Int32) (k : zSt → Option zSt) : Nat → zSt → Int32 → Option zSt
  | 0, _, _ => none
  | n + 1, S17, v4_17 =>
    (if a3 ≤ v4_17 then (k S17) else
 (ibd a1 4 (ibd v4_17 60 (lt (sA S17 (42 + a1.toNatClampNeg) (upd (zA S17 (42 + a1.toNatClampNeg)) v4_17.toNatClampNeg (0 : Int32))) (fun S32 : zSt =>
 lt (v4_17 + (1 : Int32)) (fun x4_33 : Int32 =>
 L_X5_renew_17 a1 a3 k n S32 x4_33))))))
set_option maxRecDepth 100000 in
def F_X5_renew (S : zSt) (a1 : Int32) (a2 : Int32) (a3 : Int32) : Option zSt :=
 ibd a1 4 (lt (sA S 24 (upd (zA S 24) a1.toNatClampNeg a2)) (fun S6 : zSt =>
 ibd a1 4 (lt (sA S6 25 (upd (zA S6 25) a1.toNatClampNeg a3)) (fun S13 : zSt =>
 lt (0 : Int32) (fun x4_15 : Int32 =>
 L_X5_renew_17 a1 a3 (fun (S17x_17 : zSt) =>
 some S17x_17) 1000 S13 x4_15)))))
set_option maxRecDepth 100000 in
def F_X5_drop (S : zSt) (a1 : Int32) : Option (Int32 × zSt) :=
 ibd a1 4 (lt (zA S 25 a1.toNatClampNeg) (fun x2_6 : Int32 =>
 ibd a1 4 (lt (sA S 25 (upd (zA S 25) a1.toNatClampNeg (-1 : Int32))) (fun S13 : zSt =>
 some (x2_6, S13)))))
set_option maxRecDepth 100000 in
def F_X10_outside (a0 : Int32) (a1 : Int32) (a2 : Int32) : Option Int32 :=
 if a0 < a1 then (some (1 : Int32)) else
 (if a0 ≤ a2 then (some (0 : Int32)) else
 (some (1 : Int32)))
set_option maxRecDepth 100000 in
def F_X5_faultOf (S : zSt) (a1 : Int32) (a2 : Int32) (a3 : Int32) : Option Int32 :=
 (F_X5_isLost S a1).bind (fun r2 : Int32 =>
 if r2 = 0 then (ibd a1 4 (if (zA S 24 a1.toNatClampNeg) = a2 then (ibd a1 4 ((F_X10_outside a3 (0 : Int32) ((zA S 25 a1.toNatClampNeg) - (1 : Int32))).bind (fun r32 : Int32 =>
 if r32 = 0 then (some (0 : Int32)) else
 (some (2 : Int32))))) else
 (some (3 : Int32)))) else
 (some (1 : Int32)))
set_option maxRecDepth 100000 in
def F_X5_itemAt (S : zSt) (a1 : Int32) (a2 : Int32) : Option Int32 :=
 ibd a1 4 (ibd a2 60 (some (zA S (42 + a1.toNatClampNeg) a2.toNatClampNeg)))
set_option maxRecDepth 100000 in
def F_X5_setItem (S : zSt) (a1 : Int32) (a2 : Int32) (a3 : Int32) : Option zSt :=
 ibd a1 4 (ibd a1 4 (if (zA S 24 a1.toNatClampNeg) = 0 then (ibd a2 60 (lt (sA S (42 + a1.toNatClampNeg) (upd (zA S (42 + a1.toNatClampNeg)) a2.toNatClampNeg (a3.toInt8.toInt32))) (fun S37 : zSt =>
 some S37))) else
 (ibd a1 4 (if (zA S 24 a1.toNatClampNeg) = (1 : Int32) then (ibd a2 60 (lt (sA S (42 + a1.toNatClampNeg) (upd (zA S (42 + a1.toNatClampNeg)) a2.toNatClampNeg (a3.toInt16.toInt32))) (fun S37 : zSt =>
 some S37))) else
 (ibd a2 60 (lt (sA S (42 + a1.toNatClampNeg) (upd (zA S (42 + a1.toNatClampNeg)) a2.toNatClampNeg a3)) (fun S37 : zSt =>
 some S37)))))))
set_option maxRecDepth 100000 in
def F_X5_areUnlike (S : zSt) (a1 : Int32) (a2 : Int32) : Option Int32 :=
 ibd a1 4 (ibd a2 4 (if (zA S 24 a1.toNatClampNeg) = (zA S 24 a2.toNatClampNeg) then (some (0 : Int32)) else
 (some (1 : Int32))))
set_option maxRecDepth 100000 in
def F_X5_hasNotSoMany (S : zSt) (a1 : Int32) (a2 : Int32) (a3 : Int32) : Option Int32 :=
 ibd a1 4 ((F_X10_outside a2 (0 : Int32) (zA S 25 a1.toNatClampNeg)).bind (fun r8 : Int32 =>
 if r8 = 0 then (ibd a1 4 ((F_X10_outside a3 (0 : Int32) ((zA S 25 a1.toNatClampNeg) - a2)).bind (fun r24 : Int32 =>
 if r24 = 0 then (some (0 : Int32)) else
 (some (1 : Int32))))) else
 (some (1 : Int32))))
set_option maxRecDepth 100000 in
def F_X5_move (S : zSt) (a1 : Int32) (a2 : Int32) (a3 : Int32) (a4 : Int32) (a5 : Int32) : Option zSt :=
 ibd a1 4 (ibd a3 4 (zcp a2 a4 a5 60 60 (lt (sA S (42 + a3.toNatClampNeg) (va_cpy (zA S (42 + a1.toNatClampNeg)) (zA S (42 + a3.toNatClampNeg)) a2.toNatClampNeg a4.toNatClampNeg a5.toNatClampNeg)) (fun S17 : zSt =>
 some S17))))
abbrev rm_X3_leastOnward : Room := { frames := 2, cells := 0, slots := 0, locals := 44 }
theorem y_X3_leastOnward : yX3_leastOnward.cls = RX3 ∧ yX3_leastOnward.cls ≠ "java/lang/invoke/MethodHandle" ∧ yX3_leastOnward.cls ≠ "java/lang/invoke/VarHandle" ∧ (parseMethodDescriptor yX3_leastOnward.desc).map (fun d => d.parameters.length) = some 3 := by decide +kernel
theorem m_X3_leastOnward_f11 : Cond.fieldLink RX3 11 "LongestMet$Holding" "goes" "[I" ∈ wsX3_leastOnward := List.mem_cons_of_mem _ (List.mem_append_left _ (List.mem_of_getElem? (i := 0) rfl))
theorem m_X3_leastOnward_inX3 : ∀ x ∈ u_ws RX3 TX3 5, x ∈ wsX3_leastOnward := fun _ h => List.mem_cons_of_mem _ (List.mem_append_right _ h)
theorem m_X3_leastOnward_f23 : Cond.fieldLink RX3 23 "LongestMet$Holding" "buses" "I" ∈ wsX3_leastOnward := List.mem_cons_of_mem _ (List.mem_append_left _ (List.mem_of_getElem? (i := 2) rfl))
theorem m_X3_leastOnward_c34 : Cond.constant RX3 34 (1000000) ∈ wsX3_leastOnward := List.mem_cons_of_mem _ (List.mem_append_left _ (List.mem_of_getElem? (i := 1) rfl))
theorem m_X3_leastOnward_f27 : Cond.fieldLink RX3 27 "LongestMet$Holding" "latest" "I" ∈ wsX3_leastOnward := List.mem_cons_of_mem _ (List.mem_append_left _ (List.mem_of_getElem? (i := 3) rfl))
theorem m_X3_leastOnward_q59 : Cond.methodLink RX3 59 Lib.Math.min.name ∈ wsX3_leastOnward := List.mem_cons_of_mem _ (List.mem_append_left _ (List.mem_of_getElem? (i := 4) rfl))
theorem m_X3_leastOnward_qsmin : Cond.static Lib.Math.min.name ∈ wsX3_leastOnward := List.mem_cons_of_mem _ (List.mem_append_left _ (List.mem_of_getElem? (i := 5) rfl))
theorem m_X3_leastOnward_qi : Cond.initialized "java/lang/Math" ∈ wsX3_leastOnward := List.mem_cons_of_mem _ (List.mem_append_left _ (List.mem_of_getElem? (i := 6) rfl))
theorem m_X3_leastOnward_qcmin : Cond.code Lib.Math.min.name Lib.Math.min.code 2 (some .int) ∈ wsX3_leastOnward := List.mem_cons_of_mem _ (List.mem_append_left _ (List.mem_of_getElem? (i := 7) rfl))
set_option maxRecDepth 100000 in
set_option maxHeartbeats 4000000 in
theorem xL_X3_leastOnward_45 {E : zCx} {g : zGx} (B : zGood E (WX g) (zT g) cX3_leastOnward RX3 wsX3_leastOnward (some .int) rm_X3_leastOnward) (hE : E.2.2 = 7) (S : zSt) (a1 : Int32) (x4_8 : Int32) (k : Int32 → Option Int32) (hk : ∀ (w5 : Int32), Xo E (WX g) (eI S) S 78 [(5, .int w5)] [] (k w5)) : ∀ (n : Nat) (v5_45 : Int32) (v6_45 : Int32), Xo E (WX g) (eI S) S 45 [(0, .ref (g.1 3)), (1, .int a1), (4, .int x4_8), (5, .int v5_45), (6, .int v6_45)] [] (L_X3_leastOnward_45 S a1 x4_8 k n v5_45 v6_45) := by
  have n4 : 4 < E.2.2 := by rw [hE]; decide
  have n5 : 5 < E.2.2 := by rw [hE]; decide
  have n6 : 6 < E.2.2 := by rw [hE]; decide
  intro n
  induction n with
  | zero =>
    intro _ _
    exact r_none
  | succ n ih =>
    intro v5_45 v6_45
    rw [L_X3_leastOnward_45]
    refine r_iload B 4 dX3_leastOnward_45 rfl ?_
    refine r_aload_n B 0 dX3_leastOnward_47 rfl rfl ?_
    refine r_get B 3 2 4 (Nat.le_of_ble_eq_true rfl) rfl (cX_3 g _) rfl m_X3_leastOnward_inX3 (Nat.le_of_ble_eq_true rfl) m_X3_leastOnward_f27 rfl dX3_leastOnward_48 ?_
    refine r_icmp_gt B 78 dX3_leastOnward_51 (by decide) (fun _ => ?_) (fun _ => ?_)
    · refine r_sub [3] rfl ?_
      exact hk v5_45
    · refine r_iload B 3 dX3_leastOnward_54 rfl ?_
      refine r_aload_n B 0 dX3_leastOnward_56 rfl rfl ?_
      refine r_iload B 2 dX3_leastOnward_57 rfl ?_
      refine r_iload_n B 1 dX3_leastOnward_59 rfl rfl ?_
      refine r_iconst B (1 : Int32) dX3_leastOnward_60 (by decide) ?_
      refine r_iadd B dX3_leastOnward_61 ?_
      refine r_iload B 4 dX3_leastOnward_62 rfl ?_
      refine r_cI (zrunV (As := [.int x4_8, .int (a1 + (1 : Int32)), .int v6_45]) (rest := [.int v5_45]) B 3 3 (fun b hb => k_X3_through B.2.2.1 hb) gX3_leastOnward_X3_through rfl rfl rfl y_X3_through ⟨Nat.le_of_ble_eq_true rfl, Nat.le_of_ble_eq_true rfl⟩ (Nat.le_of_ble_eq_true rfl) rfl (cX_3 g _) rfl rfl rfl (Nat.le_of_ble_eq_true rfl) dX3_leastOnward_64) (fun r64 => ?_)
      refine r_mmin B m_X3_leastOnward_q59 m_X3_leastOnward_qsmin m_X3_leastOnward_qi m_X3_leastOnward_qcmin (Nat.le_of_ble_eq_true rfl) (Nat.le_of_ble_eq_true rfl) dX3_leastOnward_67 ?_
      refine r_istore (lv' := fun x5_70 => [(5, .int x5_70), (0, .ref (g.1 3)), (1, .int a1), (4, .int x4_8), (6, .int v6_45)]) B dX3_leastOnward_70 n5 (fun _ => rfl) (fun x5_70 => ?_)
      refine r_iinc (lv' := fun x6_72 => [(6, .int x6_72), (5, .int x5_70), (0, .ref (g.1 3)), (1, .int a1), (4, .int x4_8)]) B 4 (1 : Int32) dX3_leastOnward_72 rfl (by decide) n6 (fun _ => rfl) (fun x6_72 => ?_)
      refine r_goto B 45 dX3_leastOnward_75 (by decide) ?_
      refine r_sub [2, 3, 4, 1, 0] rfl ?_
      exact ih x5_70 x6_72
set_option maxRecDepth 100000 in
set_option maxHeartbeats 4000000 in
theorem x_X3_leastOnward {E : zCx} {g : zGx} (B : zGood E (WX g) (zT g) cX3_leastOnward RX3 wsX3_leastOnward (some .int) rm_X3_leastOnward) (hE : E.2.2 = 7) (S : zSt) (a1 : Int32) (a2 : Int32) (a3 : Int32) : Xo E (WX g) (eI S) S 0 [(0, .ref (g.1 3)), (1, .int a1), (2, .int a2), (3, .int a3)] [] (F_X3_leastOnward S a1 a2 a3) := by
  have n4 : 4 < E.2.2 := by rw [hE]; decide
  have n5 : 5 < E.2.2 := by rw [hE]; decide
  have n6 : 6 < E.2.2 := by rw [hE]; decide
  unfold F_X3_leastOnward
  refine r_aload_n B 0 dX3_leastOnward_0 rfl rfl ?_
  refine r_get B 3 2 0 (Nat.le_of_ble_eq_true rfl) rfl (cX_3 g _) rfl m_X3_leastOnward_inX3 (Nat.le_of_ble_eq_true rfl) m_X3_leastOnward_f11 rfl dX3_leastOnward_1 ?_
  refine r_iload_n B 1 dX3_leastOnward_4 rfl rfl ?_
  refine r_iald B 12 0 (Nat.le_of_ble_eq_true rfl) rfl (cX_12 g _) rfl dX3_leastOnward_5 ?_
  refine r_iload_n B 2 dX3_leastOnward_6 rfl rfl ?_
  refine r_iadd B dX3_leastOnward_7 ?_
  refine r_istore (lv' := fun x4_8 => [(4, .int x4_8), (0, .ref (g.1 3)), (1, .int a1), (2, .int a2), (3, .int a3)]) B dX3_leastOnward_8 n4 (fun _ => rfl) (fun x4_8 => ?_)
  refine r_iload B 0 dX3_leastOnward_10 rfl ?_
  refine r_bipush B (60 : Int32) dX3_leastOnward_12 (by decide) ?_
  refine r_icmp_lt B 20 dX3_leastOnward_14 (by decide) (fun _ => ?_) (fun _ => ?_)
  · refine r_iload_n B 2 dX3_leastOnward_20 rfl rfl ?_
    refine r_aload_n B 1 dX3_leastOnward_21 rfl rfl ?_
    refine r_get B 3 2 3 (Nat.le_of_ble_eq_true rfl) rfl (cX_3 g _) rfl m_X3_leastOnward_inX3 (Nat.le_of_ble_eq_true rfl) m_X3_leastOnward_f23 rfl dX3_leastOnward_22 ?_
    refine r_iconst B (1 : Int32) dX3_leastOnward_25 (by decide) ?_
    refine r_isub B dX3_leastOnward_26 ?_
    refine r_icmp_ne B 38 dX3_leastOnward_27 (by decide) (fun _ => ?_) (fun _ => ?_)
    · refine r_ldc B (1000000 : Int32) m_X3_leastOnward_c34 dX3_leastOnward_38 ?_
      refine r_istore (lv' := fun x5_40 => [(5, .int x5_40), (4, .int x4_8), (0, .ref (g.1 3)), (1, .int a1), (2, .int a2), (3, .int a3)]) B dX3_leastOnward_40 n5 (fun _ => rfl) (fun x5_40 => ?_)
      refine r_iconst B (0 : Int32) dX3_leastOnward_42 (by decide) ?_
      refine r_istore (lv' := fun x6_43 => [(6, .int x6_43), (5, .int x5_40), (4, .int x4_8), (0, .ref (g.1 3)), (1, .int a1), (2, .int a2), (3, .int a3)]) B dX3_leastOnward_43 n6 (fun _ => rfl) (fun x6_43 => ?_)
      refine r_sub [3, 4, 2, 1, 0] rfl ?_
      refine xL_X3_leastOnward_45 B hE S a1 x4_8 _ ?_ 1000 x5_40 x6_43
      intro w5_45
      refine r_iload B 0 dX3_leastOnward_78 rfl ?_
      exact r_iret B dX3_leastOnward_80 rfl
    · refine r_iload_n B 4 dX3_leastOnward_30 rfl rfl ?_
      refine r_iload B 0 dX3_leastOnward_31 rfl ?_
      refine r_isub B dX3_leastOnward_33 ?_
      refine r_cI (zrunS (As := [.int (a3 - x4_8)]) (rest := []) B 1 (fun b hb => k_X6_waitsIn B.2.2.1 hb) gX3_leastOnward_X6_waitsIn rfl rfl rfl y_X6_waitsIn ⟨Nat.le_of_ble_eq_true rfl, Nat.le_of_ble_eq_true rfl⟩ rfl rfl (Nat.le_of_ble_eq_true rfl) dX3_leastOnward_34) (fun r34 => ?_)
      exact r_iret B dX3_leastOnward_37 rfl
  · refine r_ldc B (1000000 : Int32) m_X3_leastOnward_c34 dX3_leastOnward_17 ?_
    exact r_iret B dX3_leastOnward_19 rfl
set_option maxRecDepth 20000 in
theorem k_X3_leastOnward {l : Launch} {D : va_G} {g : zGx} (hz : zin (WX g)) {S : zSt} {a1 : Int32} {a2 : Int32} {a3 : Int32} {b : Int32} (h : F_X3_leastOnward S a1 a2 a3 = some b) : zMet l D (WX g) (zT g) yX3_leastOnward wsX3_leastOnward rm_X3_leastOnward S [.ref (g.1 3), .int a1, .int a2, .int a3] ((eI S) b) := zmet_of (by decide +kernel) rfl hz (Nat.le_of_ble_eq_true rfl) rfl (fun E _ _ hE B => x_X3_leastOnward B hE S a1 a2 a3) h
abbrev rm_X3_leastWithFirst : Room := { frames := 3, cells := 0, slots := 0, locals := 70 }
theorem y_X3_leastWithFirst : yX3_leastWithFirst.cls = RX3 ∧ yX3_leastWithFirst.cls ≠ "java/lang/invoke/MethodHandle" ∧ yX3_leastWithFirst.cls ≠ "java/lang/invoke/VarHandle" ∧ (parseMethodDescriptor yX3_leastWithFirst.desc).map (fun d => d.parameters.length) = some 1 := by decide +kernel
theorem m_X3_leastWithFirst_f11 : Cond.fieldLink RX3 11 "LongestMet$Holding" "goes" "[I" ∈ wsX3_leastWithFirst := List.mem_cons_of_mem _ (List.mem_append_left _ (List.mem_of_getElem? (i := 0) rfl))
theorem m_X3_leastWithFirst_inX3 : ∀ x ∈ u_ws RX3 TX3 5, x ∈ wsX3_leastWithFirst := fun _ h => List.mem_cons_of_mem _ (List.mem_append_right _ h)
theorem m_X3_leastWithFirst_f23 : Cond.fieldLink RX3 23 "LongestMet$Holding" "buses" "I" ∈ wsX3_leastWithFirst := List.mem_cons_of_mem _ (List.mem_append_left _ (List.mem_of_getElem? (i := 1) rfl))
theorem m_X3_leastWithFirst_f27 : Cond.fieldLink RX3 27 "LongestMet$Holding" "latest" "I" ∈ wsX3_leastWithFirst := List.mem_cons_of_mem _ (List.mem_append_left _ (List.mem_of_getElem? (i := 2) rfl))
theorem m_X3_leastWithFirst_f20 : Cond.fieldLink RX3 20 "LongestMet$Holding" "onward" "[[I" ∈ wsX3_leastWithFirst := List.mem_cons_of_mem _ (List.mem_append_left _ (List.mem_of_getElem? (i := 3) rfl))
set_option maxRecDepth 100000 in
set_option maxHeartbeats 4000000 in
theorem xL_X3_leastWithFirst_26 {E : zCx} {g : zGx} (B : zGood E (WX g) (zT g) cX3_leastWithFirst RX3 wsX3_leastWithFirst (some .int) rm_X3_leastWithFirst) (hE : E.2.2 = 5) (a1 : Int32) (x2_11 : Int32) (v3_19 : Int32) (k : zSt → Option (Int32 × zSt)) (hk : ∀ (S26x : zSt), Xo E (WX g) eIw S26x 58 [(0, .ref (g.1 3)), (1, .int a1), (2, .int x2_11), (3, .int v3_19)] [] (k S26x)) : ∀ (n : Nat) (S26 : zSt) (v4_26 : Int32), Xo E (WX g) eIw S26 26 [(0, .ref (g.1 3)), (1, .int a1), (2, .int x2_11), (3, .int v3_19), (4, .int v4_26)] [] (L_X3_leastWithFirst_26 a1 x2_11 v3_19 k n S26 v4_26) := by
  have n2 : 2 < E.2.2 := by rw [hE]; decide
  have n3 : 3 < E.2.2 := by rw [hE]; decide
  have n4 : 4 < E.2.2 := by rw [hE]; decide
  intro n
  induction n with
  | zero =>
    intro _ _
    exact r_none
  | succ n ih =>
    intro S26 v4_26
    rw [L_X3_leastWithFirst_26]
    refine r_iload B 4 dX3_leastWithFirst_26 rfl ?_
    refine r_aload_n B 0 dX3_leastWithFirst_28 rfl rfl ?_
    refine r_get B 3 2 4 (Nat.le_of_ble_eq_true rfl) rfl (cX_3 g _) rfl m_X3_leastWithFirst_inX3 (Nat.le_of_ble_eq_true rfl) m_X3_leastWithFirst_f27 rfl dX3_leastWithFirst_29 ?_
    refine r_icmp_gt B 58 dX3_leastWithFirst_32 (by decide) (fun _ => ?_) (fun _ => ?_)
    · refine r_sub [0, 1, 2, 3] rfl ?_
      exact hk S26
    · refine r_aload_n B 0 dX3_leastWithFirst_35 rfl rfl ?_
      refine r_get B 3 2 2 (Nat.le_of_ble_eq_true rfl) rfl (cX_3 g _) rfl m_X3_leastWithFirst_inX3 (Nat.le_of_ble_eq_true rfl) m_X3_leastWithFirst_f20 rfl dX3_leastWithFirst_36 ?_
      refine r_iload_n B 3 dX3_leastWithFirst_39 rfl rfl ?_
      refine r_aald B 14 2 (Nat.le_of_ble_eq_true rfl) rfl (cX_14 g _) rfl dX3_leastWithFirst_40 (fun h40 => ?_)
      refine r_iload B 4 dX3_leastWithFirst_41 rfl ?_
      refine r_aload_n B 0 dX3_leastWithFirst_43 rfl rfl ?_
      refine r_iload_n B 3 dX3_leastWithFirst_44 rfl rfl ?_
      refine r_iload B 4 dX3_leastWithFirst_45 rfl ?_
      refine r_iload_n B 2 dX3_leastWithFirst_47 rfl rfl ?_
      refine r_cI (zrunV (As := [.int v3_19, .int v4_26, .int x2_11]) (rest := [.int v4_26, .ref (g.1 (26 + v3_19.toNatClampNeg))]) B 3 3 (fun b hb => k_X3_leastOnward B.2.2.1 hb) gX3_leastWithFirst_X3_leastOnward rfl rfl rfl y_X3_leastOnward ⟨Nat.le_of_ble_eq_true rfl, Nat.le_of_ble_eq_true rfl⟩ (Nat.le_of_ble_eq_true rfl) rfl (cX_3 g _) rfl rfl rfl (Nat.le_of_ble_eq_true rfl) dX3_leastWithFirst_48) (fun r48 => ?_)
      refine r_iast B (26 + v3_19.toNatClampNeg) 0 (hX_r26 g h40) rfl (cX_r26 g _ h40) rfl (uX_r26 g _ h40 _) dX3_leastWithFirst_51 (fun S51 => ?_)
      refine r_iinc (lv' := fun x4_52 => [(4, .int x4_52), (0, .ref (g.1 3)), (1, .int a1), (2, .int x2_11), (3, .int v3_19)]) B 4 (1 : Int32) dX3_leastWithFirst_52 rfl (by decide) n4 (fun _ => rfl) (fun x4_52 => ?_)
      refine r_goto B 26 dX3_leastWithFirst_55 (by decide) ?_
      refine r_sub [1, 2, 3, 4, 0] rfl ?_
      exact ih S51 x4_52
set_option maxRecDepth 100000 in
set_option maxHeartbeats 4000000 in
theorem xL_X3_leastWithFirst_19 {E : zCx} {g : zGx} (B : zGood E (WX g) (zT g) cX3_leastWithFirst RX3 wsX3_leastWithFirst (some .int) rm_X3_leastWithFirst) (hE : E.2.2 = 5) (a1 : Int32) (x2_11 : Int32) (k : zSt → Option (Int32 × zSt)) (hk : ∀ (S19x : zSt), Xo E (WX g) eIw S19x 64 [(0, .ref (g.1 3)), (1, .int a1)] [] (k S19x)) : ∀ (n : Nat) (S19 : zSt) (v3_19 : Int32), Xo E (WX g) eIw S19 19 [(0, .ref (g.1 3)), (1, .int a1), (2, .int x2_11), (3, .int v3_19)] [] (L_X3_leastWithFirst_19 a1 x2_11 k n S19 v3_19) := by
  have n2 : 2 < E.2.2 := by rw [hE]; decide
  have n3 : 3 < E.2.2 := by rw [hE]; decide
  have n4 : 4 < E.2.2 := by rw [hE]; decide
  intro n
  induction n with
  | zero =>
    intro _ _
    exact r_none
  | succ n ih =>
    intro S19 v3_19
    rw [L_X3_leastWithFirst_19]
    refine r_iload_n B 3 dX3_leastWithFirst_19 rfl rfl ?_
    refine r_if_lt B 64 dX3_leastWithFirst_20 (by decide) (fun _ => ?_) (fun _ => ?_)
    · refine r_sub [0, 1] rfl ?_
      exact hk S19
    · refine r_iconst B (0 : Int32) dX3_leastWithFirst_23 (by decide) ?_
      refine r_istore (lv' := fun x4_24 => [(4, .int x4_24), (0, .ref (g.1 3)), (1, .int a1), (2, .int x2_11), (3, .int v3_19)]) B dX3_leastWithFirst_24 n4 (fun _ => rfl) (fun x4_24 => ?_)
      refine r_sub [1, 2, 3, 4, 0] rfl ?_
      refine xL_X3_leastWithFirst_26 B hE a1 x2_11 v3_19 _ ?_ 1000 S19 x4_24
      intro S26x_26
      refine r_iinc (lv' := fun x3_58 => [(3, .int x3_58), (0, .ref (g.1 3)), (1, .int a1), (2, .int x2_11)]) B 3 (-1 : Int32) dX3_leastWithFirst_58 rfl (by decide) n3 (fun _ => rfl) (fun x3_58 => ?_)
      refine r_goto B 19 dX3_leastWithFirst_61 (by decide) ?_
      refine r_sub [1, 2, 3, 0] rfl ?_
      exact ih S26x_26 x3_58
set_option maxRecDepth 100000 in
set_option maxHeartbeats 4000000 in
theorem x_X3_leastWithFirst {E : zCx} {g : zGx} (B : zGood E (WX g) (zT g) cX3_leastWithFirst RX3 wsX3_leastWithFirst (some .int) rm_X3_leastWithFirst) (hE : E.2.2 = 5) (S : zSt) (a1 : Int32) : Xo E (WX g) eIw S 0 [(0, .ref (g.1 3)), (1, .int a1)] [] (F_X3_leastWithFirst S a1) := by
  have n2 : 2 < E.2.2 := by rw [hE]; decide
  have n3 : 3 < E.2.2 := by rw [hE]; decide
  have n4 : 4 < E.2.2 := by rw [hE]; decide
  unfold F_X3_leastWithFirst
  refine r_bipush B (60 : Int32) dX3_leastWithFirst_0 (by decide) ?_
  refine r_aload_n B 0 dX3_leastWithFirst_2 rfl rfl ?_
  refine r_get B 3 2 0 (Nat.le_of_ble_eq_true rfl) rfl (cX_3 g _) rfl m_X3_leastWithFirst_inX3 (Nat.le_of_ble_eq_true rfl) m_X3_leastWithFirst_f11 rfl dX3_leastWithFirst_3 ?_
  refine r_iconst B (0 : Int32) dX3_leastWithFirst_6 (by decide) ?_
  refine r_iald B 12 0 (Nat.le_of_ble_eq_true rfl) rfl (cX_12 g _) rfl dX3_leastWithFirst_7 ?_
  refine r_iadd B dX3_leastWithFirst_8 ?_
  refine r_iload_n B 1 dX3_leastWithFirst_9 rfl rfl ?_
  refine r_iadd B dX3_leastWithFirst_10 ?_
  refine r_istore_n (lv' := fun x2_11 => [(2, .int x2_11), (0, .ref (g.1 3)), (1, .int a1)]) B dX3_leastWithFirst_11 rfl n2 (fun _ => rfl) (fun x2_11 => ?_)
  refine r_aload_n B 1 dX3_leastWithFirst_12 rfl rfl ?_
  refine r_get B 3 2 3 (Nat.le_of_ble_eq_true rfl) rfl (cX_3 g _) rfl m_X3_leastWithFirst_inX3 (Nat.le_of_ble_eq_true rfl) m_X3_leastWithFirst_f23 rfl dX3_leastWithFirst_13 ?_
  refine r_iconst B (1 : Int32) dX3_leastWithFirst_16 (by decide) ?_
  refine r_isub B dX3_leastWithFirst_17 ?_
  refine r_istore_n (lv' := fun x3_18 => [(3, .int x3_18), (2, .int x2_11), (0, .ref (g.1 3)), (1, .int a1)]) B dX3_leastWithFirst_18 rfl n3 (fun _ => rfl) (fun x3_18 => ?_)
  refine r_sub [2, 3, 1, 0] rfl ?_
  refine xL_X3_leastWithFirst_19 B hE a1 x2_11 _ ?_ 1000 S x3_18
  intro S19x_19
  refine r_aload_n B 0 dX3_leastWithFirst_64 rfl rfl ?_
  refine r_get B 3 2 2 (Nat.le_of_ble_eq_true rfl) rfl (cX_3 g _) rfl m_X3_leastWithFirst_inX3 (Nat.le_of_ble_eq_true rfl) m_X3_leastWithFirst_f20 rfl dX3_leastWithFirst_65 ?_
  refine r_iconst B (0 : Int32) dX3_leastWithFirst_68 (by decide) ?_
  refine r_aald B 14 2 (Nat.le_of_ble_eq_true rfl) rfl (cX_14 g _) rfl dX3_leastWithFirst_69 (fun h69 => ?_)
  refine r_iload_n B 1 dX3_leastWithFirst_70 rfl rfl ?_
  refine r_iald B (26 + (0 : Int32).toNatClampNeg) 0 (hX_r26 g h69) rfl (cX_r26 g _ h69) rfl dX3_leastWithFirst_71 ?_
  exact r_iret B dX3_leastWithFirst_72 rfl
set_option maxRecDepth 20000 in
theorem k_X3_leastWithFirst {l : Launch} {D : va_G} {g : zGx} (hz : zin (WX g)) {S : zSt} {a1 : Int32} {b : (Int32 × zSt)} (h : F_X3_leastWithFirst S a1 = some b) : zMet l D (WX g) (zT g) yX3_leastWithFirst wsX3_leastWithFirst rm_X3_leastWithFirst S [.ref (g.1 3), .int a1] (eIw b) := zmet_of (by decide +kernel) rfl hz (Nat.le_of_ble_eq_true rfl) rfl (fun E _ _ hE B => x_X3_leastWithFirst B hE S a1) h
abbrev rm_X3_leastLater : Room := { frames := 2, cells := 0, slots := 0, locals := 44 }
theorem y_X3_leastLater : yX3_leastLater.cls = RX3 ∧ yX3_leastLater.cls ≠ "java/lang/invoke/MethodHandle" ∧ yX3_leastLater.cls ≠ "java/lang/invoke/VarHandle" ∧ (parseMethodDescriptor yX3_leastLater.desc).map (fun d => d.parameters.length) = some 3 := by decide +kernel
theorem m_X3_leastLater_f27 : Cond.fieldLink RX3 27 "LongestMet$Holding" "latest" "I" ∈ wsX3_leastLater := List.mem_cons_of_mem _ (List.mem_append_left _ (List.mem_of_getElem? (i := 0) rfl))
theorem m_X3_leastLater_inX3 : ∀ x ∈ u_ws RX3 TX3 5, x ∈ wsX3_leastLater := fun _ h => List.mem_cons_of_mem _ (List.mem_append_right _ h)
set_option maxRecDepth 100000 in
set_option maxHeartbeats 4000000 in
theorem xL_X3_leastLater_3 {E : zCx} {g : zGx} (B : zGood E (WX g) (zT g) cX3_leastLater RX3 wsX3_leastLater (some .int) rm_X3_leastLater) (hE : E.2.2 = 5) (S : zSt) (a1 : Int32) (a2 : Int32) (a3 : Int32) (k : Option Int32) (hk : Xo E (WX g) (eI S) S 33 [(0, .ref (g.1 3))] [] (k)) : ∀ (n : Nat) (v4_3 : Int32), Xo E (WX g) (eI S) S 3 [(0, .ref (g.1 3)), (1, .int a1), (2, .int a2), (3, .int a3), (4, .int v4_3)] [] (L_X3_leastLater_3 S a1 a2 a3 k n v4_3) := by
  have n4 : 4 < E.2.2 := by rw [hE]; decide
  intro n
  induction n with
  | zero =>
    intro _
    exact r_none
  | succ n ih =>
    intro v4_3
    rw [L_X3_leastLater_3]
    refine r_iload B 4 dX3_leastLater_3 rfl ?_
    refine r_aload_n B 0 dX3_leastLater_5 rfl rfl ?_
    refine r_get B 3 2 4 (Nat.le_of_ble_eq_true rfl) rfl (cX_3 g _) rfl m_X3_leastLater_inX3 (Nat.le_of_ble_eq_true rfl) m_X3_leastLater_f27 rfl dX3_leastLater_6 ?_
    refine r_icmp_ge B 33 dX3_leastLater_9 (by decide) (fun _ => ?_) (fun _ => ?_)
    · refine r_sub [0] rfl ?_
      exact hk
    · refine r_aload_n B 0 dX3_leastLater_12 rfl rfl ?_
      refine r_iload_n B 2 dX3_leastLater_13 rfl rfl ?_
      refine r_iload_n B 1 dX3_leastLater_14 rfl rfl ?_
      refine r_iload B 4 dX3_leastLater_15 rfl ?_
      refine r_cI (zrunV (As := [.int a2, .int a1, .int v4_3]) (rest := []) B 3 3 (fun b hb => k_X3_through B.2.2.1 hb) gX3_leastLater_X3_through rfl rfl rfl y_X3_through ⟨Nat.le_of_ble_eq_true rfl, Nat.le_of_ble_eq_true rfl⟩ (Nat.le_of_ble_eq_true rfl) rfl (cX_3 g _) rfl rfl rfl (Nat.le_of_ble_eq_true rfl) dX3_leastLater_17) (fun r17 => ?_)
      refine r_iload_n B 3 dX3_leastLater_20 rfl rfl ?_
      refine r_icmp_ne B 27 dX3_leastLater_21 (by decide) (fun _ => ?_) (fun _ => ?_)
      · refine r_iinc (lv' := fun x4_27 => [(4, .int x4_27), (0, .ref (g.1 3)), (1, .int a1), (2, .int a2), (3, .int a3)]) B 4 (1 : Int32) dX3_leastLater_27 rfl (by decide) n4 (fun _ => rfl) (fun x4_27 => ?_)
        refine r_goto B 3 dX3_leastLater_30 (by decide) ?_
        refine r_sub [1, 2, 3, 4, 0] rfl ?_
        exact ih x4_27
      · refine r_iload B 4 dX3_leastLater_24 rfl ?_
        exact r_iret B dX3_leastLater_26 rfl
set_option maxRecDepth 100000 in
set_option maxHeartbeats 4000000 in
theorem x_X3_leastLater {E : zCx} {g : zGx} (B : zGood E (WX g) (zT g) cX3_leastLater RX3 wsX3_leastLater (some .int) rm_X3_leastLater) (hE : E.2.2 = 5) (S : zSt) (a1 : Int32) (a2 : Int32) (a3 : Int32) : Xo E (WX g) (eI S) S 0 [(0, .ref (g.1 3)), (1, .int a1), (2, .int a2), (3, .int a3)] [] (F_X3_leastLater S a1 a2 a3) := by
  have n4 : 4 < E.2.2 := by rw [hE]; decide
  unfold F_X3_leastLater
  refine r_iconst B (0 : Int32) dX3_leastLater_0 (by decide) ?_
  refine r_istore (lv' := fun x4_1 => [(4, .int x4_1), (0, .ref (g.1 3)), (1, .int a1), (2, .int a2), (3, .int a3)]) B dX3_leastLater_1 n4 (fun _ => rfl) (fun x4_1 => ?_)
  refine r_sub [1, 2, 3, 4, 0] rfl ?_
  refine xL_X3_leastLater_3 B hE S a1 a2 a3 _ ?_ 1000 x4_1
  refine r_aload_n B 0 dX3_leastLater_33 rfl rfl ?_
  refine r_get B 3 2 4 (Nat.le_of_ble_eq_true rfl) rfl (cX_3 g _) rfl m_X3_leastLater_inX3 (Nat.le_of_ble_eq_true rfl) m_X3_leastLater_f27 rfl dX3_leastLater_34 ?_
  exact r_iret B dX3_leastLater_37 rfl
set_option maxRecDepth 20000 in
theorem k_X3_leastLater {l : Launch} {D : va_G} {g : zGx} (hz : zin (WX g)) {S : zSt} {a1 : Int32} {a2 : Int32} {a3 : Int32} {b : Int32} (h : F_X3_leastLater S a1 a2 a3 = some b) : zMet l D (WX g) (zT g) yX3_leastLater wsX3_leastLater rm_X3_leastLater S [.ref (g.1 3), .int a1, .int a2, .int a3] ((eI S) b) := zmet_of (by decide +kernel) rfl hz (Nat.le_of_ble_eq_true rfl) rfl (fun E _ _ hE B => x_X3_leastLater B hE S a1 a2 a3) h
abbrev rm_X3_chooseLater : Room := { frames := 3, cells := 0, slots := 0, locals := 68 }
theorem y_X3_chooseLater : yX3_chooseLater.cls = RX3 ∧ yX3_chooseLater.cls ≠ "java/lang/invoke/MethodHandle" ∧ yX3_chooseLater.cls ≠ "java/lang/invoke/VarHandle" ∧ (parseMethodDescriptor yX3_chooseLater.desc).map (fun d => d.parameters.length) = some 1 := by decide +kernel
theorem m_X3_chooseLater_f15 : Cond.fieldLink RX3 15 "LongestMet$Holding" "later" "[I" ∈ wsX3_chooseLater := List.mem_cons_of_mem _ (List.mem_append_left _ (List.mem_of_getElem? (i := 0) rfl))
theorem m_X3_chooseLater_inX3 : ∀ x ∈ u_ws RX3 TX3 5, x ∈ wsX3_chooseLater := fun _ h => List.mem_cons_of_mem _ (List.mem_append_right _ h)
theorem m_X3_chooseLater_f23 : Cond.fieldLink RX3 23 "LongestMet$Holding" "buses" "I" ∈ wsX3_chooseLater := List.mem_cons_of_mem _ (List.mem_append_left _ (List.mem_of_getElem? (i := 1) rfl))
theorem m_X3_chooseLater_f11 : Cond.fieldLink RX3 11 "LongestMet$Holding" "goes" "[I" ∈ wsX3_chooseLater := List.mem_cons_of_mem _ (List.mem_append_left _ (List.mem_of_getElem? (i := 2) rfl))
theorem m_X3_chooseLater_f20 : Cond.fieldLink RX3 20 "LongestMet$Holding" "onward" "[[I" ∈ wsX3_chooseLater := List.mem_cons_of_mem _ (List.mem_append_left _ (List.mem_of_getElem? (i := 3) rfl))
set_option maxRecDepth 100000 in
set_option maxHeartbeats 4000000 in
theorem xL_X3_chooseLater_9 {E : zCx} {g : zGx} (B : zGood E (WX g) (zT g) cX3_chooseLater RX3 wsX3_chooseLater none rm_X3_chooseLater) (hE : E.2.2 = 4)  (k : zSt → Option zSt) (hk : ∀ (S9x : zSt), Xo E (WX g) eVw S9x 63 [] [] (k S9x)) : ∀ (n : Nat) (S9 : zSt) (v2_9 : Int32), Xo E (WX g) eVw S9 9 [(0, .ref (g.1 3)), (2, .int v2_9)] [] (L_X3_chooseLater_9 k n S9 v2_9) := by
  have n2 : 2 < E.2.2 := by rw [hE]; decide
  have n3 : 3 < E.2.2 := by rw [hE]; decide
  intro n
  induction n with
  | zero =>
    intro _ _
    exact r_none
  | succ n ih =>
    intro S9 v2_9
    rw [L_X3_chooseLater_9]
    refine r_iload_n B 1 dX3_chooseLater_9 rfl rfl ?_
    refine r_aload_n B 0 dX3_chooseLater_10 rfl rfl ?_
    refine r_get B 3 2 3 (Nat.le_of_ble_eq_true rfl) rfl (cX_3 g _) rfl m_X3_chooseLater_inX3 (Nat.le_of_ble_eq_true rfl) m_X3_chooseLater_f23 rfl dX3_chooseLater_11 ?_
    refine r_icmp_ge B 63 dX3_chooseLater_14 (by decide) (fun _ => ?_) (fun _ => ?_)
    · refine r_sub [] rfl ?_
      exact hk S9
    · refine r_aload_n B 0 dX3_chooseLater_17 rfl rfl ?_
      refine r_get B 3 2 1 (Nat.le_of_ble_eq_true rfl) rfl (cX_3 g _) rfl m_X3_chooseLater_inX3 (Nat.le_of_ble_eq_true rfl) m_X3_chooseLater_f15 rfl dX3_chooseLater_18 ?_
      refine r_iload_n B 1 dX3_chooseLater_21 rfl rfl ?_
      refine r_iconst B (1 : Int32) dX3_chooseLater_22 (by decide) ?_
      refine r_isub B dX3_chooseLater_23 ?_
      refine r_iald B 13 0 (Nat.le_of_ble_eq_true rfl) rfl (cX_13 g _) rfl dX3_chooseLater_24 ?_
      refine r_istore_n (lv' := fun x3_25 => [(3, .int x3_25), (0, .ref (g.1 3)), (2, .int v2_9)]) B dX3_chooseLater_25 rfl n3 (fun _ => rfl) (fun x3_25 => ?_)
      refine r_aload_n B 1 dX3_chooseLater_26 rfl rfl ?_
      refine r_get B 3 2 1 (Nat.le_of_ble_eq_true rfl) rfl (cX_3 g _) rfl m_X3_chooseLater_inX3 (Nat.le_of_ble_eq_true rfl) m_X3_chooseLater_f15 rfl dX3_chooseLater_27 ?_
      refine r_iload_n B 2 dX3_chooseLater_30 rfl rfl ?_
      refine r_aload_n B 1 dX3_chooseLater_31 rfl rfl ?_
      refine r_iload_n B 2 dX3_chooseLater_32 rfl rfl ?_
      refine r_aload_n B 1 dX3_chooseLater_33 rfl rfl ?_
      refine r_get B 3 2 0 (Nat.le_of_ble_eq_true rfl) rfl (cX_3 g _) rfl m_X3_chooseLater_inX3 (Nat.le_of_ble_eq_true rfl) m_X3_chooseLater_f11 rfl dX3_chooseLater_34 ?_
      refine r_iload_n B 2 dX3_chooseLater_37 rfl rfl ?_
      refine r_iconst B (1 : Int32) dX3_chooseLater_38 (by decide) ?_
      refine r_isub B dX3_chooseLater_39 ?_
      refine r_iald B 12 0 (Nat.le_of_ble_eq_true rfl) rfl (cX_12 g _) rfl dX3_chooseLater_40 ?_
      refine r_iload_n B 0 dX3_chooseLater_41 rfl rfl ?_
      refine r_iadd B dX3_chooseLater_42 ?_
      refine r_aload_n B 1 dX3_chooseLater_43 rfl rfl ?_
      refine r_get B 3 2 2 (Nat.le_of_ble_eq_true rfl) rfl (cX_3 g _) rfl m_X3_chooseLater_inX3 (Nat.le_of_ble_eq_true rfl) m_X3_chooseLater_f20 rfl dX3_chooseLater_44 ?_
      refine r_iload_n B 2 dX3_chooseLater_47 rfl rfl ?_
      refine r_iconst B (1 : Int32) dX3_chooseLater_48 (by decide) ?_
      refine r_isub B dX3_chooseLater_49 ?_
      refine r_aald B 14 2 (Nat.le_of_ble_eq_true rfl) rfl (cX_14 g _) rfl dX3_chooseLater_50 (fun h50 => ?_)
      refine r_iload_n B 0 dX3_chooseLater_51 rfl rfl ?_
      refine r_iald B (26 + (v2_9 - (1 : Int32)).toNatClampNeg) 0 (hX_r26 g h50) rfl (cX_r26 g _ h50) rfl dX3_chooseLater_52 ?_
      refine r_cI (zrunV (As := [.int v2_9, .int ((zA S9 12 (v2_9 - (1 : Int32)).toNatClampNeg) + x3_25), .int (zA S9 (26 + (v2_9 - (1 : Int32)).toNatClampNeg) x3_25.toNatClampNeg)]) (rest := [.int v2_9, .ref (g.1 13)]) B 3 3 (fun b hb => k_X3_leastLater B.2.2.1 hb) gX3_chooseLater_X3_leastLater rfl rfl rfl y_X3_leastLater ⟨Nat.le_of_ble_eq_true rfl, Nat.le_of_ble_eq_true rfl⟩ (Nat.le_of_ble_eq_true rfl) rfl (cX_3 g _) rfl rfl rfl (Nat.le_of_ble_eq_true rfl) dX3_chooseLater_53) (fun r53 => ?_)
      refine r_iast B 13 0 (Nat.le_of_ble_eq_true rfl) rfl (cX_13 g _) rfl (uX_13 g _ _) dX3_chooseLater_56 (fun S56 => ?_)
      refine r_iinc (lv' := fun x2_57 => [(2, .int x2_57), (3, .int x3_25), (0, .ref (g.1 3))]) B 2 (1 : Int32) dX3_chooseLater_57 rfl (by decide) n2 (fun _ => rfl) (fun x2_57 => ?_)
      refine r_goto B 9 dX3_chooseLater_60 (by decide) ?_
      refine r_sub [2, 0] rfl ?_
      exact ih S56 x2_57
set_option maxRecDepth 100000 in
set_option maxHeartbeats 4000000 in
theorem x_X3_chooseLater {E : zCx} {g : zGx} (B : zGood E (WX g) (zT g) cX3_chooseLater RX3 wsX3_chooseLater none rm_X3_chooseLater) (hE : E.2.2 = 4) (S : zSt) (a1 : Int32) : Xo E (WX g) eVw S 0 [(0, .ref (g.1 3)), (1, .int a1)] [] (F_X3_chooseLater S a1) := by
  have n2 : 2 < E.2.2 := by rw [hE]; decide
  have n3 : 3 < E.2.2 := by rw [hE]; decide
  unfold F_X3_chooseLater
  refine r_aload_n B 0 dX3_chooseLater_0 rfl rfl ?_
  refine r_get B 3 2 1 (Nat.le_of_ble_eq_true rfl) rfl (cX_3 g _) rfl m_X3_chooseLater_inX3 (Nat.le_of_ble_eq_true rfl) m_X3_chooseLater_f15 rfl dX3_chooseLater_1 ?_
  refine r_iconst B (0 : Int32) dX3_chooseLater_4 (by decide) ?_
  refine r_iload_n B 1 dX3_chooseLater_5 rfl rfl ?_
  refine r_iast B 13 0 (Nat.le_of_ble_eq_true rfl) rfl (cX_13 g _) rfl (uX_13 g _ _) dX3_chooseLater_6 (fun S6 => ?_)
  refine r_iconst B (1 : Int32) dX3_chooseLater_7 (by decide) ?_
  refine r_istore_n (lv' := fun x2_8 => [(2, .int x2_8), (0, .ref (g.1 3)), (1, .int a1)]) B dX3_chooseLater_8 rfl n2 (fun _ => rfl) (fun x2_8 => ?_)
  refine r_sub [1, 0] rfl ?_
  refine xL_X3_chooseLater_9 B hE  _ ?_ 1000 S6 x2_8
  intro S9x_9
  exact r_vret B dX3_chooseLater_63 rfl
set_option maxRecDepth 20000 in
theorem k_X3_chooseLater {l : Launch} {D : va_G} {g : zGx} (hz : zin (WX g)) {S : zSt} {a1 : Int32} {b : zSt} (h : F_X3_chooseLater S a1 = some b) : zMet l D (WX g) (zT g) yX3_chooseLater wsX3_chooseLater rm_X3_chooseLater S [.ref (g.1 3), .int a1] (eVw b) := zmet_of (by decide +kernel) rfl hz (Nat.le_of_ble_eq_true rfl) rfl (fun E _ _ hE B => x_X3_chooseLater B hE S a1) h
abbrev rm_X3_settle : Room := { frames := 4, cells := 0, slots := 0, locals := 94 }
theorem y_X3_settle : yX3_settle.cls = RX3 ∧ yX3_settle.cls ≠ "java/lang/invoke/MethodHandle" ∧ yX3_settle.cls ≠ "java/lang/invoke/VarHandle" ∧ (parseMethodDescriptor yX3_settle.desc).map (fun d => d.parameters.length) = some 2 := by decide +kernel
theorem m_X3_settle_f27 : Cond.fieldLink RX3 27 "LongestMet$Holding" "latest" "I" ∈ wsX3_settle := List.mem_cons_of_mem _ (List.mem_append_left _ (List.mem_append_left _ (List.mem_of_getElem? (i := 0) rfl)))
theorem m_X3_settle_inX3 : ∀ x ∈ u_ws RX3 TX3 5, x ∈ wsX3_settle := fun _ h => List.mem_cons_of_mem _ (List.mem_append_right _ h)
theorem m_X3_settle_c34 : Cond.constant RX3 34 (1000000) ∈ wsX3_settle := List.mem_cons_of_mem _ (List.mem_append_left _ (List.mem_append_left _ (List.mem_of_getElem? (i := 1) rfl)))
set_option maxRecDepth 100000 in
set_option maxHeartbeats 4000000 in
theorem xL_X3_settle_20 {E : zCx} {g : zGx} (B : zGood E (WX g) (zT g) cX3_settle RX3 wsX3_settle (some .int) rm_X3_settle) (hE : E.2.2 = 8)  (k : zSt → Int32 → Int32 → Option (Int32 × zSt)) (hk : ∀ (S20x : zSt) (w4 : Int32) (w5 : Int32), Xo E (WX g) eIw S20x 58 [(0, .ref (g.1 3)), (4, .int w4), (5, .int w5)] [] (k S20x w4 w5)) : ∀ (n : Nat) (S20 : zSt) (v4_20 : Int32) (v5_20 : Int32) (v6_20 : Int32), Xo E (WX g) eIw S20 20 [(0, .ref (g.1 3)), (4, .int v4_20), (5, .int v5_20), (6, .int v6_20)] [] (L_X3_settle_20 k n S20 v4_20 v5_20 v6_20) := by
  have n4 : 4 < E.2.2 := by rw [hE]; decide
  have n5 : 5 < E.2.2 := by rw [hE]; decide
  have n6 : 6 < E.2.2 := by rw [hE]; decide
  have n7 : 7 < E.2.2 := by rw [hE]; decide
  intro n
  induction n with
  | zero =>
    intro _ _ _ _
    exact r_none
  | succ n ih =>
    intro S20 v4_20 v5_20 v6_20
    rw [L_X3_settle_20]
    refine r_iload B 3 dX3_settle_20 rfl ?_
    refine r_aload_n B 0 dX3_settle_22 rfl rfl ?_
    refine r_get B 3 2 4 (Nat.le_of_ble_eq_true rfl) rfl (cX_3 g _) rfl m_X3_settle_inX3 (Nat.le_of_ble_eq_true rfl) m_X3_settle_f27 rfl dX3_settle_23 ?_
    refine r_icmp_gt B 58 dX3_settle_26 (by decide) (fun _ => ?_) (fun _ => ?_)
    · refine r_sub [0, 1, 2] rfl ?_
      exact hk S20 v4_20 v5_20
    · refine r_aload_n B 0 dX3_settle_29 rfl rfl ?_
      refine r_iload B 3 dX3_settle_30 rfl ?_
      refine r_cIw (zrunV (As := [.int v6_20]) (rest := []) B 1 3 (fun b hb => k_X3_leastWithFirst B.2.2.1 hb) gX3_settle_X3_leastWithFirst rfl rfl rfl y_X3_leastWithFirst ⟨Nat.le_of_ble_eq_true rfl, Nat.le_of_ble_eq_true rfl⟩ (Nat.le_of_ble_eq_true rfl) rfl (cX_3 g _) rfl rfl rfl (Nat.le_of_ble_eq_true rfl) dX3_settle_32) (fun r32 S32 => ?_)
      refine r_istore (lv' := fun x7_35 => [(7, .int x7_35), (0, .ref (g.1 3)), (4, .int v4_20), (5, .int v5_20), (6, .int v6_20)]) B dX3_settle_35 n7 (fun _ => rfl) (fun x7_35 => ?_)
      refine r_iload B 0 dX3_settle_37 rfl ?_
      refine r_iload B 2 dX3_settle_39 rfl ?_
      refine r_icmp_ge B 52 dX3_settle_41 (by decide) (fun _ => ?_) (fun _ => ?_)
      · refine r_iinc (lv' := fun x6_52 => [(6, .int x6_52), (7, .int x7_35), (0, .ref (g.1 3)), (4, .int v4_20), (5, .int v5_20)]) B 4 (1 : Int32) dX3_settle_52 rfl (by decide) n6 (fun _ => rfl) (fun x6_52 => ?_)
        refine r_goto B 20 dX3_settle_55 (by decide) ?_
        refine r_sub [2, 3, 4, 0] rfl ?_
        exact ih S32 v4_20 v5_20 x6_52
      · refine r_iload B 0 dX3_settle_44 rfl ?_
        refine r_istore (lv' := fun x4_46 => [(4, .int x4_46), (7, .int x7_35), (0, .ref (g.1 3)), (5, .int v5_20), (6, .int v6_20)]) B dX3_settle_46 n4 (fun _ => rfl) (fun x4_46 => ?_)
        refine r_iload B 4 dX3_settle_48 rfl ?_
        refine r_istore (lv' := fun x5_50 => [(5, .int x5_50), (4, .int x4_46), (7, .int x7_35), (0, .ref (g.1 3)), (6, .int v6_20)]) B dX3_settle_50 n5 (fun _ => rfl) (fun x5_50 => ?_)
        refine r_iinc (lv' := fun x6_52 => [(6, .int x6_52), (5, .int x5_50), (4, .int x4_46), (7, .int x7_35), (0, .ref (g.1 3))]) B 4 (1 : Int32) dX3_settle_52 rfl (by decide) n6 (fun _ => rfl) (fun x6_52 => ?_)
        refine r_goto B 20 dX3_settle_55 (by decide) ?_
        refine r_sub [4, 2, 1, 0] rfl ?_
        exact ih S32 x4_46 x5_50 x6_52
set_option maxRecDepth 100000 in
set_option maxHeartbeats 4000000 in
theorem x_X3_settle {E : zCx} {g : zGx} (B : zGood E (WX g) (zT g) cX3_settle RX3 wsX3_settle (some .int) rm_X3_settle) (hE : E.2.2 = 8) (S : zSt) (a1 : Int64) (a3 : Int32) : Xo E (WX g) eIw S 0 [(0, .ref (g.1 3)), (1, .long a1), (3, .int a3)] [] (F_X3_settle S a1 a3) := by
  have n4 : 4 < E.2.2 := by rw [hE]; decide
  have n5 : 5 < E.2.2 := by rw [hE]; decide
  have n6 : 6 < E.2.2 := by rw [hE]; decide
  have n7 : 7 < E.2.2 := by rw [hE]; decide
  unfold F_X3_settle
  refine r_aload_n B 0 dX3_settle_0 rfl rfl ?_
  refine r_lload_n B 1 dX3_settle_1 rfl rfl ?_
  refine r_cVw (zrunV (As := [.long a1]) (rest := []) B 1 3 (fun b hb => k_X3_takeBuses B.2.2.1 hb) gX3_settle_X3_takeBuses rfl rfl rfl y_X3_takeBuses ⟨Nat.le_of_ble_eq_true rfl, Nat.le_of_ble_eq_true rfl⟩ (Nat.le_of_ble_eq_true rfl) rfl (cX_3 g _) rfl rfl rfl (Nat.le_of_ble_eq_true rfl) dX3_settle_2) (fun S2 => ?_)
  refine r_aload_n B 0 dX3_settle_5 rfl rfl ?_
  refine r_iload_n B 2 dX3_settle_6 rfl rfl ?_
  refine r_put (ty := .int) B 3 2 4 tyX3 tyX3_ok nmX3 (Nat.le_of_ble_eq_true rfl) rfl (cX_3 g _) rfl m_X3_settle_inX3 (Nat.le_of_ble_eq_true rfl) m_X3_settle_f27 rfl (by decide +kernel) rfl rfl (Nat.le_of_ble_eq_true rfl) (pX_3_4 g _ _) dX3_settle_7 (fun S7 => ?_)
  refine r_ldc B (1000000 : Int32) m_X3_settle_c34 dX3_settle_10 ?_
  refine r_istore (lv' := fun x4_12 => [(4, .int x4_12), (0, .ref (g.1 3)), (1, .long a1), (3, .int a3)]) B dX3_settle_12 n4 (fun _ => rfl) (fun x4_12 => ?_)
  refine r_iconst B (0 : Int32) dX3_settle_14 (by decide) ?_
  refine r_istore (lv' := fun x5_15 => [(5, .int x5_15), (4, .int x4_12), (0, .ref (g.1 3)), (1, .long a1), (3, .int a3)]) B dX3_settle_15 n5 (fun _ => rfl) (fun x5_15 => ?_)
  refine r_iconst B (0 : Int32) dX3_settle_17 (by decide) ?_
  refine r_istore (lv' := fun x6_18 => [(6, .int x6_18), (5, .int x5_15), (4, .int x4_12), (0, .ref (g.1 3)), (1, .long a1), (3, .int a3)]) B dX3_settle_18 n6 (fun _ => rfl) (fun x6_18 => ?_)
  refine r_sub [3, 2, 1, 0] rfl ?_
  refine xL_X3_settle_20 B hE  _ ?_ 1000 S7 x4_12 x5_15 x6_18
  intro S20x_20 w4_20 w5_20
  refine r_aload_n B 0 dX3_settle_58 rfl rfl ?_
  refine r_iload B 2 dX3_settle_59 rfl ?_
  refine r_cIw (zrunV (As := [.int w5_20]) (rest := []) B 1 3 (fun b hb => k_X3_leastWithFirst B.2.2.1 hb) gX3_settle_X3_leastWithFirst rfl rfl rfl y_X3_leastWithFirst ⟨Nat.le_of_ble_eq_true rfl, Nat.le_of_ble_eq_true rfl⟩ (Nat.le_of_ble_eq_true rfl) rfl (cX_3 g _) rfl rfl rfl (Nat.le_of_ble_eq_true rfl) dX3_settle_61) (fun r61 S61 => ?_)
  refine r_pop B rfl dX3_settle_64 ?_
  refine r_aload_n B 0 dX3_settle_65 rfl rfl ?_
  refine r_iload B 2 dX3_settle_66 rfl ?_
  refine r_cVw (zrunV (As := [.int w5_20]) (rest := []) B 1 3 (fun b hb => k_X3_chooseLater B.2.2.1 hb) gX3_settle_X3_chooseLater rfl rfl rfl y_X3_chooseLater ⟨Nat.le_of_ble_eq_true rfl, Nat.le_of_ble_eq_true rfl⟩ (Nat.le_of_ble_eq_true rfl) rfl (cX_3 g _) rfl rfl rfl (Nat.le_of_ble_eq_true rfl) dX3_settle_68) (fun S68 => ?_)
  refine r_iload B 1 dX3_settle_71 rfl ?_
  exact r_iret B dX3_settle_73 rfl
set_option maxRecDepth 20000 in
theorem k_X3_settle {l : Launch} {D : va_G} {g : zGx} (hz : zin (WX g)) {S : zSt} {a1 : Int64} {a3 : Int32} {b : (Int32 × zSt)} (h : F_X3_settle S a1 a3 = some b) : zMet l D (WX g) (zT g) yX3_settle wsX3_settle rm_X3_settle S [.ref (g.1 3), .long a1, .int a3] (eIw b) := zmet_of (by decide +kernel) rfl hz (Nat.le_of_ble_eq_true rfl) rfl (fun E _ _ hE B => x_X3_settle B hE S a1 a3) h
abbrev rm_X3_laterOf : Room := { frames := 0, cells := 0, slots := 0, locals := 0 }
theorem y_X3_laterOf : yX3_laterOf.cls = RX3 ∧ yX3_laterOf.cls ≠ "java/lang/invoke/MethodHandle" ∧ yX3_laterOf.cls ≠ "java/lang/invoke/VarHandle" ∧ (parseMethodDescriptor yX3_laterOf.desc).map (fun d => d.parameters.length) = some 1 := by decide +kernel
theorem m_X3_laterOf_f15 : Cond.fieldLink RX3 15 "LongestMet$Holding" "later" "[I" ∈ wsX3_laterOf := List.mem_cons_of_mem _ (List.mem_append_left _ (List.mem_of_getElem? (i := 0) rfl))
theorem m_X3_laterOf_inX3 : ∀ x ∈ u_ws RX3 TX3 5, x ∈ wsX3_laterOf := fun _ h => List.mem_cons_of_mem _ (List.mem_append_right _ h)
set_option maxRecDepth 100000 in
set_option maxHeartbeats 4000000 in
theorem x_X3_laterOf {E : zCx} {g : zGx} (B : zGood E (WX g) (zT g) cX3_laterOf RX3 wsX3_laterOf (some .int) rm_X3_laterOf) (hE : E.2.2 = 2) (S : zSt) (a1 : Int32) : Xo E (WX g) (eI S) S 0 [(0, .ref (g.1 3)), (1, .int a1)] [] (F_X3_laterOf S a1) := by
  unfold F_X3_laterOf
  refine r_aload_n B 0 dX3_laterOf_0 rfl rfl ?_
  refine r_get B 3 2 1 (Nat.le_of_ble_eq_true rfl) rfl (cX_3 g _) rfl m_X3_laterOf_inX3 (Nat.le_of_ble_eq_true rfl) m_X3_laterOf_f15 rfl dX3_laterOf_1 ?_
  refine r_iload_n B 1 dX3_laterOf_4 rfl rfl ?_
  refine r_iald B 13 0 (Nat.le_of_ble_eq_true rfl) rfl (cX_13 g _) rfl dX3_laterOf_5 ?_
  exact r_iret B dX3_laterOf_6 rfl
set_option maxRecDepth 20000 in
theorem k_X3_laterOf {l : Launch} {D : va_G} {g : zGx} (hz : zin (WX g)) {S : zSt} {a1 : Int32} {b : Int32} (h : F_X3_laterOf S a1 = some b) : zMet l D (WX g) (zT g) yX3_laterOf wsX3_laterOf rm_X3_laterOf S [.ref (g.1 3), .int a1] ((eI S) b) := zmet_of (by decide +kernel) rfl hz (Nat.le_of_ble_eq_true rfl) rfl (fun E _ _ hE B => x_X3_laterOf B hE S a1) h
abbrev rm_X4_lengthen : Room := { frames := 0, cells := 0, slots := 0, locals := 0 }
theorem y_X4_lengthen : yX4_lengthen.cls = RX4 ∧ yX4_lengthen.cls ≠ "java/lang/invoke/MethodHandle" ∧ yX4_lengthen.cls ≠ "java/lang/invoke/VarHandle" ∧ (parseMethodDescriptor yX4_lengthen.desc).map (fun d => d.parameters.length) = some 1 := by decide +kernel
theorem m_X4_lengthen_f15 : Cond.fieldLink RX4 15 "LongestMet$Rod" "pieces" "I" ∈ wsX4_lengthen := List.mem_cons_of_mem _ (List.mem_append_left _ (List.mem_of_getElem? (i := 0) rfl))
theorem m_X4_lengthen_inX4 : ∀ x ∈ u_ws RX4 TX4 2, x ∈ wsX4_lengthen := fun _ h => List.mem_cons_of_mem _ (List.mem_append_right _ h)
theorem m_X4_lengthen_f11 : Cond.fieldLink RX4 11 "LongestMet$Rod" "lengths" "[I" ∈ wsX4_lengthen := List.mem_cons_of_mem _ (List.mem_append_left _ (List.mem_of_getElem? (i := 1) rfl))
set_option maxRecDepth 100000 in
set_option maxHeartbeats 4000000 in
theorem x_X4_lengthen {E : zCx} {g : zGx} (B : zGood E (WX g) (zT g) cX4_lengthen RX4 wsX4_lengthen (some .int) rm_X4_lengthen) (hE : E.2.2 = 2) (S : zSt) (a1 : Int32) : Xo E (WX g) eIw S 0 [(0, .ref (g.1 8)), (1, .int a1)] [] (F_X4_lengthen S a1) := by
  unfold F_X4_lengthen
  refine r_aload_n B 0 dX4_lengthen_0 rfl rfl ?_
  refine r_get B 8 3 1 (Nat.le_of_ble_eq_true rfl) rfl (cX_8 g _) rfl m_X4_lengthen_inX4 (Nat.le_of_ble_eq_true rfl) m_X4_lengthen_f15 rfl dX4_lengthen_1 ?_
  refine r_bipush B (8 : Int32) dX4_lengthen_4 (by decide) ?_
  refine r_icmp_lt B 12 dX4_lengthen_6 (by decide) (fun _ => ?_) (fun _ => ?_)
  · refine r_aload_n B 0 dX4_lengthen_12 rfl rfl ?_
    refine r_get B 8 3 0 (Nat.le_of_ble_eq_true rfl) rfl (cX_8 g _) rfl m_X4_lengthen_inX4 (Nat.le_of_ble_eq_true rfl) m_X4_lengthen_f11 rfl dX4_lengthen_13 ?_
    refine r_aload_n B 0 dX4_lengthen_16 rfl rfl ?_
    refine r_get B 8 3 1 (Nat.le_of_ble_eq_true rfl) rfl (cX_8 g _) rfl m_X4_lengthen_inX4 (Nat.le_of_ble_eq_true rfl) m_X4_lengthen_f15 rfl dX4_lengthen_17 ?_
    refine r_iload_n B 1 dX4_lengthen_20 rfl rfl ?_
    refine r_iast B 22 0 (Nat.le_of_ble_eq_true rfl) rfl (cX_22 g _) rfl (uX_22 g _ _) dX4_lengthen_21 (fun S21 => ?_)
    refine r_aload_n B 0 dX4_lengthen_22 rfl rfl ?_
    refine r_dup B rfl dX4_lengthen_23 ?_
    refine r_get B 8 3 1 (Nat.le_of_ble_eq_true rfl) rfl (cX_8 g _) rfl m_X4_lengthen_inX4 (Nat.le_of_ble_eq_true rfl) m_X4_lengthen_f15 rfl dX4_lengthen_24 ?_
    refine r_iconst B (1 : Int32) dX4_lengthen_27 (by decide) ?_
    refine r_iadd B dX4_lengthen_28 ?_
    refine r_put (ty := .int) B 8 3 1 tyX4 tyX4_ok nmX4 (Nat.le_of_ble_eq_true rfl) rfl (cX_8 g _) rfl m_X4_lengthen_inX4 (Nat.le_of_ble_eq_true rfl) m_X4_lengthen_f15 rfl (by decide +kernel) rfl rfl (Nat.le_of_ble_eq_true rfl) (pX_8_1 g _ _) dX4_lengthen_29 (fun S29 => ?_)
    refine r_aload_n B 0 dX4_lengthen_32 rfl rfl ?_
    refine r_get B 8 3 1 (Nat.le_of_ble_eq_true rfl) rfl (cX_8 g _) rfl m_X4_lengthen_inX4 (Nat.le_of_ble_eq_true rfl) m_X4_lengthen_f15 rfl dX4_lengthen_33 ?_
    exact r_iret B dX4_lengthen_36 rfl
  · refine r_bipush B (-4 : Int32) dX4_lengthen_9 (by decide) ?_
    exact r_iret B dX4_lengthen_11 rfl
set_option maxRecDepth 20000 in
theorem k_X4_lengthen {l : Launch} {D : va_G} {g : zGx} (hz : zin (WX g)) {S : zSt} {a1 : Int32} {b : (Int32 × zSt)} (h : F_X4_lengthen S a1 = some b) : zMet l D (WX g) (zT g) yX4_lengthen wsX4_lengthen rm_X4_lengthen S [.ref (g.1 8), .int a1] (eIw b) := zmet_of (by decide +kernel) rfl hz (Nat.le_of_ble_eq_true rfl) rfl (fun E _ _ hE B => x_X4_lengthen B hE S a1) h
abbrev rm_X4_clear : Room := { frames := 0, cells := 0, slots := 0, locals := 0 }
theorem y_X4_clear : yX4_clear.cls = RX4 ∧ yX4_clear.cls ≠ "java/lang/invoke/MethodHandle" ∧ yX4_clear.cls ≠ "java/lang/invoke/VarHandle" ∧ (parseMethodDescriptor yX4_clear.desc).map (fun d => d.parameters.length) = some 0 := by decide +kernel
theorem m_X4_clear_f15 : Cond.fieldLink RX4 15 "LongestMet$Rod" "pieces" "I" ∈ wsX4_clear := List.mem_cons_of_mem _ (List.mem_append_left _ (List.mem_of_getElem? (i := 0) rfl))
theorem m_X4_clear_inX4 : ∀ x ∈ u_ws RX4 TX4 2, x ∈ wsX4_clear := fun _ h => List.mem_cons_of_mem _ (List.mem_append_right _ h)
set_option maxRecDepth 100000 in
set_option maxHeartbeats 4000000 in
theorem x_X4_clear {E : zCx} {g : zGx} (B : zGood E (WX g) (zT g) cX4_clear RX4 wsX4_clear (some .int) rm_X4_clear) (hE : E.2.2 = 2) (S : zSt) : Xo E (WX g) eIw S 0 [(0, .ref (g.1 8))] [] (F_X4_clear S) := by
  have n1 : 1 < E.2.2 := by rw [hE]; decide
  unfold F_X4_clear
  refine r_aload_n B 0 dX4_clear_0 rfl rfl ?_
  refine r_get B 8 3 1 (Nat.le_of_ble_eq_true rfl) rfl (cX_8 g _) rfl m_X4_clear_inX4 (Nat.le_of_ble_eq_true rfl) m_X4_clear_f15 rfl dX4_clear_1 ?_
  refine r_istore_n (lv' := fun x1_4 => [(1, .int x1_4), (0, .ref (g.1 8))]) B dX4_clear_4 rfl n1 (fun _ => rfl) (fun x1_4 => ?_)
  refine r_aload_n B 1 dX4_clear_5 rfl rfl ?_
  refine r_iconst B (0 : Int32) dX4_clear_6 (by decide) ?_
  refine r_put (ty := .int) B 8 3 1 tyX4 tyX4_ok nmX4 (Nat.le_of_ble_eq_true rfl) rfl (cX_8 g _) rfl m_X4_clear_inX4 (Nat.le_of_ble_eq_true rfl) m_X4_clear_f15 rfl (by decide +kernel) rfl rfl (Nat.le_of_ble_eq_true rfl) (pX_8_1 g _ _) dX4_clear_7 (fun S7 => ?_)
  refine r_iload_n B 0 dX4_clear_10 rfl rfl ?_
  exact r_iret B dX4_clear_11 rfl
set_option maxRecDepth 20000 in
theorem k_X4_clear {l : Launch} {D : va_G} {g : zGx} (hz : zin (WX g)) {S : zSt} {b : (Int32 × zSt)} (h : F_X4_clear S = some b) : zMet l D (WX g) (zT g) yX4_clear wsX4_clear rm_X4_clear S [.ref (g.1 8)] (eIw b) := zmet_of (by decide +kernel) rfl hz (Nat.le_of_ble_eq_true rfl) rfl (fun E _ _ hE B => x_X4_clear B hE S) h
abbrev rm_X4_piecesTold : Room := { frames := 0, cells := 0, slots := 0, locals := 0 }
theorem y_X4_piecesTold : yX4_piecesTold.cls = RX4 ∧ yX4_piecesTold.cls ≠ "java/lang/invoke/MethodHandle" ∧ yX4_piecesTold.cls ≠ "java/lang/invoke/VarHandle" ∧ (parseMethodDescriptor yX4_piecesTold.desc).map (fun d => d.parameters.length) = some 0 := by decide +kernel
theorem m_X4_piecesTold_f15 : Cond.fieldLink RX4 15 "LongestMet$Rod" "pieces" "I" ∈ wsX4_piecesTold := List.mem_cons_of_mem _ (List.mem_append_left _ (List.mem_of_getElem? (i := 0) rfl))
theorem m_X4_piecesTold_inX4 : ∀ x ∈ u_ws RX4 TX4 2, x ∈ wsX4_piecesTold := fun _ h => List.mem_cons_of_mem _ (List.mem_append_right _ h)
set_option maxRecDepth 100000 in
set_option maxHeartbeats 4000000 in
theorem x_X4_piecesTold {E : zCx} {g : zGx} (B : zGood E (WX g) (zT g) cX4_piecesTold RX4 wsX4_piecesTold (some .int) rm_X4_piecesTold) (hE : E.2.2 = 1) (S : zSt) : Xo E (WX g) (eI S) S 0 [(0, .ref (g.1 8))] [] (F_X4_piecesTold S) := by
  unfold F_X4_piecesTold
  refine r_aload_n B 0 dX4_piecesTold_0 rfl rfl ?_
  refine r_get B 8 3 1 (Nat.le_of_ble_eq_true rfl) rfl (cX_8 g _) rfl m_X4_piecesTold_inX4 (Nat.le_of_ble_eq_true rfl) m_X4_piecesTold_f15 rfl dX4_piecesTold_1 ?_
  exact r_iret B dX4_piecesTold_4 rfl
set_option maxRecDepth 20000 in
theorem k_X4_piecesTold {l : Launch} {D : va_G} {g : zGx} (hz : zin (WX g)) {S : zSt} {b : Int32} (h : F_X4_piecesTold S = some b) : zMet l D (WX g) (zT g) yX4_piecesTold wsX4_piecesTold rm_X4_piecesTold S [.ref (g.1 8)] ((eI S) b) := zmet_of (by decide +kernel) rfl hz (Nat.le_of_ble_eq_true rfl) rfl (fun E _ _ hE B => x_X4_piecesTold B hE S) h
abbrev rm_X4_lengthInAll : Room := { frames := 0, cells := 0, slots := 0, locals := 0 }
theorem y_X4_lengthInAll : yX4_lengthInAll.cls = RX4 ∧ yX4_lengthInAll.cls ≠ "java/lang/invoke/MethodHandle" ∧ yX4_lengthInAll.cls ≠ "java/lang/invoke/VarHandle" ∧ (parseMethodDescriptor yX4_lengthInAll.desc).map (fun d => d.parameters.length) = some 0 := by decide +kernel
theorem m_X4_lengthInAll_f15 : Cond.fieldLink RX4 15 "LongestMet$Rod" "pieces" "I" ∈ wsX4_lengthInAll := List.mem_cons_of_mem _ (List.mem_append_left _ (List.mem_of_getElem? (i := 0) rfl))
theorem m_X4_lengthInAll_inX4 : ∀ x ∈ u_ws RX4 TX4 2, x ∈ wsX4_lengthInAll := fun _ h => List.mem_cons_of_mem _ (List.mem_append_right _ h)
theorem m_X4_lengthInAll_f11 : Cond.fieldLink RX4 11 "LongestMet$Rod" "lengths" "[I" ∈ wsX4_lengthInAll := List.mem_cons_of_mem _ (List.mem_append_left _ (List.mem_of_getElem? (i := 1) rfl))
set_option maxRecDepth 100000 in
set_option maxHeartbeats 4000000 in
theorem xL_X4_lengthInAll_4 {E : zCx} {g : zGx} (B : zGood E (WX g) (zT g) cX4_lengthInAll RX4 wsX4_lengthInAll (some .int) rm_X4_lengthInAll) (hE : E.2.2 = 3) (S : zSt) (k : Int32 → Option Int32) (hk : ∀ (w1 : Int32), Xo E (WX g) (eI S) S 27 [(1, .int w1)] [] (k w1)) : ∀ (n : Nat) (v1_4 : Int32) (v2_4 : Int32), Xo E (WX g) (eI S) S 4 [(0, .ref (g.1 8)), (1, .int v1_4), (2, .int v2_4)] [] (L_X4_lengthInAll_4 S k n v1_4 v2_4) := by
  have n1 : 1 < E.2.2 := by rw [hE]; decide
  have n2 : 2 < E.2.2 := by rw [hE]; decide
  intro n
  induction n with
  | zero =>
    intro _ _
    exact r_none
  | succ n ih =>
    intro v1_4 v2_4
    rw [L_X4_lengthInAll_4]
    refine r_iload_n B 2 dX4_lengthInAll_4 rfl rfl ?_
    refine r_aload_n B 0 dX4_lengthInAll_5 rfl rfl ?_
    refine r_get B 8 3 1 (Nat.le_of_ble_eq_true rfl) rfl (cX_8 g _) rfl m_X4_lengthInAll_inX4 (Nat.le_of_ble_eq_true rfl) m_X4_lengthInAll_f15 rfl dX4_lengthInAll_6 ?_
    refine r_icmp_ge B 27 dX4_lengthInAll_9 (by decide) (fun _ => ?_) (fun _ => ?_)
    · refine r_sub [1] rfl ?_
      exact hk v1_4
    · refine r_iload_n B 1 dX4_lengthInAll_12 rfl rfl ?_
      refine r_aload_n B 0 dX4_lengthInAll_13 rfl rfl ?_
      refine r_get B 8 3 0 (Nat.le_of_ble_eq_true rfl) rfl (cX_8 g _) rfl m_X4_lengthInAll_inX4 (Nat.le_of_ble_eq_true rfl) m_X4_lengthInAll_f11 rfl dX4_lengthInAll_14 ?_
      refine r_iload_n B 2 dX4_lengthInAll_17 rfl rfl ?_
      refine r_iald B 22 0 (Nat.le_of_ble_eq_true rfl) rfl (cX_22 g _) rfl dX4_lengthInAll_18 ?_
      refine r_iadd B dX4_lengthInAll_19 ?_
      refine r_istore_n (lv' := fun x1_20 => [(1, .int x1_20), (0, .ref (g.1 8)), (2, .int v2_4)]) B dX4_lengthInAll_20 rfl n1 (fun _ => rfl) (fun x1_20 => ?_)
      refine r_iinc (lv' := fun x2_21 => [(2, .int x2_21), (1, .int x1_20), (0, .ref (g.1 8))]) B 2 (1 : Int32) dX4_lengthInAll_21 rfl (by decide) n2 (fun _ => rfl) (fun x2_21 => ?_)
      refine r_goto B 4 dX4_lengthInAll_24 (by decide) ?_
      refine r_sub [2, 1, 0] rfl ?_
      exact ih x1_20 x2_21
set_option maxRecDepth 100000 in
set_option maxHeartbeats 4000000 in
theorem x_X4_lengthInAll {E : zCx} {g : zGx} (B : zGood E (WX g) (zT g) cX4_lengthInAll RX4 wsX4_lengthInAll (some .int) rm_X4_lengthInAll) (hE : E.2.2 = 3) (S : zSt) : Xo E (WX g) (eI S) S 0 [(0, .ref (g.1 8))] [] (F_X4_lengthInAll S) := by
  have n1 : 1 < E.2.2 := by rw [hE]; decide
  have n2 : 2 < E.2.2 := by rw [hE]; decide
  unfold F_X4_lengthInAll
  refine r_iconst B (0 : Int32) dX4_lengthInAll_0 (by decide) ?_
  refine r_istore_n (lv' := fun x1_1 => [(1, .int x1_1), (0, .ref (g.1 8))]) B dX4_lengthInAll_1 rfl n1 (fun _ => rfl) (fun x1_1 => ?_)
  refine r_iconst B (0 : Int32) dX4_lengthInAll_2 (by decide) ?_
  refine r_istore_n (lv' := fun x2_3 => [(2, .int x2_3), (1, .int x1_1), (0, .ref (g.1 8))]) B dX4_lengthInAll_3 rfl n2 (fun _ => rfl) (fun x2_3 => ?_)
  refine r_sub [2, 1, 0] rfl ?_
  refine xL_X4_lengthInAll_4 B hE S _ ?_ 1000 x1_1 x2_3
  intro w1_4
  refine r_iload_n B 0 dX4_lengthInAll_27 rfl rfl ?_
  exact r_iret B dX4_lengthInAll_28 rfl
set_option maxRecDepth 20000 in
theorem k_X4_lengthInAll {l : Launch} {D : va_G} {g : zGx} (hz : zin (WX g)) {S : zSt} {b : Int32} (h : F_X4_lengthInAll S = some b) : zMet l D (WX g) (zT g) yX4_lengthInAll wsX4_lengthInAll rm_X4_lengthInAll S [.ref (g.1 8)] ((eI S) b) := zmet_of (by decide +kernel) rfl hz (Nat.le_of_ble_eq_true rfl) rfl (fun E _ _ hE B => x_X4_lengthInAll B hE S) h
abbrev rm_X4_squares : Room := { frames := 0, cells := 0, slots := 0, locals := 0 }
theorem y_X4_squares : yX4_squares.cls = RX4 ∧ yX4_squares.cls ≠ "java/lang/invoke/MethodHandle" ∧ yX4_squares.cls ≠ "java/lang/invoke/VarHandle" ∧ (parseMethodDescriptor yX4_squares.desc).map (fun d => d.parameters.length) = some 0 := by decide +kernel
theorem m_X4_squares_f15 : Cond.fieldLink RX4 15 "LongestMet$Rod" "pieces" "I" ∈ wsX4_squares := List.mem_cons_of_mem _ (List.mem_append_left _ (List.mem_of_getElem? (i := 0) rfl))
theorem m_X4_squares_inX4 : ∀ x ∈ u_ws RX4 TX4 2, x ∈ wsX4_squares := fun _ h => List.mem_cons_of_mem _ (List.mem_append_right _ h)
theorem m_X4_squares_f11 : Cond.fieldLink RX4 11 "LongestMet$Rod" "lengths" "[I" ∈ wsX4_squares := List.mem_cons_of_mem _ (List.mem_append_left _ (List.mem_of_getElem? (i := 1) rfl))
set_option maxRecDepth 100000 in
set_option maxHeartbeats 4000000 in
theorem xL_X4_squares_4 {E : zCx} {g : zGx} (B : zGood E (WX g) (zT g) cX4_squares RX4 wsX4_squares (some .int) rm_X4_squares) (hE : E.2.2 = 3) (S : zSt) (k : Int32 → Option Int32) (hk : ∀ (w1 : Int32), Xo E (WX g) (eI S) S 34 [(1, .int w1)] [] (k w1)) : ∀ (n : Nat) (v1_4 : Int32) (v2_4 : Int32), Xo E (WX g) (eI S) S 4 [(0, .ref (g.1 8)), (1, .int v1_4), (2, .int v2_4)] [] (L_X4_squares_4 S k n v1_4 v2_4) := by
  have n1 : 1 < E.2.2 := by rw [hE]; decide
  have n2 : 2 < E.2.2 := by rw [hE]; decide
  intro n
  induction n with
  | zero =>
    intro _ _
    exact r_none
  | succ n ih =>
    intro v1_4 v2_4
    rw [L_X4_squares_4]
    refine r_iload_n B 2 dX4_squares_4 rfl rfl ?_
    refine r_aload_n B 0 dX4_squares_5 rfl rfl ?_
    refine r_get B 8 3 1 (Nat.le_of_ble_eq_true rfl) rfl (cX_8 g _) rfl m_X4_squares_inX4 (Nat.le_of_ble_eq_true rfl) m_X4_squares_f15 rfl dX4_squares_6 ?_
    refine r_icmp_ge B 34 dX4_squares_9 (by decide) (fun _ => ?_) (fun _ => ?_)
    · refine r_sub [1] rfl ?_
      exact hk v1_4
    · refine r_iload_n B 1 dX4_squares_12 rfl rfl ?_
      refine r_aload_n B 0 dX4_squares_13 rfl rfl ?_
      refine r_get B 8 3 0 (Nat.le_of_ble_eq_true rfl) rfl (cX_8 g _) rfl m_X4_squares_inX4 (Nat.le_of_ble_eq_true rfl) m_X4_squares_f11 rfl dX4_squares_14 ?_
      refine r_iload_n B 2 dX4_squares_17 rfl rfl ?_
      refine r_iald B 22 0 (Nat.le_of_ble_eq_true rfl) rfl (cX_22 g _) rfl dX4_squares_18 ?_
      refine r_aload_n B 0 dX4_squares_19 rfl rfl ?_
      refine r_get B 8 3 0 (Nat.le_of_ble_eq_true rfl) rfl (cX_8 g _) rfl m_X4_squares_inX4 (Nat.le_of_ble_eq_true rfl) m_X4_squares_f11 rfl dX4_squares_20 ?_
      refine r_iload_n B 2 dX4_squares_23 rfl rfl ?_
      refine r_iald B 22 0 (Nat.le_of_ble_eq_true rfl) rfl (cX_22 g _) rfl dX4_squares_24 ?_
      refine r_imul B dX4_squares_25 ?_
      refine r_iadd B dX4_squares_26 ?_
      refine r_istore_n (lv' := fun x1_27 => [(1, .int x1_27), (0, .ref (g.1 8)), (2, .int v2_4)]) B dX4_squares_27 rfl n1 (fun _ => rfl) (fun x1_27 => ?_)
      refine r_iinc (lv' := fun x2_28 => [(2, .int x2_28), (1, .int x1_27), (0, .ref (g.1 8))]) B 2 (1 : Int32) dX4_squares_28 rfl (by decide) n2 (fun _ => rfl) (fun x2_28 => ?_)
      refine r_goto B 4 dX4_squares_31 (by decide) ?_
      refine r_sub [2, 1, 0] rfl ?_
      exact ih x1_27 x2_28
set_option maxRecDepth 100000 in
set_option maxHeartbeats 4000000 in
theorem x_X4_squares {E : zCx} {g : zGx} (B : zGood E (WX g) (zT g) cX4_squares RX4 wsX4_squares (some .int) rm_X4_squares) (hE : E.2.2 = 3) (S : zSt) : Xo E (WX g) (eI S) S 0 [(0, .ref (g.1 8))] [] (F_X4_squares S) := by
  have n1 : 1 < E.2.2 := by rw [hE]; decide
  have n2 : 2 < E.2.2 := by rw [hE]; decide
  unfold F_X4_squares
  refine r_iconst B (0 : Int32) dX4_squares_0 (by decide) ?_
  refine r_istore_n (lv' := fun x1_1 => [(1, .int x1_1), (0, .ref (g.1 8))]) B dX4_squares_1 rfl n1 (fun _ => rfl) (fun x1_1 => ?_)
  refine r_iconst B (0 : Int32) dX4_squares_2 (by decide) ?_
  refine r_istore_n (lv' := fun x2_3 => [(2, .int x2_3), (1, .int x1_1), (0, .ref (g.1 8))]) B dX4_squares_3 rfl n2 (fun _ => rfl) (fun x2_3 => ?_)
  refine r_sub [2, 1, 0] rfl ?_
  refine xL_X4_squares_4 B hE S _ ?_ 1000 x1_1 x2_3
  intro w1_4
  refine r_iload_n B 0 dX4_squares_34 rfl rfl ?_
  exact r_iret B dX4_squares_35 rfl
set_option maxRecDepth 20000 in
theorem k_X4_squares {l : Launch} {D : va_G} {g : zGx} (hz : zin (WX g)) {S : zSt} {b : Int32} (h : F_X4_squares S = some b) : zMet l D (WX g) (zT g) yX4_squares wsX4_squares rm_X4_squares S [.ref (g.1 8)] ((eI S) b) := zmet_of (by decide +kernel) rfl hz (Nat.le_of_ble_eq_true rfl) rfl (fun E _ _ hE B => x_X4_squares B hE S) h
abbrev rm_X4_power : Room := { frames := 0, cells := 0, slots := 0, locals := 0 }
theorem y_X4_power : yX4_power.cls ≠ "java/lang/invoke/MethodHandle" ∧ yX4_power.cls ≠ "java/lang/invoke/VarHandle" ∧ (parseMethodDescriptor yX4_power.desc).map (fun d => d.parameters.length) = some 2 := by decide +kernel
set_option maxRecDepth 100000 in
set_option maxHeartbeats 4000000 in
theorem xL_X4_power_5 {E : zCx} {g : zGx} (B : zGood E (WX g) (zT g) cX4_power RX4 wsX4_power (some .long) rm_X4_power) (hE : E.2.2 = 6) (S : zSt) (a0 : Int64) (a2 : Int32) (k : Int64 → Option Int64) (hk : ∀ (w3 : Int64), Xo E (WX g) (eL S) S 21 [(3, .long w3)] [] (k w3)) : ∀ (n : Nat) (v3_5 : Int64) (v5_5 : Int32), Xo E (WX g) (eL S) S 5 [(0, .long a0), (2, .int a2), (3, .long v3_5), (5, .int v5_5)] [] (L_X4_power_5 a0 a2 k n v3_5 v5_5) := by
  have nn3 : 3 + 1 < E.2.2 := by rw [hE]; decide
  have n5 : 5 < E.2.2 := by rw [hE]; decide
  intro n
  induction n with
  | zero =>
    intro _ _
    exact r_none
  | succ n ih =>
    intro v3_5 v5_5
    rw [L_X4_power_5]
    refine r_iload B 3 dX4_power_5 rfl ?_
    refine r_iload_n B 1 dX4_power_7 rfl rfl ?_
    refine r_icmp_ge B 21 dX4_power_8 (by decide) (fun _ => ?_) (fun _ => ?_)
    · refine r_sub [2] rfl ?_
      exact hk v3_5
    · refine r_lload_n B 2 dX4_power_11 rfl rfl ?_
      refine r_lload_n B 0 dX4_power_12 rfl rfl ?_
      refine r_lmul B dX4_power_13 ?_
      refine r_lstore_n (lv' := fun x3_14 => [(3, .long x3_14), (0, .long a0), (2, .int a2), (5, .int v5_5)]) B dX4_power_14 rfl nn3 (fun _ => rfl) (fun x3_14 => ?_)
      refine r_iinc (lv' := fun x5_15 => [(5, .int x5_15), (3, .long x3_14), (0, .long a0), (2, .int a2)]) B 3 (1 : Int32) dX4_power_15 rfl (by decide) n5 (fun _ => rfl) (fun x5_15 => ?_)
      refine r_goto B 5 dX4_power_18 (by decide) ?_
      refine r_sub [2, 3, 1, 0] rfl ?_
      exact ih x3_14 x5_15
set_option maxRecDepth 100000 in
set_option maxHeartbeats 4000000 in
theorem x_X4_power {E : zCx} {g : zGx} (B : zGood E (WX g) (zT g) cX4_power RX4 wsX4_power (some .long) rm_X4_power) (hE : E.2.2 = 6) (S : zSt) (a0 : Int64) (a2 : Int32) : Xo E (WX g) (eL S) S 0 [(0, .long a0), (2, .int a2)] [] (F_X4_power a0 a2) := by
  have nn3 : 3 + 1 < E.2.2 := by rw [hE]; decide
  have n5 : 5 < E.2.2 := by rw [hE]; decide
  unfold F_X4_power
  refine r_lconst B (1 : Int64) dX4_power_0 (by decide) ?_
  refine r_lstore_n (lv' := fun x3_1 => [(3, .long x3_1), (0, .long a0), (2, .int a2)]) B dX4_power_1 rfl nn3 (fun _ => rfl) (fun x3_1 => ?_)
  refine r_iconst B (0 : Int32) dX4_power_2 (by decide) ?_
  refine r_istore (lv' := fun x5_3 => [(5, .int x5_3), (3, .long x3_1), (0, .long a0), (2, .int a2)]) B dX4_power_3 n5 (fun _ => rfl) (fun x5_3 => ?_)
  refine r_sub [2, 3, 1, 0] rfl ?_
  refine xL_X4_power_5 B hE S a0 a2 _ ?_ 1000 x3_1 x5_3
  intro w3_5
  refine r_lload_n B 0 dX4_power_21 rfl rfl ?_
  exact r_lret B dX4_power_22 rfl
set_option maxRecDepth 20000 in
theorem k_X4_power {l : Launch} {D : va_G} {g : zGx} (hz : zin (WX g)) {S : zSt} {a0 : Int64} {a2 : Int32} {b : Int64} (h : F_X4_power a0 a2 = some b) : zMet l D (WX g) (zT g) yX4_power wsX4_power rm_X4_power S [.long a0, .int a2] ((eL S) b) := zmet_of (by decide +kernel) rfl hz (Nat.le_of_ble_eq_true rfl) rfl (fun E _ _ hE B => x_X4_power B hE S a0 a2) h
abbrev rm_X4_ways : Room := { frames := 1, cells := 0, slots := 0, locals := 25 }
theorem y_X4_ways : yX4_ways.cls = RX4 ∧ yX4_ways.cls ≠ "java/lang/invoke/MethodHandle" ∧ yX4_ways.cls ≠ "java/lang/invoke/VarHandle" ∧ (parseMethodDescriptor yX4_ways.desc).map (fun d => d.parameters.length) = some 1 := by decide +kernel
set_option maxRecDepth 100000 in
set_option maxHeartbeats 4000000 in
theorem x_X4_ways {E : zCx} {g : zGx} (B : zGood E (WX g) (zT g) cX4_ways RX4 wsX4_ways (some .long) rm_X4_ways) (hE : E.2.2 = 2) (S : zSt) (a1 : Int32) : Xo E (WX g) (eL S) S 0 [(0, .ref (g.1 8)), (1, .int a1)] [] (F_X4_ways S a1) := by
  unfold F_X4_ways
  refine r_aload_n B 0 dX4_ways_0 rfl rfl ?_
  refine r_cI (zrunV (As := []) (rest := []) B 0 8 (fun b hb => k_X4_lengthInAll B.2.2.1 hb) gX4_ways_X4_lengthInAll rfl rfl rfl y_X4_lengthInAll ⟨Nat.le_of_ble_eq_true rfl, Nat.le_of_ble_eq_true rfl⟩ (Nat.le_of_ble_eq_true rfl) rfl (cX_8 g _) rfl rfl rfl (Nat.le_of_ble_eq_true rfl) dX4_ways_1) (fun r1 => ?_)
  refine r_i2l B dX4_ways_4 ?_
  refine r_iload_n B 1 dX4_ways_5 rfl rfl ?_
  refine r_cL (zrunS (As := [.long (r1.toInt64), .int a1]) (rest := []) B 2 (fun b hb => k_X4_power B.2.2.1 hb) gX4_ways_X4_power rfl rfl rfl y_X4_power ⟨Nat.le_of_ble_eq_true rfl, Nat.le_of_ble_eq_true rfl⟩ rfl rfl (Nat.le_of_ble_eq_true rfl) dX4_ways_6) (fun r6 => ?_)
  exact r_lret B dX4_ways_9 rfl
set_option maxRecDepth 20000 in
theorem k_X4_ways {l : Launch} {D : va_G} {g : zGx} (hz : zin (WX g)) {S : zSt} {a1 : Int32} {b : Int64} (h : F_X4_ways S a1 = some b) : zMet l D (WX g) (zT g) yX4_ways wsX4_ways rm_X4_ways S [.ref (g.1 8), .int a1] ((eL S) b) := zmet_of (by decide +kernel) rfl hz (Nat.le_of_ble_eq_true rfl) rfl (fun E _ _ hE B => x_X4_ways B hE S a1) h
abbrev rm_X4_waysToHit : Room := { frames := 2, cells := 0, slots := 0, locals := 46 }
theorem y_X4_waysToHit : yX4_waysToHit.cls = RX4 ∧ yX4_waysToHit.cls ≠ "java/lang/invoke/MethodHandle" ∧ yX4_waysToHit.cls ≠ "java/lang/invoke/VarHandle" ∧ (parseMethodDescriptor yX4_waysToHit.desc).map (fun d => d.parameters.length) = some 2 := by decide +kernel
theorem m_X4_waysToHit_f11 : Cond.fieldLink RX4 11 "LongestMet$Rod" "lengths" "[I" ∈ wsX4_waysToHit := List.mem_cons_of_mem _ (List.mem_append_left _ (List.mem_of_getElem? (i := 0) rfl))
theorem m_X4_waysToHit_inX4 : ∀ x ∈ u_ws RX4 TX4 2, x ∈ wsX4_waysToHit := fun _ h => List.mem_cons_of_mem _ (List.mem_append_right _ h)
set_option maxRecDepth 100000 in
set_option maxHeartbeats 4000000 in
theorem x_X4_waysToHit {E : zCx} {g : zGx} (B : zGood E (WX g) (zT g) cX4_waysToHit RX4 wsX4_waysToHit (some .long) rm_X4_waysToHit) (hE : E.2.2 = 3) (S : zSt) (a1 : Int32) (a2 : Int32) : Xo E (WX g) (eL S) S 0 [(0, .ref (g.1 8)), (1, .int a1), (2, .int a2)] [] (F_X4_waysToHit S a1 a2) := by
  unfold F_X4_waysToHit
  refine r_aload_n B 0 dX4_waysToHit_0 rfl rfl ?_
  refine r_iload_n B 2 dX4_waysToHit_1 rfl rfl ?_
  refine r_cL (zrunV (As := [.int a2]) (rest := []) B 1 8 (fun b hb => k_X4_ways B.2.2.1 hb) gX4_waysToHit_X4_ways rfl rfl rfl y_X4_ways ⟨Nat.le_of_ble_eq_true rfl, Nat.le_of_ble_eq_true rfl⟩ (Nat.le_of_ble_eq_true rfl) rfl (cX_8 g _) rfl rfl rfl (Nat.le_of_ble_eq_true rfl) dX4_waysToHit_2) (fun r2 => ?_)
  refine r_aload_n B 0 dX4_waysToHit_5 rfl rfl ?_
  refine r_cI (zrunV (As := []) (rest := [.long r2]) B 0 8 (fun b hb => k_X4_lengthInAll B.2.2.1 hb) gX4_waysToHit_X4_lengthInAll rfl rfl rfl y_X4_lengthInAll ⟨Nat.le_of_ble_eq_true rfl, Nat.le_of_ble_eq_true rfl⟩ (Nat.le_of_ble_eq_true rfl) rfl (cX_8 g _) rfl rfl rfl (Nat.le_of_ble_eq_true rfl) dX4_waysToHit_6) (fun r6 => ?_)
  refine r_aload_n B 0 dX4_waysToHit_9 rfl rfl ?_
  refine r_get B 8 3 0 (Nat.le_of_ble_eq_true rfl) rfl (cX_8 g _) rfl m_X4_waysToHit_inX4 (Nat.le_of_ble_eq_true rfl) m_X4_waysToHit_f11 rfl dX4_waysToHit_10 ?_
  refine r_iload_n B 1 dX4_waysToHit_13 rfl rfl ?_
  refine r_iald B 22 0 (Nat.le_of_ble_eq_true rfl) rfl (cX_22 g _) rfl dX4_waysToHit_14 ?_
  refine r_isub B dX4_waysToHit_15 ?_
  refine r_i2l B dX4_waysToHit_16 ?_
  refine r_iload_n B 2 dX4_waysToHit_17 rfl rfl ?_
  refine r_cL (zrunS (As := [.long ((r6 - (zA S 22 a1.toNatClampNeg)).toInt64), .int a2]) (rest := [.long r2]) B 2 (fun b hb => k_X4_power B.2.2.1 hb) gX4_waysToHit_X4_power rfl rfl rfl y_X4_power ⟨Nat.le_of_ble_eq_true rfl, Nat.le_of_ble_eq_true rfl⟩ rfl rfl (Nat.le_of_ble_eq_true rfl) dX4_waysToHit_18) (fun r18 => ?_)
  refine r_lsub B dX4_waysToHit_21 ?_
  exact r_lret B dX4_waysToHit_22 rfl
set_option maxRecDepth 20000 in
theorem k_X4_waysToHit {l : Launch} {D : va_G} {g : zGx} (hz : zin (WX g)) {S : zSt} {a1 : Int32} {a2 : Int32} {b : Int64} (h : F_X4_waysToHit S a1 a2 = some b) : zMet l D (WX g) (zT g) yX4_waysToHit wsX4_waysToHit rm_X4_waysToHit S [.ref (g.1 8), .int a1, .int a2] ((eL S) b) := zmet_of (by decide +kernel) rfl hz (Nat.le_of_ble_eq_true rfl) rfl (fun E _ _ hE B => x_X4_waysToHit B hE S a1 a2) h
abbrev rm_X4_allWaysToHit : Room := { frames := 3, cells := 0, slots := 0, locals := 68 }
theorem y_X4_allWaysToHit : yX4_allWaysToHit.cls = RX4 ∧ yX4_allWaysToHit.cls ≠ "java/lang/invoke/MethodHandle" ∧ yX4_allWaysToHit.cls ≠ "java/lang/invoke/VarHandle" ∧ (parseMethodDescriptor yX4_allWaysToHit.desc).map (fun d => d.parameters.length) = some 1 := by decide +kernel
theorem m_X4_allWaysToHit_f15 : Cond.fieldLink RX4 15 "LongestMet$Rod" "pieces" "I" ∈ wsX4_allWaysToHit := List.mem_cons_of_mem _ (List.mem_append_left _ (List.mem_of_getElem? (i := 0) rfl))
theorem m_X4_allWaysToHit_inX4 : ∀ x ∈ u_ws RX4 TX4 2, x ∈ wsX4_allWaysToHit := fun _ h => List.mem_cons_of_mem _ (List.mem_append_right _ h)
set_option maxRecDepth 100000 in
set_option maxHeartbeats 4000000 in
theorem xL_X4_allWaysToHit_5 {E : zCx} {g : zGx} (B : zGood E (WX g) (zT g) cX4_allWaysToHit RX4 wsX4_allWaysToHit (some .long) rm_X4_allWaysToHit) (hE : E.2.2 = 5) (S : zSt) (a1 : Int32) (k : Int64 → Option Int64) (hk : ∀ (w2 : Int64), Xo E (WX g) (eL S) S 30 [(2, .long w2)] [] (k w2)) : ∀ (n : Nat) (v2_5 : Int64) (v4_5 : Int32), Xo E (WX g) (eL S) S 5 [(0, .ref (g.1 8)), (1, .int a1), (2, .long v2_5), (4, .int v4_5)] [] (L_X4_allWaysToHit_5 S a1 k n v2_5 v4_5) := by
  have nn2 : 2 + 1 < E.2.2 := by rw [hE]; decide
  have n4 : 4 < E.2.2 := by rw [hE]; decide
  intro n
  induction n with
  | zero =>
    intro _ _
    exact r_none
  | succ n ih =>
    intro v2_5 v4_5
    rw [L_X4_allWaysToHit_5]
    refine r_iload B 3 dX4_allWaysToHit_5 rfl ?_
    refine r_aload_n B 0 dX4_allWaysToHit_7 rfl rfl ?_
    refine r_get B 8 3 1 (Nat.le_of_ble_eq_true rfl) rfl (cX_8 g _) rfl m_X4_allWaysToHit_inX4 (Nat.le_of_ble_eq_true rfl) m_X4_allWaysToHit_f15 rfl dX4_allWaysToHit_8 ?_
    refine r_icmp_ge B 30 dX4_allWaysToHit_11 (by decide) (fun _ => ?_) (fun _ => ?_)
    · refine r_sub [2] rfl ?_
      exact hk v2_5
    · refine r_lload_n B 2 dX4_allWaysToHit_14 rfl rfl ?_
      refine r_aload_n B 0 dX4_allWaysToHit_15 rfl rfl ?_
      refine r_iload B 3 dX4_allWaysToHit_16 rfl ?_
      refine r_iload_n B 1 dX4_allWaysToHit_18 rfl rfl ?_
      refine r_cL (zrunV (As := [.int v4_5, .int a1]) (rest := [.long v2_5]) B 2 8 (fun b hb => k_X4_waysToHit B.2.2.1 hb) gX4_allWaysToHit_X4_waysToHit rfl rfl rfl y_X4_waysToHit ⟨Nat.le_of_ble_eq_true rfl, Nat.le_of_ble_eq_true rfl⟩ (Nat.le_of_ble_eq_true rfl) rfl (cX_8 g _) rfl rfl rfl (Nat.le_of_ble_eq_true rfl) dX4_allWaysToHit_19) (fun r19 => ?_)
      refine r_ladd B dX4_allWaysToHit_22 ?_
      refine r_lstore_n (lv' := fun x2_23 => [(2, .long x2_23), (0, .ref (g.1 8)), (1, .int a1), (4, .int v4_5)]) B dX4_allWaysToHit_23 rfl nn2 (fun _ => rfl) (fun x2_23 => ?_)
      refine r_iinc (lv' := fun x4_24 => [(4, .int x4_24), (2, .long x2_23), (0, .ref (g.1 8)), (1, .int a1)]) B 3 (1 : Int32) dX4_allWaysToHit_24 rfl (by decide) n4 (fun _ => rfl) (fun x4_24 => ?_)
      refine r_goto B 5 dX4_allWaysToHit_27 (by decide) ?_
      refine r_sub [2, 3, 1, 0] rfl ?_
      exact ih x2_23 x4_24
set_option maxRecDepth 100000 in
set_option maxHeartbeats 4000000 in
theorem x_X4_allWaysToHit {E : zCx} {g : zGx} (B : zGood E (WX g) (zT g) cX4_allWaysToHit RX4 wsX4_allWaysToHit (some .long) rm_X4_allWaysToHit) (hE : E.2.2 = 5) (S : zSt) (a1 : Int32) : Xo E (WX g) (eL S) S 0 [(0, .ref (g.1 8)), (1, .int a1)] [] (F_X4_allWaysToHit S a1) := by
  have nn2 : 2 + 1 < E.2.2 := by rw [hE]; decide
  have n4 : 4 < E.2.2 := by rw [hE]; decide
  unfold F_X4_allWaysToHit
  refine r_lconst B (0 : Int64) dX4_allWaysToHit_0 (by decide) ?_
  refine r_lstore_n (lv' := fun x2_1 => [(2, .long x2_1), (0, .ref (g.1 8)), (1, .int a1)]) B dX4_allWaysToHit_1 rfl nn2 (fun _ => rfl) (fun x2_1 => ?_)
  refine r_iconst B (0 : Int32) dX4_allWaysToHit_2 (by decide) ?_
  refine r_istore (lv' := fun x4_3 => [(4, .int x4_3), (2, .long x2_1), (0, .ref (g.1 8)), (1, .int a1)]) B dX4_allWaysToHit_3 n4 (fun _ => rfl) (fun x4_3 => ?_)
  refine r_sub [2, 3, 1, 0] rfl ?_
  refine xL_X4_allWaysToHit_5 B hE S a1 _ ?_ 1000 x2_1 x4_3
  intro w2_5
  refine r_lload_n B 0 dX4_allWaysToHit_30 rfl rfl ?_
  exact r_lret B dX4_allWaysToHit_31 rfl
set_option maxRecDepth 20000 in
theorem k_X4_allWaysToHit {l : Launch} {D : va_G} {g : zGx} (hz : zin (WX g)) {S : zSt} {a1 : Int32} {b : Int64} (h : F_X4_allWaysToHit S a1 = some b) : zMet l D (WX g) (zT g) yX4_allWaysToHit wsX4_allWaysToHit rm_X4_allWaysToHit S [.ref (g.1 8), .int a1] ((eL S) b) := zmet_of (by decide +kernel) rfl hz (Nat.le_of_ble_eq_true rfl) rfl (fun E _ _ hE B => x_X4_allWaysToHit B hE S a1) h
abbrev rm_X4_lengthWithout : Room := { frames := 0, cells := 0, slots := 0, locals := 0 }
theorem y_X4_lengthWithout : yX4_lengthWithout.cls = RX4 ∧ yX4_lengthWithout.cls ≠ "java/lang/invoke/MethodHandle" ∧ yX4_lengthWithout.cls ≠ "java/lang/invoke/VarHandle" ∧ (parseMethodDescriptor yX4_lengthWithout.desc).map (fun d => d.parameters.length) = some 1 := by decide +kernel
theorem m_X4_lengthWithout_f15 : Cond.fieldLink RX4 15 "LongestMet$Rod" "pieces" "I" ∈ wsX4_lengthWithout := List.mem_cons_of_mem _ (List.mem_append_left _ (List.mem_of_getElem? (i := 0) rfl))
theorem m_X4_lengthWithout_inX4 : ∀ x ∈ u_ws RX4 TX4 2, x ∈ wsX4_lengthWithout := fun _ h => List.mem_cons_of_mem _ (List.mem_append_right _ h)
theorem m_X4_lengthWithout_f11 : Cond.fieldLink RX4 11 "LongestMet$Rod" "lengths" "[I" ∈ wsX4_lengthWithout := List.mem_cons_of_mem _ (List.mem_append_left _ (List.mem_of_getElem? (i := 1) rfl))
set_option maxRecDepth 100000 in
set_option maxHeartbeats 4000000 in
theorem xL_X4_lengthWithout_4 {E : zCx} {g : zGx} (B : zGood E (WX g) (zT g) cX4_lengthWithout RX4 wsX4_lengthWithout (some .int) rm_X4_lengthWithout) (hE : E.2.2 = 4) (S : zSt) (a1 : Int32) (k : Int32 → Option Int32) (hk : ∀ (w2 : Int32), Xo E (WX g) (eI S) S 35 [(2, .int w2)] [] (k w2)) : ∀ (n : Nat) (v2_4 : Int32) (v3_4 : Int32), Xo E (WX g) (eI S) S 4 [(0, .ref (g.1 8)), (1, .int a1), (2, .int v2_4), (3, .int v3_4)] [] (L_X4_lengthWithout_4 S a1 k n v2_4 v3_4) := by
  have n2 : 2 < E.2.2 := by rw [hE]; decide
  have n3 : 3 < E.2.2 := by rw [hE]; decide
  intro n
  induction n with
  | zero =>
    intro _ _
    exact r_none
  | succ n ih =>
    intro v2_4 v3_4
    rw [L_X4_lengthWithout_4]
    refine r_iload_n B 3 dX4_lengthWithout_4 rfl rfl ?_
    refine r_aload_n B 0 dX4_lengthWithout_5 rfl rfl ?_
    refine r_get B 8 3 1 (Nat.le_of_ble_eq_true rfl) rfl (cX_8 g _) rfl m_X4_lengthWithout_inX4 (Nat.le_of_ble_eq_true rfl) m_X4_lengthWithout_f15 rfl dX4_lengthWithout_6 ?_
    refine r_icmp_ge B 35 dX4_lengthWithout_9 (by decide) (fun _ => ?_) (fun _ => ?_)
    · refine r_sub [2] rfl ?_
      exact hk v2_4
    · refine r_iload_n B 1 dX4_lengthWithout_12 rfl rfl ?_
      refine r_iload_n B 3 dX4_lengthWithout_13 rfl rfl ?_
      refine r_iushr B dX4_lengthWithout_14 ?_
      refine r_iconst B (1 : Int32) dX4_lengthWithout_15 (by decide) ?_
      refine r_iand B dX4_lengthWithout_16 ?_
      refine r_if_ne B 29 dX4_lengthWithout_17 (by decide) (fun _ => ?_) (fun _ => ?_)
      · refine r_iinc (lv' := fun x3_29 => [(3, .int x3_29), (0, .ref (g.1 8)), (1, .int a1), (2, .int v2_4)]) B 3 (1 : Int32) dX4_lengthWithout_29 rfl (by decide) n3 (fun _ => rfl) (fun x3_29 => ?_)
        refine r_goto B 4 dX4_lengthWithout_32 (by decide) ?_
        refine r_sub [1, 2, 3, 0] rfl ?_
        exact ih v2_4 x3_29
      · refine r_iload_n B 2 dX4_lengthWithout_20 rfl rfl ?_
        refine r_aload_n B 0 dX4_lengthWithout_21 rfl rfl ?_
        refine r_get B 8 3 0 (Nat.le_of_ble_eq_true rfl) rfl (cX_8 g _) rfl m_X4_lengthWithout_inX4 (Nat.le_of_ble_eq_true rfl) m_X4_lengthWithout_f11 rfl dX4_lengthWithout_22 ?_
        refine r_iload_n B 3 dX4_lengthWithout_25 rfl rfl ?_
        refine r_iald B 22 0 (Nat.le_of_ble_eq_true rfl) rfl (cX_22 g _) rfl dX4_lengthWithout_26 ?_
        refine r_iadd B dX4_lengthWithout_27 ?_
        refine r_istore_n (lv' := fun x2_28 => [(2, .int x2_28), (0, .ref (g.1 8)), (1, .int a1), (3, .int v3_4)]) B dX4_lengthWithout_28 rfl n2 (fun _ => rfl) (fun x2_28 => ?_)
        refine r_iinc (lv' := fun x3_29 => [(3, .int x3_29), (2, .int x2_28), (0, .ref (g.1 8)), (1, .int a1)]) B 3 (1 : Int32) dX4_lengthWithout_29 rfl (by decide) n3 (fun _ => rfl) (fun x3_29 => ?_)
        refine r_goto B 4 dX4_lengthWithout_32 (by decide) ?_
        refine r_sub [2, 3, 1, 0] rfl ?_
        exact ih x2_28 x3_29
set_option maxRecDepth 100000 in
set_option maxHeartbeats 4000000 in
theorem x_X4_lengthWithout {E : zCx} {g : zGx} (B : zGood E (WX g) (zT g) cX4_lengthWithout RX4 wsX4_lengthWithout (some .int) rm_X4_lengthWithout) (hE : E.2.2 = 4) (S : zSt) (a1 : Int32) : Xo E (WX g) (eI S) S 0 [(0, .ref (g.1 8)), (1, .int a1)] [] (F_X4_lengthWithout S a1) := by
  have n2 : 2 < E.2.2 := by rw [hE]; decide
  have n3 : 3 < E.2.2 := by rw [hE]; decide
  unfold F_X4_lengthWithout
  refine r_iconst B (0 : Int32) dX4_lengthWithout_0 (by decide) ?_
  refine r_istore_n (lv' := fun x2_1 => [(2, .int x2_1), (0, .ref (g.1 8)), (1, .int a1)]) B dX4_lengthWithout_1 rfl n2 (fun _ => rfl) (fun x2_1 => ?_)
  refine r_iconst B (0 : Int32) dX4_lengthWithout_2 (by decide) ?_
  refine r_istore_n (lv' := fun x3_3 => [(3, .int x3_3), (2, .int x2_1), (0, .ref (g.1 8)), (1, .int a1)]) B dX4_lengthWithout_3 rfl n3 (fun _ => rfl) (fun x3_3 => ?_)
  refine r_sub [2, 3, 1, 0] rfl ?_
  refine xL_X4_lengthWithout_4 B hE S a1 _ ?_ 1000 x2_1 x3_3
  intro w2_4
  refine r_iload_n B 0 dX4_lengthWithout_35 rfl rfl ?_
  exact r_iret B dX4_lengthWithout_36 rfl
set_option maxRecDepth 20000 in
theorem k_X4_lengthWithout {l : Launch} {D : va_G} {g : zGx} (hz : zin (WX g)) {S : zSt} {a1 : Int32} {b : Int32} (h : F_X4_lengthWithout S a1 = some b) : zMet l D (WX g) (zT g) yX4_lengthWithout wsX4_lengthWithout rm_X4_lengthWithout S [.ref (g.1 8), .int a1] ((eI S) b) := zmet_of (by decide +kernel) rfl hz (Nat.le_of_ble_eq_true rfl) rfl (fun E _ _ hE B => x_X4_lengthWithout B hE S a1) h
abbrev rm_X4_waysToHitAll : Room := { frames := 1, cells := 0, slots := 0, locals := 25 }
theorem y_X4_waysToHitAll : yX4_waysToHitAll.cls = RX4 ∧ yX4_waysToHitAll.cls ≠ "java/lang/invoke/MethodHandle" ∧ yX4_waysToHitAll.cls ≠ "java/lang/invoke/VarHandle" ∧ (parseMethodDescriptor yX4_waysToHitAll.desc).map (fun d => d.parameters.length) = some 1 := by decide +kernel
theorem m_X4_waysToHitAll_f15 : Cond.fieldLink RX4 15 "LongestMet$Rod" "pieces" "I" ∈ wsX4_waysToHitAll := List.mem_cons_of_mem _ (List.mem_append_left _ (List.mem_of_getElem? (i := 0) rfl))
theorem m_X4_waysToHitAll_inX4 : ∀ x ∈ u_ws RX4 TX4 2, x ∈ wsX4_waysToHitAll := fun _ h => List.mem_cons_of_mem _ (List.mem_append_right _ h)
set_option maxRecDepth 100000 in
set_option maxHeartbeats 4000000 in
theorem xL_X4_waysToHitAll_5 {E : zCx} {g : zGx} (B : zGood E (WX g) (zT g) cX4_waysToHitAll RX4 wsX4_waysToHitAll (some .long) rm_X4_waysToHitAll) (hE : E.2.2 = 7) (S : zSt) (a1 : Int32) (k : Int64 → Option Int64) (hk : ∀ (w2 : Int64), Xo E (WX g) (eL S) S 56 [(2, .long w2)] [] (k w2)) : ∀ (n : Nat) (v2_5 : Int64) (v4_5 : Int32), Xo E (WX g) (eL S) S 5 [(0, .ref (g.1 8)), (1, .int a1), (2, .long v2_5), (4, .int v4_5)] [] (L_X4_waysToHitAll_5 S a1 k n v2_5 v4_5) := by
  have nn2 : 2 + 1 < E.2.2 := by rw [hE]; decide
  have n4 : 4 < E.2.2 := by rw [hE]; decide
  have nn5 : 5 + 1 < E.2.2 := by rw [hE]; decide
  intro n
  induction n with
  | zero =>
    intro _ _
    exact r_none
  | succ n ih =>
    intro v2_5 v4_5
    rw [L_X4_waysToHitAll_5]
    refine r_iload B 3 dX4_waysToHitAll_5 rfl ?_
    refine r_iconst B (1 : Int32) dX4_waysToHitAll_7 (by decide) ?_
    refine r_aload_n B 0 dX4_waysToHitAll_8 rfl rfl ?_
    refine r_get B 8 3 1 (Nat.le_of_ble_eq_true rfl) rfl (cX_8 g _) rfl m_X4_waysToHitAll_inX4 (Nat.le_of_ble_eq_true rfl) m_X4_waysToHitAll_f15 rfl dX4_waysToHitAll_9 ?_
    refine r_ishl B dX4_waysToHitAll_12 ?_
    refine r_icmp_ge B 56 dX4_waysToHitAll_13 (by decide) (fun _ => ?_) (fun _ => ?_)
    · refine r_sub [2] rfl ?_
      exact hk v2_5
    · refine r_aload_n B 0 dX4_waysToHitAll_16 rfl rfl ?_
      refine r_iload B 3 dX4_waysToHitAll_17 rfl ?_
      refine r_cI (zrunV (As := [.int v4_5]) (rest := []) B 1 8 (fun b hb => k_X4_lengthWithout B.2.2.1 hb) gX4_waysToHitAll_X4_lengthWithout rfl rfl rfl y_X4_lengthWithout ⟨Nat.le_of_ble_eq_true rfl, Nat.le_of_ble_eq_true rfl⟩ (Nat.le_of_ble_eq_true rfl) rfl (cX_8 g _) rfl rfl rfl (Nat.le_of_ble_eq_true rfl) dX4_waysToHitAll_19) (fun r19 => ?_)
      refine r_i2l B dX4_waysToHitAll_22 ?_
      refine r_iload_n B 1 dX4_waysToHitAll_23 rfl rfl ?_
      refine r_cL (zrunS (As := [.long (r19.toInt64), .int a1]) (rest := []) B 2 (fun b hb => k_X4_power B.2.2.1 hb) gX4_waysToHitAll_X4_power rfl rfl rfl y_X4_power ⟨Nat.le_of_ble_eq_true rfl, Nat.le_of_ble_eq_true rfl⟩ rfl rfl (Nat.le_of_ble_eq_true rfl) dX4_waysToHitAll_24) (fun r24 => ?_)
      refine r_lstore (lv' := fun x5_27 => [(5, .long x5_27), (0, .ref (g.1 8)), (1, .int a1), (2, .long v2_5), (4, .int v4_5)]) B dX4_waysToHitAll_27 nn5 (fun _ => rfl) (fun x5_27 => ?_)
      refine r_lload_n B 3 dX4_waysToHitAll_29 rfl rfl ?_
      refine r_iload B 4 dX4_waysToHitAll_30 rfl ?_
      refine r_cI (zrunS (As := [.int v4_5]) (rest := [.long v2_5]) B 1 (fun b hb => k_J6_bitCount_0f7a4 B.2.2.1 hb) gX4_waysToHitAll_J6_bitCount_0f7a4 rfl rfl rfl y_J6_bitCount_0f7a4 ⟨Nat.le_of_ble_eq_true rfl, Nat.le_of_ble_eq_true rfl⟩ rfl rfl (Nat.le_of_ble_eq_true rfl) dX4_waysToHitAll_32) (fun r32 => ?_)
      refine r_iconst B (2 : Int32) dX4_waysToHitAll_35 (by decide) ?_
      refine r_irem B dX4_waysToHitAll_36 (fun _ => ?_)
      refine r_if_ne B 45 dX4_waysToHitAll_37 (by decide) (fun _ => ?_) (fun _ => ?_)
      · refine r_lload B 0 dX4_waysToHitAll_45 rfl ?_
        refine r_lneg B dX4_waysToHitAll_47 ?_
        refine r_ladd B dX4_waysToHitAll_48 ?_
        refine r_lstore_n (lv' := fun x2_49 => [(2, .long x2_49), (5, .long x5_27), (0, .ref (g.1 8)), (1, .int a1), (4, .int v4_5)]) B dX4_waysToHitAll_49 rfl nn2 (fun _ => rfl) (fun x2_49 => ?_)
        refine r_iinc (lv' := fun x4_50 => [(4, .int x4_50), (2, .long x2_49), (5, .long x5_27), (0, .ref (g.1 8)), (1, .int a1)]) B 4 (1 : Int32) dX4_waysToHitAll_50 rfl (by decide) n4 (fun _ => rfl) (fun x4_50 => ?_)
        refine r_goto B 5 dX4_waysToHitAll_53 (by decide) ?_
        refine r_sub [3, 4, 1, 0] rfl ?_
        exact ih x2_49 x4_50
      · refine r_lload B 0 dX4_waysToHitAll_40 rfl ?_
        refine r_goto B 48 dX4_waysToHitAll_42 (by decide) ?_
        refine r_ladd B dX4_waysToHitAll_48 ?_
        refine r_lstore_n (lv' := fun x2_49 => [(2, .long x2_49), (5, .long x5_27), (0, .ref (g.1 8)), (1, .int a1), (4, .int v4_5)]) B dX4_waysToHitAll_49 rfl nn2 (fun _ => rfl) (fun x2_49 => ?_)
        refine r_iinc (lv' := fun x4_50 => [(4, .int x4_50), (2, .long x2_49), (5, .long x5_27), (0, .ref (g.1 8)), (1, .int a1)]) B 4 (1 : Int32) dX4_waysToHitAll_50 rfl (by decide) n4 (fun _ => rfl) (fun x4_50 => ?_)
        refine r_goto B 5 dX4_waysToHitAll_53 (by decide) ?_
        refine r_sub [3, 4, 1, 0] rfl ?_
        exact ih x2_49 x4_50
set_option maxRecDepth 100000 in
set_option maxHeartbeats 4000000 in
theorem x_X4_waysToHitAll {E : zCx} {g : zGx} (B : zGood E (WX g) (zT g) cX4_waysToHitAll RX4 wsX4_waysToHitAll (some .long) rm_X4_waysToHitAll) (hE : E.2.2 = 7) (S : zSt) (a1 : Int32) : Xo E (WX g) (eL S) S 0 [(0, .ref (g.1 8)), (1, .int a1)] [] (F_X4_waysToHitAll S a1) := by
  have nn2 : 2 + 1 < E.2.2 := by rw [hE]; decide
  have n4 : 4 < E.2.2 := by rw [hE]; decide
  have nn5 : 5 + 1 < E.2.2 := by rw [hE]; decide
  unfold F_X4_waysToHitAll
  refine r_lconst B (0 : Int64) dX4_waysToHitAll_0 (by decide) ?_
  refine r_lstore_n (lv' := fun x2_1 => [(2, .long x2_1), (0, .ref (g.1 8)), (1, .int a1)]) B dX4_waysToHitAll_1 rfl nn2 (fun _ => rfl) (fun x2_1 => ?_)
  refine r_iconst B (0 : Int32) dX4_waysToHitAll_2 (by decide) ?_
  refine r_istore (lv' := fun x4_3 => [(4, .int x4_3), (2, .long x2_1), (0, .ref (g.1 8)), (1, .int a1)]) B dX4_waysToHitAll_3 n4 (fun _ => rfl) (fun x4_3 => ?_)
  refine r_sub [2, 3, 1, 0] rfl ?_
  refine xL_X4_waysToHitAll_5 B hE S a1 _ ?_ 1000 x2_1 x4_3
  intro w2_5
  refine r_lload_n B 0 dX4_waysToHitAll_56 rfl rfl ?_
  exact r_lret B dX4_waysToHitAll_57 rfl
set_option maxRecDepth 20000 in
theorem k_X4_waysToHitAll {l : Launch} {D : va_G} {g : zGx} (hz : zin (WX g)) {S : zSt} {a1 : Int32} {b : Int64} (h : F_X4_waysToHitAll S a1 = some b) : zMet l D (WX g) (zT g) yX4_waysToHitAll wsX4_waysToHitAll rm_X4_waysToHitAll S [.ref (g.1 8), .int a1] ((eL S) b) := zmet_of (by decide +kernel) rfl hz (Nat.le_of_ble_eq_true rfl) rfl (fun E _ _ hE B => x_X4_waysToHitAll B hE S a1) h
abbrev rm_X5_finding : Room := { frames := 0, cells := 0, slots := 0, locals := 0 }
theorem y_X5_finding : yX5_finding.cls = RX5 ∧ yX5_finding.cls ≠ "java/lang/invoke/MethodHandle" ∧ yX5_finding.cls ≠ "java/lang/invoke/VarHandle" ∧ (parseMethodDescriptor yX5_finding.desc).map (fun d => d.parameters.length) = some 1 := by decide +kernel
theorem m_X5_finding_f23 : Cond.fieldLink RX5 23 "LongestMet$Sheets" "latest" "I" ∈ wsX5_finding := List.mem_cons_of_mem _ (List.mem_append_left _ (List.mem_of_getElem? (i := 0) rfl))
theorem m_X5_finding_inX5 : ∀ x ∈ u_ws RX5 TX5 4, x ∈ wsX5_finding := fun _ h => List.mem_cons_of_mem _ (List.mem_append_right _ h)
set_option maxRecDepth 100000 in
set_option maxHeartbeats 4000000 in
theorem x_X5_finding {E : zCx} {g : zGx} (B : zGood E (WX g) (zT g) cX5_finding RX5 wsX5_finding (some .int) rm_X5_finding) (hE : E.2.2 = 2) (S : zSt) (a1 : Int32) : Xo E (WX g) eIw S 0 [(0, .ref (g.1 9)), (1, .int a1)] [] (F_X5_finding S a1) := by
  unfold F_X5_finding
  refine r_aload_n B 0 dX5_finding_0 rfl rfl ?_
  refine r_iload_n B 1 dX5_finding_1 rfl rfl ?_
  refine r_put (ty := .int) B 9 4 3 tyX5 tyX5_ok nmX5 (Nat.le_of_ble_eq_true rfl) rfl (cX_9 g _) rfl m_X5_finding_inX5 (Nat.le_of_ble_eq_true rfl) m_X5_finding_f23 rfl (by decide +kernel) rfl rfl (Nat.le_of_ble_eq_true rfl) (pX_9_3 g _ _) dX5_finding_2 (fun S2 => ?_)
  refine r_bipush B (-10 : Int32) dX5_finding_5 (by decide) ?_
  refine r_iload_n B 1 dX5_finding_7 rfl rfl ?_
  refine r_isub B dX5_finding_8 ?_
  exact r_iret B dX5_finding_9 rfl
set_option maxRecDepth 20000 in
theorem k_X5_finding {l : Launch} {D : va_G} {g : zGx} (hz : zin (WX g)) {S : zSt} {a1 : Int32} {b : (Int32 × zSt)} (h : F_X5_finding S a1 = some b) : zMet l D (WX g) (zT g) yX5_finding wsX5_finding rm_X5_finding S [.ref (g.1 9), .int a1] (eIw b) := zmet_of (by decide +kernel) rfl hz (Nat.le_of_ble_eq_true rfl) rfl (fun E _ _ hE B => x_X5_finding B hE S a1) h
abbrev rm_X5_latestFinding : Room := { frames := 0, cells := 0, slots := 0, locals := 0 }
theorem y_X5_latestFinding : yX5_latestFinding.cls = RX5 ∧ yX5_latestFinding.cls ≠ "java/lang/invoke/MethodHandle" ∧ yX5_latestFinding.cls ≠ "java/lang/invoke/VarHandle" ∧ (parseMethodDescriptor yX5_latestFinding.desc).map (fun d => d.parameters.length) = some 0 := by decide +kernel
theorem m_X5_latestFinding_f23 : Cond.fieldLink RX5 23 "LongestMet$Sheets" "latest" "I" ∈ wsX5_latestFinding := List.mem_cons_of_mem _ (List.mem_append_left _ (List.mem_of_getElem? (i := 0) rfl))
theorem m_X5_latestFinding_inX5 : ∀ x ∈ u_ws RX5 TX5 4, x ∈ wsX5_latestFinding := fun _ h => List.mem_cons_of_mem _ (List.mem_append_right _ h)
set_option maxRecDepth 100000 in
set_option maxHeartbeats 4000000 in
theorem x_X5_latestFinding {E : zCx} {g : zGx} (B : zGood E (WX g) (zT g) cX5_latestFinding RX5 wsX5_latestFinding (some .int) rm_X5_latestFinding) (hE : E.2.2 = 1) (S : zSt) : Xo E (WX g) (eI S) S 0 [(0, .ref (g.1 9))] [] (F_X5_latestFinding S) := by
  unfold F_X5_latestFinding
  refine r_aload_n B 0 dX5_latestFinding_0 rfl rfl ?_
  refine r_get B 9 4 3 (Nat.le_of_ble_eq_true rfl) rfl (cX_9 g _) rfl m_X5_latestFinding_inX5 (Nat.le_of_ble_eq_true rfl) m_X5_latestFinding_f23 rfl dX5_latestFinding_1 ?_
  exact r_iret B dX5_latestFinding_4 rfl
set_option maxRecDepth 20000 in
theorem k_X5_latestFinding {l : Launch} {D : va_G} {g : zGx} (hz : zin (WX g)) {S : zSt} {b : Int32} (h : F_X5_latestFinding S = some b) : zMet l D (WX g) (zT g) yX5_latestFinding wsX5_latestFinding rm_X5_latestFinding S [.ref (g.1 9)] ((eI S) b) := zmet_of (by decide +kernel) rfl hz (Nat.le_of_ble_eq_true rfl) rfl (fun E _ _ hE B => x_X5_latestFinding B hE S) h
abbrev rm_X5_isLost : Room := { frames := 0, cells := 0, slots := 0, locals := 0 }
theorem y_X5_isLost : yX5_isLost.cls = RX5 ∧ yX5_isLost.cls ≠ "java/lang/invoke/MethodHandle" ∧ yX5_isLost.cls ≠ "java/lang/invoke/VarHandle" ∧ (parseMethodDescriptor yX5_isLost.desc).map (fun d => d.parameters.length) = some 1 := by decide +kernel
theorem m_X5_isLost_f20 : Cond.fieldLink RX5 20 "LongestMet$Sheets" "sizes" "[I" ∈ wsX5_isLost := List.mem_cons_of_mem _ (List.mem_append_left _ (List.mem_of_getElem? (i := 0) rfl))
theorem m_X5_isLost_inX5 : ∀ x ∈ u_ws RX5 TX5 4, x ∈ wsX5_isLost := fun _ h => List.mem_cons_of_mem _ (List.mem_append_right _ h)
set_option maxRecDepth 100000 in
set_option maxHeartbeats 4000000 in
theorem x_X5_isLost {E : zCx} {g : zGx} (B : zGood E (WX g) (zT g) cX5_isLost RX5 wsX5_isLost (some .boolean) rm_X5_isLost) (hE : E.2.2 = 2) (S : zSt) (a1 : Int32) : Xo E (WX g) (eI S) S 0 [(0, .ref (g.1 9)), (1, .int a1)] [] (F_X5_isLost S a1) := by
  unfold F_X5_isLost
  refine r_aload_n B 0 dX5_isLost_0 rfl rfl ?_
  refine r_get B 9 4 2 (Nat.le_of_ble_eq_true rfl) rfl (cX_9 g _) rfl m_X5_isLost_inX5 (Nat.le_of_ble_eq_true rfl) m_X5_isLost_f20 rfl dX5_isLost_1 ?_
  refine r_iload_n B 1 dX5_isLost_4 rfl rfl ?_
  refine r_iald B 25 0 (Nat.le_of_ble_eq_true rfl) rfl (cX_25 g _) rfl dX5_isLost_5 ?_
  refine r_iconst B (-1 : Int32) dX5_isLost_6 (by decide) ?_
  refine r_icmp_ne B 14 dX5_isLost_7 (by decide) (fun _ => ?_) (fun _ => ?_)
  · refine r_iconst B (0 : Int32) dX5_isLost_14 (by decide) ?_
    exact r_zret0 B dX5_isLost_15 rfl
  · refine r_iconst B (1 : Int32) dX5_isLost_10 (by decide) ?_
    refine r_goto B 15 dX5_isLost_11 (by decide) ?_
    exact r_zret1 B dX5_isLost_15 rfl
set_option maxRecDepth 20000 in
theorem k_X5_isLost {l : Launch} {D : va_G} {g : zGx} (hz : zin (WX g)) {S : zSt} {a1 : Int32} {b : Int32} (h : F_X5_isLost S a1 = some b) : zMet l D (WX g) (zT g) yX5_isLost wsX5_isLost rm_X5_isLost S [.ref (g.1 9), .int a1] ((eI S) b) := zmet_of (by decide +kernel) rfl hz (Nat.le_of_ble_eq_true rfl) rfl (fun E _ _ hE B => x_X5_isLost B hE S a1) h
abbrev rm_X5_itemsOf : Room := { frames := 0, cells := 0, slots := 0, locals := 0 }
theorem y_X5_itemsOf : yX5_itemsOf.cls = RX5 ∧ yX5_itemsOf.cls ≠ "java/lang/invoke/MethodHandle" ∧ yX5_itemsOf.cls ≠ "java/lang/invoke/VarHandle" ∧ (parseMethodDescriptor yX5_itemsOf.desc).map (fun d => d.parameters.length) = some 1 := by decide +kernel
theorem m_X5_itemsOf_f20 : Cond.fieldLink RX5 20 "LongestMet$Sheets" "sizes" "[I" ∈ wsX5_itemsOf := List.mem_cons_of_mem _ (List.mem_append_left _ (List.mem_of_getElem? (i := 0) rfl))
theorem m_X5_itemsOf_inX5 : ∀ x ∈ u_ws RX5 TX5 4, x ∈ wsX5_itemsOf := fun _ h => List.mem_cons_of_mem _ (List.mem_append_right _ h)
set_option maxRecDepth 100000 in
set_option maxHeartbeats 4000000 in
theorem x_X5_itemsOf {E : zCx} {g : zGx} (B : zGood E (WX g) (zT g) cX5_itemsOf RX5 wsX5_itemsOf (some .int) rm_X5_itemsOf) (hE : E.2.2 = 2) (S : zSt) (a1 : Int32) : Xo E (WX g) (eI S) S 0 [(0, .ref (g.1 9)), (1, .int a1)] [] (F_X5_itemsOf S a1) := by
  unfold F_X5_itemsOf
  refine r_aload_n B 0 dX5_itemsOf_0 rfl rfl ?_
  refine r_get B 9 4 2 (Nat.le_of_ble_eq_true rfl) rfl (cX_9 g _) rfl m_X5_itemsOf_inX5 (Nat.le_of_ble_eq_true rfl) m_X5_itemsOf_f20 rfl dX5_itemsOf_1 ?_
  refine r_iload_n B 1 dX5_itemsOf_4 rfl rfl ?_
  refine r_iald B 25 0 (Nat.le_of_ble_eq_true rfl) rfl (cX_25 g _) rfl dX5_itemsOf_5 ?_
  exact r_iret B dX5_itemsOf_6 rfl
set_option maxRecDepth 20000 in
theorem k_X5_itemsOf {l : Launch} {D : va_G} {g : zGx} (hz : zin (WX g)) {S : zSt} {a1 : Int32} {b : Int32} (h : F_X5_itemsOf S a1 = some b) : zMet l D (WX g) (zT g) yX5_itemsOf wsX5_itemsOf rm_X5_itemsOf S [.ref (g.1 9), .int a1] ((eI S) b) := zmet_of (by decide +kernel) rfl hz (Nat.le_of_ble_eq_true rfl) rfl (fun E _ _ hE B => x_X5_itemsOf B hE S a1) h
abbrev rm_X5_renew : Room := { frames := 0, cells := 0, slots := 0, locals := 0 }
theorem y_X5_renew : yX5_renew.cls = RX5 ∧ yX5_renew.cls ≠ "java/lang/invoke/MethodHandle" ∧ yX5_renew.cls ≠ "java/lang/invoke/VarHandle" ∧ (parseMethodDescriptor yX5_renew.desc).map (fun d => d.parameters.length) = some 3 := by decide +kernel
theorem m_X5_renew_f16 : Cond.fieldLink RX5 16 "LongestMet$Sheets" "forms" "[I" ∈ wsX5_renew := List.mem_cons_of_mem _ (List.mem_append_left _ (List.mem_of_getElem? (i := 0) rfl))
theorem m_X5_renew_inX5 : ∀ x ∈ u_ws RX5 TX5 4, x ∈ wsX5_renew := fun _ h => List.mem_cons_of_mem _ (List.mem_append_right _ h)
theorem m_X5_renew_f20 : Cond.fieldLink RX5 20 "LongestMet$Sheets" "sizes" "[I" ∈ wsX5_renew := List.mem_cons_of_mem _ (List.mem_append_left _ (List.mem_of_getElem? (i := 1) rfl))
theorem m_X5_renew_f11 : Cond.fieldLink RX5 11 "LongestMet$Sheets" "rows" "[[I" ∈ wsX5_renew := List.mem_cons_of_mem _ (List.mem_append_left _ (List.mem_of_getElem? (i := 2) rfl))
set_option maxRecDepth 100000 in
set_option maxHeartbeats 4000000 in
theorem xL_X5_renew_17 {E : zCx} {g : zGx} (B : zGood E (WX g) (zT g) cX5_renew RX5 wsX5_renew none rm_X5_renew) (hE : E.2.2 = 5) (a1 : Int32) (a3 : Int32) (k : zSt → Option zSt) (hk : ∀ (S17x : zSt), Xo E (WX g) eVw S17x 39 [] [] (k S17x)) : ∀ (n : Nat) (S17 : zSt) (v4_17 : Int32), Xo E (WX g) eVw S17 17 [(0, .ref (g.1 9)), (1, .int a1), (3, .int a3), (4, .int v4_17)] [] (L_X5_renew_17 a1 a3 k n S17 v4_17) := by
  have n4 : 4 < E.2.2 := by rw [hE]; decide
  intro n
  induction n with
  | zero =>
    intro _ _
    exact r_none
  | succ n ih =>
    intro S17 v4_17
    rw [L_X5_renew_17]
    refine r_iload B 3 dX5_renew_17 rfl ?_
    refine r_iload_n B 2 dX5_renew_19 rfl rfl ?_
    refine r_icmp_ge B 39 dX5_renew_20 (by decide) (fun _ => ?_) (fun _ => ?_)
    · refine r_sub [] rfl ?_
      exact hk S17
    · refine r_aload_n B 0 dX5_renew_23 rfl rfl ?_
      refine r_get B 9 4 0 (Nat.le_of_ble_eq_true rfl) rfl (cX_9 g _) rfl m_X5_renew_inX5 (Nat.le_of_ble_eq_true rfl) m_X5_renew_f11 rfl dX5_renew_24 ?_
      refine r_iload_n B 1 dX5_renew_27 rfl rfl ?_
      refine r_aald B 23 2 (Nat.le_of_ble_eq_true rfl) rfl (cX_23 g _) rfl dX5_renew_28 (fun h28 => ?_)
      refine r_iload B 3 dX5_renew_29 rfl ?_
      refine r_iconst B (0 : Int32) dX5_renew_31 (by decide) ?_
      refine r_iast B (42 + a1.toNatClampNeg) 0 (hX_r42 g h28) rfl (cX_r42 g _ h28) rfl (uX_r42 g _ h28 _) dX5_renew_32 (fun S32 => ?_)
      refine r_iinc (lv' := fun x4_33 => [(4, .int x4_33), (0, .ref (g.1 9)), (1, .int a1), (3, .int a3)]) B 3 (1 : Int32) dX5_renew_33 rfl (by decide) n4 (fun _ => rfl) (fun x4_33 => ?_)
      refine r_goto B 17 dX5_renew_36 (by decide) ?_
      refine r_sub [1, 2, 3, 0] rfl ?_
      exact ih S32 x4_33
set_option maxRecDepth 100000 in
set_option maxHeartbeats 4000000 in
theorem x_X5_renew {E : zCx} {g : zGx} (B : zGood E (WX g) (zT g) cX5_renew RX5 wsX5_renew none rm_X5_renew) (hE : E.2.2 = 5) (S : zSt) (a1 : Int32) (a2 : Int32) (a3 : Int32) : Xo E (WX g) eVw S 0 [(0, .ref (g.1 9)), (1, .int a1), (2, .int a2), (3, .int a3)] [] (F_X5_renew S a1 a2 a3) := by
  have n4 : 4 < E.2.2 := by rw [hE]; decide
  unfold F_X5_renew
  refine r_aload_n B 0 dX5_renew_0 rfl rfl ?_
  refine r_get B 9 4 1 (Nat.le_of_ble_eq_true rfl) rfl (cX_9 g _) rfl m_X5_renew_inX5 (Nat.le_of_ble_eq_true rfl) m_X5_renew_f16 rfl dX5_renew_1 ?_
  refine r_iload_n B 1 dX5_renew_4 rfl rfl ?_
  refine r_iload_n B 2 dX5_renew_5 rfl rfl ?_
  refine r_iast B 24 0 (Nat.le_of_ble_eq_true rfl) rfl (cX_24 g _) rfl (uX_24 g _ _) dX5_renew_6 (fun S6 => ?_)
  refine r_aload_n B 0 dX5_renew_7 rfl rfl ?_
  refine r_get B 9 4 2 (Nat.le_of_ble_eq_true rfl) rfl (cX_9 g _) rfl m_X5_renew_inX5 (Nat.le_of_ble_eq_true rfl) m_X5_renew_f20 rfl dX5_renew_8 ?_
  refine r_iload_n B 1 dX5_renew_11 rfl rfl ?_
  refine r_iload_n B 3 dX5_renew_12 rfl rfl ?_
  refine r_iast B 25 0 (Nat.le_of_ble_eq_true rfl) rfl (cX_25 g _) rfl (uX_25 g _ _) dX5_renew_13 (fun S13 => ?_)
  refine r_iconst B (0 : Int32) dX5_renew_14 (by decide) ?_
  refine r_istore (lv' := fun x4_15 => [(4, .int x4_15), (0, .ref (g.1 9)), (1, .int a1), (2, .int a2), (3, .int a3)]) B dX5_renew_15 n4 (fun _ => rfl) (fun x4_15 => ?_)
  refine r_sub [1, 2, 4, 0] rfl ?_
  refine xL_X5_renew_17 B hE a1 a3 _ ?_ 1000 S13 x4_15
  intro S17x_17
  exact r_vret B dX5_renew_39 rfl
set_option maxRecDepth 20000 in
theorem k_X5_renew {l : Launch} {D : va_G} {g : zGx} (hz : zin (WX g)) {S : zSt} {a1 : Int32} {a2 : Int32} {a3 : Int32} {b : zSt} (h : F_X5_renew S a1 a2 a3 = some b) : zMet l D (WX g) (zT g) yX5_renew wsX5_renew rm_X5_renew S [.ref (g.1 9), .int a1, .int a2, .int a3] (eVw b) := zmet_of (by decide +kernel) rfl hz (Nat.le_of_ble_eq_true rfl) rfl (fun E _ _ hE B => x_X5_renew B hE S a1 a2 a3) h
abbrev rm_X5_drop : Room := { frames := 0, cells := 0, slots := 0, locals := 0 }
theorem y_X5_drop : yX5_drop.cls = RX5 ∧ yX5_drop.cls ≠ "java/lang/invoke/MethodHandle" ∧ yX5_drop.cls ≠ "java/lang/invoke/VarHandle" ∧ (parseMethodDescriptor yX5_drop.desc).map (fun d => d.parameters.length) = some 1 := by decide +kernel
theorem m_X5_drop_f20 : Cond.fieldLink RX5 20 "LongestMet$Sheets" "sizes" "[I" ∈ wsX5_drop := List.mem_cons_of_mem _ (List.mem_append_left _ (List.mem_of_getElem? (i := 0) rfl))
theorem m_X5_drop_inX5 : ∀ x ∈ u_ws RX5 TX5 4, x ∈ wsX5_drop := fun _ h => List.mem_cons_of_mem _ (List.mem_append_right _ h)
set_option maxRecDepth 100000 in
set_option maxHeartbeats 4000000 in
theorem x_X5_drop {E : zCx} {g : zGx} (B : zGood E (WX g) (zT g) cX5_drop RX5 wsX5_drop (some .int) rm_X5_drop) (hE : E.2.2 = 3) (S : zSt) (a1 : Int32) : Xo E (WX g) eIw S 0 [(0, .ref (g.1 9)), (1, .int a1)] [] (F_X5_drop S a1) := by
  have n2 : 2 < E.2.2 := by rw [hE]; decide
  unfold F_X5_drop
  refine r_aload_n B 0 dX5_drop_0 rfl rfl ?_
  refine r_get B 9 4 2 (Nat.le_of_ble_eq_true rfl) rfl (cX_9 g _) rfl m_X5_drop_inX5 (Nat.le_of_ble_eq_true rfl) m_X5_drop_f20 rfl dX5_drop_1 ?_
  refine r_iload_n B 1 dX5_drop_4 rfl rfl ?_
  refine r_iald B 25 0 (Nat.le_of_ble_eq_true rfl) rfl (cX_25 g _) rfl dX5_drop_5 ?_
  refine r_istore_n (lv' := fun x2_6 => [(2, .int x2_6), (0, .ref (g.1 9)), (1, .int a1)]) B dX5_drop_6 rfl n2 (fun _ => rfl) (fun x2_6 => ?_)
  refine r_aload_n B 1 dX5_drop_7 rfl rfl ?_
  refine r_get B 9 4 2 (Nat.le_of_ble_eq_true rfl) rfl (cX_9 g _) rfl m_X5_drop_inX5 (Nat.le_of_ble_eq_true rfl) m_X5_drop_f20 rfl dX5_drop_8 ?_
  refine r_iload_n B 2 dX5_drop_11 rfl rfl ?_
  refine r_iconst B (-1 : Int32) dX5_drop_12 (by decide) ?_
  refine r_iast B 25 0 (Nat.le_of_ble_eq_true rfl) rfl (cX_25 g _) rfl (uX_25 g _ _) dX5_drop_13 (fun S13 => ?_)
  refine r_iload_n B 0 dX5_drop_14 rfl rfl ?_
  exact r_iret B dX5_drop_15 rfl
set_option maxRecDepth 20000 in
theorem k_X5_drop {l : Launch} {D : va_G} {g : zGx} (hz : zin (WX g)) {S : zSt} {a1 : Int32} {b : (Int32 × zSt)} (h : F_X5_drop S a1 = some b) : zMet l D (WX g) (zT g) yX5_drop wsX5_drop rm_X5_drop S [.ref (g.1 9), .int a1] (eIw b) := zmet_of (by decide +kernel) rfl hz (Nat.le_of_ble_eq_true rfl) rfl (fun E _ _ hE B => x_X5_drop B hE S a1) h
abbrev rm_X10_outside : Room := { frames := 0, cells := 0, slots := 0, locals := 0 }
theorem y_X10_outside : yX10_outside.cls ≠ "java/lang/invoke/MethodHandle" ∧ yX10_outside.cls ≠ "java/lang/invoke/VarHandle" ∧ (parseMethodDescriptor yX10_outside.desc).map (fun d => d.parameters.length) = some 3 := by decide +kernel
set_option maxRecDepth 100000 in
set_option maxHeartbeats 4000000 in
theorem x_X10_outside {E : zCx} {g : zGx} (B : zGood E (WX g) (zT g) cX10_outside RX10 wsX10_outside (some .boolean) rm_X10_outside) (hE : E.2.2 = 3) (S : zSt) (a0 : Int32) (a1 : Int32) (a2 : Int32) : Xo E (WX g) (eI S) S 0 [(0, .int a0), (1, .int a1), (2, .int a2)] [] (F_X10_outside a0 a1 a2) := by
  unfold F_X10_outside
  refine r_iload_n B 0 dX10_outside_0 rfl rfl ?_
  refine r_iload_n B 1 dX10_outside_1 rfl rfl ?_
  refine r_icmp_lt B 10 dX10_outside_2 (by decide) (fun _ => ?_) (fun _ => ?_)
  · refine r_iconst B (1 : Int32) dX10_outside_10 (by decide) ?_
    refine r_goto B 15 dX10_outside_11 (by decide) ?_
    exact r_zret1 B dX10_outside_15 rfl
  · refine r_iload_n B 0 dX10_outside_5 rfl rfl ?_
    refine r_iload_n B 2 dX10_outside_6 rfl rfl ?_
    refine r_icmp_le B 14 dX10_outside_7 (by decide) (fun _ => ?_) (fun _ => ?_)
    · refine r_iconst B (0 : Int32) dX10_outside_14 (by decide) ?_
      exact r_zret0 B dX10_outside_15 rfl
    · refine r_iconst B (1 : Int32) dX10_outside_10 (by decide) ?_
      refine r_goto B 15 dX10_outside_11 (by decide) ?_
      exact r_zret1 B dX10_outside_15 rfl
set_option maxRecDepth 20000 in
theorem k_X10_outside {l : Launch} {D : va_G} {g : zGx} (hz : zin (WX g)) {S : zSt} {a0 : Int32} {a1 : Int32} {a2 : Int32} {b : Int32} (h : F_X10_outside a0 a1 a2 = some b) : zMet l D (WX g) (zT g) yX10_outside wsX10_outside rm_X10_outside S [.int a0, .int a1, .int a2] ((eI S) b) := zmet_of (by decide +kernel) rfl hz (Nat.le_of_ble_eq_true rfl) rfl (fun E _ _ hE B => x_X10_outside B hE S a0 a1 a2) h
abbrev rm_X5_faultOf : Room := { frames := 1, cells := 0, slots := 0, locals := 22 }
theorem y_X5_faultOf : yX5_faultOf.cls = RX5 ∧ yX5_faultOf.cls ≠ "java/lang/invoke/MethodHandle" ∧ yX5_faultOf.cls ≠ "java/lang/invoke/VarHandle" ∧ (parseMethodDescriptor yX5_faultOf.desc).map (fun d => d.parameters.length) = some 3 := by decide +kernel
theorem m_X5_faultOf_f16 : Cond.fieldLink RX5 16 "LongestMet$Sheets" "forms" "[I" ∈ wsX5_faultOf := List.mem_cons_of_mem _ (List.mem_append_left _ (List.mem_of_getElem? (i := 0) rfl))
theorem m_X5_faultOf_inX5 : ∀ x ∈ u_ws RX5 TX5 4, x ∈ wsX5_faultOf := fun _ h => List.mem_cons_of_mem _ (List.mem_append_right _ h)
theorem m_X5_faultOf_f20 : Cond.fieldLink RX5 20 "LongestMet$Sheets" "sizes" "[I" ∈ wsX5_faultOf := List.mem_cons_of_mem _ (List.mem_append_left _ (List.mem_of_getElem? (i := 1) rfl))
theorem m_X5_faultOf_iX10 : Cond.initialized RX10 ∈ wsX5_faultOf := List.mem_cons_of_mem _ (List.mem_append_left _ (List.mem_of_getElem? (i := 8) rfl))
theorem m_X5_faultOf_sX10_outside : Cond.static yX10_outside ∈ wsX5_faultOf := List.mem_cons_of_mem _ (List.mem_append_left _ (List.mem_of_getElem? (i := 7) rfl))
set_option maxRecDepth 100000 in
set_option maxHeartbeats 4000000 in
theorem x_X5_faultOf {E : zCx} {g : zGx} (B : zGood E (WX g) (zT g) cX5_faultOf RX5 wsX5_faultOf (some .int) rm_X5_faultOf) (hE : E.2.2 = 4) (S : zSt) (a1 : Int32) (a2 : Int32) (a3 : Int32) : Xo E (WX g) (eI S) S 0 [(0, .ref (g.1 9)), (1, .int a1), (2, .int a2), (3, .int a3)] [] (F_X5_faultOf S a1 a2 a3) := by
  unfold F_X5_faultOf
  refine r_aload_n B 0 dX5_faultOf_0 rfl rfl ?_
  refine r_iload_n B 1 dX5_faultOf_1 rfl rfl ?_
  refine r_cI (zrunV (As := [.int a1]) (rest := []) B 1 9 (fun b hb => k_X5_isLost B.2.2.1 hb) gX5_faultOf_X5_isLost rfl rfl rfl y_X5_isLost ⟨Nat.le_of_ble_eq_true rfl, Nat.le_of_ble_eq_true rfl⟩ (Nat.le_of_ble_eq_true rfl) rfl (cX_9 g _) rfl rfl rfl (Nat.le_of_ble_eq_true rfl) dX5_faultOf_2) (fun r2 => ?_)
  refine r_if_eq B 10 dX5_faultOf_5 (by decide) (fun _ => ?_) (fun _ => ?_)
  · refine r_aload_n B 0 dX5_faultOf_10 rfl rfl ?_
    refine r_get B 9 4 1 (Nat.le_of_ble_eq_true rfl) rfl (cX_9 g _) rfl m_X5_faultOf_inX5 (Nat.le_of_ble_eq_true rfl) m_X5_faultOf_f16 rfl dX5_faultOf_11 ?_
    refine r_iload_n B 1 dX5_faultOf_14 rfl rfl ?_
    refine r_iald B 24 0 (Nat.le_of_ble_eq_true rfl) rfl (cX_24 g _) rfl dX5_faultOf_15 ?_
    refine r_iload_n B 2 dX5_faultOf_16 rfl rfl ?_
    refine r_icmp_eq B 22 dX5_faultOf_17 (by decide) (fun _ => ?_) (fun _ => ?_)
    · refine r_iload_n B 3 dX5_faultOf_22 rfl rfl ?_
      refine r_iconst B (0 : Int32) dX5_faultOf_23 (by decide) ?_
      refine r_aload_n B 0 dX5_faultOf_24 rfl rfl ?_
      refine r_get B 9 4 2 (Nat.le_of_ble_eq_true rfl) rfl (cX_9 g _) rfl m_X5_faultOf_inX5 (Nat.le_of_ble_eq_true rfl) m_X5_faultOf_f20 rfl dX5_faultOf_25 ?_
      refine r_iload_n B 1 dX5_faultOf_28 rfl rfl ?_
      refine r_iald B 25 0 (Nat.le_of_ble_eq_true rfl) rfl (cX_25 g _) rfl dX5_faultOf_29 ?_
      refine r_iconst B (1 : Int32) dX5_faultOf_30 (by decide) ?_
      refine r_isub B dX5_faultOf_31 ?_
      refine r_cI (zrunSN (As := [.int a3, .int (0 : Int32), .int ((zA S 25 a1.toNatClampNeg) - (1 : Int32))]) (rest := []) B 3 (fun b hb => k_X10_outside B.2.2.1 hb) gX5_faultOf_X10_outside_n31 rfl rfl rfl B.2.2.2.2.2.2.2.2 m_X5_faultOf_iX10 m_X5_faultOf_sX10_outside y_X10_outside ⟨Nat.le_of_ble_eq_true rfl, Nat.le_of_ble_eq_true rfl⟩ rfl rfl (Nat.le_of_ble_eq_true rfl) dX5_faultOf_32) (fun r32 => ?_)
      refine r_if_eq B 42 dX5_faultOf_35 (by decide) (fun _ => ?_) (fun _ => ?_)
      · refine r_iconst B (0 : Int32) dX5_faultOf_42 (by decide) ?_
        exact r_iret B dX5_faultOf_43 rfl
      · refine r_iconst B (2 : Int32) dX5_faultOf_38 (by decide) ?_
        refine r_goto B 43 dX5_faultOf_39 (by decide) ?_
        exact r_iret B dX5_faultOf_43 rfl
    · refine r_iconst B (3 : Int32) dX5_faultOf_20 (by decide) ?_
      exact r_iret B dX5_faultOf_21 rfl
  · refine r_iconst B (1 : Int32) dX5_faultOf_8 (by decide) ?_
    exact r_iret B dX5_faultOf_9 rfl
set_option maxRecDepth 20000 in
theorem k_X5_faultOf {l : Launch} {D : va_G} {g : zGx} (hz : zin (WX g)) {S : zSt} {a1 : Int32} {a2 : Int32} {a3 : Int32} {b : Int32} (h : F_X5_faultOf S a1 a2 a3 = some b) : zMet l D (WX g) (zT g) yX5_faultOf wsX5_faultOf rm_X5_faultOf S [.ref (g.1 9), .int a1, .int a2, .int a3] ((eI S) b) := zmet_of (by decide +kernel) rfl hz (Nat.le_of_ble_eq_true rfl) rfl (fun E _ _ hE B => x_X5_faultOf B hE S a1 a2 a3) h
abbrev rm_X5_itemAt : Room := { frames := 0, cells := 0, slots := 0, locals := 0 }
theorem y_X5_itemAt : yX5_itemAt.cls = RX5 ∧ yX5_itemAt.cls ≠ "java/lang/invoke/MethodHandle" ∧ yX5_itemAt.cls ≠ "java/lang/invoke/VarHandle" ∧ (parseMethodDescriptor yX5_itemAt.desc).map (fun d => d.parameters.length) = some 2 := by decide +kernel
theorem m_X5_itemAt_f11 : Cond.fieldLink RX5 11 "LongestMet$Sheets" "rows" "[[I" ∈ wsX5_itemAt := List.mem_cons_of_mem _ (List.mem_append_left _ (List.mem_of_getElem? (i := 0) rfl))
theorem m_X5_itemAt_inX5 : ∀ x ∈ u_ws RX5 TX5 4, x ∈ wsX5_itemAt := fun _ h => List.mem_cons_of_mem _ (List.mem_append_right _ h)
set_option maxRecDepth 100000 in
set_option maxHeartbeats 4000000 in
theorem x_X5_itemAt {E : zCx} {g : zGx} (B : zGood E (WX g) (zT g) cX5_itemAt RX5 wsX5_itemAt (some .int) rm_X5_itemAt) (hE : E.2.2 = 3) (S : zSt) (a1 : Int32) (a2 : Int32) : Xo E (WX g) (eI S) S 0 [(0, .ref (g.1 9)), (1, .int a1), (2, .int a2)] [] (F_X5_itemAt S a1 a2) := by
  unfold F_X5_itemAt
  refine r_aload_n B 0 dX5_itemAt_0 rfl rfl ?_
  refine r_get B 9 4 0 (Nat.le_of_ble_eq_true rfl) rfl (cX_9 g _) rfl m_X5_itemAt_inX5 (Nat.le_of_ble_eq_true rfl) m_X5_itemAt_f11 rfl dX5_itemAt_1 ?_
  refine r_iload_n B 1 dX5_itemAt_4 rfl rfl ?_
  refine r_aald B 23 2 (Nat.le_of_ble_eq_true rfl) rfl (cX_23 g _) rfl dX5_itemAt_5 (fun h5 => ?_)
  refine r_iload_n B 2 dX5_itemAt_6 rfl rfl ?_
  refine r_iald B (42 + a1.toNatClampNeg) 0 (hX_r42 g h5) rfl (cX_r42 g _ h5) rfl dX5_itemAt_7 ?_
  exact r_iret B dX5_itemAt_8 rfl
set_option maxRecDepth 20000 in
theorem k_X5_itemAt {l : Launch} {D : va_G} {g : zGx} (hz : zin (WX g)) {S : zSt} {a1 : Int32} {a2 : Int32} {b : Int32} (h : F_X5_itemAt S a1 a2 = some b) : zMet l D (WX g) (zT g) yX5_itemAt wsX5_itemAt rm_X5_itemAt S [.ref (g.1 9), .int a1, .int a2] ((eI S) b) := zmet_of (by decide +kernel) rfl hz (Nat.le_of_ble_eq_true rfl) rfl (fun E _ _ hE B => x_X5_itemAt B hE S a1 a2) h
abbrev rm_X5_setItem : Room := { frames := 0, cells := 0, slots := 0, locals := 0 }
theorem y_X5_setItem : yX5_setItem.cls = RX5 ∧ yX5_setItem.cls ≠ "java/lang/invoke/MethodHandle" ∧ yX5_setItem.cls ≠ "java/lang/invoke/VarHandle" ∧ (parseMethodDescriptor yX5_setItem.desc).map (fun d => d.parameters.length) = some 3 := by decide +kernel
theorem m_X5_setItem_f11 : Cond.fieldLink RX5 11 "LongestMet$Sheets" "rows" "[[I" ∈ wsX5_setItem := List.mem_cons_of_mem _ (List.mem_append_left _ (List.mem_of_getElem? (i := 0) rfl))
theorem m_X5_setItem_inX5 : ∀ x ∈ u_ws RX5 TX5 4, x ∈ wsX5_setItem := fun _ h => List.mem_cons_of_mem _ (List.mem_append_right _ h)
theorem m_X5_setItem_f16 : Cond.fieldLink RX5 16 "LongestMet$Sheets" "forms" "[I" ∈ wsX5_setItem := List.mem_cons_of_mem _ (List.mem_append_left _ (List.mem_of_getElem? (i := 1) rfl))
set_option maxRecDepth 100000 in
set_option maxHeartbeats 4000000 in
theorem x_X5_setItem {E : zCx} {g : zGx} (B : zGood E (WX g) (zT g) cX5_setItem RX5 wsX5_setItem none rm_X5_setItem) (hE : E.2.2 = 4) (S : zSt) (a1 : Int32) (a2 : Int32) (a3 : Int32) : Xo E (WX g) eVw S 0 [(0, .ref (g.1 9)), (1, .int a1), (2, .int a2), (3, .int a3)] [] (F_X5_setItem S a1 a2 a3) := by
  unfold F_X5_setItem
  refine r_aload_n B 0 dX5_setItem_0 rfl rfl ?_
  refine r_get B 9 4 0 (Nat.le_of_ble_eq_true rfl) rfl (cX_9 g _) rfl m_X5_setItem_inX5 (Nat.le_of_ble_eq_true rfl) m_X5_setItem_f11 rfl dX5_setItem_1 ?_
  refine r_iload_n B 1 dX5_setItem_4 rfl rfl ?_
  refine r_aald B 23 2 (Nat.le_of_ble_eq_true rfl) rfl (cX_23 g _) rfl dX5_setItem_5 (fun h5 => ?_)
  refine r_iload_n B 2 dX5_setItem_6 rfl rfl ?_
  refine r_aload_n B 0 dX5_setItem_7 rfl rfl ?_
  refine r_get B 9 4 1 (Nat.le_of_ble_eq_true rfl) rfl (cX_9 g _) rfl m_X5_setItem_inX5 (Nat.le_of_ble_eq_true rfl) m_X5_setItem_f16 rfl dX5_setItem_8 ?_
  refine r_iload_n B 1 dX5_setItem_11 rfl rfl ?_
  refine r_iald B 24 0 (Nat.le_of_ble_eq_true rfl) rfl (cX_24 g _) rfl dX5_setItem_12 ?_
  refine r_if_ne B 21 dX5_setItem_13 (by decide) (fun _ => ?_) (fun _ => ?_)
  · refine r_aload_n B 0 dX5_setItem_21 rfl rfl ?_
    refine r_get B 9 4 1 (Nat.le_of_ble_eq_true rfl) rfl (cX_9 g _) rfl m_X5_setItem_inX5 (Nat.le_of_ble_eq_true rfl) m_X5_setItem_f16 rfl dX5_setItem_22 ?_
    refine r_iload_n B 1 dX5_setItem_25 rfl rfl ?_
    refine r_iald B 24 0 (Nat.le_of_ble_eq_true rfl) rfl (cX_24 g _) rfl dX5_setItem_26 ?_
    refine r_iconst B (1 : Int32) dX5_setItem_27 (by decide) ?_
    refine r_icmp_ne B 36 dX5_setItem_28 (by decide) (fun _ => ?_) (fun _ => ?_)
    · refine r_iload_n B 3 dX5_setItem_36 rfl rfl ?_
      refine r_iast B (42 + a1.toNatClampNeg) 0 (hX_r42 g h5) rfl (cX_r42 g _ h5) rfl (uX_r42 g _ h5 _) dX5_setItem_37 (fun S37 => ?_)
      exact r_vret B dX5_setItem_38 rfl
    · refine r_iload_n B 3 dX5_setItem_31 rfl rfl ?_
      refine r_i2s B dX5_setItem_32 ?_
      refine r_goto B 37 dX5_setItem_33 (by decide) ?_
      refine r_iast B (42 + a1.toNatClampNeg) 0 (hX_r42 g h5) rfl (cX_r42 g _ h5) rfl (uX_r42 g _ h5 _) dX5_setItem_37 (fun S37 => ?_)
      exact r_vret B dX5_setItem_38 rfl
  · refine r_iload_n B 3 dX5_setItem_16 rfl rfl ?_
    refine r_i2b B dX5_setItem_17 ?_
    refine r_goto B 37 dX5_setItem_18 (by decide) ?_
    refine r_iast B (42 + a1.toNatClampNeg) 0 (hX_r42 g h5) rfl (cX_r42 g _ h5) rfl (uX_r42 g _ h5 _) dX5_setItem_37 (fun S37 => ?_)
    exact r_vret B dX5_setItem_38 rfl
set_option maxRecDepth 20000 in
theorem k_X5_setItem {l : Launch} {D : va_G} {g : zGx} (hz : zin (WX g)) {S : zSt} {a1 : Int32} {a2 : Int32} {a3 : Int32} {b : zSt} (h : F_X5_setItem S a1 a2 a3 = some b) : zMet l D (WX g) (zT g) yX5_setItem wsX5_setItem rm_X5_setItem S [.ref (g.1 9), .int a1, .int a2, .int a3] (eVw b) := zmet_of (by decide +kernel) rfl hz (Nat.le_of_ble_eq_true rfl) rfl (fun E _ _ hE B => x_X5_setItem B hE S a1 a2 a3) h
abbrev rm_X5_areUnlike : Room := { frames := 0, cells := 0, slots := 0, locals := 0 }
theorem y_X5_areUnlike : yX5_areUnlike.cls = RX5 ∧ yX5_areUnlike.cls ≠ "java/lang/invoke/MethodHandle" ∧ yX5_areUnlike.cls ≠ "java/lang/invoke/VarHandle" ∧ (parseMethodDescriptor yX5_areUnlike.desc).map (fun d => d.parameters.length) = some 2 := by decide +kernel
theorem m_X5_areUnlike_f16 : Cond.fieldLink RX5 16 "LongestMet$Sheets" "forms" "[I" ∈ wsX5_areUnlike := List.mem_cons_of_mem _ (List.mem_append_left _ (List.mem_of_getElem? (i := 0) rfl))
theorem m_X5_areUnlike_inX5 : ∀ x ∈ u_ws RX5 TX5 4, x ∈ wsX5_areUnlike := fun _ h => List.mem_cons_of_mem _ (List.mem_append_right _ h)
set_option maxRecDepth 100000 in
set_option maxHeartbeats 4000000 in
theorem x_X5_areUnlike {E : zCx} {g : zGx} (B : zGood E (WX g) (zT g) cX5_areUnlike RX5 wsX5_areUnlike (some .boolean) rm_X5_areUnlike) (hE : E.2.2 = 3) (S : zSt) (a1 : Int32) (a2 : Int32) : Xo E (WX g) (eI S) S 0 [(0, .ref (g.1 9)), (1, .int a1), (2, .int a2)] [] (F_X5_areUnlike S a1 a2) := by
  unfold F_X5_areUnlike
  refine r_aload_n B 0 dX5_areUnlike_0 rfl rfl ?_
  refine r_get B 9 4 1 (Nat.le_of_ble_eq_true rfl) rfl (cX_9 g _) rfl m_X5_areUnlike_inX5 (Nat.le_of_ble_eq_true rfl) m_X5_areUnlike_f16 rfl dX5_areUnlike_1 ?_
  refine r_iload_n B 1 dX5_areUnlike_4 rfl rfl ?_
  refine r_iald B 24 0 (Nat.le_of_ble_eq_true rfl) rfl (cX_24 g _) rfl dX5_areUnlike_5 ?_
  refine r_aload_n B 0 dX5_areUnlike_6 rfl rfl ?_
  refine r_get B 9 4 1 (Nat.le_of_ble_eq_true rfl) rfl (cX_9 g _) rfl m_X5_areUnlike_inX5 (Nat.le_of_ble_eq_true rfl) m_X5_areUnlike_f16 rfl dX5_areUnlike_7 ?_
  refine r_iload_n B 2 dX5_areUnlike_10 rfl rfl ?_
  refine r_iald B 24 0 (Nat.le_of_ble_eq_true rfl) rfl (cX_24 g _) rfl dX5_areUnlike_11 ?_
  refine r_icmp_eq B 19 dX5_areUnlike_12 (by decide) (fun _ => ?_) (fun _ => ?_)
  · refine r_iconst B (0 : Int32) dX5_areUnlike_19 (by decide) ?_
    exact r_zret0 B dX5_areUnlike_20 rfl
  · refine r_iconst B (1 : Int32) dX5_areUnlike_15 (by decide) ?_
    refine r_goto B 20 dX5_areUnlike_16 (by decide) ?_
    exact r_zret1 B dX5_areUnlike_20 rfl
set_option maxRecDepth 20000 in
theorem k_X5_areUnlike {l : Launch} {D : va_G} {g : zGx} (hz : zin (WX g)) {S : zSt} {a1 : Int32} {a2 : Int32} {b : Int32} (h : F_X5_areUnlike S a1 a2 = some b) : zMet l D (WX g) (zT g) yX5_areUnlike wsX5_areUnlike rm_X5_areUnlike S [.ref (g.1 9), .int a1, .int a2] ((eI S) b) := zmet_of (by decide +kernel) rfl hz (Nat.le_of_ble_eq_true rfl) rfl (fun E _ _ hE B => x_X5_areUnlike B hE S a1 a2) h
abbrev rm_X5_hasNotSoMany : Room := { frames := 1, cells := 0, slots := 0, locals := 22 }
theorem y_X5_hasNotSoMany : yX5_hasNotSoMany.cls = RX5 ∧ yX5_hasNotSoMany.cls ≠ "java/lang/invoke/MethodHandle" ∧ yX5_hasNotSoMany.cls ≠ "java/lang/invoke/VarHandle" ∧ (parseMethodDescriptor yX5_hasNotSoMany.desc).map (fun d => d.parameters.length) = some 3 := by decide +kernel
theorem m_X5_hasNotSoMany_f20 : Cond.fieldLink RX5 20 "LongestMet$Sheets" "sizes" "[I" ∈ wsX5_hasNotSoMany := List.mem_cons_of_mem _ (List.mem_append_left _ (List.mem_of_getElem? (i := 0) rfl))
theorem m_X5_hasNotSoMany_inX5 : ∀ x ∈ u_ws RX5 TX5 4, x ∈ wsX5_hasNotSoMany := fun _ h => List.mem_cons_of_mem _ (List.mem_append_right _ h)
theorem m_X5_hasNotSoMany_iX10 : Cond.initialized RX10 ∈ wsX5_hasNotSoMany := List.mem_cons_of_mem _ (List.mem_append_left _ (List.mem_of_getElem? (i := 2) rfl))
theorem m_X5_hasNotSoMany_sX10_outside : Cond.static yX10_outside ∈ wsX5_hasNotSoMany := List.mem_cons_of_mem _ (List.mem_append_left _ (List.mem_of_getElem? (i := 1) rfl))
set_option maxRecDepth 100000 in
set_option maxHeartbeats 4000000 in
theorem x_X5_hasNotSoMany {E : zCx} {g : zGx} (B : zGood E (WX g) (zT g) cX5_hasNotSoMany RX5 wsX5_hasNotSoMany (some .boolean) rm_X5_hasNotSoMany) (hE : E.2.2 = 4) (S : zSt) (a1 : Int32) (a2 : Int32) (a3 : Int32) : Xo E (WX g) (eI S) S 0 [(0, .ref (g.1 9)), (1, .int a1), (2, .int a2), (3, .int a3)] [] (F_X5_hasNotSoMany S a1 a2 a3) := by
  unfold F_X5_hasNotSoMany
  refine r_iload_n B 2 dX5_hasNotSoMany_0 rfl rfl ?_
  refine r_iconst B (0 : Int32) dX5_hasNotSoMany_1 (by decide) ?_
  refine r_aload_n B 0 dX5_hasNotSoMany_2 rfl rfl ?_
  refine r_get B 9 4 2 (Nat.le_of_ble_eq_true rfl) rfl (cX_9 g _) rfl m_X5_hasNotSoMany_inX5 (Nat.le_of_ble_eq_true rfl) m_X5_hasNotSoMany_f20 rfl dX5_hasNotSoMany_3 ?_
  refine r_iload_n B 1 dX5_hasNotSoMany_6 rfl rfl ?_
  refine r_iald B 25 0 (Nat.le_of_ble_eq_true rfl) rfl (cX_25 g _) rfl dX5_hasNotSoMany_7 ?_
  refine r_cI (zrunSN (As := [.int a2, .int (0 : Int32), .int (zA S 25 a1.toNatClampNeg)]) (rest := []) B 3 (fun b hb => k_X10_outside B.2.2.1 hb) gX5_hasNotSoMany_X10_outside_n31 rfl rfl rfl B.2.2.2.2.2.2.2.2 m_X5_hasNotSoMany_iX10 m_X5_hasNotSoMany_sX10_outside y_X10_outside ⟨Nat.le_of_ble_eq_true rfl, Nat.le_of_ble_eq_true rfl⟩ rfl rfl (Nat.le_of_ble_eq_true rfl) dX5_hasNotSoMany_8) (fun r8 => ?_)
  refine r_if_ne B 30 dX5_hasNotSoMany_11 (by decide) (fun _ => ?_) (fun _ => ?_)
  · refine r_iconst B (1 : Int32) dX5_hasNotSoMany_30 (by decide) ?_
    refine r_goto B 35 dX5_hasNotSoMany_31 (by decide) ?_
    exact r_zret1 B dX5_hasNotSoMany_35 rfl
  · refine r_iload_n B 3 dX5_hasNotSoMany_14 rfl rfl ?_
    refine r_iconst B (0 : Int32) dX5_hasNotSoMany_15 (by decide) ?_
    refine r_aload_n B 0 dX5_hasNotSoMany_16 rfl rfl ?_
    refine r_get B 9 4 2 (Nat.le_of_ble_eq_true rfl) rfl (cX_9 g _) rfl m_X5_hasNotSoMany_inX5 (Nat.le_of_ble_eq_true rfl) m_X5_hasNotSoMany_f20 rfl dX5_hasNotSoMany_17 ?_
    refine r_iload_n B 1 dX5_hasNotSoMany_20 rfl rfl ?_
    refine r_iald B 25 0 (Nat.le_of_ble_eq_true rfl) rfl (cX_25 g _) rfl dX5_hasNotSoMany_21 ?_
    refine r_iload_n B 2 dX5_hasNotSoMany_22 rfl rfl ?_
    refine r_isub B dX5_hasNotSoMany_23 ?_
    refine r_cI (zrunSN (As := [.int a3, .int (0 : Int32), .int ((zA S 25 a1.toNatClampNeg) - a2)]) (rest := []) B 3 (fun b hb => k_X10_outside B.2.2.1 hb) gX5_hasNotSoMany_X10_outside_n31 rfl rfl rfl B.2.2.2.2.2.2.2.2 m_X5_hasNotSoMany_iX10 m_X5_hasNotSoMany_sX10_outside y_X10_outside ⟨Nat.le_of_ble_eq_true rfl, Nat.le_of_ble_eq_true rfl⟩ rfl rfl (Nat.le_of_ble_eq_true rfl) dX5_hasNotSoMany_24) (fun r24 => ?_)
    refine r_if_eq B 34 dX5_hasNotSoMany_27 (by decide) (fun _ => ?_) (fun _ => ?_)
    · refine r_iconst B (0 : Int32) dX5_hasNotSoMany_34 (by decide) ?_
      exact r_zret0 B dX5_hasNotSoMany_35 rfl
    · refine r_iconst B (1 : Int32) dX5_hasNotSoMany_30 (by decide) ?_
      refine r_goto B 35 dX5_hasNotSoMany_31 (by decide) ?_
      exact r_zret1 B dX5_hasNotSoMany_35 rfl
set_option maxRecDepth 20000 in
theorem k_X5_hasNotSoMany {l : Launch} {D : va_G} {g : zGx} (hz : zin (WX g)) {S : zSt} {a1 : Int32} {a2 : Int32} {a3 : Int32} {b : Int32} (h : F_X5_hasNotSoMany S a1 a2 a3 = some b) : zMet l D (WX g) (zT g) yX5_hasNotSoMany wsX5_hasNotSoMany rm_X5_hasNotSoMany S [.ref (g.1 9), .int a1, .int a2, .int a3] ((eI S) b) := zmet_of (by decide +kernel) rfl hz (Nat.le_of_ble_eq_true rfl) rfl (fun E _ _ hE B => x_X5_hasNotSoMany B hE S a1 a2 a3) h
abbrev rm_X5_move : Room := { frames := 1, cells := 0, slots := 0, locals := 40 }
theorem y_X5_move : yX5_move.cls = RX5 ∧ yX5_move.cls ≠ "java/lang/invoke/MethodHandle" ∧ yX5_move.cls ≠ "java/lang/invoke/VarHandle" ∧ (parseMethodDescriptor yX5_move.desc).map (fun d => d.parameters.length) = some 5 := by decide +kernel
theorem m_X5_move_f11 : Cond.fieldLink RX5 11 "LongestMet$Sheets" "rows" "[[I" ∈ wsX5_move := List.mem_cons_of_mem _ (List.mem_append_left _ (List.mem_of_getElem? (i := 0) rfl))
theorem m_X5_move_inX5 : ∀ x ∈ u_ws RX5 TX5 4, x ∈ wsX5_move := fun _ h => List.mem_cons_of_mem _ (List.mem_append_right _ h)
theorem m_X5_move_ac1 : Cond.methodLink RX5 35 arraycopyName ∈ wsX5_move := List.mem_cons_of_mem _ (List.mem_append_left _ (List.mem_of_getElem? (i := 1) rfl))
theorem m_X5_move_ac2 : Cond.native arraycopyName ∈ wsX5_move := List.mem_cons_of_mem _ (List.mem_append_left _ (List.mem_of_getElem? (i := 2) rfl))
theorem m_X5_move_ac3 : Cond.static arraycopyName ∈ wsX5_move := List.mem_cons_of_mem _ (List.mem_append_left _ (List.mem_of_getElem? (i := 3) rfl))
theorem m_X5_move_ac4 : Cond.initialized "java/lang/System" ∈ wsX5_move := List.mem_cons_of_mem _ (List.mem_append_left _ (List.mem_of_getElem? (i := 4) rfl))
set_option maxRecDepth 100000 in
set_option maxHeartbeats 4000000 in
theorem x_X5_move {E : zCx} {g : zGx} (B : zGood E (WX g) (zT g) cX5_move RX5 wsX5_move none rm_X5_move) (hE : E.2.2 = 6) (S : zSt) (a1 : Int32) (a2 : Int32) (a3 : Int32) (a4 : Int32) (a5 : Int32) : Xo E (WX g) eVw S 0 [(0, .ref (g.1 9)), (1, .int a1), (2, .int a2), (3, .int a3), (4, .int a4), (5, .int a5)] [] (F_X5_move S a1 a2 a3 a4 a5) := by
  unfold F_X5_move
  refine r_aload_n B 0 dX5_move_0 rfl rfl ?_
  refine r_get B 9 4 0 (Nat.le_of_ble_eq_true rfl) rfl (cX_9 g _) rfl m_X5_move_inX5 (Nat.le_of_ble_eq_true rfl) m_X5_move_f11 rfl dX5_move_1 ?_
  refine r_iload_n B 1 dX5_move_4 rfl rfl ?_
  refine r_aald B 23 2 (Nat.le_of_ble_eq_true rfl) rfl (cX_23 g _) rfl dX5_move_5 (fun h5 => ?_)
  refine r_iload_n B 2 dX5_move_6 rfl rfl ?_
  refine r_aload_n B 0 dX5_move_7 rfl rfl ?_
  refine r_get B 9 4 0 (Nat.le_of_ble_eq_true rfl) rfl (cX_9 g _) rfl m_X5_move_inX5 (Nat.le_of_ble_eq_true rfl) m_X5_move_f11 rfl dX5_move_8 ?_
  refine r_iload_n B 3 dX5_move_11 rfl rfl ?_
  refine r_aald B 23 2 (Nat.le_of_ble_eq_true rfl) rfl (cX_23 g _) rfl dX5_move_12 (fun h12 => ?_)
  refine r_iload B 4 dX5_move_13 rfl ?_
  refine r_iload B 5 dX5_move_15 rfl ?_
  refine r_copy B (42 + a1.toNatClampNeg) (42 + a3.toNatClampNeg) 0 (hX_r42 g h5) (hX_r42 g h12) rfl rfl (cX_r42 g _ h5) (cX_r42 g _ h12) rfl (uX_r42 g _ h12 _) m_X5_move_ac1 m_X5_move_ac2 m_X5_move_ac3 m_X5_move_ac4 (Nat.le_of_ble_eq_true rfl) (by decide +kernel) dX5_move_17 (fun S17 => ?_)
  exact r_vret B dX5_move_20 rfl
set_option maxRecDepth 20000 in
theorem k_X5_move {l : Launch} {D : va_G} {g : zGx} (hz : zin (WX g)) {S : zSt} {a1 : Int32} {a2 : Int32} {a3 : Int32} {a4 : Int32} {a5 : Int32} {b : zSt} (h : F_X5_move S a1 a2 a3 a4 a5 = some b) : zMet l D (WX g) (zT g) yX5_move wsX5_move rm_X5_move S [.ref (g.1 9), .int a1, .int a2, .int a3, .int a4, .int a5] (eVw b) := zmet_of (by decide +kernel) rfl hz (Nat.le_of_ble_eq_true rfl) rfl (fun E _ _ hE B => x_X5_move B hE S a1 a2 a3 a4 a5) h
