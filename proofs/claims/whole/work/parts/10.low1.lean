set_option maxRecDepth 100000 in
def F_X0_setFriends (S : zSt) (a1 : Int32) (a2 : Int32) (a3 : Int32) : Option (Int32 × zSt) :=
 ibd a1 8 (lt (((((zA S 21 a1.toNatClampNeg)).toUInt32 >>> ((a2).toUInt32 &&& Int32.toUInt32 31)).toInt32) &&& (1 : Int32)) (fun x4_10 : Int32 =>
 if x4_10 = a3 then (some (x4_10, S)) else
 (ibd a1 8 (ibd a1 8 (lt (sA S 21 (upd (zA S 21) a1.toNatClampNeg ((zA S 21 a1.toNatClampNeg) ^^^ ((1 : Int32) <<< (a2 &&& 31))))) (fun S29 : zSt =>
 ibd a2 8 (ibd a2 8 (lt (sA S29 21 (upd (zA S29 21) a2.toNatClampNeg ((zA S29 21 a2.toNatClampNeg) ^^^ ((1 : Int32) <<< (a1 &&& 31))))) (fun S41 : zSt =>
 some (x4_10, S41))))))))))
set_option maxRecDepth 100000 in
def F_J6_bitCount_0f7a4 (a0 : Int32) : Option Int32 :=
 lt (a0 - ((((a0).toUInt32 >>> (((1 : Int32)).toUInt32 &&& Int32.toUInt32 31)).toInt32) &&& (1431655765 : Int32))) (fun x0_9 : Int32 =>
 lt ((x0_9 &&& (858993459 : Int32)) + ((((x0_9).toUInt32 >>> (((2 : Int32)).toUInt32 &&& Int32.toUInt32 31)).toInt32) &&& (858993459 : Int32))) (fun x0_23 : Int32 =>
 lt ((x0_23 + (((x0_23).toUInt32 >>> (((4 : Int32)).toUInt32 &&& Int32.toUInt32 31)).toInt32)) &&& (252645135 : Int32)) (fun x0_33 : Int32 =>
 lt (x0_33 + (((x0_33).toUInt32 >>> (((8 : Int32)).toUInt32 &&& Int32.toUInt32 31)).toInt32)) (fun x0_40 : Int32 =>
 lt (x0_40 + (((x0_40).toUInt32 >>> (((16 : Int32)).toUInt32 &&& Int32.toUInt32 31)).toInt32)) (fun x0_47 : Int32 =>
 some (x0_47 &&& (63 : Int32)))))))
set_option maxRecDepth 100000 in
def F_X0_friendsOf (S : zSt) (a1 : Int32) : Option Int32 :=
 ibd a1 8 ((F_J6_bitCount_0f7a4 (zA S 21 a1.toNatClampNeg)).bind (fun r6 : Int32 =>
 some r6))
set_option maxRecDepth 100000 in
def L_X0_tellings_4 (S : zSt) (k : Int32 → Option Int32) : Nat → Int32 → Int32 → Option Int32
  | 0, _, _ => none
  | n + 1, v1_4, v2_4 =>
    (if (8 : Int32) ≤ v2_4 then (k v1_4) else
 ((F_X0_friendsOf S v2_4).bind (fun r13 : Int32 =>
 lt (v1_4 + r13) (fun x1_17 : Int32 =>
 lt (v2_4 + (1 : Int32)) (fun x2_18 : Int32 =>
 L_X0_tellings_4 S k n x1_17 x2_18)))))
set_option maxRecDepth 100000 in
def F_X0_tellings (S : zSt) : Option Int32 :=
 lt (0 : Int32) (fun x1_1 : Int32 =>
 lt (0 : Int32) (fun x2_3 : Int32 =>
 L_X0_tellings_4 S (fun (w1_4 : Int32) =>
 some w1_4) 1000 x1_1 x2_3))
set_option maxRecDepth 100000 in
def F_X0_isFriend (S : zSt) (a1 : Int32) (a2 : Int32) : Option Int32 :=
 ibd a1 8 (if (((((zA S 21 a1.toNatClampNeg)).toUInt32 >>> ((a2).toUInt32 &&& Int32.toUInt32 31)).toInt32) &&& (1 : Int32)) = 0 then (some (0 : Int32)) else
 (some (1 : Int32)))
set_option maxRecDepth 100000 in
def L_X0_friendsOfHers_4 (S : zSt) (a1 : Int32) (k : Int32 → Option Int32) : Nat → Int32 → Int32 → Option Int32
  | 0, _, _ => none
  | n + 1, v2_4, v3_4 =>
    (if (8 : Int32) ≤ v3_4 then (k v2_4) else
 ((F_X0_isFriend S a1 v3_4).bind (fun r13 : Int32 =>
 if r13 = 0 then (lt (v3_4 + (1 : Int32)) (fun x3_27 : Int32 =>
 L_X0_friendsOfHers_4 S a1 k n v2_4 x3_27)) else
 ((F_X0_friendsOf S v3_4).bind (fun r22 : Int32 =>
 lt (v2_4 + r22) (fun x2_26 : Int32 =>
 lt (v3_4 + (1 : Int32)) (fun x3_27 : Int32 =>
 L_X0_friendsOfHers_4 S a1 k n x2_26 x3_27)))))))
set_option maxRecDepth 100000 in
def F_X0_friendsOfHers (S : zSt) (a1 : Int32) : Option Int32 :=
 lt (0 : Int32) (fun x2_1 : Int32 =>
 lt (0 : Int32) (fun x3_3 : Int32 =>
 L_X0_friendsOfHers_4 S a1 (fun (w2_4 : Int32) =>
 some w2_4) 1000 x2_1 x3_3))
set_option maxRecDepth 100000 in
def L_X0_friendsOfFriends_4 (S : zSt) (k : Int32 → Option Int32) : Nat → Int32 → Int32 → Option Int32
  | 0, _, _ => none
  | n + 1, v1_4, v2_4 =>
    (if (8 : Int32) ≤ v2_4 then (k v1_4) else
 ((F_X0_friendsOfHers S v2_4).bind (fun r13 : Int32 =>
 lt (v1_4 + r13) (fun x1_17 : Int32 =>
 lt (v2_4 + (1 : Int32)) (fun x2_18 : Int32 =>
 L_X0_friendsOfFriends_4 S k n x1_17 x2_18)))))
set_option maxRecDepth 100000 in
def F_X0_friendsOfFriends (S : zSt) : Option Int32 :=
 lt (0 : Int32) (fun x1_1 : Int32 =>
 lt (0 : Int32) (fun x2_3 : Int32 =>
 L_X0_friendsOfFriends_4 S (fun (w1_4 : Int32) =>
 some w1_4) 1000 x1_1 x2_3))
set_option maxRecDepth 100000 in
def L_X0_pickedParts_16 (S : zSt) (a1 : Int32) (k : Int32 → Option Int32) : Nat → Int32 → Int32 → Option Int32
  | 0, _, _ => none
  | n + 1, v2_16, v3_16 =>
    (if (8 : Int32) ≤ v3_16 then (k v2_16) else
 ((F_X0_isFriend S a1 v3_16).bind (fun r25 : Int32 =>
 if r25 = 0 then (lt (v3_16 + (1 : Int32)) (fun x3_51 : Int32 =>
 L_X0_pickedParts_16 S a1 k n v2_16 x3_51)) else
 ((F_X0_friendsOf S v3_16).bind (fun r33 : Int32 =>
 if r33 ≤ 0 then (lt (v3_16 + (1 : Int32)) (fun x3_51 : Int32 =>
 L_X0_pickedParts_16 S a1 k n v2_16 x3_51)) else
 ((F_X0_friendsOf S v3_16).bind (fun r45 : Int32 =>
 nz r45 (lt (v2_16 + ((420 : Int32) / r45)) (fun x2_50 : Int32 =>
 lt (v3_16 + (1 : Int32)) (fun x3_51 : Int32 =>
 L_X0_pickedParts_16 S a1 k n x2_50 x3_51))))))))))
set_option maxRecDepth 100000 in
def F_X0_pickedParts (S : zSt) (a1 : Int32) : Option Int32 :=
 (F_X0_friendsOf S a1).bind (fun r2 : Int32 =>
 if r2 = 0 then (some (420 : Int32)) else
 (lt (0 : Int32) (fun x2_13 : Int32 =>
 lt (0 : Int32) (fun x3_15 : Int32 =>
 L_X0_pickedParts_16 S a1 (fun (w2_16 : Int32) =>
 some w2_16) 1000 x2_13 x3_15))))
set_option maxRecDepth 100000 in
def L_X0_friendsOfPicked_4 (S : zSt) (k : Int32 → Option Int32) : Nat → Int32 → Int32 → Option Int32
  | 0, _, _ => none
  | n + 1, v1_4, v2_4 =>
    (if (8 : Int32) ≤ v2_4 then (k v1_4) else
 ((F_X0_pickedParts S v2_4).bind (fun r13 : Int32 =>
 (F_X0_friendsOf S v2_4).bind (fun r18 : Int32 =>
 lt (v1_4 + (r13 * r18)) (fun x1_23 : Int32 =>
 lt (v2_4 + (1 : Int32)) (fun x2_24 : Int32 =>
 L_X0_friendsOfPicked_4 S k n x1_23 x2_24))))))
set_option maxRecDepth 100000 in
def F_X0_friendsOfPicked (S : zSt) : Option Int32 :=
 lt (0 : Int32) (fun x1_1 : Int32 =>
 lt (0 : Int32) (fun x2_3 : Int32 =>
 L_X0_friendsOfPicked_4 S (fun (w1_4 : Int32) =>
 some w1_4) 1000 x1_1 x2_3))
set_option maxRecDepth 100000 in
def L_X0_withFewer_4 (S : zSt) (k : Int32 → Option Int32) : Nat → Int32 → Int32 → Option Int32
  | 0, _, _ => none
  | n + 1, v1_4, v2_4 =>
    (if (8 : Int32) ≤ v2_4 then (k v1_4) else
 ((F_X0_friendsOf S v2_4).bind (fun r12 : Int32 =>
 (F_X0_friendsOf S v2_4).bind (fun r17 : Int32 =>
 (F_X0_friendsOfHers S v2_4).bind (fun r23 : Int32 =>
 if r23 ≤ (r12 * r17) then (lt (v2_4 + (1 : Int32)) (fun x2_35 : Int32 =>
 L_X0_withFewer_4 S k n v1_4 x2_35)) else
 (lt (v1_4 ||| ((1 : Int32) <<< (v2_4 &&& 31))) (fun x1_34 : Int32 =>
 lt (v2_4 + (1 : Int32)) (fun x2_35 : Int32 =>
 L_X0_withFewer_4 S k n x1_34 x2_35))))))))
set_option maxRecDepth 100000 in
def F_X0_withFewer (S : zSt) : Option Int32 :=
 lt (0 : Int32) (fun x1_1 : Int32 =>
 lt (0 : Int32) (fun x2_3 : Int32 =>
 L_X0_withFewer_4 S (fun (w1_4 : Int32) =>
 some w1_4) 1000 x1_1 x2_3))
set_option maxRecDepth 100000 in
def L_X0_friendshipsOf_4 (S : zSt) (a1 : Int32) (k : Int32 → Option Int32) : Nat → Int32 → Int32 → Option Int32
  | 0, _, _ => none
  | n + 1, v2_4, v3_4 =>
    (if (8 : Int32) ≤ v3_4 then (k v2_4) else
 (if ((((a1).toUInt32 >>> ((v3_4).toUInt32 &&& Int32.toUInt32 31)).toInt32) &&& (1 : Int32)) = 0 then (lt (v3_4 + (1 : Int32)) (fun x3_40 : Int32 =>
 L_X0_friendshipsOf_4 S a1 k n v2_4 x3_40)) else
 ((F_X0_friendsOf S v3_4).bind (fun r22 : Int32 =>
 ibd v3_4 8 ((F_J6_bitCount_0f7a4 ((zA S 21 v3_4.toNatClampNeg) &&& a1)).bind (fun r34 : Int32 =>
 lt (v2_4 + (((2 : Int32) * r22) - r34)) (fun x2_39 : Int32 =>
 lt (v3_4 + (1 : Int32)) (fun x3_40 : Int32 =>
 L_X0_friendshipsOf_4 S a1 k n x2_39 x3_40))))))))
set_option maxRecDepth 100000 in
def F_X0_friendshipsOf (S : zSt) (a1 : Int32) : Option Int32 :=
 lt (0 : Int32) (fun x2_1 : Int32 =>
 lt (0 : Int32) (fun x3_3 : Int32 =>
 L_X0_friendshipsOf_4 S a1 (fun (w2_4 : Int32) =>
 nz (2 : Int32) (some (w2_4 / (2 : Int32)))) 1000 x2_1 x3_3))
set_option maxRecDepth 100000 in
def L_X0_bestGroup_7 (S : zSt) (a1 : Int32) (k : Int32 → Option Int32) : Nat → Int32 → Int32 → Int32 → Option Int32
  | 0, _, _, _ => none
  | n + 1, v2_7, v3_7, v4_7 =>
    (if (256 : Int32) ≤ v4_7 then (k v2_7) else
 ((F_J6_bitCount_0f7a4 v4_7).bind (fun r17 : Int32 =>
 if r17 = a1 then ((F_X0_friendshipsOf S v4_7).bind (fun r27 : Int32 =>
 if r27 ≤ v3_7 then (lt (v4_7 + (1 : Int32)) (fun x4_44 : Int32 =>
 L_X0_bestGroup_7 S a1 k n v2_7 v3_7 x4_44)) else
 (lt v4_7 (fun x2_36 : Int32 =>
 (F_X0_friendshipsOf S v4_7).bind (fun r40 : Int32 =>
 lt r40 (fun x3_43 : Int32 =>
 lt (v4_7 + (1 : Int32)) (fun x4_44 : Int32 =>
 L_X0_bestGroup_7 S a1 k n x2_36 x3_43 x4_44))))))) else
 (lt (v4_7 + (1 : Int32)) (fun x4_44 : Int32 =>
 L_X0_bestGroup_7 S a1 k n v2_7 v3_7 x4_44)))))
set_option maxRecDepth 100000 in
def F_X0_bestGroup (S : zSt) (a1 : Int32) : Option Int32 :=
 lt (0 : Int32) (fun x2_1 : Int32 =>
 lt (-1 : Int32) (fun x3_3 : Int32 =>
 lt (1 : Int32) (fun x4_5 : Int32 =>
 L_X0_bestGroup_7 S a1 (fun (w2_7 : Int32) =>
 some w2_7) 1000 x2_1 x3_3 x4_5)))
set_option maxRecDepth 100000 in
def F_X1_setFamilies (S : zSt) (a1 : Int32) (a2 : Int32) (a3 : Int32) : Option (Int32 × zSt) :=
 ibd a1 4 (ibd a2 9 (lt (zA S (38 + a1.toNatClampNeg) a2.toNatClampNeg) (fun x4_8 : Int32 =>
 ibd a1 4 (ibd a2 9 (lt (sA S (38 + a1.toNatClampNeg) (upd (zA S (38 + a1.toNatClampNeg)) a2.toNatClampNeg a3)) (fun S18 : zSt =>
 some (x4_8, S18)))))))
set_option maxRecDepth 100000 in
def L_X1_childrenOf_4 (S : zSt) (a1 : Int32) (k : Int32 → Option Int32) : Nat → Int32 → Int32 → Option Int32
  | 0, _, _ => none
  | n + 1, v2_4, v3_4 =>
    (if (8 : Int32) < v3_4 then (k v2_4) else
 (ibd a1 4 (ibd v3_4 9 (lt (v2_4 + (v3_4 * (zA S (38 + a1.toNatClampNeg) v3_4.toNatClampNeg))) (fun x2_22 : Int32 =>
 lt (v3_4 + (1 : Int32)) (fun x3_23 : Int32 =>
 L_X1_childrenOf_4 S a1 k n x2_22 x3_23))))))
set_option maxRecDepth 100000 in
def F_X1_childrenOf (S : zSt) (a1 : Int32) : Option Int32 :=
 lt (0 : Int32) (fun x2_1 : Int32 =>
 lt (1 : Int32) (fun x3_3 : Int32 =>
 L_X1_childrenOf_4 S a1 (fun (w2_4 : Int32) =>
 some w2_4) 1000 x2_1 x3_3))
set_option maxRecDepth 100000 in
def F_X7_counts (S : zSt) (a1 : Int32) : Option Int32 :=
 ibd a1 40 (if (zI S 6) < (zA S 16 a1.toNatClampNeg) then (some (0 : Int32)) else
 (ibd a1 40 (if (zA S 17 a1.toNatClampNeg) ≤ (zI S 6) then (some (0 : Int32)) else
 (some (1 : Int32)))))
set_option maxRecDepth 100000 in
def L_X7_counting_4 (S : zSt) (k : Int32 → Option Int32) : Nat → Int32 → Int32 → Option Int32
  | 0, _, _ => none
  | n + 1, v1_4, v2_4 =>
    (if (zI S 4) ≤ v2_4 then (k v1_4) else
 ((F_X7_counts S v2_4).bind (fun r14 : Int32 =>
 if r14 = 0 then (lt (v2_4 + (1 : Int32)) (fun x2_23 : Int32 =>
 L_X7_counting_4 S k n v1_4 x2_23)) else
 (lt (v1_4 + (1 : Int32)) (fun x1_20 : Int32 =>
 lt (v2_4 + (1 : Int32)) (fun x2_23 : Int32 =>
 L_X7_counting_4 S k n x1_20 x2_23))))))
set_option maxRecDepth 100000 in
def F_X7_counting (S : zSt) : Option Int32 :=
 lt (0 : Int32) (fun x1_1 : Int32 =>
 lt (0 : Int32) (fun x2_3 : Int32 =>
 L_X7_counting_4 S (fun (w1_4 : Int32) =>
 some w1_4) 1000 x1_1 x2_3))
set_option maxRecDepth 100000 in
def F_X1_hasFewer (S : zSt) (a1 : Int32) : Option Int32 :=
 (F_X1_childrenOf S a1).bind (fun r2 : Int32 =>
 (F_X7_counting S).bind (fun r6 : Int32 =>
 if r6 ≤ r2 then (some (0 : Int32)) else
 (some (1 : Int32))))
set_option maxRecDepth 100000 in
def L_X1_choose_12 (a0 : Int32) (a1 : Int32) (k : Int64 → Option Int64) : Nat → Int64 → Int32 → Option Int64
  | 0, _, _ => none
  | n + 1, v2_12, v4_12 =>
    (if a1 < v4_12 then (k v2_12) else
 (nzl (v4_12.toInt64) (lt ((v2_12 * (((a0 - a1) + v4_12).toInt64)) / (v4_12.toInt64)) (fun x2_31 : Int64 =>
 lt (v4_12 + (1 : Int32)) (fun x4_32 : Int32 =>
 L_X1_choose_12 a0 a1 k n x2_31 x4_32)))))
set_option maxRecDepth 100000 in
def F_X1_choose (a0 : Int32) (a1 : Int32) : Option Int64 :=
 if a1 ≤ a0 then (lt (1 : Int64) (fun x2_8 : Int64 =>
 lt (1 : Int32) (fun x4_10 : Int32 =>
 L_X1_choose_12 a0 a1 (fun (w2_12 : Int64) =>
 some w2_12) 1000 x2_8 x4_10))) else
 (some (0 : Int64))
set_option maxRecDepth 100000 in
def F_X1_choices (S : zSt) (a1 : Int32) : Option Int64 :=
 (F_X1_childrenOf S a1).bind (fun r2 : Int32 =>
 (F_X7_counting S).bind (fun r6 : Int32 =>
 (F_X1_choose r2 r6).bind (fun r9 : Int64 =>
 some r9)))
set_option maxRecDepth 100000 in
def L_X7_saying_4 (S : zSt) (a1 : Int32) (k : Int32 → Option Int32) : Nat → Int32 → Int32 → Option Int32
  | 0, _, _ => none
  | n + 1, v2_4, v3_4 =>
    (if (zI S 4) ≤ v3_4 then (k v2_4) else
 (ibd v3_4 40 (if (zA S 15 v3_4.toNatClampNeg) = a1 then ((F_X7_counts S v3_4).bind (fun r24 : Int32 =>
 if r24 = 0 then (lt (v3_4 + (1 : Int32)) (fun x3_33 : Int32 =>
 L_X7_saying_4 S a1 k n v2_4 x3_33)) else
 (lt (v2_4 + (1 : Int32)) (fun x2_30 : Int32 =>
 lt (v3_4 + (1 : Int32)) (fun x3_33 : Int32 =>
 L_X7_saying_4 S a1 k n x2_30 x3_33))))) else
 (lt (v3_4 + (1 : Int32)) (fun x3_33 : Int32 =>
 L_X7_saying_4 S a1 k n v2_4 x3_33)))))
set_option maxRecDepth 100000 in
def F_X7_saying (S : zSt) (a1 : Int32) : Option Int32 :=
 lt (0 : Int32) (fun x2_1 : Int32 =>
 lt (0 : Int32) (fun x3_3 : Int32 =>
 L_X7_saying_4 S a1 (fun (w2_4 : Int32) =>
 some w2_4) 1000 x2_1 x3_3))
set_option maxRecDepth 100000 in
def L_X1_choicesThatFit_5 (S : zSt) (a1 : Int32) (k : Int64 → Option Int64) : Nat → Int64 → Int32 → Option Int64
  | 0, _, _ => none
  | n + 1, v3_5, v5_5 =>
    (if (8 : Int32) < v5_5 then (k v3_5) else
 (ibd a1 4 (ibd v5_5 9 ((F_X7_saying S v5_5).bind (fun r28 : Int32 =>
 (F_X1_choose (v5_5 * (zA S (38 + a1.toNatClampNeg) v5_5.toNatClampNeg)) r28).bind (fun r31 : Int64 =>
 lt (v3_5 * r31) (fun x3_35 : Int64 =>
 lt (v5_5 + (1 : Int32)) (fun x5_36 : Int32 =>
 L_X1_choicesThatFit_5 S a1 k n x3_35 x5_36))))))))
set_option maxRecDepth 100000 in
def F_X1_choicesThatFit (S : zSt) (a1 : Int32) : Option Int64 :=
 lt (1 : Int64) (fun x3_1 : Int64 =>
 lt (1 : Int32) (fun x5_3 : Int32 =>
 L_X1_choicesThatFit_5 S a1 (fun (w3_5 : Int64) =>
 some w3_5) 1000 x3_1 x5_3))
set_option maxRecDepth 100000 in
def L_X2_isMore_20  (k : Int64 → Int64 → Int32 → Option Int32) : Nat → Int64 → Int64 → Int64 → Int64 → Int32 → Int32 → Option Int32
  | 0, _, _, _, _, _, _ => none
  | n + 1, v8_20, v10_20, v12_20, v14_20, v16_20, v17_20 =>
    (if (200 : Int32) ≤ v17_20 then (k v10_20 v14_20 v16_20) else
 (if (lg_cmp v10_20 (0 : Int64)) ≤ 0 then (k v10_20 v14_20 v16_20) else
 (if (lg_cmp v14_20 (0 : Int64)) ≤ 0 then (k v10_20 v14_20 v16_20) else
 (nzl v10_20 (lt (v8_20 / v10_20) (fun x18_47 : Int64 =>
 nzl v14_20 (lt (v12_20 / v14_20) (fun x20_54 : Int64 =>
 if (lg_cmp x18_47 x20_54) = 0 then (nzl v10_20 (lt (v8_20 - v8_20 / v10_20 * v10_20) (fun x22_93 : Int64 =>
 nzl v14_20 (lt (v12_20 - v12_20 / v14_20 * v14_20) (fun x24_100 : Int64 =>
 lt v10_20 (fun x8_104 : Int64 =>
 lt x22_93 (fun x10_108 : Int64 =>
 lt v14_20 (fun x12_112 : Int64 =>
 lt x24_100 (fun x14_116 : Int64 =>
 if v16_20 = 0 then (lt (1 : Int32) (fun x16_128 : Int32 =>
 lt (v17_20 + (1 : Int32)) (fun x17_130 : Int32 =>
 L_X2_isMore_20 k n x8_104 x10_108 x12_112 x14_116 x16_128 x17_130))) else
 (lt (0 : Int32) (fun x16_128 : Int32 =>
 lt (v17_20 + (1 : Int32)) (fun x17_130 : Int32 =>
 L_X2_isMore_20 k n x8_104 x10_108 x12_112 x14_116 x16_128 x17_130)))))))))))) else
 (jn (fun (y0_77 : Int32) =>
 if y0_77 = v16_20 then (some (0 : Int32)) else
 (some (1 : Int32))) (fun j77 : Int32 → Option Int32 =>
 if (lg_cmp x18_47 x20_54) ≤ 0 then (j77 (0 : Int32)) else
 (j77 (1 : Int32))))))))))))
set_option maxRecDepth 100000 in
def F_X2_isMore (a0 : Int64) (a2 : Int64) (a4 : Int64) (a6 : Int64) : Option Int32 :=
 lt a0 (fun x8_1 : Int64 =>
 lt a2 (fun x10_4 : Int64 =>
 lt a4 (fun x12_8 : Int64 =>
 lt a6 (fun x14_12 : Int64 =>
 lt (0 : Int32) (fun x16_15 : Int32 =>
 lt (0 : Int32) (fun x17_18 : Int32 =>
 L_X2_isMore_20 (fun (w10_20 : Int64) (w14_20 : Int64) (w16_20 : Int32) =>
 if (lg_cmp w10_20 w14_20) = 0 then (some (0 : Int32)) else
 (jn (fun (y0_158 : Int32) =>
 if y0_158 = w16_20 then (some (0 : Int32)) else
 (some (1 : Int32))) (fun j158 : Int32 → Option Int32 =>
 if (lg_cmp w10_20 (0 : Int64)) = 0 then (j158 (1 : Int32)) else
 (j158 (0 : Int32))))) 1000 x8_1 x10_4 x12_8 x14_12 x16_15 x17_18))))))
set_option maxRecDepth 100000 in
def L_X1_likeliestTown_10 (S : zSt) (k : Int32 → Option Int32) : Nat → Int32 → Int64 → Int64 → Int32 → Option Int32
  | 0, _, _, _, _ => none
  | n + 1, v2_10, v3_10, v5_10, v7_10 =>
    (if (4 : Int32) ≤ v7_10 then (k v2_10) else
 ((F_X1_hasFewer S v7_10).bind (fun r20 : Int32 =>
 if r20 = 0 then ((F_X1_choicesThatFit S v7_10).bind (fun r33 : Int64 =>
 lt r33 (fun x8_36 : Int64 =>
 (F_X1_choices S v7_10).bind (fun r42 : Int64 =>
 lt r42 (fun x10_45 : Int64 =>
 (F_X2_isMore x8_36 x10_45 v3_10 v5_10).bind (fun r54 : Int32 =>
 if r54 = 0 then (lt (v7_10 + (1 : Int32)) (fun x7_70 : Int32 =>
 L_X1_likeliestTown_10 S k n v2_10 v3_10 v5_10 x7_70)) else
 (lt v7_10 (fun x2_62 : Int32 =>
 lt x8_36 (fun x3_65 : Int64 =>
 lt x10_45 (fun x5_68 : Int64 =>
 lt (v7_10 + (1 : Int32)) (fun x7_70 : Int32 =>
 L_X1_likeliestTown_10 S k n x2_62 x3_65 x5_68 x7_70))))))))))) else
 (lt (v7_10 + (1 : Int32)) (fun x7_70 : Int32 =>
 L_X1_likeliestTown_10 S k n v2_10 v3_10 v5_10 x7_70)))))
set_option maxRecDepth 100000 in
def F_X1_likeliestTown (S : zSt) : Option Int32 :=
 lt (-1 : Int32) (fun x2_1 : Int32 =>
 lt (0 : Int64) (fun x3_3 : Int64 =>
 lt (1 : Int64) (fun x5_5 : Int64 =>
 lt (0 : Int32) (fun x7_8 : Int32 =>
 L_X1_likeliestTown_10 S (fun (w2_10 : Int32) =>
 some w2_10) 1000 x2_1 x3_3 x5_5 x7_8))))
set_option maxRecDepth 100000 in
def F_X2_refused (a0 : Int32) : Option Int64 :=
 some ((-9223372036854775808 : Int64) - (a0.toInt64))
set_option maxRecDepth 100000 in
def L_X2_commonOf_9  (k : Int64 → Option Int64) : Nat → Int64 → Int64 → Int32 → Option Int64
  | 0, _, _, _ => none
  | n + 1, v4_9, v6_9, v8_9 =>
    (if (200 : Int32) ≤ v8_9 then (k v4_9) else
 (if (lg_cmp v6_9 (0 : Int64)) = 0 then (k v4_9) else
 (nzl v6_9 (lt (v4_9 - v4_9 / v6_9 * v6_9) (fun x9_29 : Int64 =>
 lt v6_9 (fun x4_33 : Int64 =>
 lt x9_29 (fun x6_37 : Int64 =>
 lt (v8_9 + (1 : Int32)) (fun x8_39 : Int32 =>
 L_X2_commonOf_9 k n x4_33 x6_37 x8_39))))))))
set_option maxRecDepth 100000 in
def F_X2_commonOf (a0 : Int64) (a2 : Int64) : Option Int64 :=
 lt a0 (fun x4_1 : Int64 =>
 lt a2 (fun x6_4 : Int64 =>
 lt (0 : Int32) (fun x8_7 : Int32 =>
 L_X2_commonOf_9 (fun (w4_9 : Int64) =>
 some w4_9) 1000 x4_1 x6_4 x8_7)))
set_option maxRecDepth 100000 in
def F_X2_told (a0 : Int64) (a2 : Int64) (a4 : Int32) : Option Int64 :=
 (F_X2_commonOf a0 a2).bind (fun r2 : Int64 =>
 lt r2 (fun x5_5 : Int64 =>
 jn ((F_X2_refused (-3 : Int32)).bind (fun r22 : Int64 =>
 some r22)) (fun j20 : Option Int64 =>
 if (lg_cmp a2 (0 : Int64)) ≤ 0 then (j20) else
 (if 0 < (lg_cmp x5_5 (0 : Int64)) then (if a4 = 0 then (nzl x5_5 (some (a0 / x5_5))) else
 (nzl x5_5 (some (a2 / x5_5)))) else
 (j20)))))
set_option maxRecDepth 100000 in
def F_X6_isIn (a0 : Int64) (a2 : Int32) : Option Int32 :=
 if (lg_cmp ((((a0).toUInt64 >>> ((a2).toInt64.toUInt64 &&& Int64.toUInt64 63)).toInt64) &&& (1 : Int64)) (0 : Int64)) = 0 then (some (0 : Int32)) else
 (some (1 : Int32))
set_option maxRecDepth 100000 in
def L_X3_takeBuses_7 (a1 : Int64) (k : zSt → Option zSt) : Nat → zSt → Int32 → Option zSt
  | 0, _, _ => none
  | n + 1, S7, v3_7 =>
    (if (60 : Int32) ≤ v3_7 then (k S7) else
 (if (12 : Int32) ≤ (zI S7 2) then (k S7) else
 ((F_X6_isIn a1 v3_7).bind (fun r24 : Int32 =>
 if r24 = 0 then (lt (v3_7 + (1 : Int32)) (fun x3_50 : Int32 =>
 L_X3_takeBuses_7 a1 k n S7 x3_50)) else
 (ibd (zI S7 2) 12 (lt (sA S7 12 (upd (zA S7 12) (zI S7 2).toNatClampNeg v3_7)) (fun S39 : zSt =>
 lt (sI S39 2 ((zI S39 2) + (1 : Int32))) (fun S47 : zSt =>
 lt (v3_7 + (1 : Int32)) (fun x3_50 : Int32 =>
 L_X3_takeBuses_7 a1 k n S47 x3_50)))))))))
set_option maxRecDepth 100000 in
def F_X3_takeBuses (S : zSt) (a1 : Int64) : Option zSt :=
 lt (sI S 2 (0 : Int32)) (fun S2 : zSt =>
 lt (0 : Int32) (fun x3_6 : Int32 =>
 L_X3_takeBuses_7 a1 (fun (S7x_7 : zSt) =>
 some S7x_7) 1000 S2 x3_6))
set_option maxRecDepth 100000 in
def F_X6_waitsIn (a0 : Int32) : Option Int32 :=
 nz (2 : Int32) (some ((a0 * (a0 - (1 : Int32))) / (2 : Int32)))
set_option maxRecDepth 100000 in
def F_X3_through (S : zSt) (a1 : Int32) (a2 : Int32) (a3 : Int32) : Option Int32 :=
 ibd a2 12 (lt ((zA S 12 a2.toNatClampNeg) + a3) (fun x4_8 : Int32 =>
 if x4_8 ≤ a1 then (some (1000000 : Int32)) else
 ((F_X6_waitsIn (x4_8 - a1)).bind (fun r20 : Int32 =>
 ibd a2 12 (ibd a3 6 (some (r20 + (zA S (26 + a2.toNatClampNeg) a3.toNatClampNeg))))))))
abbrev rm_X0_setFriends : Room := { frames := 0, cells := 0, slots := 0, locals := 0 }
theorem y_X0_setFriends : yX0_setFriends.cls = RX0 ∧ yX0_setFriends.cls ≠ "java/lang/invoke/MethodHandle" ∧ yX0_setFriends.cls ≠ "java/lang/invoke/VarHandle" ∧ (parseMethodDescriptor yX0_setFriends.desc).map (fun d => d.parameters.length) = some 3 := by decide +kernel
theorem m_X0_setFriends_f11 : Cond.fieldLink RX0 11 "LongestMet$Circle" "hers" "[I" ∈ wsX0_setFriends := List.mem_cons_of_mem _ (List.mem_append_left _ (List.mem_of_getElem? (i := 0) rfl))
theorem m_X0_setFriends_inX0 : ∀ x ∈ u_ws RX0 TX0 1, x ∈ wsX0_setFriends := fun _ h => List.mem_cons_of_mem _ (List.mem_append_right _ h)
set_option maxRecDepth 100000 in
set_option maxHeartbeats 4000000 in
theorem x_X0_setFriends {E : zCx} {g : zGx} (B : zGood E (WX g) (zT g) cX0_setFriends RX0 wsX0_setFriends (some .int) rm_X0_setFriends) (hE : E.2.2 = 5) (S : zSt) (a1 : Int32) (a2 : Int32) (a3 : Int32) : Xo E (WX g) eIw S 0 [(0, .ref (g.1 7)), (1, .int a1), (2, .int a2), (3, .int a3)] [] (F_X0_setFriends S a1 a2 a3) := by
  have n4 : 4 < E.2.2 := by rw [hE]; decide
  unfold F_X0_setFriends
  refine r_aload_n B 0 dX0_setFriends_0 rfl rfl ?_
  refine r_get B 7 0 0 (Nat.le_of_ble_eq_true rfl) rfl (cX_7 g _) rfl m_X0_setFriends_inX0 (Nat.le_of_ble_eq_true rfl) m_X0_setFriends_f11 rfl dX0_setFriends_1 ?_
  refine r_iload_n B 1 dX0_setFriends_4 rfl rfl ?_
  refine r_iald B 21 0 (Nat.le_of_ble_eq_true rfl) rfl (cX_21 g _) rfl dX0_setFriends_5 ?_
  refine r_iload_n B 2 dX0_setFriends_6 rfl rfl ?_
  refine r_iushr B dX0_setFriends_7 ?_
  refine r_iconst B (1 : Int32) dX0_setFriends_8 (by decide) ?_
  refine r_iand B dX0_setFriends_9 ?_
  refine r_istore (lv' := fun x4_10 => [(4, .int x4_10), (0, .ref (g.1 7)), (1, .int a1), (2, .int a2), (3, .int a3)]) B dX0_setFriends_10 n4 (fun _ => rfl) (fun x4_10 => ?_)
  refine r_iload B 0 dX0_setFriends_12 rfl ?_
  refine r_iload_n B 4 dX0_setFriends_14 rfl rfl ?_
  refine r_icmp_eq B 42 dX0_setFriends_15 (by decide) (fun _ => ?_) (fun _ => ?_)
  · refine r_iload B 0 dX0_setFriends_42 rfl ?_
    exact r_iret B dX0_setFriends_44 rfl
  · refine r_aload_n B 1 dX0_setFriends_18 rfl rfl ?_
    refine r_get B 7 0 0 (Nat.le_of_ble_eq_true rfl) rfl (cX_7 g _) rfl m_X0_setFriends_inX0 (Nat.le_of_ble_eq_true rfl) m_X0_setFriends_f11 rfl dX0_setFriends_19 ?_
    refine r_iload_n B 2 dX0_setFriends_22 rfl rfl ?_
    refine r_dup2 B rfl rfl dX0_setFriends_23 ?_
    refine r_iald B 21 0 (Nat.le_of_ble_eq_true rfl) rfl (cX_21 g _) rfl dX0_setFriends_24 ?_
    refine r_iconst B (1 : Int32) dX0_setFriends_25 (by decide) ?_
    refine r_iload_n B 3 dX0_setFriends_26 rfl rfl ?_
    refine r_ishl B dX0_setFriends_27 ?_
    refine r_ixor B dX0_setFriends_28 ?_
    refine r_iast B 21 0 (Nat.le_of_ble_eq_true rfl) rfl (cX_21 g _) rfl (uX_21 g _ _) dX0_setFriends_29 (fun S29 => ?_)
    refine r_aload_n B 1 dX0_setFriends_30 rfl rfl ?_
    refine r_get B 7 0 0 (Nat.le_of_ble_eq_true rfl) rfl (cX_7 g _) rfl m_X0_setFriends_inX0 (Nat.le_of_ble_eq_true rfl) m_X0_setFriends_f11 rfl dX0_setFriends_31 ?_
    refine r_iload_n B 3 dX0_setFriends_34 rfl rfl ?_
    refine r_dup2 B rfl rfl dX0_setFriends_35 ?_
    refine r_iald B 21 0 (Nat.le_of_ble_eq_true rfl) rfl (cX_21 g _) rfl dX0_setFriends_36 ?_
    refine r_iconst B (1 : Int32) dX0_setFriends_37 (by decide) ?_
    refine r_iload_n B 2 dX0_setFriends_38 rfl rfl ?_
    refine r_ishl B dX0_setFriends_39 ?_
    refine r_ixor B dX0_setFriends_40 ?_
    refine r_iast B 21 0 (Nat.le_of_ble_eq_true rfl) rfl (cX_21 g _) rfl (uX_21 g _ _) dX0_setFriends_41 (fun S41 => ?_)
    refine r_iload B 0 dX0_setFriends_42 rfl ?_
    exact r_iret B dX0_setFriends_44 rfl
set_option maxRecDepth 20000 in
theorem k_X0_setFriends {l : Launch} {D : va_G} {g : zGx} (hz : zin (WX g)) {S : zSt} {a1 : Int32} {a2 : Int32} {a3 : Int32} {b : (Int32 × zSt)} (h : F_X0_setFriends S a1 a2 a3 = some b) : zMet l D (WX g) (zT g) yX0_setFriends wsX0_setFriends rm_X0_setFriends S [.ref (g.1 7), .int a1, .int a2, .int a3] (eIw b) := zmet_of (by decide +kernel) rfl hz (Nat.le_of_ble_eq_true rfl) rfl (fun E _ _ hE B => x_X0_setFriends B hE S a1 a2 a3) h
abbrev rm_J6_bitCount_0f7a4 : Room := { frames := 0, cells := 0, slots := 0, locals := 0 }
theorem y_J6_bitCount_0f7a4 : yJ6_bitCount_0f7a4.cls ≠ "java/lang/invoke/MethodHandle" ∧ yJ6_bitCount_0f7a4.cls ≠ "java/lang/invoke/VarHandle" ∧ (parseMethodDescriptor yJ6_bitCount_0f7a4.desc).map (fun d => d.parameters.length) = some 1 := by decide +kernel
theorem m_J6_bitCount_0f7a4_c265 : Cond.constant RJ6 265 (1431655765) ∈ wsJ6_bitCount_0f7a4 := List.mem_cons_of_mem _ (List.mem_of_getElem? (i := 0) rfl)
theorem m_J6_bitCount_0f7a4_c266 : Cond.constant RJ6 266 (858993459) ∈ wsJ6_bitCount_0f7a4 := List.mem_cons_of_mem _ (List.mem_of_getElem? (i := 1) rfl)
theorem m_J6_bitCount_0f7a4_c267 : Cond.constant RJ6 267 (252645135) ∈ wsJ6_bitCount_0f7a4 := List.mem_cons_of_mem _ (List.mem_of_getElem? (i := 2) rfl)
set_option maxRecDepth 100000 in
set_option maxHeartbeats 4000000 in
theorem x_J6_bitCount_0f7a4 {E : zCx} {g : zGx} (B : zGood E (WX g) (zT g) cJ6_bitCount_0f7a4 RJ6 wsJ6_bitCount_0f7a4 (some .int) rm_J6_bitCount_0f7a4) (hE : E.2.2 = 1) (S : zSt) (a0 : Int32) : Xo E (WX g) (eI S) S 0 [(0, .int a0)] [] (F_J6_bitCount_0f7a4 a0) := by
  have n0 : 0 < E.2.2 := by rw [hE]; decide
  unfold F_J6_bitCount_0f7a4
  refine r_iload_n B 0 dJ6_bitCount_0f7a4_0 rfl rfl ?_
  refine r_iload_n B 0 dJ6_bitCount_0f7a4_1 rfl rfl ?_
  refine r_iconst B (1 : Int32) dJ6_bitCount_0f7a4_2 (by decide) ?_
  refine r_iushr B dJ6_bitCount_0f7a4_3 ?_
  refine r_ldcw B (1431655765 : Int32) m_J6_bitCount_0f7a4_c265 dJ6_bitCount_0f7a4_4 ?_
  refine r_iand B dJ6_bitCount_0f7a4_7 ?_
  refine r_isub B dJ6_bitCount_0f7a4_8 ?_
  refine r_istore_n (lv' := fun x0_9 => [(0, .int x0_9)]) B dJ6_bitCount_0f7a4_9 rfl n0 (fun _ => rfl) (fun x0_9 => ?_)
  refine r_iload_n B 0 dJ6_bitCount_0f7a4_10 rfl rfl ?_
  refine r_ldcw B (858993459 : Int32) m_J6_bitCount_0f7a4_c266 dJ6_bitCount_0f7a4_11 ?_
  refine r_iand B dJ6_bitCount_0f7a4_14 ?_
  refine r_iload_n B 0 dJ6_bitCount_0f7a4_15 rfl rfl ?_
  refine r_iconst B (2 : Int32) dJ6_bitCount_0f7a4_16 (by decide) ?_
  refine r_iushr B dJ6_bitCount_0f7a4_17 ?_
  refine r_ldcw B (858993459 : Int32) m_J6_bitCount_0f7a4_c266 dJ6_bitCount_0f7a4_18 ?_
  refine r_iand B dJ6_bitCount_0f7a4_21 ?_
  refine r_iadd B dJ6_bitCount_0f7a4_22 ?_
  refine r_istore_n (lv' := fun x0_23 => [(0, .int x0_23)]) B dJ6_bitCount_0f7a4_23 rfl n0 (fun _ => rfl) (fun x0_23 => ?_)
  refine r_iload_n B 0 dJ6_bitCount_0f7a4_24 rfl rfl ?_
  refine r_iload_n B 0 dJ6_bitCount_0f7a4_25 rfl rfl ?_
  refine r_iconst B (4 : Int32) dJ6_bitCount_0f7a4_26 (by decide) ?_
  refine r_iushr B dJ6_bitCount_0f7a4_27 ?_
  refine r_iadd B dJ6_bitCount_0f7a4_28 ?_
  refine r_ldcw B (252645135 : Int32) m_J6_bitCount_0f7a4_c267 dJ6_bitCount_0f7a4_29 ?_
  refine r_iand B dJ6_bitCount_0f7a4_32 ?_
  refine r_istore_n (lv' := fun x0_33 => [(0, .int x0_33)]) B dJ6_bitCount_0f7a4_33 rfl n0 (fun _ => rfl) (fun x0_33 => ?_)
  refine r_iload_n B 0 dJ6_bitCount_0f7a4_34 rfl rfl ?_
  refine r_iload_n B 0 dJ6_bitCount_0f7a4_35 rfl rfl ?_
  refine r_bipush B (8 : Int32) dJ6_bitCount_0f7a4_36 (by decide) ?_
  refine r_iushr B dJ6_bitCount_0f7a4_38 ?_
  refine r_iadd B dJ6_bitCount_0f7a4_39 ?_
  refine r_istore_n (lv' := fun x0_40 => [(0, .int x0_40)]) B dJ6_bitCount_0f7a4_40 rfl n0 (fun _ => rfl) (fun x0_40 => ?_)
  refine r_iload_n B 0 dJ6_bitCount_0f7a4_41 rfl rfl ?_
  refine r_iload_n B 0 dJ6_bitCount_0f7a4_42 rfl rfl ?_
  refine r_bipush B (16 : Int32) dJ6_bitCount_0f7a4_43 (by decide) ?_
  refine r_iushr B dJ6_bitCount_0f7a4_45 ?_
  refine r_iadd B dJ6_bitCount_0f7a4_46 ?_
  refine r_istore_n (lv' := fun x0_47 => [(0, .int x0_47)]) B dJ6_bitCount_0f7a4_47 rfl n0 (fun _ => rfl) (fun x0_47 => ?_)
  refine r_iload_n B 0 dJ6_bitCount_0f7a4_48 rfl rfl ?_
  refine r_bipush B (63 : Int32) dJ6_bitCount_0f7a4_49 (by decide) ?_
  refine r_iand B dJ6_bitCount_0f7a4_51 ?_
  exact r_iret B dJ6_bitCount_0f7a4_52 rfl
set_option maxRecDepth 20000 in
theorem k_J6_bitCount_0f7a4 {l : Launch} {D : va_G} {g : zGx} (hz : zin (WX g)) {S : zSt} {a0 : Int32} {b : Int32} (h : F_J6_bitCount_0f7a4 a0 = some b) : zMet l D (WX g) (zT g) yJ6_bitCount_0f7a4 wsJ6_bitCount_0f7a4 rm_J6_bitCount_0f7a4 S [.int a0] ((eI S) b) := zmet_of (by decide +kernel) rfl hz (Nat.le_of_ble_eq_true rfl) rfl (fun E _ _ hE B => x_J6_bitCount_0f7a4 B hE S a0) h
abbrev rm_X0_friendsOf : Room := { frames := 1, cells := 0, slots := 0, locals := 20 }
theorem y_X0_friendsOf : yX0_friendsOf.cls = RX0 ∧ yX0_friendsOf.cls ≠ "java/lang/invoke/MethodHandle" ∧ yX0_friendsOf.cls ≠ "java/lang/invoke/VarHandle" ∧ (parseMethodDescriptor yX0_friendsOf.desc).map (fun d => d.parameters.length) = some 1 := by decide +kernel
theorem m_X0_friendsOf_f11 : Cond.fieldLink RX0 11 "LongestMet$Circle" "hers" "[I" ∈ wsX0_friendsOf := List.mem_cons_of_mem _ (List.mem_append_left _ (List.mem_of_getElem? (i := 0) rfl))
theorem m_X0_friendsOf_inX0 : ∀ x ∈ u_ws RX0 TX0 1, x ∈ wsX0_friendsOf := fun _ h => List.mem_cons_of_mem _ (List.mem_append_right _ h)
set_option maxRecDepth 100000 in
set_option maxHeartbeats 4000000 in
theorem x_X0_friendsOf {E : zCx} {g : zGx} (B : zGood E (WX g) (zT g) cX0_friendsOf RX0 wsX0_friendsOf (some .int) rm_X0_friendsOf) (hE : E.2.2 = 2) (S : zSt) (a1 : Int32) : Xo E (WX g) (eI S) S 0 [(0, .ref (g.1 7)), (1, .int a1)] [] (F_X0_friendsOf S a1) := by
  unfold F_X0_friendsOf
  refine r_aload_n B 0 dX0_friendsOf_0 rfl rfl ?_
  refine r_get B 7 0 0 (Nat.le_of_ble_eq_true rfl) rfl (cX_7 g _) rfl m_X0_friendsOf_inX0 (Nat.le_of_ble_eq_true rfl) m_X0_friendsOf_f11 rfl dX0_friendsOf_1 ?_
  refine r_iload_n B 1 dX0_friendsOf_4 rfl rfl ?_
  refine r_iald B 21 0 (Nat.le_of_ble_eq_true rfl) rfl (cX_21 g _) rfl dX0_friendsOf_5 ?_
  refine r_cI (zrunS (As := [.int (zA S 21 a1.toNatClampNeg)]) (rest := []) B 1 (fun b hb => k_J6_bitCount_0f7a4 B.2.2.1 hb) gX0_friendsOf_J6_bitCount_0f7a4 rfl rfl rfl y_J6_bitCount_0f7a4 ⟨Nat.le_of_ble_eq_true rfl, Nat.le_of_ble_eq_true rfl⟩ rfl rfl (Nat.le_of_ble_eq_true rfl) dX0_friendsOf_6) (fun r6 => ?_)
  exact r_iret B dX0_friendsOf_9 rfl
set_option maxRecDepth 20000 in
theorem k_X0_friendsOf {l : Launch} {D : va_G} {g : zGx} (hz : zin (WX g)) {S : zSt} {a1 : Int32} {b : Int32} (h : F_X0_friendsOf S a1 = some b) : zMet l D (WX g) (zT g) yX0_friendsOf wsX0_friendsOf rm_X0_friendsOf S [.ref (g.1 7), .int a1] ((eI S) b) := zmet_of (by decide +kernel) rfl hz (Nat.le_of_ble_eq_true rfl) rfl (fun E _ _ hE B => x_X0_friendsOf B hE S a1) h
abbrev rm_X0_tellings : Room := { frames := 2, cells := 0, slots := 0, locals := 41 }
theorem y_X0_tellings : yX0_tellings.cls = RX0 ∧ yX0_tellings.cls ≠ "java/lang/invoke/MethodHandle" ∧ yX0_tellings.cls ≠ "java/lang/invoke/VarHandle" ∧ (parseMethodDescriptor yX0_tellings.desc).map (fun d => d.parameters.length) = some 0 := by decide +kernel
set_option maxRecDepth 100000 in
set_option maxHeartbeats 4000000 in
theorem xL_X0_tellings_4 {E : zCx} {g : zGx} (B : zGood E (WX g) (zT g) cX0_tellings RX0 wsX0_tellings (some .int) rm_X0_tellings) (hE : E.2.2 = 3) (S : zSt) (k : Int32 → Option Int32) (hk : ∀ (w1 : Int32), Xo E (WX g) (eI S) S 24 [(1, .int w1)] [] (k w1)) : ∀ (n : Nat) (v1_4 : Int32) (v2_4 : Int32), Xo E (WX g) (eI S) S 4 [(0, .ref (g.1 7)), (1, .int v1_4), (2, .int v2_4)] [] (L_X0_tellings_4 S k n v1_4 v2_4) := by
  have n1 : 1 < E.2.2 := by rw [hE]; decide
  have n2 : 2 < E.2.2 := by rw [hE]; decide
  intro n
  induction n with
  | zero =>
    intro _ _
    exact r_none
  | succ n ih =>
    intro v1_4 v2_4
    rw [L_X0_tellings_4]
    refine r_iload_n B 2 dX0_tellings_4 rfl rfl ?_
    refine r_bipush B (8 : Int32) dX0_tellings_5 (by decide) ?_
    refine r_icmp_ge B 24 dX0_tellings_7 (by decide) (fun _ => ?_) (fun _ => ?_)
    · refine r_sub [1] rfl ?_
      exact hk v1_4
    · refine r_iload_n B 1 dX0_tellings_10 rfl rfl ?_
      refine r_aload_n B 0 dX0_tellings_11 rfl rfl ?_
      refine r_iload_n B 2 dX0_tellings_12 rfl rfl ?_
      refine r_cI (zrunV (As := [.int v2_4]) (rest := [.int v1_4]) B 1 7 (fun b hb => k_X0_friendsOf B.2.2.1 hb) gX0_tellings_X0_friendsOf rfl rfl rfl y_X0_friendsOf ⟨Nat.le_of_ble_eq_true rfl, Nat.le_of_ble_eq_true rfl⟩ (Nat.le_of_ble_eq_true rfl) rfl (cX_7 g _) rfl rfl rfl (Nat.le_of_ble_eq_true rfl) dX0_tellings_13) (fun r13 => ?_)
      refine r_iadd B dX0_tellings_16 ?_
      refine r_istore_n (lv' := fun x1_17 => [(1, .int x1_17), (0, .ref (g.1 7)), (2, .int v2_4)]) B dX0_tellings_17 rfl n1 (fun _ => rfl) (fun x1_17 => ?_)
      refine r_iinc (lv' := fun x2_18 => [(2, .int x2_18), (1, .int x1_17), (0, .ref (g.1 7))]) B 2 (1 : Int32) dX0_tellings_18 rfl (by decide) n2 (fun _ => rfl) (fun x2_18 => ?_)
      refine r_goto B 4 dX0_tellings_21 (by decide) ?_
      refine r_sub [2, 1, 0] rfl ?_
      exact ih x1_17 x2_18
set_option maxRecDepth 100000 in
set_option maxHeartbeats 4000000 in
theorem x_X0_tellings {E : zCx} {g : zGx} (B : zGood E (WX g) (zT g) cX0_tellings RX0 wsX0_tellings (some .int) rm_X0_tellings) (hE : E.2.2 = 3) (S : zSt) : Xo E (WX g) (eI S) S 0 [(0, .ref (g.1 7))] [] (F_X0_tellings S) := by
  have n1 : 1 < E.2.2 := by rw [hE]; decide
  have n2 : 2 < E.2.2 := by rw [hE]; decide
  unfold F_X0_tellings
  refine r_iconst B (0 : Int32) dX0_tellings_0 (by decide) ?_
  refine r_istore_n (lv' := fun x1_1 => [(1, .int x1_1), (0, .ref (g.1 7))]) B dX0_tellings_1 rfl n1 (fun _ => rfl) (fun x1_1 => ?_)
  refine r_iconst B (0 : Int32) dX0_tellings_2 (by decide) ?_
  refine r_istore_n (lv' := fun x2_3 => [(2, .int x2_3), (1, .int x1_1), (0, .ref (g.1 7))]) B dX0_tellings_3 rfl n2 (fun _ => rfl) (fun x2_3 => ?_)
  refine r_sub [2, 1, 0] rfl ?_
  refine xL_X0_tellings_4 B hE S _ ?_ 1000 x1_1 x2_3
  intro w1_4
  refine r_iload_n B 0 dX0_tellings_24 rfl rfl ?_
  exact r_iret B dX0_tellings_25 rfl
set_option maxRecDepth 20000 in
theorem k_X0_tellings {l : Launch} {D : va_G} {g : zGx} (hz : zin (WX g)) {S : zSt} {b : Int32} (h : F_X0_tellings S = some b) : zMet l D (WX g) (zT g) yX0_tellings wsX0_tellings rm_X0_tellings S [.ref (g.1 7)] ((eI S) b) := zmet_of (by decide +kernel) rfl hz (Nat.le_of_ble_eq_true rfl) rfl (fun E _ _ hE B => x_X0_tellings B hE S) h
abbrev rm_X0_isFriend : Room := { frames := 0, cells := 0, slots := 0, locals := 0 }
theorem y_X0_isFriend : yX0_isFriend.cls = RX0 ∧ yX0_isFriend.cls ≠ "java/lang/invoke/MethodHandle" ∧ yX0_isFriend.cls ≠ "java/lang/invoke/VarHandle" ∧ (parseMethodDescriptor yX0_isFriend.desc).map (fun d => d.parameters.length) = some 2 := by decide +kernel
theorem m_X0_isFriend_f11 : Cond.fieldLink RX0 11 "LongestMet$Circle" "hers" "[I" ∈ wsX0_isFriend := List.mem_cons_of_mem _ (List.mem_append_left _ (List.mem_of_getElem? (i := 0) rfl))
theorem m_X0_isFriend_inX0 : ∀ x ∈ u_ws RX0 TX0 1, x ∈ wsX0_isFriend := fun _ h => List.mem_cons_of_mem _ (List.mem_append_right _ h)
set_option maxRecDepth 100000 in
set_option maxHeartbeats 4000000 in
theorem x_X0_isFriend {E : zCx} {g : zGx} (B : zGood E (WX g) (zT g) cX0_isFriend RX0 wsX0_isFriend (some .boolean) rm_X0_isFriend) (hE : E.2.2 = 3) (S : zSt) (a1 : Int32) (a2 : Int32) : Xo E (WX g) (eI S) S 0 [(0, .ref (g.1 7)), (1, .int a1), (2, .int a2)] [] (F_X0_isFriend S a1 a2) := by
  unfold F_X0_isFriend
  refine r_aload_n B 0 dX0_isFriend_0 rfl rfl ?_
  refine r_get B 7 0 0 (Nat.le_of_ble_eq_true rfl) rfl (cX_7 g _) rfl m_X0_isFriend_inX0 (Nat.le_of_ble_eq_true rfl) m_X0_isFriend_f11 rfl dX0_isFriend_1 ?_
  refine r_iload_n B 1 dX0_isFriend_4 rfl rfl ?_
  refine r_iald B 21 0 (Nat.le_of_ble_eq_true rfl) rfl (cX_21 g _) rfl dX0_isFriend_5 ?_
  refine r_iload_n B 2 dX0_isFriend_6 rfl rfl ?_
  refine r_iushr B dX0_isFriend_7 ?_
  refine r_iconst B (1 : Int32) dX0_isFriend_8 (by decide) ?_
  refine r_iand B dX0_isFriend_9 ?_
  refine r_if_eq B 17 dX0_isFriend_10 (by decide) (fun _ => ?_) (fun _ => ?_)
  · refine r_iconst B (0 : Int32) dX0_isFriend_17 (by decide) ?_
    exact r_zret0 B dX0_isFriend_18 rfl
  · refine r_iconst B (1 : Int32) dX0_isFriend_13 (by decide) ?_
    refine r_goto B 18 dX0_isFriend_14 (by decide) ?_
    exact r_zret1 B dX0_isFriend_18 rfl
set_option maxRecDepth 20000 in
theorem k_X0_isFriend {l : Launch} {D : va_G} {g : zGx} (hz : zin (WX g)) {S : zSt} {a1 : Int32} {a2 : Int32} {b : Int32} (h : F_X0_isFriend S a1 a2 = some b) : zMet l D (WX g) (zT g) yX0_isFriend wsX0_isFriend rm_X0_isFriend S [.ref (g.1 7), .int a1, .int a2] ((eI S) b) := zmet_of (by decide +kernel) rfl hz (Nat.le_of_ble_eq_true rfl) rfl (fun E _ _ hE B => x_X0_isFriend B hE S a1 a2) h
abbrev rm_X0_friendsOfHers : Room := { frames := 2, cells := 0, slots := 0, locals := 41 }
theorem y_X0_friendsOfHers : yX0_friendsOfHers.cls = RX0 ∧ yX0_friendsOfHers.cls ≠ "java/lang/invoke/MethodHandle" ∧ yX0_friendsOfHers.cls ≠ "java/lang/invoke/VarHandle" ∧ (parseMethodDescriptor yX0_friendsOfHers.desc).map (fun d => d.parameters.length) = some 1 := by decide +kernel
set_option maxRecDepth 100000 in
set_option maxHeartbeats 4000000 in
theorem xL_X0_friendsOfHers_4 {E : zCx} {g : zGx} (B : zGood E (WX g) (zT g) cX0_friendsOfHers RX0 wsX0_friendsOfHers (some .int) rm_X0_friendsOfHers) (hE : E.2.2 = 4) (S : zSt) (a1 : Int32) (k : Int32 → Option Int32) (hk : ∀ (w2 : Int32), Xo E (WX g) (eI S) S 33 [(2, .int w2)] [] (k w2)) : ∀ (n : Nat) (v2_4 : Int32) (v3_4 : Int32), Xo E (WX g) (eI S) S 4 [(0, .ref (g.1 7)), (1, .int a1), (2, .int v2_4), (3, .int v3_4)] [] (L_X0_friendsOfHers_4 S a1 k n v2_4 v3_4) := by
  have n2 : 2 < E.2.2 := by rw [hE]; decide
  have n3 : 3 < E.2.2 := by rw [hE]; decide
  intro n
  induction n with
  | zero =>
    intro _ _
    exact r_none
  | succ n ih =>
    intro v2_4 v3_4
    rw [L_X0_friendsOfHers_4]
    refine r_iload_n B 3 dX0_friendsOfHers_4 rfl rfl ?_
    refine r_bipush B (8 : Int32) dX0_friendsOfHers_5 (by decide) ?_
    refine r_icmp_ge B 33 dX0_friendsOfHers_7 (by decide) (fun _ => ?_) (fun _ => ?_)
    · refine r_sub [2] rfl ?_
      exact hk v2_4
    · refine r_aload_n B 0 dX0_friendsOfHers_10 rfl rfl ?_
      refine r_iload_n B 1 dX0_friendsOfHers_11 rfl rfl ?_
      refine r_iload_n B 3 dX0_friendsOfHers_12 rfl rfl ?_
      refine r_cI (zrunV (As := [.int a1, .int v3_4]) (rest := []) B 2 7 (fun b hb => k_X0_isFriend B.2.2.1 hb) gX0_friendsOfHers_X0_isFriend rfl rfl rfl y_X0_isFriend ⟨Nat.le_of_ble_eq_true rfl, Nat.le_of_ble_eq_true rfl⟩ (Nat.le_of_ble_eq_true rfl) rfl (cX_7 g _) rfl rfl rfl (Nat.le_of_ble_eq_true rfl) dX0_friendsOfHers_13) (fun r13 => ?_)
      refine r_if_eq B 27 dX0_friendsOfHers_16 (by decide) (fun _ => ?_) (fun _ => ?_)
      · refine r_iinc (lv' := fun x3_27 => [(3, .int x3_27), (0, .ref (g.1 7)), (1, .int a1), (2, .int v2_4)]) B 3 (1 : Int32) dX0_friendsOfHers_27 rfl (by decide) n3 (fun _ => rfl) (fun x3_27 => ?_)
        refine r_goto B 4 dX0_friendsOfHers_30 (by decide) ?_
        refine r_sub [1, 2, 3, 0] rfl ?_
        exact ih v2_4 x3_27
      · refine r_iload_n B 2 dX0_friendsOfHers_19 rfl rfl ?_
        refine r_aload_n B 0 dX0_friendsOfHers_20 rfl rfl ?_
        refine r_iload_n B 3 dX0_friendsOfHers_21 rfl rfl ?_
        refine r_cI (zrunV (As := [.int v3_4]) (rest := [.int v2_4]) B 1 7 (fun b hb => k_X0_friendsOf B.2.2.1 hb) gX0_friendsOfHers_X0_friendsOf rfl rfl rfl y_X0_friendsOf ⟨Nat.le_of_ble_eq_true rfl, Nat.le_of_ble_eq_true rfl⟩ (Nat.le_of_ble_eq_true rfl) rfl (cX_7 g _) rfl rfl rfl (Nat.le_of_ble_eq_true rfl) dX0_friendsOfHers_22) (fun r22 => ?_)
        refine r_iadd B dX0_friendsOfHers_25 ?_
        refine r_istore_n (lv' := fun x2_26 => [(2, .int x2_26), (0, .ref (g.1 7)), (1, .int a1), (3, .int v3_4)]) B dX0_friendsOfHers_26 rfl n2 (fun _ => rfl) (fun x2_26 => ?_)
        refine r_iinc (lv' := fun x3_27 => [(3, .int x3_27), (2, .int x2_26), (0, .ref (g.1 7)), (1, .int a1)]) B 3 (1 : Int32) dX0_friendsOfHers_27 rfl (by decide) n3 (fun _ => rfl) (fun x3_27 => ?_)
        refine r_goto B 4 dX0_friendsOfHers_30 (by decide) ?_
        refine r_sub [2, 3, 1, 0] rfl ?_
        exact ih x2_26 x3_27
set_option maxRecDepth 100000 in
set_option maxHeartbeats 4000000 in
theorem x_X0_friendsOfHers {E : zCx} {g : zGx} (B : zGood E (WX g) (zT g) cX0_friendsOfHers RX0 wsX0_friendsOfHers (some .int) rm_X0_friendsOfHers) (hE : E.2.2 = 4) (S : zSt) (a1 : Int32) : Xo E (WX g) (eI S) S 0 [(0, .ref (g.1 7)), (1, .int a1)] [] (F_X0_friendsOfHers S a1) := by
  have n2 : 2 < E.2.2 := by rw [hE]; decide
  have n3 : 3 < E.2.2 := by rw [hE]; decide
  unfold F_X0_friendsOfHers
  refine r_iconst B (0 : Int32) dX0_friendsOfHers_0 (by decide) ?_
  refine r_istore_n (lv' := fun x2_1 => [(2, .int x2_1), (0, .ref (g.1 7)), (1, .int a1)]) B dX0_friendsOfHers_1 rfl n2 (fun _ => rfl) (fun x2_1 => ?_)
  refine r_iconst B (0 : Int32) dX0_friendsOfHers_2 (by decide) ?_
  refine r_istore_n (lv' := fun x3_3 => [(3, .int x3_3), (2, .int x2_1), (0, .ref (g.1 7)), (1, .int a1)]) B dX0_friendsOfHers_3 rfl n3 (fun _ => rfl) (fun x3_3 => ?_)
  refine r_sub [2, 3, 1, 0] rfl ?_
  refine xL_X0_friendsOfHers_4 B hE S a1 _ ?_ 1000 x2_1 x3_3
  intro w2_4
  refine r_iload_n B 0 dX0_friendsOfHers_33 rfl rfl ?_
  exact r_iret B dX0_friendsOfHers_34 rfl
set_option maxRecDepth 20000 in
theorem k_X0_friendsOfHers {l : Launch} {D : va_G} {g : zGx} (hz : zin (WX g)) {S : zSt} {a1 : Int32} {b : Int32} (h : F_X0_friendsOfHers S a1 = some b) : zMet l D (WX g) (zT g) yX0_friendsOfHers wsX0_friendsOfHers rm_X0_friendsOfHers S [.ref (g.1 7), .int a1] ((eI S) b) := zmet_of (by decide +kernel) rfl hz (Nat.le_of_ble_eq_true rfl) rfl (fun E _ _ hE B => x_X0_friendsOfHers B hE S a1) h
abbrev rm_X0_friendsOfFriends : Room := { frames := 3, cells := 0, slots := 0, locals := 64 }
theorem y_X0_friendsOfFriends : yX0_friendsOfFriends.cls = RX0 ∧ yX0_friendsOfFriends.cls ≠ "java/lang/invoke/MethodHandle" ∧ yX0_friendsOfFriends.cls ≠ "java/lang/invoke/VarHandle" ∧ (parseMethodDescriptor yX0_friendsOfFriends.desc).map (fun d => d.parameters.length) = some 0 := by decide +kernel
set_option maxRecDepth 100000 in
set_option maxHeartbeats 4000000 in
theorem xL_X0_friendsOfFriends_4 {E : zCx} {g : zGx} (B : zGood E (WX g) (zT g) cX0_friendsOfFriends RX0 wsX0_friendsOfFriends (some .int) rm_X0_friendsOfFriends) (hE : E.2.2 = 3) (S : zSt) (k : Int32 → Option Int32) (hk : ∀ (w1 : Int32), Xo E (WX g) (eI S) S 24 [(1, .int w1)] [] (k w1)) : ∀ (n : Nat) (v1_4 : Int32) (v2_4 : Int32), Xo E (WX g) (eI S) S 4 [(0, .ref (g.1 7)), (1, .int v1_4), (2, .int v2_4)] [] (L_X0_friendsOfFriends_4 S k n v1_4 v2_4) := by
  have n1 : 1 < E.2.2 := by rw [hE]; decide
  have n2 : 2 < E.2.2 := by rw [hE]; decide
  intro n
  induction n with
  | zero =>
    intro _ _
    exact r_none
  | succ n ih =>
    intro v1_4 v2_4
    rw [L_X0_friendsOfFriends_4]
    refine r_iload_n B 2 dX0_friendsOfFriends_4 rfl rfl ?_
    refine r_bipush B (8 : Int32) dX0_friendsOfFriends_5 (by decide) ?_
    refine r_icmp_ge B 24 dX0_friendsOfFriends_7 (by decide) (fun _ => ?_) (fun _ => ?_)
    · refine r_sub [1] rfl ?_
      exact hk v1_4
    · refine r_iload_n B 1 dX0_friendsOfFriends_10 rfl rfl ?_
      refine r_aload_n B 0 dX0_friendsOfFriends_11 rfl rfl ?_
      refine r_iload_n B 2 dX0_friendsOfFriends_12 rfl rfl ?_
      refine r_cI (zrunV (As := [.int v2_4]) (rest := [.int v1_4]) B 1 7 (fun b hb => k_X0_friendsOfHers B.2.2.1 hb) gX0_friendsOfFriends_X0_friendsOfHers rfl rfl rfl y_X0_friendsOfHers ⟨Nat.le_of_ble_eq_true rfl, Nat.le_of_ble_eq_true rfl⟩ (Nat.le_of_ble_eq_true rfl) rfl (cX_7 g _) rfl rfl rfl (Nat.le_of_ble_eq_true rfl) dX0_friendsOfFriends_13) (fun r13 => ?_)
      refine r_iadd B dX0_friendsOfFriends_16 ?_
      refine r_istore_n (lv' := fun x1_17 => [(1, .int x1_17), (0, .ref (g.1 7)), (2, .int v2_4)]) B dX0_friendsOfFriends_17 rfl n1 (fun _ => rfl) (fun x1_17 => ?_)
      refine r_iinc (lv' := fun x2_18 => [(2, .int x2_18), (1, .int x1_17), (0, .ref (g.1 7))]) B 2 (1 : Int32) dX0_friendsOfFriends_18 rfl (by decide) n2 (fun _ => rfl) (fun x2_18 => ?_)
      refine r_goto B 4 dX0_friendsOfFriends_21 (by decide) ?_
      refine r_sub [2, 1, 0] rfl ?_
      exact ih x1_17 x2_18
set_option maxRecDepth 100000 in
set_option maxHeartbeats 4000000 in
theorem x_X0_friendsOfFriends {E : zCx} {g : zGx} (B : zGood E (WX g) (zT g) cX0_friendsOfFriends RX0 wsX0_friendsOfFriends (some .int) rm_X0_friendsOfFriends) (hE : E.2.2 = 3) (S : zSt) : Xo E (WX g) (eI S) S 0 [(0, .ref (g.1 7))] [] (F_X0_friendsOfFriends S) := by
  have n1 : 1 < E.2.2 := by rw [hE]; decide
  have n2 : 2 < E.2.2 := by rw [hE]; decide
  unfold F_X0_friendsOfFriends
  refine r_iconst B (0 : Int32) dX0_friendsOfFriends_0 (by decide) ?_
  refine r_istore_n (lv' := fun x1_1 => [(1, .int x1_1), (0, .ref (g.1 7))]) B dX0_friendsOfFriends_1 rfl n1 (fun _ => rfl) (fun x1_1 => ?_)
  refine r_iconst B (0 : Int32) dX0_friendsOfFriends_2 (by decide) ?_
  refine r_istore_n (lv' := fun x2_3 => [(2, .int x2_3), (1, .int x1_1), (0, .ref (g.1 7))]) B dX0_friendsOfFriends_3 rfl n2 (fun _ => rfl) (fun x2_3 => ?_)
  refine r_sub [2, 1, 0] rfl ?_
  refine xL_X0_friendsOfFriends_4 B hE S _ ?_ 1000 x1_1 x2_3
  intro w1_4
  refine r_iload_n B 0 dX0_friendsOfFriends_24 rfl rfl ?_
  exact r_iret B dX0_friendsOfFriends_25 rfl
set_option maxRecDepth 20000 in
theorem k_X0_friendsOfFriends {l : Launch} {D : va_G} {g : zGx} (hz : zin (WX g)) {S : zSt} {b : Int32} (h : F_X0_friendsOfFriends S = some b) : zMet l D (WX g) (zT g) yX0_friendsOfFriends wsX0_friendsOfFriends rm_X0_friendsOfFriends S [.ref (g.1 7)] ((eI S) b) := zmet_of (by decide +kernel) rfl hz (Nat.le_of_ble_eq_true rfl) rfl (fun E _ _ hE B => x_X0_friendsOfFriends B hE S) h
abbrev rm_X0_pickedParts : Room := { frames := 2, cells := 0, slots := 0, locals := 41 }
theorem y_X0_pickedParts : yX0_pickedParts.cls = RX0 ∧ yX0_pickedParts.cls ≠ "java/lang/invoke/MethodHandle" ∧ yX0_pickedParts.cls ≠ "java/lang/invoke/VarHandle" ∧ (parseMethodDescriptor yX0_pickedParts.desc).map (fun d => d.parameters.length) = some 1 := by decide +kernel
set_option maxRecDepth 100000 in
set_option maxHeartbeats 4000000 in
theorem xL_X0_pickedParts_16 {E : zCx} {g : zGx} (B : zGood E (WX g) (zT g) cX0_pickedParts RX0 wsX0_pickedParts (some .int) rm_X0_pickedParts) (hE : E.2.2 = 4) (S : zSt) (a1 : Int32) (k : Int32 → Option Int32) (hk : ∀ (w2 : Int32), Xo E (WX g) (eI S) S 57 [(2, .int w2)] [] (k w2)) : ∀ (n : Nat) (v2_16 : Int32) (v3_16 : Int32), Xo E (WX g) (eI S) S 16 [(0, .ref (g.1 7)), (1, .int a1), (2, .int v2_16), (3, .int v3_16)] [] (L_X0_pickedParts_16 S a1 k n v2_16 v3_16) := by
  have n2 : 2 < E.2.2 := by rw [hE]; decide
  have n3 : 3 < E.2.2 := by rw [hE]; decide
  intro n
  induction n with
  | zero =>
    intro _ _
    exact r_none
  | succ n ih =>
    intro v2_16 v3_16
    rw [L_X0_pickedParts_16]
    refine r_iload_n B 3 dX0_pickedParts_16 rfl rfl ?_
    refine r_bipush B (8 : Int32) dX0_pickedParts_17 (by decide) ?_
    refine r_icmp_ge B 57 dX0_pickedParts_19 (by decide) (fun _ => ?_) (fun _ => ?_)
    · refine r_sub [2] rfl ?_
      exact hk v2_16
    · refine r_aload_n B 0 dX0_pickedParts_22 rfl rfl ?_
      refine r_iload_n B 1 dX0_pickedParts_23 rfl rfl ?_
      refine r_iload_n B 3 dX0_pickedParts_24 rfl rfl ?_
      refine r_cI (zrunV (As := [.int a1, .int v3_16]) (rest := []) B 2 7 (fun b hb => k_X0_isFriend B.2.2.1 hb) gX0_pickedParts_X0_isFriend rfl rfl rfl y_X0_isFriend ⟨Nat.le_of_ble_eq_true rfl, Nat.le_of_ble_eq_true rfl⟩ (Nat.le_of_ble_eq_true rfl) rfl (cX_7 g _) rfl rfl rfl (Nat.le_of_ble_eq_true rfl) dX0_pickedParts_25) (fun r25 => ?_)
      refine r_if_eq B 51 dX0_pickedParts_28 (by decide) (fun _ => ?_) (fun _ => ?_)
      · refine r_iinc (lv' := fun x3_51 => [(3, .int x3_51), (0, .ref (g.1 7)), (1, .int a1), (2, .int v2_16)]) B 3 (1 : Int32) dX0_pickedParts_51 rfl (by decide) n3 (fun _ => rfl) (fun x3_51 => ?_)
        refine r_goto B 16 dX0_pickedParts_54 (by decide) ?_
        refine r_sub [1, 2, 3, 0] rfl ?_
        exact ih v2_16 x3_51
      · refine r_aload_n B 0 dX0_pickedParts_31 rfl rfl ?_
        refine r_iload_n B 3 dX0_pickedParts_32 rfl rfl ?_
        refine r_cI (zrunV (As := [.int v3_16]) (rest := []) B 1 7 (fun b hb => k_X0_friendsOf B.2.2.1 hb) gX0_pickedParts_X0_friendsOf rfl rfl rfl y_X0_friendsOf ⟨Nat.le_of_ble_eq_true rfl, Nat.le_of_ble_eq_true rfl⟩ (Nat.le_of_ble_eq_true rfl) rfl (cX_7 g _) rfl rfl rfl (Nat.le_of_ble_eq_true rfl) dX0_pickedParts_33) (fun r33 => ?_)
        refine r_if_le B 51 dX0_pickedParts_36 (by decide) (fun _ => ?_) (fun _ => ?_)
        · refine r_iinc (lv' := fun x3_51 => [(3, .int x3_51), (0, .ref (g.1 7)), (1, .int a1), (2, .int v2_16)]) B 3 (1 : Int32) dX0_pickedParts_51 rfl (by decide) n3 (fun _ => rfl) (fun x3_51 => ?_)
          refine r_goto B 16 dX0_pickedParts_54 (by decide) ?_
          refine r_sub [1, 2, 3, 0] rfl ?_
          exact ih v2_16 x3_51
        · refine r_iload_n B 2 dX0_pickedParts_39 rfl rfl ?_
          refine r_sipush B (420 : Int32) dX0_pickedParts_40 (by decide) ?_
          refine r_aload_n B 0 dX0_pickedParts_43 rfl rfl ?_
          refine r_iload_n B 3 dX0_pickedParts_44 rfl rfl ?_
          refine r_cI (zrunV (As := [.int v3_16]) (rest := [.int (420 : Int32), .int v2_16]) B 1 7 (fun b hb => k_X0_friendsOf B.2.2.1 hb) gX0_pickedParts_X0_friendsOf rfl rfl rfl y_X0_friendsOf ⟨Nat.le_of_ble_eq_true rfl, Nat.le_of_ble_eq_true rfl⟩ (Nat.le_of_ble_eq_true rfl) rfl (cX_7 g _) rfl rfl rfl (Nat.le_of_ble_eq_true rfl) dX0_pickedParts_45) (fun r45 => ?_)
          refine r_idiv B dX0_pickedParts_48 (fun _ => ?_)
          refine r_iadd B dX0_pickedParts_49 ?_
          refine r_istore_n (lv' := fun x2_50 => [(2, .int x2_50), (0, .ref (g.1 7)), (1, .int a1), (3, .int v3_16)]) B dX0_pickedParts_50 rfl n2 (fun _ => rfl) (fun x2_50 => ?_)
          refine r_iinc (lv' := fun x3_51 => [(3, .int x3_51), (2, .int x2_50), (0, .ref (g.1 7)), (1, .int a1)]) B 3 (1 : Int32) dX0_pickedParts_51 rfl (by decide) n3 (fun _ => rfl) (fun x3_51 => ?_)
          refine r_goto B 16 dX0_pickedParts_54 (by decide) ?_
          refine r_sub [2, 3, 1, 0] rfl ?_
          exact ih x2_50 x3_51
set_option maxRecDepth 100000 in
set_option maxHeartbeats 4000000 in
theorem x_X0_pickedParts {E : zCx} {g : zGx} (B : zGood E (WX g) (zT g) cX0_pickedParts RX0 wsX0_pickedParts (some .int) rm_X0_pickedParts) (hE : E.2.2 = 4) (S : zSt) (a1 : Int32) : Xo E (WX g) (eI S) S 0 [(0, .ref (g.1 7)), (1, .int a1)] [] (F_X0_pickedParts S a1) := by
  have n2 : 2 < E.2.2 := by rw [hE]; decide
  have n3 : 3 < E.2.2 := by rw [hE]; decide
  unfold F_X0_pickedParts
  refine r_aload_n B 0 dX0_pickedParts_0 rfl rfl ?_
  refine r_iload_n B 1 dX0_pickedParts_1 rfl rfl ?_
  refine r_cI (zrunV (As := [.int a1]) (rest := []) B 1 7 (fun b hb => k_X0_friendsOf B.2.2.1 hb) gX0_pickedParts_X0_friendsOf rfl rfl rfl y_X0_friendsOf ⟨Nat.le_of_ble_eq_true rfl, Nat.le_of_ble_eq_true rfl⟩ (Nat.le_of_ble_eq_true rfl) rfl (cX_7 g _) rfl rfl rfl (Nat.le_of_ble_eq_true rfl) dX0_pickedParts_2) (fun r2 => ?_)
  refine r_if_ne B 12 dX0_pickedParts_5 (by decide) (fun _ => ?_) (fun _ => ?_)
  · refine r_iconst B (0 : Int32) dX0_pickedParts_12 (by decide) ?_
    refine r_istore_n (lv' := fun x2_13 => [(2, .int x2_13), (0, .ref (g.1 7)), (1, .int a1)]) B dX0_pickedParts_13 rfl n2 (fun _ => rfl) (fun x2_13 => ?_)
    refine r_iconst B (0 : Int32) dX0_pickedParts_14 (by decide) ?_
    refine r_istore_n (lv' := fun x3_15 => [(3, .int x3_15), (2, .int x2_13), (0, .ref (g.1 7)), (1, .int a1)]) B dX0_pickedParts_15 rfl n3 (fun _ => rfl) (fun x3_15 => ?_)
    refine r_sub [2, 3, 1, 0] rfl ?_
    refine xL_X0_pickedParts_16 B hE S a1 _ ?_ 1000 x2_13 x3_15
    intro w2_16
    refine r_iload_n B 0 dX0_pickedParts_57 rfl rfl ?_
    exact r_iret B dX0_pickedParts_58 rfl
  · refine r_sipush B (420 : Int32) dX0_pickedParts_8 (by decide) ?_
    exact r_iret B dX0_pickedParts_11 rfl
set_option maxRecDepth 20000 in
theorem k_X0_pickedParts {l : Launch} {D : va_G} {g : zGx} (hz : zin (WX g)) {S : zSt} {a1 : Int32} {b : Int32} (h : F_X0_pickedParts S a1 = some b) : zMet l D (WX g) (zT g) yX0_pickedParts wsX0_pickedParts rm_X0_pickedParts S [.ref (g.1 7), .int a1] ((eI S) b) := zmet_of (by decide +kernel) rfl hz (Nat.le_of_ble_eq_true rfl) rfl (fun E _ _ hE B => x_X0_pickedParts B hE S a1) h
abbrev rm_X0_friendsOfPicked : Room := { frames := 3, cells := 0, slots := 0, locals := 64 }
theorem y_X0_friendsOfPicked : yX0_friendsOfPicked.cls = RX0 ∧ yX0_friendsOfPicked.cls ≠ "java/lang/invoke/MethodHandle" ∧ yX0_friendsOfPicked.cls ≠ "java/lang/invoke/VarHandle" ∧ (parseMethodDescriptor yX0_friendsOfPicked.desc).map (fun d => d.parameters.length) = some 0 := by decide +kernel
set_option maxRecDepth 100000 in
set_option maxHeartbeats 4000000 in
theorem xL_X0_friendsOfPicked_4 {E : zCx} {g : zGx} (B : zGood E (WX g) (zT g) cX0_friendsOfPicked RX0 wsX0_friendsOfPicked (some .int) rm_X0_friendsOfPicked) (hE : E.2.2 = 3) (S : zSt) (k : Int32 → Option Int32) (hk : ∀ (w1 : Int32), Xo E (WX g) (eI S) S 30 [(1, .int w1)] [] (k w1)) : ∀ (n : Nat) (v1_4 : Int32) (v2_4 : Int32), Xo E (WX g) (eI S) S 4 [(0, .ref (g.1 7)), (1, .int v1_4), (2, .int v2_4)] [] (L_X0_friendsOfPicked_4 S k n v1_4 v2_4) := by
  have n1 : 1 < E.2.2 := by rw [hE]; decide
  have n2 : 2 < E.2.2 := by rw [hE]; decide
  intro n
  induction n with
  | zero =>
    intro _ _
    exact r_none
  | succ n ih =>
    intro v1_4 v2_4
    rw [L_X0_friendsOfPicked_4]
    refine r_iload_n B 2 dX0_friendsOfPicked_4 rfl rfl ?_
    refine r_bipush B (8 : Int32) dX0_friendsOfPicked_5 (by decide) ?_
    refine r_icmp_ge B 30 dX0_friendsOfPicked_7 (by decide) (fun _ => ?_) (fun _ => ?_)
    · refine r_sub [1] rfl ?_
      exact hk v1_4
    · refine r_iload_n B 1 dX0_friendsOfPicked_10 rfl rfl ?_
      refine r_aload_n B 0 dX0_friendsOfPicked_11 rfl rfl ?_
      refine r_iload_n B 2 dX0_friendsOfPicked_12 rfl rfl ?_
      refine r_cI (zrunV (As := [.int v2_4]) (rest := [.int v1_4]) B 1 7 (fun b hb => k_X0_pickedParts B.2.2.1 hb) gX0_friendsOfPicked_X0_pickedParts rfl rfl rfl y_X0_pickedParts ⟨Nat.le_of_ble_eq_true rfl, Nat.le_of_ble_eq_true rfl⟩ (Nat.le_of_ble_eq_true rfl) rfl (cX_7 g _) rfl rfl rfl (Nat.le_of_ble_eq_true rfl) dX0_friendsOfPicked_13) (fun r13 => ?_)
      refine r_aload_n B 0 dX0_friendsOfPicked_16 rfl rfl ?_
      refine r_iload_n B 2 dX0_friendsOfPicked_17 rfl rfl ?_
      refine r_cI (zrunV (As := [.int v2_4]) (rest := [.int r13, .int v1_4]) B 1 7 (fun b hb => k_X0_friendsOf B.2.2.1 hb) gX0_friendsOfPicked_X0_friendsOf rfl rfl rfl y_X0_friendsOf ⟨Nat.le_of_ble_eq_true rfl, Nat.le_of_ble_eq_true rfl⟩ (Nat.le_of_ble_eq_true rfl) rfl (cX_7 g _) rfl rfl rfl (Nat.le_of_ble_eq_true rfl) dX0_friendsOfPicked_18) (fun r18 => ?_)
      refine r_imul B dX0_friendsOfPicked_21 ?_
      refine r_iadd B dX0_friendsOfPicked_22 ?_
      refine r_istore_n (lv' := fun x1_23 => [(1, .int x1_23), (0, .ref (g.1 7)), (2, .int v2_4)]) B dX0_friendsOfPicked_23 rfl n1 (fun _ => rfl) (fun x1_23 => ?_)
      refine r_iinc (lv' := fun x2_24 => [(2, .int x2_24), (1, .int x1_23), (0, .ref (g.1 7))]) B 2 (1 : Int32) dX0_friendsOfPicked_24 rfl (by decide) n2 (fun _ => rfl) (fun x2_24 => ?_)
      refine r_goto B 4 dX0_friendsOfPicked_27 (by decide) ?_
      refine r_sub [2, 1, 0] rfl ?_
      exact ih x1_23 x2_24
set_option maxRecDepth 100000 in
set_option maxHeartbeats 4000000 in
theorem x_X0_friendsOfPicked {E : zCx} {g : zGx} (B : zGood E (WX g) (zT g) cX0_friendsOfPicked RX0 wsX0_friendsOfPicked (some .int) rm_X0_friendsOfPicked) (hE : E.2.2 = 3) (S : zSt) : Xo E (WX g) (eI S) S 0 [(0, .ref (g.1 7))] [] (F_X0_friendsOfPicked S) := by
  have n1 : 1 < E.2.2 := by rw [hE]; decide
  have n2 : 2 < E.2.2 := by rw [hE]; decide
  unfold F_X0_friendsOfPicked
  refine r_iconst B (0 : Int32) dX0_friendsOfPicked_0 (by decide) ?_
  refine r_istore_n (lv' := fun x1_1 => [(1, .int x1_1), (0, .ref (g.1 7))]) B dX0_friendsOfPicked_1 rfl n1 (fun _ => rfl) (fun x1_1 => ?_)
  refine r_iconst B (0 : Int32) dX0_friendsOfPicked_2 (by decide) ?_
  refine r_istore_n (lv' := fun x2_3 => [(2, .int x2_3), (1, .int x1_1), (0, .ref (g.1 7))]) B dX0_friendsOfPicked_3 rfl n2 (fun _ => rfl) (fun x2_3 => ?_)
  refine r_sub [2, 1, 0] rfl ?_
  refine xL_X0_friendsOfPicked_4 B hE S _ ?_ 1000 x1_1 x2_3
  intro w1_4
  refine r_iload_n B 0 dX0_friendsOfPicked_30 rfl rfl ?_
  exact r_iret B dX0_friendsOfPicked_31 rfl
set_option maxRecDepth 20000 in
theorem k_X0_friendsOfPicked {l : Launch} {D : va_G} {g : zGx} (hz : zin (WX g)) {S : zSt} {b : Int32} (h : F_X0_friendsOfPicked S = some b) : zMet l D (WX g) (zT g) yX0_friendsOfPicked wsX0_friendsOfPicked rm_X0_friendsOfPicked S [.ref (g.1 7)] ((eI S) b) := zmet_of (by decide +kernel) rfl hz (Nat.le_of_ble_eq_true rfl) rfl (fun E _ _ hE B => x_X0_friendsOfPicked B hE S) h
abbrev rm_X0_withFewer : Room := { frames := 3, cells := 0, slots := 0, locals := 64 }
theorem y_X0_withFewer : yX0_withFewer.cls = RX0 ∧ yX0_withFewer.cls ≠ "java/lang/invoke/MethodHandle" ∧ yX0_withFewer.cls ≠ "java/lang/invoke/VarHandle" ∧ (parseMethodDescriptor yX0_withFewer.desc).map (fun d => d.parameters.length) = some 0 := by decide +kernel
set_option maxRecDepth 100000 in
set_option maxHeartbeats 4000000 in
theorem xL_X0_withFewer_4 {E : zCx} {g : zGx} (B : zGood E (WX g) (zT g) cX0_withFewer RX0 wsX0_withFewer (some .int) rm_X0_withFewer) (hE : E.2.2 = 3) (S : zSt) (k : Int32 → Option Int32) (hk : ∀ (w1 : Int32), Xo E (WX g) (eI S) S 41 [(1, .int w1)] [] (k w1)) : ∀ (n : Nat) (v1_4 : Int32) (v2_4 : Int32), Xo E (WX g) (eI S) S 4 [(0, .ref (g.1 7)), (1, .int v1_4), (2, .int v2_4)] [] (L_X0_withFewer_4 S k n v1_4 v2_4) := by
  have n1 : 1 < E.2.2 := by rw [hE]; decide
  have n2 : 2 < E.2.2 := by rw [hE]; decide
  intro n
  induction n with
  | zero =>
    intro _ _
    exact r_none
  | succ n ih =>
    intro v1_4 v2_4
    rw [L_X0_withFewer_4]
    refine r_iload_n B 2 dX0_withFewer_4 rfl rfl ?_
    refine r_bipush B (8 : Int32) dX0_withFewer_5 (by decide) ?_
    refine r_icmp_ge B 41 dX0_withFewer_7 (by decide) (fun _ => ?_) (fun _ => ?_)
    · refine r_sub [1] rfl ?_
      exact hk v1_4
    · refine r_aload_n B 0 dX0_withFewer_10 rfl rfl ?_
      refine r_iload_n B 2 dX0_withFewer_11 rfl rfl ?_
      refine r_cI (zrunV (As := [.int v2_4]) (rest := []) B 1 7 (fun b hb => k_X0_friendsOf B.2.2.1 hb) gX0_withFewer_X0_friendsOf rfl rfl rfl y_X0_friendsOf ⟨Nat.le_of_ble_eq_true rfl, Nat.le_of_ble_eq_true rfl⟩ (Nat.le_of_ble_eq_true rfl) rfl (cX_7 g _) rfl rfl rfl (Nat.le_of_ble_eq_true rfl) dX0_withFewer_12) (fun r12 => ?_)
      refine r_aload_n B 0 dX0_withFewer_15 rfl rfl ?_
      refine r_iload_n B 2 dX0_withFewer_16 rfl rfl ?_
      refine r_cI (zrunV (As := [.int v2_4]) (rest := [.int r12]) B 1 7 (fun b hb => k_X0_friendsOf B.2.2.1 hb) gX0_withFewer_X0_friendsOf rfl rfl rfl y_X0_friendsOf ⟨Nat.le_of_ble_eq_true rfl, Nat.le_of_ble_eq_true rfl⟩ (Nat.le_of_ble_eq_true rfl) rfl (cX_7 g _) rfl rfl rfl (Nat.le_of_ble_eq_true rfl) dX0_withFewer_17) (fun r17 => ?_)
      refine r_imul B dX0_withFewer_20 ?_
      refine r_aload_n B 0 dX0_withFewer_21 rfl rfl ?_
      refine r_iload_n B 2 dX0_withFewer_22 rfl rfl ?_
      refine r_cI (zrunV (As := [.int v2_4]) (rest := [.int (r12 * r17)]) B 1 7 (fun b hb => k_X0_friendsOfHers B.2.2.1 hb) gX0_withFewer_X0_friendsOfHers rfl rfl rfl y_X0_friendsOfHers ⟨Nat.le_of_ble_eq_true rfl, Nat.le_of_ble_eq_true rfl⟩ (Nat.le_of_ble_eq_true rfl) rfl (cX_7 g _) rfl rfl rfl (Nat.le_of_ble_eq_true rfl) dX0_withFewer_23) (fun r23 => ?_)
      refine r_icmp_ge B 35 dX0_withFewer_26 (by decide) (fun _ => ?_) (fun _ => ?_)
      · refine r_iinc (lv' := fun x2_35 => [(2, .int x2_35), (0, .ref (g.1 7)), (1, .int v1_4)]) B 2 (1 : Int32) dX0_withFewer_35 rfl (by decide) n2 (fun _ => rfl) (fun x2_35 => ?_)
        refine r_goto B 4 dX0_withFewer_38 (by decide) ?_
        refine r_sub [1, 2, 0] rfl ?_
        exact ih v1_4 x2_35
      · refine r_iload_n B 1 dX0_withFewer_29 rfl rfl ?_
        refine r_iconst B (1 : Int32) dX0_withFewer_30 (by decide) ?_
        refine r_iload_n B 2 dX0_withFewer_31 rfl rfl ?_
        refine r_ishl B dX0_withFewer_32 ?_
        refine r_ior B dX0_withFewer_33 ?_
        refine r_istore_n (lv' := fun x1_34 => [(1, .int x1_34), (0, .ref (g.1 7)), (2, .int v2_4)]) B dX0_withFewer_34 rfl n1 (fun _ => rfl) (fun x1_34 => ?_)
        refine r_iinc (lv' := fun x2_35 => [(2, .int x2_35), (1, .int x1_34), (0, .ref (g.1 7))]) B 2 (1 : Int32) dX0_withFewer_35 rfl (by decide) n2 (fun _ => rfl) (fun x2_35 => ?_)
        refine r_goto B 4 dX0_withFewer_38 (by decide) ?_
        refine r_sub [2, 1, 0] rfl ?_
        exact ih x1_34 x2_35
set_option maxRecDepth 100000 in
set_option maxHeartbeats 4000000 in
theorem x_X0_withFewer {E : zCx} {g : zGx} (B : zGood E (WX g) (zT g) cX0_withFewer RX0 wsX0_withFewer (some .int) rm_X0_withFewer) (hE : E.2.2 = 3) (S : zSt) : Xo E (WX g) (eI S) S 0 [(0, .ref (g.1 7))] [] (F_X0_withFewer S) := by
  have n1 : 1 < E.2.2 := by rw [hE]; decide
  have n2 : 2 < E.2.2 := by rw [hE]; decide
  unfold F_X0_withFewer
  refine r_iconst B (0 : Int32) dX0_withFewer_0 (by decide) ?_
  refine r_istore_n (lv' := fun x1_1 => [(1, .int x1_1), (0, .ref (g.1 7))]) B dX0_withFewer_1 rfl n1 (fun _ => rfl) (fun x1_1 => ?_)
  refine r_iconst B (0 : Int32) dX0_withFewer_2 (by decide) ?_
  refine r_istore_n (lv' := fun x2_3 => [(2, .int x2_3), (1, .int x1_1), (0, .ref (g.1 7))]) B dX0_withFewer_3 rfl n2 (fun _ => rfl) (fun x2_3 => ?_)
  refine r_sub [2, 1, 0] rfl ?_
  refine xL_X0_withFewer_4 B hE S _ ?_ 1000 x1_1 x2_3
  intro w1_4
  refine r_iload_n B 0 dX0_withFewer_41 rfl rfl ?_
  exact r_iret B dX0_withFewer_42 rfl
set_option maxRecDepth 20000 in
theorem k_X0_withFewer {l : Launch} {D : va_G} {g : zGx} (hz : zin (WX g)) {S : zSt} {b : Int32} (h : F_X0_withFewer S = some b) : zMet l D (WX g) (zT g) yX0_withFewer wsX0_withFewer rm_X0_withFewer S [.ref (g.1 7)] ((eI S) b) := zmet_of (by decide +kernel) rfl hz (Nat.le_of_ble_eq_true rfl) rfl (fun E _ _ hE B => x_X0_withFewer B hE S) h
abbrev rm_X0_friendshipsOf : Room := { frames := 2, cells := 0, slots := 0, locals := 41 }
theorem y_X0_friendshipsOf : yX0_friendshipsOf.cls = RX0 ∧ yX0_friendshipsOf.cls ≠ "java/lang/invoke/MethodHandle" ∧ yX0_friendshipsOf.cls ≠ "java/lang/invoke/VarHandle" ∧ (parseMethodDescriptor yX0_friendshipsOf.desc).map (fun d => d.parameters.length) = some 1 := by decide +kernel
theorem m_X0_friendshipsOf_f11 : Cond.fieldLink RX0 11 "LongestMet$Circle" "hers" "[I" ∈ wsX0_friendshipsOf := List.mem_cons_of_mem _ (List.mem_append_left _ (List.mem_of_getElem? (i := 0) rfl))
theorem m_X0_friendshipsOf_inX0 : ∀ x ∈ u_ws RX0 TX0 1, x ∈ wsX0_friendshipsOf := fun _ h => List.mem_cons_of_mem _ (List.mem_append_right _ h)
set_option maxRecDepth 100000 in
set_option maxHeartbeats 4000000 in
theorem xL_X0_friendshipsOf_4 {E : zCx} {g : zGx} (B : zGood E (WX g) (zT g) cX0_friendshipsOf RX0 wsX0_friendshipsOf (some .int) rm_X0_friendshipsOf) (hE : E.2.2 = 4) (S : zSt) (a1 : Int32) (k : Int32 → Option Int32) (hk : ∀ (w2 : Int32), Xo E (WX g) (eI S) S 46 [(2, .int w2)] [] (k w2)) : ∀ (n : Nat) (v2_4 : Int32) (v3_4 : Int32), Xo E (WX g) (eI S) S 4 [(0, .ref (g.1 7)), (1, .int a1), (2, .int v2_4), (3, .int v3_4)] [] (L_X0_friendshipsOf_4 S a1 k n v2_4 v3_4) := by
  have n2 : 2 < E.2.2 := by rw [hE]; decide
  have n3 : 3 < E.2.2 := by rw [hE]; decide
  intro n
  induction n with
  | zero =>
    intro _ _
    exact r_none
  | succ n ih =>
    intro v2_4 v3_4
    rw [L_X0_friendshipsOf_4]
    refine r_iload_n B 3 dX0_friendshipsOf_4 rfl rfl ?_
    refine r_bipush B (8 : Int32) dX0_friendshipsOf_5 (by decide) ?_
    refine r_icmp_ge B 46 dX0_friendshipsOf_7 (by decide) (fun _ => ?_) (fun _ => ?_)
    · refine r_sub [2] rfl ?_
      exact hk v2_4
    · refine r_iload_n B 1 dX0_friendshipsOf_10 rfl rfl ?_
      refine r_iload_n B 3 dX0_friendshipsOf_11 rfl rfl ?_
      refine r_iushr B dX0_friendshipsOf_12 ?_
      refine r_iconst B (1 : Int32) dX0_friendshipsOf_13 (by decide) ?_
      refine r_iand B dX0_friendshipsOf_14 ?_
      refine r_if_eq B 40 dX0_friendshipsOf_15 (by decide) (fun _ => ?_) (fun _ => ?_)
      · refine r_iinc (lv' := fun x3_40 => [(3, .int x3_40), (0, .ref (g.1 7)), (1, .int a1), (2, .int v2_4)]) B 3 (1 : Int32) dX0_friendshipsOf_40 rfl (by decide) n3 (fun _ => rfl) (fun x3_40 => ?_)
        refine r_goto B 4 dX0_friendshipsOf_43 (by decide) ?_
        refine r_sub [1, 2, 3, 0] rfl ?_
        exact ih v2_4 x3_40
      · refine r_iload_n B 2 dX0_friendshipsOf_18 rfl rfl ?_
        refine r_iconst B (2 : Int32) dX0_friendshipsOf_19 (by decide) ?_
        refine r_aload_n B 0 dX0_friendshipsOf_20 rfl rfl ?_
        refine r_iload_n B 3 dX0_friendshipsOf_21 rfl rfl ?_
        refine r_cI (zrunV (As := [.int v3_4]) (rest := [.int (2 : Int32), .int v2_4]) B 1 7 (fun b hb => k_X0_friendsOf B.2.2.1 hb) gX0_friendshipsOf_X0_friendsOf rfl rfl rfl y_X0_friendsOf ⟨Nat.le_of_ble_eq_true rfl, Nat.le_of_ble_eq_true rfl⟩ (Nat.le_of_ble_eq_true rfl) rfl (cX_7 g _) rfl rfl rfl (Nat.le_of_ble_eq_true rfl) dX0_friendshipsOf_22) (fun r22 => ?_)
        refine r_imul B dX0_friendshipsOf_25 ?_
        refine r_aload_n B 0 dX0_friendshipsOf_26 rfl rfl ?_
        refine r_get B 7 0 0 (Nat.le_of_ble_eq_true rfl) rfl (cX_7 g _) rfl m_X0_friendshipsOf_inX0 (Nat.le_of_ble_eq_true rfl) m_X0_friendshipsOf_f11 rfl dX0_friendshipsOf_27 ?_
        refine r_iload_n B 3 dX0_friendshipsOf_30 rfl rfl ?_
        refine r_iald B 21 0 (Nat.le_of_ble_eq_true rfl) rfl (cX_21 g _) rfl dX0_friendshipsOf_31 ?_
        refine r_iload_n B 1 dX0_friendshipsOf_32 rfl rfl ?_
        refine r_iand B dX0_friendshipsOf_33 ?_
        refine r_cI (zrunS (As := [.int ((zA S 21 v3_4.toNatClampNeg) &&& a1)]) (rest := [.int ((2 : Int32) * r22), .int v2_4]) B 1 (fun b hb => k_J6_bitCount_0f7a4 B.2.2.1 hb) gX0_friendshipsOf_J6_bitCount_0f7a4 rfl rfl rfl y_J6_bitCount_0f7a4 ⟨Nat.le_of_ble_eq_true rfl, Nat.le_of_ble_eq_true rfl⟩ rfl rfl (Nat.le_of_ble_eq_true rfl) dX0_friendshipsOf_34) (fun r34 => ?_)
        refine r_isub B dX0_friendshipsOf_37 ?_
        refine r_iadd B dX0_friendshipsOf_38 ?_
        refine r_istore_n (lv' := fun x2_39 => [(2, .int x2_39), (0, .ref (g.1 7)), (1, .int a1), (3, .int v3_4)]) B dX0_friendshipsOf_39 rfl n2 (fun _ => rfl) (fun x2_39 => ?_)
        refine r_iinc (lv' := fun x3_40 => [(3, .int x3_40), (2, .int x2_39), (0, .ref (g.1 7)), (1, .int a1)]) B 3 (1 : Int32) dX0_friendshipsOf_40 rfl (by decide) n3 (fun _ => rfl) (fun x3_40 => ?_)
        refine r_goto B 4 dX0_friendshipsOf_43 (by decide) ?_
        refine r_sub [2, 3, 1, 0] rfl ?_
        exact ih x2_39 x3_40
set_option maxRecDepth 100000 in
set_option maxHeartbeats 4000000 in
theorem x_X0_friendshipsOf {E : zCx} {g : zGx} (B : zGood E (WX g) (zT g) cX0_friendshipsOf RX0 wsX0_friendshipsOf (some .int) rm_X0_friendshipsOf) (hE : E.2.2 = 4) (S : zSt) (a1 : Int32) : Xo E (WX g) (eI S) S 0 [(0, .ref (g.1 7)), (1, .int a1)] [] (F_X0_friendshipsOf S a1) := by
  have n2 : 2 < E.2.2 := by rw [hE]; decide
  have n3 : 3 < E.2.2 := by rw [hE]; decide
  unfold F_X0_friendshipsOf
  refine r_iconst B (0 : Int32) dX0_friendshipsOf_0 (by decide) ?_
  refine r_istore_n (lv' := fun x2_1 => [(2, .int x2_1), (0, .ref (g.1 7)), (1, .int a1)]) B dX0_friendshipsOf_1 rfl n2 (fun _ => rfl) (fun x2_1 => ?_)
  refine r_iconst B (0 : Int32) dX0_friendshipsOf_2 (by decide) ?_
  refine r_istore_n (lv' := fun x3_3 => [(3, .int x3_3), (2, .int x2_1), (0, .ref (g.1 7)), (1, .int a1)]) B dX0_friendshipsOf_3 rfl n3 (fun _ => rfl) (fun x3_3 => ?_)
  refine r_sub [2, 3, 1, 0] rfl ?_
  refine xL_X0_friendshipsOf_4 B hE S a1 _ ?_ 1000 x2_1 x3_3
  intro w2_4
  refine r_iload_n B 0 dX0_friendshipsOf_46 rfl rfl ?_
  refine r_iconst B (2 : Int32) dX0_friendshipsOf_47 (by decide) ?_
  refine r_idiv B dX0_friendshipsOf_48 (fun _ => ?_)
  exact r_iret B dX0_friendshipsOf_49 rfl
set_option maxRecDepth 20000 in
theorem k_X0_friendshipsOf {l : Launch} {D : va_G} {g : zGx} (hz : zin (WX g)) {S : zSt} {a1 : Int32} {b : Int32} (h : F_X0_friendshipsOf S a1 = some b) : zMet l D (WX g) (zT g) yX0_friendshipsOf wsX0_friendshipsOf rm_X0_friendshipsOf S [.ref (g.1 7), .int a1] ((eI S) b) := zmet_of (by decide +kernel) rfl hz (Nat.le_of_ble_eq_true rfl) rfl (fun E _ _ hE B => x_X0_friendshipsOf B hE S a1) h
abbrev rm_X0_bestGroup : Room := { frames := 3, cells := 0, slots := 0, locals := 64 }
theorem y_X0_bestGroup : yX0_bestGroup.cls = RX0 ∧ yX0_bestGroup.cls ≠ "java/lang/invoke/MethodHandle" ∧ yX0_bestGroup.cls ≠ "java/lang/invoke/VarHandle" ∧ (parseMethodDescriptor yX0_bestGroup.desc).map (fun d => d.parameters.length) = some 1 := by decide +kernel
set_option maxRecDepth 100000 in
set_option maxHeartbeats 4000000 in
theorem xL_X0_bestGroup_7 {E : zCx} {g : zGx} (B : zGood E (WX g) (zT g) cX0_bestGroup RX0 wsX0_bestGroup (some .int) rm_X0_bestGroup) (hE : E.2.2 = 5) (S : zSt) (a1 : Int32) (k : Int32 → Option Int32) (hk : ∀ (w2 : Int32), Xo E (WX g) (eI S) S 50 [(2, .int w2)] [] (k w2)) : ∀ (n : Nat) (v2_7 : Int32) (v3_7 : Int32) (v4_7 : Int32), Xo E (WX g) (eI S) S 7 [(0, .ref (g.1 7)), (1, .int a1), (2, .int v2_7), (3, .int v3_7), (4, .int v4_7)] [] (L_X0_bestGroup_7 S a1 k n v2_7 v3_7 v4_7) := by
  have n2 : 2 < E.2.2 := by rw [hE]; decide
  have n3 : 3 < E.2.2 := by rw [hE]; decide
  have n4 : 4 < E.2.2 := by rw [hE]; decide
  intro n
  induction n with
  | zero =>
    intro _ _ _
    exact r_none
  | succ n ih =>
    intro v2_7 v3_7 v4_7
    rw [L_X0_bestGroup_7]
    refine r_iload B 4 dX0_bestGroup_7 rfl ?_
    refine r_sipush B (256 : Int32) dX0_bestGroup_9 (by decide) ?_
    refine r_icmp_ge B 50 dX0_bestGroup_12 (by decide) (fun _ => ?_) (fun _ => ?_)
    · refine r_sub [2] rfl ?_
      exact hk v2_7
    · refine r_iload B 4 dX0_bestGroup_15 rfl ?_
      refine r_cI (zrunS (As := [.int v4_7]) (rest := []) B 1 (fun b hb => k_J6_bitCount_0f7a4 B.2.2.1 hb) gX0_bestGroup_J6_bitCount_0f7a4 rfl rfl rfl y_J6_bitCount_0f7a4 ⟨Nat.le_of_ble_eq_true rfl, Nat.le_of_ble_eq_true rfl⟩ rfl rfl (Nat.le_of_ble_eq_true rfl) dX0_bestGroup_17) (fun r17 => ?_)
      refine r_iload_n B 1 dX0_bestGroup_20 rfl rfl ?_
      refine r_icmp_ne B 44 dX0_bestGroup_21 (by decide) (fun _ => ?_) (fun _ => ?_)
      · refine r_iinc (lv' := fun x4_44 => [(4, .int x4_44), (0, .ref (g.1 7)), (1, .int a1), (2, .int v2_7), (3, .int v3_7)]) B 4 (1 : Int32) dX0_bestGroup_44 rfl (by decide) n4 (fun _ => rfl) (fun x4_44 => ?_)
        refine r_goto B 7 dX0_bestGroup_47 (by decide) ?_
        refine r_sub [1, 2, 3, 4, 0] rfl ?_
        exact ih v2_7 v3_7 x4_44
      · refine r_aload_n B 0 dX0_bestGroup_24 rfl rfl ?_
        refine r_iload B 4 dX0_bestGroup_25 rfl ?_
        refine r_cI (zrunV (As := [.int v4_7]) (rest := []) B 1 7 (fun b hb => k_X0_friendshipsOf B.2.2.1 hb) gX0_bestGroup_X0_friendshipsOf rfl rfl rfl y_X0_friendshipsOf ⟨Nat.le_of_ble_eq_true rfl, Nat.le_of_ble_eq_true rfl⟩ (Nat.le_of_ble_eq_true rfl) rfl (cX_7 g _) rfl rfl rfl (Nat.le_of_ble_eq_true rfl) dX0_bestGroup_27) (fun r27 => ?_)
        refine r_iload_n B 3 dX0_bestGroup_30 rfl rfl ?_
        refine r_icmp_le B 44 dX0_bestGroup_31 (by decide) (fun _ => ?_) (fun _ => ?_)
        · refine r_iinc (lv' := fun x4_44 => [(4, .int x4_44), (0, .ref (g.1 7)), (1, .int a1), (2, .int v2_7), (3, .int v3_7)]) B 4 (1 : Int32) dX0_bestGroup_44 rfl (by decide) n4 (fun _ => rfl) (fun x4_44 => ?_)
          refine r_goto B 7 dX0_bestGroup_47 (by decide) ?_
          refine r_sub [1, 2, 3, 4, 0] rfl ?_
          exact ih v2_7 v3_7 x4_44
        · refine r_iload B 4 dX0_bestGroup_34 rfl ?_
          refine r_istore_n (lv' := fun x2_36 => [(2, .int x2_36), (0, .ref (g.1 7)), (1, .int a1), (3, .int v3_7), (4, .int v4_7)]) B dX0_bestGroup_36 rfl n2 (fun _ => rfl) (fun x2_36 => ?_)
          refine r_aload_n B 1 dX0_bestGroup_37 rfl rfl ?_
          refine r_iload B 4 dX0_bestGroup_38 rfl ?_
          refine r_cI (zrunV (As := [.int v4_7]) (rest := []) B 1 7 (fun b hb => k_X0_friendshipsOf B.2.2.1 hb) gX0_bestGroup_X0_friendshipsOf rfl rfl rfl y_X0_friendshipsOf ⟨Nat.le_of_ble_eq_true rfl, Nat.le_of_ble_eq_true rfl⟩ (Nat.le_of_ble_eq_true rfl) rfl (cX_7 g _) rfl rfl rfl (Nat.le_of_ble_eq_true rfl) dX0_bestGroup_40) (fun r40 => ?_)
          refine r_istore_n (lv' := fun x3_43 => [(3, .int x3_43), (2, .int x2_36), (0, .ref (g.1 7)), (1, .int a1), (4, .int v4_7)]) B dX0_bestGroup_43 rfl n3 (fun _ => rfl) (fun x3_43 => ?_)
          refine r_iinc (lv' := fun x4_44 => [(4, .int x4_44), (3, .int x3_43), (2, .int x2_36), (0, .ref (g.1 7)), (1, .int a1)]) B 4 (1 : Int32) dX0_bestGroup_44 rfl (by decide) n4 (fun _ => rfl) (fun x4_44 => ?_)
          refine r_goto B 7 dX0_bestGroup_47 (by decide) ?_
          refine r_sub [3, 4, 2, 1, 0] rfl ?_
          exact ih x2_36 x3_43 x4_44
set_option maxRecDepth 100000 in
set_option maxHeartbeats 4000000 in
theorem x_X0_bestGroup {E : zCx} {g : zGx} (B : zGood E (WX g) (zT g) cX0_bestGroup RX0 wsX0_bestGroup (some .int) rm_X0_bestGroup) (hE : E.2.2 = 5) (S : zSt) (a1 : Int32) : Xo E (WX g) (eI S) S 0 [(0, .ref (g.1 7)), (1, .int a1)] [] (F_X0_bestGroup S a1) := by
  have n2 : 2 < E.2.2 := by rw [hE]; decide
  have n3 : 3 < E.2.2 := by rw [hE]; decide
  have n4 : 4 < E.2.2 := by rw [hE]; decide
  unfold F_X0_bestGroup
  refine r_iconst B (0 : Int32) dX0_bestGroup_0 (by decide) ?_
  refine r_istore_n (lv' := fun x2_1 => [(2, .int x2_1), (0, .ref (g.1 7)), (1, .int a1)]) B dX0_bestGroup_1 rfl n2 (fun _ => rfl) (fun x2_1 => ?_)
  refine r_iconst B (-1 : Int32) dX0_bestGroup_2 (by decide) ?_
  refine r_istore_n (lv' := fun x3_3 => [(3, .int x3_3), (2, .int x2_1), (0, .ref (g.1 7)), (1, .int a1)]) B dX0_bestGroup_3 rfl n3 (fun _ => rfl) (fun x3_3 => ?_)
  refine r_iconst B (1 : Int32) dX0_bestGroup_4 (by decide) ?_
  refine r_istore (lv' := fun x4_5 => [(4, .int x4_5), (3, .int x3_3), (2, .int x2_1), (0, .ref (g.1 7)), (1, .int a1)]) B dX0_bestGroup_5 n4 (fun _ => rfl) (fun x4_5 => ?_)
  refine r_sub [3, 4, 2, 1, 0] rfl ?_
  refine xL_X0_bestGroup_7 B hE S a1 _ ?_ 1000 x2_1 x3_3 x4_5
  intro w2_7
  refine r_iload_n B 0 dX0_bestGroup_50 rfl rfl ?_
  exact r_iret B dX0_bestGroup_51 rfl
set_option maxRecDepth 20000 in
theorem k_X0_bestGroup {l : Launch} {D : va_G} {g : zGx} (hz : zin (WX g)) {S : zSt} {a1 : Int32} {b : Int32} (h : F_X0_bestGroup S a1 = some b) : zMet l D (WX g) (zT g) yX0_bestGroup wsX0_bestGroup rm_X0_bestGroup S [.ref (g.1 7), .int a1] ((eI S) b) := zmet_of (by decide +kernel) rfl hz (Nat.le_of_ble_eq_true rfl) rfl (fun E _ _ hE B => x_X0_bestGroup B hE S a1) h
abbrev rm_X1_setFamilies : Room := { frames := 0, cells := 0, slots := 0, locals := 0 }
theorem y_X1_setFamilies : yX1_setFamilies.cls = RX1 ∧ yX1_setFamilies.cls ≠ "java/lang/invoke/MethodHandle" ∧ yX1_setFamilies.cls ≠ "java/lang/invoke/VarHandle" ∧ (parseMethodDescriptor yX1_setFamilies.desc).map (fun d => d.parameters.length) = some 3 := by decide +kernel
theorem m_X1_setFamilies_f11 : Cond.fieldLink RX1 11 "LongestMet$Country" "alike" "[[I" ∈ wsX1_setFamilies := List.mem_cons_of_mem _ (List.mem_append_left _ (List.mem_of_getElem? (i := 0) rfl))
theorem m_X1_setFamilies_inX1 : ∀ x ∈ u_ws RX1 TX1 1, x ∈ wsX1_setFamilies := fun _ h => List.mem_cons_of_mem _ (List.mem_append_right _ h)
set_option maxRecDepth 100000 in
set_option maxHeartbeats 4000000 in
theorem x_X1_setFamilies {E : zCx} {g : zGx} (B : zGood E (WX g) (zT g) cX1_setFamilies RX1 wsX1_setFamilies (some .int) rm_X1_setFamilies) (hE : E.2.2 = 5) (S : zSt) (a1 : Int32) (a2 : Int32) (a3 : Int32) : Xo E (WX g) eIw S 0 [(0, .ref (g.1 5)), (1, .int a1), (2, .int a2), (3, .int a3)] [] (F_X1_setFamilies S a1 a2 a3) := by
  have n4 : 4 < E.2.2 := by rw [hE]; decide
  unfold F_X1_setFamilies
  refine r_aload_n B 0 dX1_setFamilies_0 rfl rfl ?_
  refine r_get B 5 1 0 (Nat.le_of_ble_eq_true rfl) rfl (cX_5 g _) rfl m_X1_setFamilies_inX1 (Nat.le_of_ble_eq_true rfl) m_X1_setFamilies_f11 rfl dX1_setFamilies_1 ?_
  refine r_iload_n B 1 dX1_setFamilies_4 rfl rfl ?_
  refine r_aald B 18 2 (Nat.le_of_ble_eq_true rfl) rfl (cX_18 g _) rfl dX1_setFamilies_5 (fun h5 => ?_)
  refine r_iload_n B 2 dX1_setFamilies_6 rfl rfl ?_
  refine r_iald B (38 + a1.toNatClampNeg) 0 (hX_r38 g h5) rfl (cX_r38 g _ h5) rfl dX1_setFamilies_7 ?_
  refine r_istore (lv' := fun x4_8 => [(4, .int x4_8), (0, .ref (g.1 5)), (1, .int a1), (2, .int a2), (3, .int a3)]) B dX1_setFamilies_8 n4 (fun _ => rfl) (fun x4_8 => ?_)
  refine r_aload_n B 1 dX1_setFamilies_10 rfl rfl ?_
  refine r_get B 5 1 0 (Nat.le_of_ble_eq_true rfl) rfl (cX_5 g _) rfl m_X1_setFamilies_inX1 (Nat.le_of_ble_eq_true rfl) m_X1_setFamilies_f11 rfl dX1_setFamilies_11 ?_
  refine r_iload_n B 2 dX1_setFamilies_14 rfl rfl ?_
  refine r_aald B 18 2 (Nat.le_of_ble_eq_true rfl) rfl (cX_18 g _) rfl dX1_setFamilies_15 (fun h15 => ?_)
  refine r_iload_n B 3 dX1_setFamilies_16 rfl rfl ?_
  refine r_iload_n B 4 dX1_setFamilies_17 rfl rfl ?_
  refine r_iast B (38 + a1.toNatClampNeg) 0 (hX_r38 g h15) rfl (cX_r38 g _ h15) rfl (uX_r38 g _ h15 _) dX1_setFamilies_18 (fun S18 => ?_)
  refine r_iload B 0 dX1_setFamilies_19 rfl ?_
  exact r_iret B dX1_setFamilies_21 rfl
set_option maxRecDepth 20000 in
theorem k_X1_setFamilies {l : Launch} {D : va_G} {g : zGx} (hz : zin (WX g)) {S : zSt} {a1 : Int32} {a2 : Int32} {a3 : Int32} {b : (Int32 × zSt)} (h : F_X1_setFamilies S a1 a2 a3 = some b) : zMet l D (WX g) (zT g) yX1_setFamilies wsX1_setFamilies rm_X1_setFamilies S [.ref (g.1 5), .int a1, .int a2, .int a3] (eIw b) := zmet_of (by decide +kernel) rfl hz (Nat.le_of_ble_eq_true rfl) rfl (fun E _ _ hE B => x_X1_setFamilies B hE S a1 a2 a3) h
abbrev rm_X1_childrenOf : Room := { frames := 0, cells := 0, slots := 0, locals := 0 }
theorem y_X1_childrenOf : yX1_childrenOf.cls = RX1 ∧ yX1_childrenOf.cls ≠ "java/lang/invoke/MethodHandle" ∧ yX1_childrenOf.cls ≠ "java/lang/invoke/VarHandle" ∧ (parseMethodDescriptor yX1_childrenOf.desc).map (fun d => d.parameters.length) = some 1 := by decide +kernel
theorem m_X1_childrenOf_f11 : Cond.fieldLink RX1 11 "LongestMet$Country" "alike" "[[I" ∈ wsX1_childrenOf := List.mem_cons_of_mem _ (List.mem_append_left _ (List.mem_of_getElem? (i := 0) rfl))
theorem m_X1_childrenOf_inX1 : ∀ x ∈ u_ws RX1 TX1 1, x ∈ wsX1_childrenOf := fun _ h => List.mem_cons_of_mem _ (List.mem_append_right _ h)
set_option maxRecDepth 100000 in
set_option maxHeartbeats 4000000 in
theorem xL_X1_childrenOf_4 {E : zCx} {g : zGx} (B : zGood E (WX g) (zT g) cX1_childrenOf RX1 wsX1_childrenOf (some .int) rm_X1_childrenOf) (hE : E.2.2 = 4) (S : zSt) (a1 : Int32) (k : Int32 → Option Int32) (hk : ∀ (w2 : Int32), Xo E (WX g) (eI S) S 29 [(2, .int w2)] [] (k w2)) : ∀ (n : Nat) (v2_4 : Int32) (v3_4 : Int32), Xo E (WX g) (eI S) S 4 [(0, .ref (g.1 5)), (1, .int a1), (2, .int v2_4), (3, .int v3_4)] [] (L_X1_childrenOf_4 S a1 k n v2_4 v3_4) := by
  have n2 : 2 < E.2.2 := by rw [hE]; decide
  have n3 : 3 < E.2.2 := by rw [hE]; decide
  intro n
  induction n with
  | zero =>
    intro _ _
    exact r_none
  | succ n ih =>
    intro v2_4 v3_4
    rw [L_X1_childrenOf_4]
    refine r_iload_n B 3 dX1_childrenOf_4 rfl rfl ?_
    refine r_bipush B (8 : Int32) dX1_childrenOf_5 (by decide) ?_
    refine r_icmp_gt B 29 dX1_childrenOf_7 (by decide) (fun _ => ?_) (fun _ => ?_)
    · refine r_sub [2] rfl ?_
      exact hk v2_4
    · refine r_iload_n B 2 dX1_childrenOf_10 rfl rfl ?_
      refine r_iload_n B 3 dX1_childrenOf_11 rfl rfl ?_
      refine r_aload_n B 0 dX1_childrenOf_12 rfl rfl ?_
      refine r_get B 5 1 0 (Nat.le_of_ble_eq_true rfl) rfl (cX_5 g _) rfl m_X1_childrenOf_inX1 (Nat.le_of_ble_eq_true rfl) m_X1_childrenOf_f11 rfl dX1_childrenOf_13 ?_
      refine r_iload_n B 1 dX1_childrenOf_16 rfl rfl ?_
      refine r_aald B 18 2 (Nat.le_of_ble_eq_true rfl) rfl (cX_18 g _) rfl dX1_childrenOf_17 (fun h17 => ?_)
      refine r_iload_n B 3 dX1_childrenOf_18 rfl rfl ?_
      refine r_iald B (38 + a1.toNatClampNeg) 0 (hX_r38 g h17) rfl (cX_r38 g _ h17) rfl dX1_childrenOf_19 ?_
      refine r_imul B dX1_childrenOf_20 ?_
      refine r_iadd B dX1_childrenOf_21 ?_
      refine r_istore_n (lv' := fun x2_22 => [(2, .int x2_22), (0, .ref (g.1 5)), (1, .int a1), (3, .int v3_4)]) B dX1_childrenOf_22 rfl n2 (fun _ => rfl) (fun x2_22 => ?_)
      refine r_iinc (lv' := fun x3_23 => [(3, .int x3_23), (2, .int x2_22), (0, .ref (g.1 5)), (1, .int a1)]) B 3 (1 : Int32) dX1_childrenOf_23 rfl (by decide) n3 (fun _ => rfl) (fun x3_23 => ?_)
      refine r_goto B 4 dX1_childrenOf_26 (by decide) ?_
      refine r_sub [2, 3, 1, 0] rfl ?_
      exact ih x2_22 x3_23
set_option maxRecDepth 100000 in
set_option maxHeartbeats 4000000 in
theorem x_X1_childrenOf {E : zCx} {g : zGx} (B : zGood E (WX g) (zT g) cX1_childrenOf RX1 wsX1_childrenOf (some .int) rm_X1_childrenOf) (hE : E.2.2 = 4) (S : zSt) (a1 : Int32) : Xo E (WX g) (eI S) S 0 [(0, .ref (g.1 5)), (1, .int a1)] [] (F_X1_childrenOf S a1) := by
  have n2 : 2 < E.2.2 := by rw [hE]; decide
  have n3 : 3 < E.2.2 := by rw [hE]; decide
  unfold F_X1_childrenOf
  refine r_iconst B (0 : Int32) dX1_childrenOf_0 (by decide) ?_
  refine r_istore_n (lv' := fun x2_1 => [(2, .int x2_1), (0, .ref (g.1 5)), (1, .int a1)]) B dX1_childrenOf_1 rfl n2 (fun _ => rfl) (fun x2_1 => ?_)
  refine r_iconst B (1 : Int32) dX1_childrenOf_2 (by decide) ?_
  refine r_istore_n (lv' := fun x3_3 => [(3, .int x3_3), (2, .int x2_1), (0, .ref (g.1 5)), (1, .int a1)]) B dX1_childrenOf_3 rfl n3 (fun _ => rfl) (fun x3_3 => ?_)
  refine r_sub [2, 3, 1, 0] rfl ?_
  refine xL_X1_childrenOf_4 B hE S a1 _ ?_ 1000 x2_1 x3_3
  intro w2_4
  refine r_iload_n B 0 dX1_childrenOf_29 rfl rfl ?_
  exact r_iret B dX1_childrenOf_30 rfl
set_option maxRecDepth 20000 in
theorem k_X1_childrenOf {l : Launch} {D : va_G} {g : zGx} (hz : zin (WX g)) {S : zSt} {a1 : Int32} {b : Int32} (h : F_X1_childrenOf S a1 = some b) : zMet l D (WX g) (zT g) yX1_childrenOf wsX1_childrenOf rm_X1_childrenOf S [.ref (g.1 5), .int a1] ((eI S) b) := zmet_of (by decide +kernel) rfl hz (Nat.le_of_ble_eq_true rfl) rfl (fun E _ _ hE B => x_X1_childrenOf B hE S a1) h
abbrev rm_X7_counts : Room := { frames := 0, cells := 0, slots := 0, locals := 0 }
theorem y_X7_counts : yX7_counts.cls = RX7 ∧ yX7_counts.cls ≠ "java/lang/invoke/MethodHandle" ∧ yX7_counts.cls ≠ "java/lang/invoke/VarHandle" ∧ (parseMethodDescriptor yX7_counts.desc).map (fun d => d.parameters.length) = some 1 := by decide +kernel
theorem m_X7_counts_f15 : Cond.fieldLink RX7 15 "LongestMet$Survey" "toldAt" "[I" ∈ wsX7_counts := List.mem_cons_of_mem _ (List.mem_append_left _ (List.mem_of_getElem? (i := 0) rfl))
theorem m_X7_counts_inX7 : ∀ x ∈ u_ws RX7 TX7 6, x ∈ wsX7_counts := fun _ h => List.mem_cons_of_mem _ (List.mem_append_right _ h)
theorem m_X7_counts_f28 : Cond.fieldLink RX7 28 "LongestMet$Survey" "seenFrom" "I" ∈ wsX7_counts := List.mem_cons_of_mem _ (List.mem_append_left _ (List.mem_of_getElem? (i := 1) rfl))
theorem m_X7_counts_f18 : Cond.fieldLink RX7 18 "LongestMet$Survey" "backAt" "[I" ∈ wsX7_counts := List.mem_cons_of_mem _ (List.mem_append_left _ (List.mem_of_getElem? (i := 2) rfl))
set_option maxRecDepth 100000 in
set_option maxHeartbeats 4000000 in
theorem x_X7_counts {E : zCx} {g : zGx} (B : zGood E (WX g) (zT g) cX7_counts RX7 wsX7_counts (some .boolean) rm_X7_counts) (hE : E.2.2 = 2) (S : zSt) (a1 : Int32) : Xo E (WX g) (eI S) S 0 [(0, .ref (g.1 4)), (1, .int a1)] [] (F_X7_counts S a1) := by
  unfold F_X7_counts
  refine r_aload_n B 0 dX7_counts_0 rfl rfl ?_
  refine r_get B 4 6 1 (Nat.le_of_ble_eq_true rfl) rfl (cX_4 g _) rfl m_X7_counts_inX7 (Nat.le_of_ble_eq_true rfl) m_X7_counts_f15 rfl dX7_counts_1 ?_
  refine r_iload_n B 1 dX7_counts_4 rfl rfl ?_
  refine r_iald B 16 0 (Nat.le_of_ble_eq_true rfl) rfl (cX_16 g _) rfl dX7_counts_5 ?_
  refine r_aload_n B 0 dX7_counts_6 rfl rfl ?_
  refine r_get B 4 6 5 (Nat.le_of_ble_eq_true rfl) rfl (cX_4 g _) rfl m_X7_counts_inX7 (Nat.le_of_ble_eq_true rfl) m_X7_counts_f28 rfl dX7_counts_7 ?_
  refine r_icmp_gt B 30 dX7_counts_10 (by decide) (fun _ => ?_) (fun _ => ?_)
  · refine r_iconst B (0 : Int32) dX7_counts_30 (by decide) ?_
    exact r_zret0 B dX7_counts_31 rfl
  · refine r_aload_n B 0 dX7_counts_13 rfl rfl ?_
    refine r_get B 4 6 2 (Nat.le_of_ble_eq_true rfl) rfl (cX_4 g _) rfl m_X7_counts_inX7 (Nat.le_of_ble_eq_true rfl) m_X7_counts_f18 rfl dX7_counts_14 ?_
    refine r_iload_n B 1 dX7_counts_17 rfl rfl ?_
    refine r_iald B 17 0 (Nat.le_of_ble_eq_true rfl) rfl (cX_17 g _) rfl dX7_counts_18 ?_
    refine r_aload_n B 0 dX7_counts_19 rfl rfl ?_
    refine r_get B 4 6 5 (Nat.le_of_ble_eq_true rfl) rfl (cX_4 g _) rfl m_X7_counts_inX7 (Nat.le_of_ble_eq_true rfl) m_X7_counts_f28 rfl dX7_counts_20 ?_
    refine r_icmp_le B 30 dX7_counts_23 (by decide) (fun _ => ?_) (fun _ => ?_)
    · refine r_iconst B (0 : Int32) dX7_counts_30 (by decide) ?_
      exact r_zret0 B dX7_counts_31 rfl
    · refine r_iconst B (1 : Int32) dX7_counts_26 (by decide) ?_
      refine r_goto B 31 dX7_counts_27 (by decide) ?_
      exact r_zret1 B dX7_counts_31 rfl
set_option maxRecDepth 20000 in
theorem k_X7_counts {l : Launch} {D : va_G} {g : zGx} (hz : zin (WX g)) {S : zSt} {a1 : Int32} {b : Int32} (h : F_X7_counts S a1 = some b) : zMet l D (WX g) (zT g) yX7_counts wsX7_counts rm_X7_counts S [.ref (g.1 4), .int a1] ((eI S) b) := zmet_of (by decide +kernel) rfl hz (Nat.le_of_ble_eq_true rfl) rfl (fun E _ _ hE B => x_X7_counts B hE S a1) h
abbrev rm_X7_counting : Room := { frames := 1, cells := 0, slots := 0, locals := 21 }
theorem y_X7_counting : yX7_counting.cls = RX7 ∧ yX7_counting.cls ≠ "java/lang/invoke/MethodHandle" ∧ yX7_counting.cls ≠ "java/lang/invoke/VarHandle" ∧ (parseMethodDescriptor yX7_counting.desc).map (fun d => d.parameters.length) = some 0 := by decide +kernel
theorem m_X7_counting_f21 : Cond.fieldLink RX7 21 "LongestMet$Survey" "told" "I" ∈ wsX7_counting := List.mem_cons_of_mem _ (List.mem_append_left _ (List.mem_of_getElem? (i := 0) rfl))
theorem m_X7_counting_inX7 : ∀ x ∈ u_ws RX7 TX7 6, x ∈ wsX7_counting := fun _ h => List.mem_cons_of_mem _ (List.mem_append_right _ h)
set_option maxRecDepth 100000 in
set_option maxHeartbeats 4000000 in
theorem xL_X7_counting_4 {E : zCx} {g : zGx} (B : zGood E (WX g) (zT g) cX7_counting RX7 wsX7_counting (some .int) rm_X7_counting) (hE : E.2.2 = 3) (S : zSt) (k : Int32 → Option Int32) (hk : ∀ (w1 : Int32), Xo E (WX g) (eI S) S 29 [(1, .int w1)] [] (k w1)) : ∀ (n : Nat) (v1_4 : Int32) (v2_4 : Int32), Xo E (WX g) (eI S) S 4 [(0, .ref (g.1 4)), (1, .int v1_4), (2, .int v2_4)] [] (L_X7_counting_4 S k n v1_4 v2_4) := by
  have n1 : 1 < E.2.2 := by rw [hE]; decide
  have n2 : 2 < E.2.2 := by rw [hE]; decide
  intro n
  induction n with
  | zero =>
    intro _ _
    exact r_none
  | succ n ih =>
    intro v1_4 v2_4
    rw [L_X7_counting_4]
    refine r_iload_n B 2 dX7_counting_4 rfl rfl ?_
    refine r_aload_n B 0 dX7_counting_5 rfl rfl ?_
    refine r_get B 4 6 3 (Nat.le_of_ble_eq_true rfl) rfl (cX_4 g _) rfl m_X7_counting_inX7 (Nat.le_of_ble_eq_true rfl) m_X7_counting_f21 rfl dX7_counting_6 ?_
    refine r_icmp_ge B 29 dX7_counting_9 (by decide) (fun _ => ?_) (fun _ => ?_)
    · refine r_sub [1] rfl ?_
      exact hk v1_4
    · refine r_aload_n B 0 dX7_counting_12 rfl rfl ?_
      refine r_iload_n B 2 dX7_counting_13 rfl rfl ?_
      refine r_cI (zrunV (As := [.int v2_4]) (rest := []) B 1 4 (fun b hb => k_X7_counts B.2.2.1 hb) gX7_counting_X7_counts rfl rfl rfl y_X7_counts ⟨Nat.le_of_ble_eq_true rfl, Nat.le_of_ble_eq_true rfl⟩ (Nat.le_of_ble_eq_true rfl) rfl (cX_4 g _) rfl rfl rfl (Nat.le_of_ble_eq_true rfl) dX7_counting_14) (fun r14 => ?_)
      refine r_if_eq B 23 dX7_counting_17 (by decide) (fun _ => ?_) (fun _ => ?_)
      · refine r_iinc (lv' := fun x2_23 => [(2, .int x2_23), (0, .ref (g.1 4)), (1, .int v1_4)]) B 2 (1 : Int32) dX7_counting_23 rfl (by decide) n2 (fun _ => rfl) (fun x2_23 => ?_)
        refine r_goto B 4 dX7_counting_26 (by decide) ?_
        refine r_sub [1, 2, 0] rfl ?_
        exact ih v1_4 x2_23
      · refine r_iinc (lv' := fun x1_20 => [(1, .int x1_20), (0, .ref (g.1 4)), (2, .int v2_4)]) B 1 (1 : Int32) dX7_counting_20 rfl (by decide) n1 (fun _ => rfl) (fun x1_20 => ?_)
        refine r_iinc (lv' := fun x2_23 => [(2, .int x2_23), (1, .int x1_20), (0, .ref (g.1 4))]) B 2 (1 : Int32) dX7_counting_23 rfl (by decide) n2 (fun _ => rfl) (fun x2_23 => ?_)
        refine r_goto B 4 dX7_counting_26 (by decide) ?_
        refine r_sub [2, 1, 0] rfl ?_
        exact ih x1_20 x2_23
set_option maxRecDepth 100000 in
set_option maxHeartbeats 4000000 in
theorem x_X7_counting {E : zCx} {g : zGx} (B : zGood E (WX g) (zT g) cX7_counting RX7 wsX7_counting (some .int) rm_X7_counting) (hE : E.2.2 = 3) (S : zSt) : Xo E (WX g) (eI S) S 0 [(0, .ref (g.1 4))] [] (F_X7_counting S) := by
  have n1 : 1 < E.2.2 := by rw [hE]; decide
  have n2 : 2 < E.2.2 := by rw [hE]; decide
  unfold F_X7_counting
  refine r_iconst B (0 : Int32) dX7_counting_0 (by decide) ?_
  refine r_istore_n (lv' := fun x1_1 => [(1, .int x1_1), (0, .ref (g.1 4))]) B dX7_counting_1 rfl n1 (fun _ => rfl) (fun x1_1 => ?_)
  refine r_iconst B (0 : Int32) dX7_counting_2 (by decide) ?_
  refine r_istore_n (lv' := fun x2_3 => [(2, .int x2_3), (1, .int x1_1), (0, .ref (g.1 4))]) B dX7_counting_3 rfl n2 (fun _ => rfl) (fun x2_3 => ?_)
  refine r_sub [2, 1, 0] rfl ?_
  refine xL_X7_counting_4 B hE S _ ?_ 1000 x1_1 x2_3
  intro w1_4
  refine r_iload_n B 0 dX7_counting_29 rfl rfl ?_
  exact r_iret B dX7_counting_30 rfl
set_option maxRecDepth 20000 in
theorem k_X7_counting {l : Launch} {D : va_G} {g : zGx} (hz : zin (WX g)) {S : zSt} {b : Int32} (h : F_X7_counting S = some b) : zMet l D (WX g) (zT g) yX7_counting wsX7_counting rm_X7_counting S [.ref (g.1 4)] ((eI S) b) := zmet_of (by decide +kernel) rfl hz (Nat.le_of_ble_eq_true rfl) rfl (fun E _ _ hE B => x_X7_counting B hE S) h
abbrev rm_X1_hasFewer : Room := { frames := 2, cells := 0, slots := 0, locals := 43 }
theorem y_X1_hasFewer : yX1_hasFewer.cls = RX1 ∧ yX1_hasFewer.cls ≠ "java/lang/invoke/MethodHandle" ∧ yX1_hasFewer.cls ≠ "java/lang/invoke/VarHandle" ∧ (parseMethodDescriptor yX1_hasFewer.desc).map (fun d => d.parameters.length) = some 2 := by decide +kernel
set_option maxRecDepth 100000 in
set_option maxHeartbeats 4000000 in
theorem x_X1_hasFewer {E : zCx} {g : zGx} (B : zGood E (WX g) (zT g) cX1_hasFewer RX1 wsX1_hasFewer (some .boolean) rm_X1_hasFewer) (hE : E.2.2 = 3) (S : zSt) (a1 : Int32) : Xo E (WX g) (eI S) S 0 [(0, .ref (g.1 5)), (1, .int a1), (2, .ref (g.1 4))] [] (F_X1_hasFewer S a1) := by
  unfold F_X1_hasFewer
  refine r_aload_n B 0 dX1_hasFewer_0 rfl rfl ?_
  refine r_iload_n B 1 dX1_hasFewer_1 rfl rfl ?_
  refine r_cI (zrunV (As := [.int a1]) (rest := []) B 1 5 (fun b hb => k_X1_childrenOf B.2.2.1 hb) gX1_hasFewer_X1_childrenOf rfl rfl rfl y_X1_childrenOf ⟨Nat.le_of_ble_eq_true rfl, Nat.le_of_ble_eq_true rfl⟩ (Nat.le_of_ble_eq_true rfl) rfl (cX_5 g _) rfl rfl rfl (Nat.le_of_ble_eq_true rfl) dX1_hasFewer_2) (fun r2 => ?_)
  refine r_aload_n B 2 dX1_hasFewer_5 rfl rfl ?_
  refine r_cI (zrunV (As := []) (rest := [.int r2]) B 0 4 (fun b hb => k_X7_counting B.2.2.1 hb) gX1_hasFewer_X7_counting rfl rfl rfl y_X7_counting ⟨Nat.le_of_ble_eq_true rfl, Nat.le_of_ble_eq_true rfl⟩ (Nat.le_of_ble_eq_true rfl) rfl (cX_4 g _) rfl rfl rfl (Nat.le_of_ble_eq_true rfl) dX1_hasFewer_6) (fun r6 => ?_)
  refine r_icmp_ge B 16 dX1_hasFewer_9 (by decide) (fun _ => ?_) (fun _ => ?_)
  · refine r_iconst B (0 : Int32) dX1_hasFewer_16 (by decide) ?_
    exact r_zret0 B dX1_hasFewer_17 rfl
  · refine r_iconst B (1 : Int32) dX1_hasFewer_12 (by decide) ?_
    refine r_goto B 17 dX1_hasFewer_13 (by decide) ?_
    exact r_zret1 B dX1_hasFewer_17 rfl
set_option maxRecDepth 20000 in
theorem k_X1_hasFewer {l : Launch} {D : va_G} {g : zGx} (hz : zin (WX g)) {S : zSt} {a1 : Int32} {b : Int32} (h : F_X1_hasFewer S a1 = some b) : zMet l D (WX g) (zT g) yX1_hasFewer wsX1_hasFewer rm_X1_hasFewer S [.ref (g.1 5), .int a1, .ref (g.1 4)] ((eI S) b) := zmet_of (by decide +kernel) rfl hz (Nat.le_of_ble_eq_true rfl) rfl (fun E _ _ hE B => x_X1_hasFewer B hE S a1) h
abbrev rm_X1_choose : Room := { frames := 0, cells := 0, slots := 0, locals := 0 }
theorem y_X1_choose : yX1_choose.cls ≠ "java/lang/invoke/MethodHandle" ∧ yX1_choose.cls ≠ "java/lang/invoke/VarHandle" ∧ (parseMethodDescriptor yX1_choose.desc).map (fun d => d.parameters.length) = some 2 := by decide +kernel
set_option maxRecDepth 100000 in
set_option maxHeartbeats 4000000 in
theorem xL_X1_choose_12 {E : zCx} {g : zGx} (B : zGood E (WX g) (zT g) cX1_choose RX1 wsX1_choose (some .long) rm_X1_choose) (hE : E.2.2 = 5) (S : zSt) (a0 : Int32) (a1 : Int32) (k : Int64 → Option Int64) (hk : ∀ (w2 : Int64), Xo E (WX g) (eL S) S 38 [(2, .long w2)] [] (k w2)) : ∀ (n : Nat) (v2_12 : Int64) (v4_12 : Int32), Xo E (WX g) (eL S) S 12 [(0, .int a0), (1, .int a1), (2, .long v2_12), (4, .int v4_12)] [] (L_X1_choose_12 a0 a1 k n v2_12 v4_12) := by
  have nn2 : 2 + 1 < E.2.2 := by rw [hE]; decide
  have n4 : 4 < E.2.2 := by rw [hE]; decide
  intro n
  induction n with
  | zero =>
    intro _ _
    exact r_none
  | succ n ih =>
    intro v2_12 v4_12
    rw [L_X1_choose_12]
    refine r_iload B 3 dX1_choose_12 rfl ?_
    refine r_iload_n B 1 dX1_choose_14 rfl rfl ?_
    refine r_icmp_gt B 38 dX1_choose_15 (by decide) (fun _ => ?_) (fun _ => ?_)
    · refine r_sub [2] rfl ?_
      exact hk v2_12
    · refine r_lload_n B 2 dX1_choose_18 rfl rfl ?_
      refine r_iload_n B 0 dX1_choose_19 rfl rfl ?_
      refine r_iload_n B 1 dX1_choose_20 rfl rfl ?_
      refine r_isub B dX1_choose_21 ?_
      refine r_iload B 3 dX1_choose_22 rfl ?_
      refine r_iadd B dX1_choose_24 ?_
      refine r_i2l B dX1_choose_25 ?_
      refine r_lmul B dX1_choose_26 ?_
      refine r_iload B 3 dX1_choose_27 rfl ?_
      refine r_i2l B dX1_choose_29 ?_
      refine r_ldiv B dX1_choose_30 (fun _ => ?_)
      refine r_lstore_n (lv' := fun x2_31 => [(2, .long x2_31), (0, .int a0), (1, .int a1), (4, .int v4_12)]) B dX1_choose_31 rfl nn2 (fun _ => rfl) (fun x2_31 => ?_)
      refine r_iinc (lv' := fun x4_32 => [(4, .int x4_32), (2, .long x2_31), (0, .int a0), (1, .int a1)]) B 3 (1 : Int32) dX1_choose_32 rfl (by decide) n4 (fun _ => rfl) (fun x4_32 => ?_)
      refine r_goto B 12 dX1_choose_35 (by decide) ?_
      refine r_sub [2, 3, 1, 0] rfl ?_
      exact ih x2_31 x4_32
set_option maxRecDepth 100000 in
set_option maxHeartbeats 4000000 in
theorem x_X1_choose {E : zCx} {g : zGx} (B : zGood E (WX g) (zT g) cX1_choose RX1 wsX1_choose (some .long) rm_X1_choose) (hE : E.2.2 = 5) (S : zSt) (a0 : Int32) (a1 : Int32) : Xo E (WX g) (eL S) S 0 [(0, .int a0), (1, .int a1)] [] (F_X1_choose a0 a1) := by
  have nn2 : 2 + 1 < E.2.2 := by rw [hE]; decide
  have n4 : 4 < E.2.2 := by rw [hE]; decide
  unfold F_X1_choose
  refine r_iload_n B 1 dX1_choose_0 rfl rfl ?_
  refine r_iload_n B 0 dX1_choose_1 rfl rfl ?_
  refine r_icmp_le B 7 dX1_choose_2 (by decide) (fun _ => ?_) (fun _ => ?_)
  · refine r_lconst B (1 : Int64) dX1_choose_7 (by decide) ?_
    refine r_lstore_n (lv' := fun x2_8 => [(2, .long x2_8), (0, .int a0), (1, .int a1)]) B dX1_choose_8 rfl nn2 (fun _ => rfl) (fun x2_8 => ?_)
    refine r_iconst B (1 : Int32) dX1_choose_9 (by decide) ?_
    refine r_istore (lv' := fun x4_10 => [(4, .int x4_10), (2, .long x2_8), (0, .int a0), (1, .int a1)]) B dX1_choose_10 n4 (fun _ => rfl) (fun x4_10 => ?_)
    refine r_sub [2, 3, 1, 0] rfl ?_
    refine xL_X1_choose_12 B hE S a0 a1 _ ?_ 1000 x2_8 x4_10
    intro w2_12
    refine r_lload_n B 0 dX1_choose_38 rfl rfl ?_
    exact r_lret B dX1_choose_39 rfl
  · refine r_lconst B (0 : Int64) dX1_choose_5 (by decide) ?_
    exact r_lret B dX1_choose_6 rfl
set_option maxRecDepth 20000 in
theorem k_X1_choose {l : Launch} {D : va_G} {g : zGx} (hz : zin (WX g)) {S : zSt} {a0 : Int32} {a1 : Int32} {b : Int64} (h : F_X1_choose a0 a1 = some b) : zMet l D (WX g) (zT g) yX1_choose wsX1_choose rm_X1_choose S [.int a0, .int a1] ((eL S) b) := zmet_of (by decide +kernel) rfl hz (Nat.le_of_ble_eq_true rfl) rfl (fun E _ _ hE B => x_X1_choose B hE S a0 a1) h
abbrev rm_X1_choices : Room := { frames := 2, cells := 0, slots := 0, locals := 43 }
theorem y_X1_choices : yX1_choices.cls = RX1 ∧ yX1_choices.cls ≠ "java/lang/invoke/MethodHandle" ∧ yX1_choices.cls ≠ "java/lang/invoke/VarHandle" ∧ (parseMethodDescriptor yX1_choices.desc).map (fun d => d.parameters.length) = some 2 := by decide +kernel
set_option maxRecDepth 100000 in
set_option maxHeartbeats 4000000 in
theorem x_X1_choices {E : zCx} {g : zGx} (B : zGood E (WX g) (zT g) cX1_choices RX1 wsX1_choices (some .long) rm_X1_choices) (hE : E.2.2 = 3) (S : zSt) (a1 : Int32) : Xo E (WX g) (eL S) S 0 [(0, .ref (g.1 5)), (1, .int a1), (2, .ref (g.1 4))] [] (F_X1_choices S a1) := by
  unfold F_X1_choices
  refine r_aload_n B 0 dX1_choices_0 rfl rfl ?_
  refine r_iload_n B 1 dX1_choices_1 rfl rfl ?_
  refine r_cI (zrunV (As := [.int a1]) (rest := []) B 1 5 (fun b hb => k_X1_childrenOf B.2.2.1 hb) gX1_choices_X1_childrenOf rfl rfl rfl y_X1_childrenOf ⟨Nat.le_of_ble_eq_true rfl, Nat.le_of_ble_eq_true rfl⟩ (Nat.le_of_ble_eq_true rfl) rfl (cX_5 g _) rfl rfl rfl (Nat.le_of_ble_eq_true rfl) dX1_choices_2) (fun r2 => ?_)
  refine r_aload_n B 2 dX1_choices_5 rfl rfl ?_
  refine r_cI (zrunV (As := []) (rest := [.int r2]) B 0 4 (fun b hb => k_X7_counting B.2.2.1 hb) gX1_choices_X7_counting rfl rfl rfl y_X7_counting ⟨Nat.le_of_ble_eq_true rfl, Nat.le_of_ble_eq_true rfl⟩ (Nat.le_of_ble_eq_true rfl) rfl (cX_4 g _) rfl rfl rfl (Nat.le_of_ble_eq_true rfl) dX1_choices_6) (fun r6 => ?_)
  refine r_cL (zrunS (As := [.int r2, .int r6]) (rest := []) B 2 (fun b hb => k_X1_choose B.2.2.1 hb) gX1_choices_X1_choose rfl rfl rfl y_X1_choose ⟨Nat.le_of_ble_eq_true rfl, Nat.le_of_ble_eq_true rfl⟩ rfl rfl (Nat.le_of_ble_eq_true rfl) dX1_choices_9) (fun r9 => ?_)
  exact r_lret B dX1_choices_12 rfl
set_option maxRecDepth 20000 in
theorem k_X1_choices {l : Launch} {D : va_G} {g : zGx} (hz : zin (WX g)) {S : zSt} {a1 : Int32} {b : Int64} (h : F_X1_choices S a1 = some b) : zMet l D (WX g) (zT g) yX1_choices wsX1_choices rm_X1_choices S [.ref (g.1 5), .int a1, .ref (g.1 4)] ((eL S) b) := zmet_of (by decide +kernel) rfl hz (Nat.le_of_ble_eq_true rfl) rfl (fun E _ _ hE B => x_X1_choices B hE S a1) h
abbrev rm_X7_saying : Room := { frames := 1, cells := 0, slots := 0, locals := 21 }
theorem y_X7_saying : yX7_saying.cls = RX7 ∧ yX7_saying.cls ≠ "java/lang/invoke/MethodHandle" ∧ yX7_saying.cls ≠ "java/lang/invoke/VarHandle" ∧ (parseMethodDescriptor yX7_saying.desc).map (fun d => d.parameters.length) = some 1 := by decide +kernel
theorem m_X7_saying_f21 : Cond.fieldLink RX7 21 "LongestMet$Survey" "told" "I" ∈ wsX7_saying := List.mem_cons_of_mem _ (List.mem_append_left _ (List.mem_of_getElem? (i := 0) rfl))
theorem m_X7_saying_inX7 : ∀ x ∈ u_ws RX7 TX7 6, x ∈ wsX7_saying := fun _ h => List.mem_cons_of_mem _ (List.mem_append_right _ h)
theorem m_X7_saying_f11 : Cond.fieldLink RX7 11 "LongestMet$Survey" "answers" "[I" ∈ wsX7_saying := List.mem_cons_of_mem _ (List.mem_append_left _ (List.mem_of_getElem? (i := 1) rfl))
set_option maxRecDepth 100000 in
set_option maxHeartbeats 4000000 in
theorem xL_X7_saying_4 {E : zCx} {g : zGx} (B : zGood E (WX g) (zT g) cX7_saying RX7 wsX7_saying (some .int) rm_X7_saying) (hE : E.2.2 = 4) (S : zSt) (a1 : Int32) (k : Int32 → Option Int32) (hk : ∀ (w2 : Int32), Xo E (WX g) (eI S) S 39 [(2, .int w2)] [] (k w2)) : ∀ (n : Nat) (v2_4 : Int32) (v3_4 : Int32), Xo E (WX g) (eI S) S 4 [(0, .ref (g.1 4)), (1, .int a1), (2, .int v2_4), (3, .int v3_4)] [] (L_X7_saying_4 S a1 k n v2_4 v3_4) := by
  have n2 : 2 < E.2.2 := by rw [hE]; decide
  have n3 : 3 < E.2.2 := by rw [hE]; decide
  intro n
  induction n with
  | zero =>
    intro _ _
    exact r_none
  | succ n ih =>
    intro v2_4 v3_4
    rw [L_X7_saying_4]
    refine r_iload_n B 3 dX7_saying_4 rfl rfl ?_
    refine r_aload_n B 0 dX7_saying_5 rfl rfl ?_
    refine r_get B 4 6 3 (Nat.le_of_ble_eq_true rfl) rfl (cX_4 g _) rfl m_X7_saying_inX7 (Nat.le_of_ble_eq_true rfl) m_X7_saying_f21 rfl dX7_saying_6 ?_
    refine r_icmp_ge B 39 dX7_saying_9 (by decide) (fun _ => ?_) (fun _ => ?_)
    · refine r_sub [2] rfl ?_
      exact hk v2_4
    · refine r_aload_n B 0 dX7_saying_12 rfl rfl ?_
      refine r_get B 4 6 0 (Nat.le_of_ble_eq_true rfl) rfl (cX_4 g _) rfl m_X7_saying_inX7 (Nat.le_of_ble_eq_true rfl) m_X7_saying_f11 rfl dX7_saying_13 ?_
      refine r_iload_n B 3 dX7_saying_16 rfl rfl ?_
      refine r_iald B 15 0 (Nat.le_of_ble_eq_true rfl) rfl (cX_15 g _) rfl dX7_saying_17 ?_
      refine r_iload_n B 1 dX7_saying_18 rfl rfl ?_
      refine r_icmp_ne B 33 dX7_saying_19 (by decide) (fun _ => ?_) (fun _ => ?_)
      · refine r_iinc (lv' := fun x3_33 => [(3, .int x3_33), (0, .ref (g.1 4)), (1, .int a1), (2, .int v2_4)]) B 3 (1 : Int32) dX7_saying_33 rfl (by decide) n3 (fun _ => rfl) (fun x3_33 => ?_)
        refine r_goto B 4 dX7_saying_36 (by decide) ?_
        refine r_sub [1, 2, 3, 0] rfl ?_
        exact ih v2_4 x3_33
      · refine r_aload_n B 0 dX7_saying_22 rfl rfl ?_
        refine r_iload_n B 3 dX7_saying_23 rfl rfl ?_
        refine r_cI (zrunV (As := [.int v3_4]) (rest := []) B 1 4 (fun b hb => k_X7_counts B.2.2.1 hb) gX7_saying_X7_counts rfl rfl rfl y_X7_counts ⟨Nat.le_of_ble_eq_true rfl, Nat.le_of_ble_eq_true rfl⟩ (Nat.le_of_ble_eq_true rfl) rfl (cX_4 g _) rfl rfl rfl (Nat.le_of_ble_eq_true rfl) dX7_saying_24) (fun r24 => ?_)
        refine r_if_eq B 33 dX7_saying_27 (by decide) (fun _ => ?_) (fun _ => ?_)
        · refine r_iinc (lv' := fun x3_33 => [(3, .int x3_33), (0, .ref (g.1 4)), (1, .int a1), (2, .int v2_4)]) B 3 (1 : Int32) dX7_saying_33 rfl (by decide) n3 (fun _ => rfl) (fun x3_33 => ?_)
          refine r_goto B 4 dX7_saying_36 (by decide) ?_
          refine r_sub [1, 2, 3, 0] rfl ?_
          exact ih v2_4 x3_33
        · refine r_iinc (lv' := fun x2_30 => [(2, .int x2_30), (0, .ref (g.1 4)), (1, .int a1), (3, .int v3_4)]) B 2 (1 : Int32) dX7_saying_30 rfl (by decide) n2 (fun _ => rfl) (fun x2_30 => ?_)
          refine r_iinc (lv' := fun x3_33 => [(3, .int x3_33), (2, .int x2_30), (0, .ref (g.1 4)), (1, .int a1)]) B 3 (1 : Int32) dX7_saying_33 rfl (by decide) n3 (fun _ => rfl) (fun x3_33 => ?_)
          refine r_goto B 4 dX7_saying_36 (by decide) ?_
          refine r_sub [2, 3, 1, 0] rfl ?_
          exact ih x2_30 x3_33
set_option maxRecDepth 100000 in
set_option maxHeartbeats 4000000 in
theorem x_X7_saying {E : zCx} {g : zGx} (B : zGood E (WX g) (zT g) cX7_saying RX7 wsX7_saying (some .int) rm_X7_saying) (hE : E.2.2 = 4) (S : zSt) (a1 : Int32) : Xo E (WX g) (eI S) S 0 [(0, .ref (g.1 4)), (1, .int a1)] [] (F_X7_saying S a1) := by
  have n2 : 2 < E.2.2 := by rw [hE]; decide
  have n3 : 3 < E.2.2 := by rw [hE]; decide
  unfold F_X7_saying
  refine r_iconst B (0 : Int32) dX7_saying_0 (by decide) ?_
  refine r_istore_n (lv' := fun x2_1 => [(2, .int x2_1), (0, .ref (g.1 4)), (1, .int a1)]) B dX7_saying_1 rfl n2 (fun _ => rfl) (fun x2_1 => ?_)
  refine r_iconst B (0 : Int32) dX7_saying_2 (by decide) ?_
  refine r_istore_n (lv' := fun x3_3 => [(3, .int x3_3), (2, .int x2_1), (0, .ref (g.1 4)), (1, .int a1)]) B dX7_saying_3 rfl n3 (fun _ => rfl) (fun x3_3 => ?_)
  refine r_sub [2, 3, 1, 0] rfl ?_
  refine xL_X7_saying_4 B hE S a1 _ ?_ 1000 x2_1 x3_3
  intro w2_4
  refine r_iload_n B 0 dX7_saying_39 rfl rfl ?_
  exact r_iret B dX7_saying_40 rfl
set_option maxRecDepth 20000 in
theorem k_X7_saying {l : Launch} {D : va_G} {g : zGx} (hz : zin (WX g)) {S : zSt} {a1 : Int32} {b : Int32} (h : F_X7_saying S a1 = some b) : zMet l D (WX g) (zT g) yX7_saying wsX7_saying rm_X7_saying S [.ref (g.1 4), .int a1] ((eI S) b) := zmet_of (by decide +kernel) rfl hz (Nat.le_of_ble_eq_true rfl) rfl (fun E _ _ hE B => x_X7_saying B hE S a1) h
abbrev rm_X1_choicesThatFit : Room := { frames := 2, cells := 0, slots := 0, locals := 44 }
theorem y_X1_choicesThatFit : yX1_choicesThatFit.cls = RX1 ∧ yX1_choicesThatFit.cls ≠ "java/lang/invoke/MethodHandle" ∧ yX1_choicesThatFit.cls ≠ "java/lang/invoke/VarHandle" ∧ (parseMethodDescriptor yX1_choicesThatFit.desc).map (fun d => d.parameters.length) = some 2 := by decide +kernel
theorem m_X1_choicesThatFit_f11 : Cond.fieldLink RX1 11 "LongestMet$Country" "alike" "[[I" ∈ wsX1_choicesThatFit := List.mem_cons_of_mem _ (List.mem_append_left _ (List.mem_append_left _ (List.mem_of_getElem? (i := 0) rfl)))
theorem m_X1_choicesThatFit_inX1 : ∀ x ∈ u_ws RX1 TX1 1, x ∈ wsX1_choicesThatFit := fun _ h => List.mem_cons_of_mem _ (List.mem_append_left _ (List.mem_append_right _ h))
set_option maxRecDepth 100000 in
set_option maxHeartbeats 4000000 in
theorem xL_X1_choicesThatFit_5 {E : zCx} {g : zGx} (B : zGood E (WX g) (zT g) cX1_choicesThatFit RX1 wsX1_choicesThatFit (some .long) rm_X1_choicesThatFit) (hE : E.2.2 = 6) (S : zSt) (a1 : Int32) (k : Int64 → Option Int64) (hk : ∀ (w3 : Int64), Xo E (WX g) (eL S) S 42 [(3, .long w3)] [] (k w3)) : ∀ (n : Nat) (v3_5 : Int64) (v5_5 : Int32), Xo E (WX g) (eL S) S 5 [(0, .ref (g.1 5)), (1, .int a1), (2, .ref (g.1 4)), (3, .long v3_5), (5, .int v5_5)] [] (L_X1_choicesThatFit_5 S a1 k n v3_5 v5_5) := by
  have nn3 : 3 + 1 < E.2.2 := by rw [hE]; decide
  have n5 : 5 < E.2.2 := by rw [hE]; decide
  intro n
  induction n with
  | zero =>
    intro _ _
    exact r_none
  | succ n ih =>
    intro v3_5 v5_5
    rw [L_X1_choicesThatFit_5]
    refine r_iload B 4 dX1_choicesThatFit_5 rfl ?_
    refine r_bipush B (8 : Int32) dX1_choicesThatFit_7 (by decide) ?_
    refine r_icmp_gt B 42 dX1_choicesThatFit_9 (by decide) (fun _ => ?_) (fun _ => ?_)
    · refine r_sub [3] rfl ?_
      exact hk v3_5
    · refine r_lload_n B 3 dX1_choicesThatFit_12 rfl rfl ?_
      refine r_iload B 4 dX1_choicesThatFit_13 rfl ?_
      refine r_aload_n B 0 dX1_choicesThatFit_15 rfl rfl ?_
      refine r_get B 5 1 0 (Nat.le_of_ble_eq_true rfl) rfl (cX_5 g _) rfl m_X1_choicesThatFit_inX1 (Nat.le_of_ble_eq_true rfl) m_X1_choicesThatFit_f11 rfl dX1_choicesThatFit_16 ?_
      refine r_iload_n B 1 dX1_choicesThatFit_19 rfl rfl ?_
      refine r_aald B 18 2 (Nat.le_of_ble_eq_true rfl) rfl (cX_18 g _) rfl dX1_choicesThatFit_20 (fun h20 => ?_)
      refine r_iload B 4 dX1_choicesThatFit_21 rfl ?_
      refine r_iald B (38 + a1.toNatClampNeg) 0 (hX_r38 g h20) rfl (cX_r38 g _ h20) rfl dX1_choicesThatFit_23 ?_
      refine r_imul B dX1_choicesThatFit_24 ?_
      refine r_aload_n B 2 dX1_choicesThatFit_25 rfl rfl ?_
      refine r_iload B 4 dX1_choicesThatFit_26 rfl ?_
      refine r_cI (zrunV (As := [.int v5_5]) (rest := [.int (v5_5 * (zA S (38 + a1.toNatClampNeg) v5_5.toNatClampNeg)), .long v3_5]) B 1 4 (fun b hb => k_X7_saying B.2.2.1 hb) gX1_choicesThatFit_X7_saying rfl rfl rfl y_X7_saying ⟨Nat.le_of_ble_eq_true rfl, Nat.le_of_ble_eq_true rfl⟩ (Nat.le_of_ble_eq_true rfl) rfl (cX_4 g _) rfl rfl rfl (Nat.le_of_ble_eq_true rfl) dX1_choicesThatFit_28) (fun r28 => ?_)
      refine r_cL (zrunS (As := [.int (v5_5 * (zA S (38 + a1.toNatClampNeg) v5_5.toNatClampNeg)), .int r28]) (rest := [.long v3_5]) B 2 (fun b hb => k_X1_choose B.2.2.1 hb) gX1_choicesThatFit_X1_choose rfl rfl rfl y_X1_choose ⟨Nat.le_of_ble_eq_true rfl, Nat.le_of_ble_eq_true rfl⟩ rfl rfl (Nat.le_of_ble_eq_true rfl) dX1_choicesThatFit_31) (fun r31 => ?_)
      refine r_lmul B dX1_choicesThatFit_34 ?_
      refine r_lstore_n (lv' := fun x3_35 => [(3, .long x3_35), (0, .ref (g.1 5)), (1, .int a1), (2, .ref (g.1 4)), (5, .int v5_5)]) B dX1_choicesThatFit_35 rfl nn3 (fun _ => rfl) (fun x3_35 => ?_)
      refine r_iinc (lv' := fun x5_36 => [(5, .int x5_36), (3, .long x3_35), (0, .ref (g.1 5)), (1, .int a1), (2, .ref (g.1 4))]) B 4 (1 : Int32) dX1_choicesThatFit_36 rfl (by decide) n5 (fun _ => rfl) (fun x5_36 => ?_)
      refine r_goto B 5 dX1_choicesThatFit_39 (by decide) ?_
      refine r_sub [2, 3, 4, 1, 0] rfl ?_
      exact ih x3_35 x5_36
set_option maxRecDepth 100000 in
set_option maxHeartbeats 4000000 in
theorem x_X1_choicesThatFit {E : zCx} {g : zGx} (B : zGood E (WX g) (zT g) cX1_choicesThatFit RX1 wsX1_choicesThatFit (some .long) rm_X1_choicesThatFit) (hE : E.2.2 = 6) (S : zSt) (a1 : Int32) : Xo E (WX g) (eL S) S 0 [(0, .ref (g.1 5)), (1, .int a1), (2, .ref (g.1 4))] [] (F_X1_choicesThatFit S a1) := by
  have nn3 : 3 + 1 < E.2.2 := by rw [hE]; decide
  have n5 : 5 < E.2.2 := by rw [hE]; decide
  unfold F_X1_choicesThatFit
  refine r_lconst B (1 : Int64) dX1_choicesThatFit_0 (by decide) ?_
  refine r_lstore_n (lv' := fun x3_1 => [(3, .long x3_1), (0, .ref (g.1 5)), (1, .int a1), (2, .ref (g.1 4))]) B dX1_choicesThatFit_1 rfl nn3 (fun _ => rfl) (fun x3_1 => ?_)
  refine r_iconst B (1 : Int32) dX1_choicesThatFit_2 (by decide) ?_
  refine r_istore (lv' := fun x5_3 => [(5, .int x5_3), (3, .long x3_1), (0, .ref (g.1 5)), (1, .int a1), (2, .ref (g.1 4))]) B dX1_choicesThatFit_3 n5 (fun _ => rfl) (fun x5_3 => ?_)
  refine r_sub [2, 3, 4, 1, 0] rfl ?_
  refine xL_X1_choicesThatFit_5 B hE S a1 _ ?_ 1000 x3_1 x5_3
  intro w3_5
  refine r_lload_n B 0 dX1_choicesThatFit_42 rfl rfl ?_
  exact r_lret B dX1_choicesThatFit_43 rfl
set_option maxRecDepth 20000 in
theorem k_X1_choicesThatFit {l : Launch} {D : va_G} {g : zGx} (hz : zin (WX g)) {S : zSt} {a1 : Int32} {b : Int64} (h : F_X1_choicesThatFit S a1 = some b) : zMet l D (WX g) (zT g) yX1_choicesThatFit wsX1_choicesThatFit rm_X1_choicesThatFit S [.ref (g.1 5), .int a1, .ref (g.1 4)] ((eL S) b) := zmet_of (by decide +kernel) rfl hz (Nat.le_of_ble_eq_true rfl) rfl (fun E _ _ hE B => x_X1_choicesThatFit B hE S a1) h
abbrev rm_X2_isMore : Room := { frames := 0, cells := 0, slots := 0, locals := 0 }
theorem y_X2_isMore : yX2_isMore.cls ≠ "java/lang/invoke/MethodHandle" ∧ yX2_isMore.cls ≠ "java/lang/invoke/VarHandle" ∧ (parseMethodDescriptor yX2_isMore.desc).map (fun d => d.parameters.length) = some 4 := by decide +kernel
set_option maxRecDepth 100000 in
set_option maxHeartbeats 4000000 in
theorem xL_X2_isMore_20 {E : zCx} {g : zGx} (B : zGood E (WX g) (zT g) cX2_isMore RX2 wsX2_isMore (some .boolean) rm_X2_isMore) (hE : E.2.2 = 26) (S : zSt)  (k : Int64 → Int64 → Int32 → Option Int32) (hk : ∀ (w10 : Int64) (w14 : Int64) (w16 : Int32), Xo E (WX g) (eI S) S 136 [(10, .long w10), (14, .long w14), (16, .int w16)] [] (k w10 w14 w16)) : ∀ (n : Nat) (v8_20 : Int64) (v10_20 : Int64) (v12_20 : Int64) (v14_20 : Int64) (v16_20 : Int32) (v17_20 : Int32), Xo E (WX g) (eI S) S 20 [(8, .long v8_20), (10, .long v10_20), (12, .long v12_20), (14, .long v14_20), (16, .int v16_20), (17, .int v17_20)] [] (L_X2_isMore_20 k n v8_20 v10_20 v12_20 v14_20 v16_20 v17_20) := by
  have nn8 : 8 + 1 < E.2.2 := by rw [hE]; decide
  have nn10 : 10 + 1 < E.2.2 := by rw [hE]; decide
  have nn12 : 12 + 1 < E.2.2 := by rw [hE]; decide
  have nn14 : 14 + 1 < E.2.2 := by rw [hE]; decide
  have n16 : 16 < E.2.2 := by rw [hE]; decide
  have n17 : 17 < E.2.2 := by rw [hE]; decide
  have nn18 : 18 + 1 < E.2.2 := by rw [hE]; decide
  have nn20 : 20 + 1 < E.2.2 := by rw [hE]; decide
  have nn22 : 22 + 1 < E.2.2 := by rw [hE]; decide
  have nn24 : 24 + 1 < E.2.2 := by rw [hE]; decide
  intro n
  induction n with
  | zero =>
    intro _ _ _ _ _ _
    exact r_none
  | succ n ih =>
    intro v8_20 v10_20 v12_20 v14_20 v16_20 v17_20
    rw [L_X2_isMore_20]
    refine r_iload B 5 dX2_isMore_20 rfl ?_
    refine r_sipush B (200 : Int32) dX2_isMore_22 (by decide) ?_
    refine r_icmp_ge B 136 dX2_isMore_25 (by decide) (fun _ => ?_) (fun _ => ?_)
    · refine r_sub [1, 3, 4] rfl ?_
      exact hk v10_20 v14_20 v16_20
    · refine r_lload B 1 dX2_isMore_28 rfl ?_
      refine r_lconst B (0 : Int64) dX2_isMore_30 (by decide) ?_
      refine r_lcmp B dX2_isMore_31 ?_
      refine r_if_le B 136 dX2_isMore_32 (by decide) (fun _ => ?_) (fun _ => ?_)
      · refine r_sub [1, 3, 4] rfl ?_
        exact hk v10_20 v14_20 v16_20
      · refine r_lload B 3 dX2_isMore_35 rfl ?_
        refine r_lconst B (0 : Int64) dX2_isMore_37 (by decide) ?_
        refine r_lcmp B dX2_isMore_38 ?_
        refine r_if_le B 136 dX2_isMore_39 (by decide) (fun _ => ?_) (fun _ => ?_)
        · refine r_sub [1, 3, 4] rfl ?_
          exact hk v10_20 v14_20 v16_20
        · refine r_lload B 0 dX2_isMore_42 rfl ?_
          refine r_lload B 1 dX2_isMore_44 rfl ?_
          refine r_ldiv B dX2_isMore_46 (fun _ => ?_)
          refine r_lstore (lv' := fun x18_47 => [(18, .long x18_47), (8, .long v8_20), (10, .long v10_20), (12, .long v12_20), (14, .long v14_20), (16, .int v16_20), (17, .int v17_20)]) B dX2_isMore_47 nn18 (fun _ => rfl) (fun x18_47 => ?_)
          refine r_lload B 3 dX2_isMore_49 rfl ?_
          refine r_lload B 4 dX2_isMore_51 rfl ?_
          refine r_ldiv B dX2_isMore_53 (fun _ => ?_)
          refine r_lstore (lv' := fun x20_54 => [(20, .long x20_54), (18, .long x18_47), (8, .long v8_20), (10, .long v10_20), (12, .long v12_20), (14, .long v14_20), (16, .int v16_20), (17, .int v17_20)]) B dX2_isMore_54 nn20 (fun _ => rfl) (fun x20_54 => ?_)
          refine r_lload B 1 dX2_isMore_56 rfl ?_
          refine r_lload B 0 dX2_isMore_58 rfl ?_
          refine r_lcmp B dX2_isMore_60 ?_
          refine r_if_eq B 88 dX2_isMore_61 (by decide) (fun _ => ?_) (fun _ => ?_)
          · refine r_lload B 2 dX2_isMore_88 rfl ?_
            refine r_lload B 3 dX2_isMore_90 rfl ?_
            refine r_lrem B dX2_isMore_92 (fun _ => ?_)
            refine r_lstore (lv' := fun x22_93 => [(22, .long x22_93), (20, .long x20_54), (18, .long x18_47), (8, .long v8_20), (10, .long v10_20), (12, .long v12_20), (14, .long v14_20), (16, .int v16_20), (17, .int v17_20)]) B dX2_isMore_93 nn22 (fun _ => rfl) (fun x22_93 => ?_)
            refine r_lload B 5 dX2_isMore_95 rfl ?_
            refine r_lload B 6 dX2_isMore_97 rfl ?_
            refine r_lrem B dX2_isMore_99 (fun _ => ?_)
            refine r_lstore (lv' := fun x24_100 => [(24, .long x24_100), (22, .long x22_93), (20, .long x20_54), (18, .long x18_47), (8, .long v8_20), (10, .long v10_20), (12, .long v12_20), (14, .long v14_20), (16, .int v16_20), (17, .int v17_20)]) B dX2_isMore_100 nn24 (fun _ => rfl) (fun x24_100 => ?_)
            refine r_lload B 5 dX2_isMore_102 rfl ?_
            refine r_lstore (lv' := fun x8_104 => [(8, .long x8_104), (24, .long x24_100), (22, .long x22_93), (20, .long x20_54), (18, .long x18_47), (10, .long v10_20), (12, .long v12_20), (14, .long v14_20), (16, .int v16_20), (17, .int v17_20)]) B dX2_isMore_104 nn8 (fun _ => rfl) (fun x8_104 => ?_)
            refine r_lload B 2 dX2_isMore_106 rfl ?_
            refine r_lstore (lv' := fun x10_108 => [(10, .long x10_108), (8, .long x8_104), (24, .long x24_100), (22, .long x22_93), (20, .long x20_54), (18, .long x18_47), (12, .long v12_20), (14, .long v14_20), (16, .int v16_20), (17, .int v17_20)]) B dX2_isMore_108 nn10 (fun _ => rfl) (fun x10_108 => ?_)
            refine r_lload B 7 dX2_isMore_110 rfl ?_
            refine r_lstore (lv' := fun x12_112 => [(12, .long x12_112), (10, .long x10_108), (8, .long x8_104), (24, .long x24_100), (22, .long x22_93), (20, .long x20_54), (18, .long x18_47), (14, .long v14_20), (16, .int v16_20), (17, .int v17_20)]) B dX2_isMore_112 nn12 (fun _ => rfl) (fun x12_112 => ?_)
            refine r_lload B 3 dX2_isMore_114 rfl ?_
            refine r_lstore (lv' := fun x14_116 => [(14, .long x14_116), (12, .long x12_112), (10, .long x10_108), (8, .long x8_104), (24, .long x24_100), (22, .long x22_93), (20, .long x20_54), (18, .long x18_47), (16, .int v16_20), (17, .int v17_20)]) B dX2_isMore_116 nn14 (fun _ => rfl) (fun x14_116 => ?_)
            refine r_iload B 8 dX2_isMore_118 rfl ?_
            refine r_if_ne B 127 dX2_isMore_120 (by decide) (fun _ => ?_) (fun _ => ?_)
            · refine r_iconst B (0 : Int32) dX2_isMore_127 (by decide) ?_
              refine r_istore (lv' := fun x16_128 => [(16, .int x16_128), (14, .long x14_116), (12, .long x12_112), (10, .long x10_108), (8, .long x8_104), (24, .long x24_100), (22, .long x22_93), (20, .long x20_54), (18, .long x18_47), (17, .int v17_20)]) B dX2_isMore_128 n16 (fun _ => rfl) (fun x16_128 => ?_)
              refine r_iinc (lv' := fun x17_130 => [(17, .int x17_130), (16, .int x16_128), (14, .long x14_116), (12, .long x12_112), (10, .long x10_108), (8, .long x8_104), (24, .long x24_100), (22, .long x22_93), (20, .long x20_54), (18, .long x18_47)]) B 9 (1 : Int32) dX2_isMore_130 rfl (by decide) n17 (fun _ => rfl) (fun x17_130 => ?_)
              refine r_goto B 20 dX2_isMore_133 (by decide) ?_
              refine r_sub [5, 4, 3, 2, 1, 0] rfl ?_
              exact ih x8_104 x10_108 x12_112 x14_116 x16_128 x17_130
            · refine r_iconst B (1 : Int32) dX2_isMore_123 (by decide) ?_
              refine r_goto B 128 dX2_isMore_124 (by decide) ?_
              refine r_istore (lv' := fun x16_128 => [(16, .int x16_128), (14, .long x14_116), (12, .long x12_112), (10, .long x10_108), (8, .long x8_104), (24, .long x24_100), (22, .long x22_93), (20, .long x20_54), (18, .long x18_47), (17, .int v17_20)]) B dX2_isMore_128 n16 (fun _ => rfl) (fun x16_128 => ?_)
              refine r_iinc (lv' := fun x17_130 => [(17, .int x17_130), (16, .int x16_128), (14, .long x14_116), (12, .long x12_112), (10, .long x10_108), (8, .long x8_104), (24, .long x24_100), (22, .long x22_93), (20, .long x20_54), (18, .long x18_47)]) B 9 (1 : Int32) dX2_isMore_130 rfl (by decide) n17 (fun _ => rfl) (fun x17_130 => ?_)
              refine r_goto B 20 dX2_isMore_133 (by decide) ?_
              refine r_sub [5, 4, 3, 2, 1, 0] rfl ?_
              exact ih x8_104 x10_108 x12_112 x14_116 x16_128 x17_130
          · refine r_lload B 1 dX2_isMore_64 rfl ?_
            refine r_lload B 0 dX2_isMore_66 rfl ?_
            refine r_lcmp B dX2_isMore_68 ?_
            refine r_jn2 (P := fun j77 : Int32 → Option Int32 => ∀ (y0_77 : Int32), Xo E (WX g) (eI S) S 77 [(16, .int v16_20)] [.int y0_77] (j77 y0_77)) ?_ (fun j77 hj77 => ?_)
            · intro y0_77
              refine r_iload B 0 dX2_isMore_77 rfl ?_
              refine r_icmp_eq B 86 dX2_isMore_79 (by decide) (fun _ => ?_) (fun _ => ?_)
              · refine r_iconst B (0 : Int32) dX2_isMore_86 (by decide) ?_
                exact r_zret0 B dX2_isMore_87 rfl
              · refine r_iconst B (1 : Int32) dX2_isMore_82 (by decide) ?_
                refine r_goto B 87 dX2_isMore_83 (by decide) ?_
                exact r_zret1 B dX2_isMore_87 rfl
            refine r_if_le B 76 dX2_isMore_69 (by decide) (fun _ => ?_) (fun _ => ?_)
            · refine r_iconst B (0 : Int32) dX2_isMore_76 (by decide) ?_
              refine r_sub [6] rfl ?_
              exact hj77 (0 : Int32)
            · refine r_iconst B (1 : Int32) dX2_isMore_72 (by decide) ?_
              refine r_goto B 77 dX2_isMore_73 (by decide) ?_
              refine r_sub [6] rfl ?_
              exact hj77 (1 : Int32)
set_option maxRecDepth 100000 in
set_option maxHeartbeats 4000000 in
theorem x_X2_isMore {E : zCx} {g : zGx} (B : zGood E (WX g) (zT g) cX2_isMore RX2 wsX2_isMore (some .boolean) rm_X2_isMore) (hE : E.2.2 = 26) (S : zSt) (a0 : Int64) (a2 : Int64) (a4 : Int64) (a6 : Int64) : Xo E (WX g) (eI S) S 0 [(0, .long a0), (2, .long a2), (4, .long a4), (6, .long a6)] [] (F_X2_isMore a0 a2 a4 a6) := by
  have nn8 : 8 + 1 < E.2.2 := by rw [hE]; decide
  have nn10 : 10 + 1 < E.2.2 := by rw [hE]; decide
  have nn12 : 12 + 1 < E.2.2 := by rw [hE]; decide
  have nn14 : 14 + 1 < E.2.2 := by rw [hE]; decide
  have n16 : 16 < E.2.2 := by rw [hE]; decide
  have n17 : 17 < E.2.2 := by rw [hE]; decide
  have nn18 : 18 + 1 < E.2.2 := by rw [hE]; decide
  have nn20 : 20 + 1 < E.2.2 := by rw [hE]; decide
  have nn22 : 22 + 1 < E.2.2 := by rw [hE]; decide
  have nn24 : 24 + 1 < E.2.2 := by rw [hE]; decide
  unfold F_X2_isMore
  refine r_lload_n B 0 dX2_isMore_0 rfl rfl ?_
  refine r_lstore (lv' := fun x8_1 => [(8, .long x8_1), (0, .long a0), (2, .long a2), (4, .long a4), (6, .long a6)]) B dX2_isMore_1 nn8 (fun _ => rfl) (fun x8_1 => ?_)
  refine r_lload_n B 2 dX2_isMore_3 rfl rfl ?_
  refine r_lstore (lv' := fun x10_4 => [(10, .long x10_4), (8, .long x8_1), (0, .long a0), (2, .long a2), (4, .long a4), (6, .long a6)]) B dX2_isMore_4 nn10 (fun _ => rfl) (fun x10_4 => ?_)
  refine r_lload B 4 dX2_isMore_6 rfl ?_
  refine r_lstore (lv' := fun x12_8 => [(12, .long x12_8), (10, .long x10_4), (8, .long x8_1), (0, .long a0), (2, .long a2), (4, .long a4), (6, .long a6)]) B dX2_isMore_8 nn12 (fun _ => rfl) (fun x12_8 => ?_)
  refine r_lload B 6 dX2_isMore_10 rfl ?_
  refine r_lstore (lv' := fun x14_12 => [(14, .long x14_12), (12, .long x12_8), (10, .long x10_4), (8, .long x8_1), (0, .long a0), (2, .long a2), (4, .long a4), (6, .long a6)]) B dX2_isMore_12 nn14 (fun _ => rfl) (fun x14_12 => ?_)
  refine r_iconst B (0 : Int32) dX2_isMore_14 (by decide) ?_
  refine r_istore (lv' := fun x16_15 => [(16, .int x16_15), (14, .long x14_12), (12, .long x12_8), (10, .long x10_4), (8, .long x8_1), (0, .long a0), (2, .long a2), (4, .long a4), (6, .long a6)]) B dX2_isMore_15 n16 (fun _ => rfl) (fun x16_15 => ?_)
  refine r_iconst B (0 : Int32) dX2_isMore_17 (by decide) ?_
  refine r_istore (lv' := fun x17_18 => [(17, .int x17_18), (16, .int x16_15), (14, .long x14_12), (12, .long x12_8), (10, .long x10_4), (8, .long x8_1), (0, .long a0), (2, .long a2), (4, .long a4), (6, .long a6)]) B dX2_isMore_18 n17 (fun _ => rfl) (fun x17_18 => ?_)
  refine r_sub [5, 4, 3, 2, 1, 0] rfl ?_
  refine xL_X2_isMore_20 B hE S  _ ?_ 1000 x8_1 x10_4 x12_8 x14_12 x16_15 x17_18
  intro w10_20 w14_20 w16_20
  refine r_lload B 0 dX2_isMore_136 rfl ?_
  refine r_lload B 1 dX2_isMore_138 rfl ?_
  refine r_lcmp B dX2_isMore_140 ?_
  refine r_if_ne B 146 dX2_isMore_141 (by decide) (fun _ => ?_) (fun _ => ?_)
  · refine r_lload B 0 dX2_isMore_146 rfl ?_
    refine r_lconst B (0 : Int64) dX2_isMore_148 (by decide) ?_
    refine r_lcmp B dX2_isMore_149 ?_
    refine r_jn2 (P := fun j158 : Int32 → Option Int32 => ∀ (y0_158 : Int32), Xo E (WX g) (eI S) S 158 [(16, .int w16_20)] [.int y0_158] (j158 y0_158)) ?_ (fun j158 hj158 => ?_)
    · intro y0_158
      refine r_iload B 0 dX2_isMore_158 rfl ?_
      refine r_icmp_eq B 167 dX2_isMore_160 (by decide) (fun _ => ?_) (fun _ => ?_)
      · refine r_iconst B (0 : Int32) dX2_isMore_167 (by decide) ?_
        exact r_zret0 B dX2_isMore_168 rfl
      · refine r_iconst B (1 : Int32) dX2_isMore_163 (by decide) ?_
        refine r_goto B 168 dX2_isMore_164 (by decide) ?_
        exact r_zret1 B dX2_isMore_168 rfl
    refine r_if_ne B 157 dX2_isMore_150 (by decide) (fun _ => ?_) (fun _ => ?_)
    · refine r_iconst B (0 : Int32) dX2_isMore_157 (by decide) ?_
      refine r_sub [2] rfl ?_
      exact hj158 (0 : Int32)
    · refine r_iconst B (1 : Int32) dX2_isMore_153 (by decide) ?_
      refine r_goto B 158 dX2_isMore_154 (by decide) ?_
      refine r_sub [2] rfl ?_
      exact hj158 (1 : Int32)
  · refine r_iconst B (0 : Int32) dX2_isMore_144 (by decide) ?_
    exact r_zret0 B dX2_isMore_145 rfl
set_option maxRecDepth 20000 in
theorem k_X2_isMore {l : Launch} {D : va_G} {g : zGx} (hz : zin (WX g)) {S : zSt} {a0 : Int64} {a2 : Int64} {a4 : Int64} {a6 : Int64} {b : Int32} (h : F_X2_isMore a0 a2 a4 a6 = some b) : zMet l D (WX g) (zT g) yX2_isMore wsX2_isMore rm_X2_isMore S [.long a0, .long a2, .long a4, .long a6] ((eI S) b) := zmet_of (by decide +kernel) rfl hz (Nat.le_of_ble_eq_true rfl) rfl (fun E _ _ hE B => x_X2_isMore B hE S a0 a2 a4 a6) h
abbrev rm_X1_likeliestTown : Room := { frames := 3, cells := 0, slots := 0, locals := 69 }
theorem y_X1_likeliestTown : yX1_likeliestTown.cls = RX1 ∧ yX1_likeliestTown.cls ≠ "java/lang/invoke/MethodHandle" ∧ yX1_likeliestTown.cls ≠ "java/lang/invoke/VarHandle" ∧ (parseMethodDescriptor yX1_likeliestTown.desc).map (fun d => d.parameters.length) = some 1 := by decide +kernel
set_option maxRecDepth 100000 in
set_option maxHeartbeats 4000000 in
theorem xL_X1_likeliestTown_10 {E : zCx} {g : zGx} (B : zGood E (WX g) (zT g) cX1_likeliestTown RX1 wsX1_likeliestTown (some .int) rm_X1_likeliestTown) (hE : E.2.2 = 12) (S : zSt) (k : Int32 → Option Int32) (hk : ∀ (w2 : Int32), Xo E (WX g) (eI S) S 76 [(2, .int w2)] [] (k w2)) : ∀ (n : Nat) (v2_10 : Int32) (v3_10 : Int64) (v5_10 : Int64) (v7_10 : Int32), Xo E (WX g) (eI S) S 10 [(0, .ref (g.1 5)), (1, .ref (g.1 4)), (2, .int v2_10), (3, .long v3_10), (5, .long v5_10), (7, .int v7_10)] [] (L_X1_likeliestTown_10 S k n v2_10 v3_10 v5_10 v7_10) := by
  have n2 : 2 < E.2.2 := by rw [hE]; decide
  have nn3 : 3 + 1 < E.2.2 := by rw [hE]; decide
  have nn5 : 5 + 1 < E.2.2 := by rw [hE]; decide
  have n7 : 7 < E.2.2 := by rw [hE]; decide
  have nn8 : 8 + 1 < E.2.2 := by rw [hE]; decide
  have nn10 : 10 + 1 < E.2.2 := by rw [hE]; decide
  intro n
  induction n with
  | zero =>
    intro _ _ _ _
    exact r_none
  | succ n ih =>
    intro v2_10 v3_10 v5_10 v7_10
    rw [L_X1_likeliestTown_10]
    refine r_iload B 5 dX1_likeliestTown_10 rfl ?_
    refine r_iconst B (4 : Int32) dX1_likeliestTown_12 (by decide) ?_
    refine r_icmp_ge B 76 dX1_likeliestTown_13 (by decide) (fun _ => ?_) (fun _ => ?_)
    · refine r_sub [2] rfl ?_
      exact hk v2_10
    · refine r_aload_n B 0 dX1_likeliestTown_16 rfl rfl ?_
      refine r_iload B 5 dX1_likeliestTown_17 rfl ?_
      refine r_aload_n B 1 dX1_likeliestTown_19 rfl rfl ?_
      refine r_cI (zrunV (As := [.int v7_10, .ref (g.1 4)]) (rest := []) B 2 5 (fun b hb => k_X1_hasFewer B.2.2.1 hb) gX1_likeliestTown_X1_hasFewer rfl rfl rfl y_X1_hasFewer ⟨Nat.le_of_ble_eq_true rfl, Nat.le_of_ble_eq_true rfl⟩ (Nat.le_of_ble_eq_true rfl) rfl (cX_5 g _) rfl rfl rfl (Nat.le_of_ble_eq_true rfl) dX1_likeliestTown_20) (fun r20 => ?_)
      refine r_if_eq B 29 dX1_likeliestTown_23 (by decide) (fun _ => ?_) (fun _ => ?_)
      · refine r_aload_n B 0 dX1_likeliestTown_29 rfl rfl ?_
        refine r_iload B 5 dX1_likeliestTown_30 rfl ?_
        refine r_aload_n B 1 dX1_likeliestTown_32 rfl rfl ?_
        refine r_cL (zrunV (As := [.int v7_10, .ref (g.1 4)]) (rest := []) B 2 5 (fun b hb => k_X1_choicesThatFit B.2.2.1 hb) gX1_likeliestTown_X1_choicesThatFit rfl rfl rfl y_X1_choicesThatFit ⟨Nat.le_of_ble_eq_true rfl, Nat.le_of_ble_eq_true rfl⟩ (Nat.le_of_ble_eq_true rfl) rfl (cX_5 g _) rfl rfl rfl (Nat.le_of_ble_eq_true rfl) dX1_likeliestTown_33) (fun r33 => ?_)
        refine r_lstore (lv' := fun x8_36 => [(8, .long x8_36), (0, .ref (g.1 5)), (1, .ref (g.1 4)), (2, .int v2_10), (3, .long v3_10), (5, .long v5_10), (7, .int v7_10)]) B dX1_likeliestTown_36 nn8 (fun _ => rfl) (fun x8_36 => ?_)
        refine r_aload_n B 1 dX1_likeliestTown_38 rfl rfl ?_
        refine r_iload B 6 dX1_likeliestTown_39 rfl ?_
        refine r_aload_n B 2 dX1_likeliestTown_41 rfl rfl ?_
        refine r_cL (zrunV (As := [.int v7_10, .ref (g.1 4)]) (rest := []) B 2 5 (fun b hb => k_X1_choices B.2.2.1 hb) gX1_likeliestTown_X1_choices rfl rfl rfl y_X1_choices ⟨Nat.le_of_ble_eq_true rfl, Nat.le_of_ble_eq_true rfl⟩ (Nat.le_of_ble_eq_true rfl) rfl (cX_5 g _) rfl rfl rfl (Nat.le_of_ble_eq_true rfl) dX1_likeliestTown_42) (fun r42 => ?_)
        refine r_lstore (lv' := fun x10_45 => [(10, .long x10_45), (8, .long x8_36), (0, .ref (g.1 5)), (1, .ref (g.1 4)), (2, .int v2_10), (3, .long v3_10), (5, .long v5_10), (7, .int v7_10)]) B dX1_likeliestTown_45 nn10 (fun _ => rfl) (fun x10_45 => ?_)
        refine r_lload B 1 dX1_likeliestTown_47 rfl ?_
        refine r_lload B 0 dX1_likeliestTown_49 rfl ?_
        refine r_lload_n B 5 dX1_likeliestTown_51 rfl rfl ?_
        refine r_lload B 6 dX1_likeliestTown_52 rfl ?_
        refine r_cI (zrunS (As := [.long x8_36, .long x10_45, .long v3_10, .long v5_10]) (rest := []) B 4 (fun b hb => k_X2_isMore B.2.2.1 hb) gX1_likeliestTown_X2_isMore rfl rfl rfl y_X2_isMore ⟨Nat.le_of_ble_eq_true rfl, Nat.le_of_ble_eq_true rfl⟩ rfl rfl (Nat.le_of_ble_eq_true rfl) dX1_likeliestTown_54) (fun r54 => ?_)
        refine r_if_eq B 70 dX1_likeliestTown_57 (by decide) (fun _ => ?_) (fun _ => ?_)
        · refine r_iinc (lv' := fun x7_70 => [(7, .int x7_70), (10, .long x10_45), (8, .long x8_36), (0, .ref (g.1 5)), (1, .ref (g.1 4)), (2, .int v2_10), (3, .long v3_10), (5, .long v5_10)]) B 7 (1 : Int32) dX1_likeliestTown_70 rfl (by decide) n7 (fun _ => rfl) (fun x7_70 => ?_)
          refine r_goto B 10 dX1_likeliestTown_73 (by decide) ?_
          refine r_sub [3, 4, 5, 6, 7, 0] rfl ?_
          exact ih v2_10 v3_10 v5_10 x7_70
        · refine r_iload B 7 dX1_likeliestTown_60 rfl ?_
          refine r_istore_n (lv' := fun x2_62 => [(2, .int x2_62), (10, .long x10_45), (8, .long x8_36), (0, .ref (g.1 5)), (1, .ref (g.1 4)), (3, .long v3_10), (5, .long v5_10), (7, .int v7_10)]) B dX1_likeliestTown_62 rfl n2 (fun _ => rfl) (fun x2_62 => ?_)
          refine r_lload B 2 dX1_likeliestTown_63 rfl ?_
          refine r_lstore_n (lv' := fun x3_65 => [(3, .long x3_65), (2, .int x2_62), (10, .long x10_45), (8, .long x8_36), (0, .ref (g.1 5)), (1, .ref (g.1 4)), (5, .long v5_10), (7, .int v7_10)]) B dX1_likeliestTown_65 rfl nn3 (fun _ => rfl) (fun x3_65 => ?_)
          refine r_lload B 2 dX1_likeliestTown_66 rfl ?_
          refine r_lstore (lv' := fun x5_68 => [(5, .long x5_68), (3, .long x3_65), (2, .int x2_62), (10, .long x10_45), (8, .long x8_36), (0, .ref (g.1 5)), (1, .ref (g.1 4)), (7, .int v7_10)]) B dX1_likeliestTown_68 nn5 (fun _ => rfl) (fun x5_68 => ?_)
          refine r_iinc (lv' := fun x7_70 => [(7, .int x7_70), (5, .long x5_68), (3, .long x3_65), (2, .int x2_62), (10, .long x10_45), (8, .long x8_36), (0, .ref (g.1 5)), (1, .ref (g.1 4))]) B 7 (1 : Int32) dX1_likeliestTown_70 rfl (by decide) n7 (fun _ => rfl) (fun x7_70 => ?_)
          refine r_goto B 10 dX1_likeliestTown_73 (by decide) ?_
          refine r_sub [6, 7, 3, 2, 1, 0] rfl ?_
          exact ih x2_62 x3_65 x5_68 x7_70
      · refine r_goto B 70 dX1_likeliestTown_26 (by decide) ?_
        refine r_iinc (lv' := fun x7_70 => [(7, .int x7_70), (0, .ref (g.1 5)), (1, .ref (g.1 4)), (2, .int v2_10), (3, .long v3_10), (5, .long v5_10)]) B 5 (1 : Int32) dX1_likeliestTown_70 rfl (by decide) n7 (fun _ => rfl) (fun x7_70 => ?_)
        refine r_goto B 10 dX1_likeliestTown_73 (by decide) ?_
        refine r_sub [1, 2, 3, 4, 5, 0] rfl ?_
        exact ih v2_10 v3_10 v5_10 x7_70
set_option maxRecDepth 100000 in
set_option maxHeartbeats 4000000 in
theorem x_X1_likeliestTown {E : zCx} {g : zGx} (B : zGood E (WX g) (zT g) cX1_likeliestTown RX1 wsX1_likeliestTown (some .int) rm_X1_likeliestTown) (hE : E.2.2 = 12) (S : zSt) : Xo E (WX g) (eI S) S 0 [(0, .ref (g.1 5)), (1, .ref (g.1 4))] [] (F_X1_likeliestTown S) := by
  have n2 : 2 < E.2.2 := by rw [hE]; decide
  have nn3 : 3 + 1 < E.2.2 := by rw [hE]; decide
  have nn5 : 5 + 1 < E.2.2 := by rw [hE]; decide
  have n7 : 7 < E.2.2 := by rw [hE]; decide
  have nn8 : 8 + 1 < E.2.2 := by rw [hE]; decide
  have nn10 : 10 + 1 < E.2.2 := by rw [hE]; decide
  unfold F_X1_likeliestTown
  refine r_iconst B (-1 : Int32) dX1_likeliestTown_0 (by decide) ?_
  refine r_istore_n (lv' := fun x2_1 => [(2, .int x2_1), (0, .ref (g.1 5)), (1, .ref (g.1 4))]) B dX1_likeliestTown_1 rfl n2 (fun _ => rfl) (fun x2_1 => ?_)
  refine r_lconst B (0 : Int64) dX1_likeliestTown_2 (by decide) ?_
  refine r_lstore_n (lv' := fun x3_3 => [(3, .long x3_3), (2, .int x2_1), (0, .ref (g.1 5)), (1, .ref (g.1 4))]) B dX1_likeliestTown_3 rfl nn3 (fun _ => rfl) (fun x3_3 => ?_)
  refine r_lconst B (1 : Int64) dX1_likeliestTown_4 (by decide) ?_
  refine r_lstore (lv' := fun x5_5 => [(5, .long x5_5), (3, .long x3_3), (2, .int x2_1), (0, .ref (g.1 5)), (1, .ref (g.1 4))]) B dX1_likeliestTown_5 nn5 (fun _ => rfl) (fun x5_5 => ?_)
  refine r_iconst B (0 : Int32) dX1_likeliestTown_7 (by decide) ?_
  refine r_istore (lv' := fun x7_8 => [(7, .int x7_8), (5, .long x5_5), (3, .long x3_3), (2, .int x2_1), (0, .ref (g.1 5)), (1, .ref (g.1 4))]) B dX1_likeliestTown_8 n7 (fun _ => rfl) (fun x7_8 => ?_)
  refine r_sub [4, 5, 3, 2, 1, 0] rfl ?_
  refine xL_X1_likeliestTown_10 B hE S _ ?_ 1000 x2_1 x3_3 x5_5 x7_8
  intro w2_10
  refine r_iload_n B 0 dX1_likeliestTown_76 rfl rfl ?_
  exact r_iret B dX1_likeliestTown_77 rfl
set_option maxRecDepth 20000 in
theorem k_X1_likeliestTown {l : Launch} {D : va_G} {g : zGx} (hz : zin (WX g)) {S : zSt} {b : Int32} (h : F_X1_likeliestTown S = some b) : zMet l D (WX g) (zT g) yX1_likeliestTown wsX1_likeliestTown rm_X1_likeliestTown S [.ref (g.1 5), .ref (g.1 4)] ((eI S) b) := zmet_of (by decide +kernel) rfl hz (Nat.le_of_ble_eq_true rfl) rfl (fun E _ _ hE B => x_X1_likeliestTown B hE S) h
abbrev rm_X2_refused : Room := { frames := 0, cells := 0, slots := 0, locals := 0 }
theorem y_X2_refused : yX2_refused.cls ≠ "java/lang/invoke/MethodHandle" ∧ yX2_refused.cls ≠ "java/lang/invoke/VarHandle" ∧ (parseMethodDescriptor yX2_refused.desc).map (fun d => d.parameters.length) = some 1 := by decide +kernel
theorem m_X2_refused_c11 : Cond.constantLong RX2 11 (-9223372036854775808) ∈ wsX2_refused := List.mem_cons_of_mem _ (List.mem_of_getElem? (i := 0) rfl)
set_option maxRecDepth 100000 in
set_option maxHeartbeats 4000000 in
theorem x_X2_refused {E : zCx} {g : zGx} (B : zGood E (WX g) (zT g) cX2_refused RX2 wsX2_refused (some .long) rm_X2_refused) (hE : E.2.2 = 1) (S : zSt) (a0 : Int32) : Xo E (WX g) (eL S) S 0 [(0, .int a0)] [] (F_X2_refused a0) := by
  unfold F_X2_refused
  refine r_ldc2 B (-9223372036854775808 : Int64) m_X2_refused_c11 dX2_refused_0 ?_
  refine r_iload_n B 0 dX2_refused_3 rfl rfl ?_
  refine r_i2l B dX2_refused_4 ?_
  refine r_lsub B dX2_refused_5 ?_
  exact r_lret B dX2_refused_6 rfl
set_option maxRecDepth 20000 in
theorem k_X2_refused {l : Launch} {D : va_G} {g : zGx} (hz : zin (WX g)) {S : zSt} {a0 : Int32} {b : Int64} (h : F_X2_refused a0 = some b) : zMet l D (WX g) (zT g) yX2_refused wsX2_refused rm_X2_refused S [.int a0] ((eL S) b) := zmet_of (by decide +kernel) rfl hz (Nat.le_of_ble_eq_true rfl) rfl (fun E _ _ hE B => x_X2_refused B hE S a0) h
abbrev rm_X2_commonOf : Room := { frames := 0, cells := 0, slots := 0, locals := 0 }
theorem y_X2_commonOf : yX2_commonOf.cls ≠ "java/lang/invoke/MethodHandle" ∧ yX2_commonOf.cls ≠ "java/lang/invoke/VarHandle" ∧ (parseMethodDescriptor yX2_commonOf.desc).map (fun d => d.parameters.length) = some 2 := by decide +kernel
set_option maxRecDepth 100000 in
set_option maxHeartbeats 4000000 in
theorem xL_X2_commonOf_9 {E : zCx} {g : zGx} (B : zGood E (WX g) (zT g) cX2_commonOf RX2 wsX2_commonOf (some .long) rm_X2_commonOf) (hE : E.2.2 = 11) (S : zSt)  (k : Int64 → Option Int64) (hk : ∀ (w4 : Int64), Xo E (WX g) (eL S) S 45 [(4, .long w4)] [] (k w4)) : ∀ (n : Nat) (v4_9 : Int64) (v6_9 : Int64) (v8_9 : Int32), Xo E (WX g) (eL S) S 9 [(4, .long v4_9), (6, .long v6_9), (8, .int v8_9)] [] (L_X2_commonOf_9 k n v4_9 v6_9 v8_9) := by
  have nn4 : 4 + 1 < E.2.2 := by rw [hE]; decide
  have nn6 : 6 + 1 < E.2.2 := by rw [hE]; decide
  have n8 : 8 < E.2.2 := by rw [hE]; decide
  have nn9 : 9 + 1 < E.2.2 := by rw [hE]; decide
  intro n
  induction n with
  | zero =>
    intro _ _ _
    exact r_none
  | succ n ih =>
    intro v4_9 v6_9 v8_9
    rw [L_X2_commonOf_9]
    refine r_iload B 2 dX2_commonOf_9 rfl ?_
    refine r_sipush B (200 : Int32) dX2_commonOf_11 (by decide) ?_
    refine r_icmp_ge B 45 dX2_commonOf_14 (by decide) (fun _ => ?_) (fun _ => ?_)
    · refine r_sub [0] rfl ?_
      exact hk v4_9
    · refine r_lload B 1 dX2_commonOf_17 rfl ?_
      refine r_lconst B (0 : Int64) dX2_commonOf_19 (by decide) ?_
      refine r_lcmp B dX2_commonOf_20 ?_
      refine r_if_eq B 45 dX2_commonOf_21 (by decide) (fun _ => ?_) (fun _ => ?_)
      · refine r_sub [0] rfl ?_
        exact hk v4_9
      · refine r_lload B 0 dX2_commonOf_24 rfl ?_
        refine r_lload B 1 dX2_commonOf_26 rfl ?_
        refine r_lrem B dX2_commonOf_28 (fun _ => ?_)
        refine r_lstore (lv' := fun x9_29 => [(9, .long x9_29), (4, .long v4_9), (6, .long v6_9), (8, .int v8_9)]) B dX2_commonOf_29 nn9 (fun _ => rfl) (fun x9_29 => ?_)
        refine r_lload B 2 dX2_commonOf_31 rfl ?_
        refine r_lstore (lv' := fun x4_33 => [(4, .long x4_33), (9, .long x9_29), (6, .long v6_9), (8, .int v8_9)]) B dX2_commonOf_33 nn4 (fun _ => rfl) (fun x4_33 => ?_)
        refine r_lload B 1 dX2_commonOf_35 rfl ?_
        refine r_lstore (lv' := fun x6_37 => [(6, .long x6_37), (4, .long x4_33), (9, .long x9_29), (8, .int v8_9)]) B dX2_commonOf_37 nn6 (fun _ => rfl) (fun x6_37 => ?_)
        refine r_iinc (lv' := fun x8_39 => [(8, .int x8_39), (6, .long x6_37), (4, .long x4_33), (9, .long x9_29)]) B 3 (1 : Int32) dX2_commonOf_39 rfl (by decide) n8 (fun _ => rfl) (fun x8_39 => ?_)
        refine r_goto B 9 dX2_commonOf_42 (by decide) ?_
        refine r_sub [2, 1, 0] rfl ?_
        exact ih x4_33 x6_37 x8_39
set_option maxRecDepth 100000 in
set_option maxHeartbeats 4000000 in
theorem x_X2_commonOf {E : zCx} {g : zGx} (B : zGood E (WX g) (zT g) cX2_commonOf RX2 wsX2_commonOf (some .long) rm_X2_commonOf) (hE : E.2.2 = 11) (S : zSt) (a0 : Int64) (a2 : Int64) : Xo E (WX g) (eL S) S 0 [(0, .long a0), (2, .long a2)] [] (F_X2_commonOf a0 a2) := by
  have nn4 : 4 + 1 < E.2.2 := by rw [hE]; decide
  have nn6 : 6 + 1 < E.2.2 := by rw [hE]; decide
  have n8 : 8 < E.2.2 := by rw [hE]; decide
  have nn9 : 9 + 1 < E.2.2 := by rw [hE]; decide
  unfold F_X2_commonOf
  refine r_lload_n B 0 dX2_commonOf_0 rfl rfl ?_
  refine r_lstore (lv' := fun x4_1 => [(4, .long x4_1), (0, .long a0), (2, .long a2)]) B dX2_commonOf_1 nn4 (fun _ => rfl) (fun x4_1 => ?_)
  refine r_lload_n B 2 dX2_commonOf_3 rfl rfl ?_
  refine r_lstore (lv' := fun x6_4 => [(6, .long x6_4), (4, .long x4_1), (0, .long a0), (2, .long a2)]) B dX2_commonOf_4 nn6 (fun _ => rfl) (fun x6_4 => ?_)
  refine r_iconst B (0 : Int32) dX2_commonOf_6 (by decide) ?_
  refine r_istore (lv' := fun x8_7 => [(8, .int x8_7), (6, .long x6_4), (4, .long x4_1), (0, .long a0), (2, .long a2)]) B dX2_commonOf_7 n8 (fun _ => rfl) (fun x8_7 => ?_)
  refine r_sub [2, 1, 0] rfl ?_
  refine xL_X2_commonOf_9 B hE S  _ ?_ 1000 x4_1 x6_4 x8_7
  intro w4_9
  refine r_lload B 0 dX2_commonOf_45 rfl ?_
  exact r_lret B dX2_commonOf_47 rfl
set_option maxRecDepth 20000 in
theorem k_X2_commonOf {l : Launch} {D : va_G} {g : zGx} (hz : zin (WX g)) {S : zSt} {a0 : Int64} {a2 : Int64} {b : Int64} (h : F_X2_commonOf a0 a2 = some b) : zMet l D (WX g) (zT g) yX2_commonOf wsX2_commonOf rm_X2_commonOf S [.long a0, .long a2] ((eL S) b) := zmet_of (by decide +kernel) rfl hz (Nat.le_of_ble_eq_true rfl) rfl (fun E _ _ hE B => x_X2_commonOf B hE S a0 a2) h
abbrev rm_X2_told : Room := { frames := 1, cells := 0, slots := 0, locals := 30 }
theorem y_X2_told : yX2_told.cls ≠ "java/lang/invoke/MethodHandle" ∧ yX2_told.cls ≠ "java/lang/invoke/VarHandle" ∧ (parseMethodDescriptor yX2_told.desc).map (fun d => d.parameters.length) = some 3 := by decide +kernel
set_option maxRecDepth 100000 in
set_option maxHeartbeats 4000000 in
theorem x_X2_told {E : zCx} {g : zGx} (B : zGood E (WX g) (zT g) cX2_told RX2 wsX2_told (some .long) rm_X2_told) (hE : E.2.2 = 7) (S : zSt) (a0 : Int64) (a2 : Int64) (a4 : Int32) : Xo E (WX g) (eL S) S 0 [(0, .long a0), (2, .long a2), (4, .int a4)] [] (F_X2_told a0 a2 a4) := by
  have nn5 : 5 + 1 < E.2.2 := by rw [hE]; decide
  unfold F_X2_told
  refine r_lload_n B 0 dX2_told_0 rfl rfl ?_
  refine r_lload_n B 1 dX2_told_1 rfl rfl ?_
  refine r_cL (zrunS (As := [.long a0, .long a2]) (rest := []) B 2 (fun b hb => k_X2_commonOf B.2.2.1 hb) gX2_told_X2_commonOf rfl rfl rfl y_X2_commonOf ⟨Nat.le_of_ble_eq_true rfl, Nat.le_of_ble_eq_true rfl⟩ rfl rfl (Nat.le_of_ble_eq_true rfl) dX2_told_2) (fun r2 => ?_)
  refine r_lstore (lv' := fun x5_5 => [(5, .long x5_5), (0, .long a0), (2, .long a2), (4, .int a4)]) B dX2_told_5 nn5 (fun _ => rfl) (fun x5_5 => ?_)
  refine r_lload_n B 2 dX2_told_7 rfl rfl ?_
  refine r_lconst B (0 : Int64) dX2_told_8 (by decide) ?_
  refine r_lcmp B dX2_told_9 ?_
  refine r_jn2 (P := fun j20 : Option Int64 => Xo E (WX g) (eL S) S 20 [] [] (j20)) ?_ (fun j20 hj20 => ?_)
  · refine r_bipush B (-3 : Int32) dX2_told_20 (by decide) ?_
    refine r_cL (zrunS (As := [.int (-3 : Int32)]) (rest := []) B 1 (fun b hb => k_X2_refused B.2.2.1 hb) gX2_told_X2_refused rfl rfl rfl y_X2_refused ⟨Nat.le_of_ble_eq_true rfl, Nat.le_of_ble_eq_true rfl⟩ rfl rfl (Nat.le_of_ble_eq_true rfl) dX2_told_22) (fun r22 => ?_)
    exact r_lret B dX2_told_25 rfl
  refine r_if_le B 20 dX2_told_10 (by decide) (fun _ => ?_) (fun _ => ?_)
  · refine r_sub [] rfl ?_
    exact hj20
  · refine r_lload B 0 dX2_told_13 rfl ?_
    refine r_lconst B (0 : Int64) dX2_told_15 (by decide) ?_
    refine r_lcmp B dX2_told_16 ?_
    refine r_if_gt B 26 dX2_told_17 (by decide) (fun _ => ?_) (fun _ => ?_)
    · refine r_iload B 3 dX2_told_26 rfl ?_
      refine r_if_ne B 38 dX2_told_28 (by decide) (fun _ => ?_) (fun _ => ?_)
      · refine r_lload_n B 2 dX2_told_38 rfl rfl ?_
        refine r_lload B 0 dX2_told_39 rfl ?_
        refine r_ldiv B dX2_told_41 (fun _ => ?_)
        exact r_lret B dX2_told_42 rfl
      · refine r_lload_n B 1 dX2_told_31 rfl rfl ?_
        refine r_lload B 0 dX2_told_32 rfl ?_
        refine r_ldiv B dX2_told_34 (fun _ => ?_)
        refine r_goto B 42 dX2_told_35 (by decide) ?_
        exact r_lret B dX2_told_42 rfl
    · refine r_sub [] rfl ?_
      exact hj20
set_option maxRecDepth 20000 in
theorem k_X2_told {l : Launch} {D : va_G} {g : zGx} (hz : zin (WX g)) {S : zSt} {a0 : Int64} {a2 : Int64} {a4 : Int32} {b : Int64} (h : F_X2_told a0 a2 a4 = some b) : zMet l D (WX g) (zT g) yX2_told wsX2_told rm_X2_told S [.long a0, .long a2, .int a4] ((eL S) b) := zmet_of (by decide +kernel) rfl hz (Nat.le_of_ble_eq_true rfl) rfl (fun E _ _ hE B => x_X2_told B hE S a0 a2 a4) h
abbrev rm_X6_isIn : Room := { frames := 0, cells := 0, slots := 0, locals := 0 }
theorem y_X6_isIn : yX6_isIn.cls ≠ "java/lang/invoke/MethodHandle" ∧ yX6_isIn.cls ≠ "java/lang/invoke/VarHandle" ∧ (parseMethodDescriptor yX6_isIn.desc).map (fun d => d.parameters.length) = some 2 := by decide +kernel
set_option maxRecDepth 100000 in
set_option maxHeartbeats 4000000 in
theorem x_X6_isIn {E : zCx} {g : zGx} (B : zGood E (WX g) (zT g) cX6_isIn RX6 wsX6_isIn (some .boolean) rm_X6_isIn) (hE : E.2.2 = 3) (S : zSt) (a0 : Int64) (a2 : Int32) : Xo E (WX g) (eI S) S 0 [(0, .long a0), (2, .int a2)] [] (F_X6_isIn a0 a2) := by
  unfold F_X6_isIn
  refine r_lload_n B 0 dX6_isIn_0 rfl rfl ?_
  refine r_iload_n B 1 dX6_isIn_1 rfl rfl ?_
  refine r_lushr B dX6_isIn_2 ?_
  refine r_lconst B (1 : Int64) dX6_isIn_3 (by decide) ?_
  refine r_land B dX6_isIn_4 ?_
  refine r_lconst B (0 : Int64) dX6_isIn_5 (by decide) ?_
  refine r_lcmp B dX6_isIn_6 ?_
  refine r_if_eq B 14 dX6_isIn_7 (by decide) (fun _ => ?_) (fun _ => ?_)
  · refine r_iconst B (0 : Int32) dX6_isIn_14 (by decide) ?_
    exact r_zret0 B dX6_isIn_15 rfl
  · refine r_iconst B (1 : Int32) dX6_isIn_10 (by decide) ?_
    refine r_goto B 15 dX6_isIn_11 (by decide) ?_
    exact r_zret1 B dX6_isIn_15 rfl
set_option maxRecDepth 20000 in
theorem k_X6_isIn {l : Launch} {D : va_G} {g : zGx} (hz : zin (WX g)) {S : zSt} {a0 : Int64} {a2 : Int32} {b : Int32} (h : F_X6_isIn a0 a2 = some b) : zMet l D (WX g) (zT g) yX6_isIn wsX6_isIn rm_X6_isIn S [.long a0, .int a2] ((eI S) b) := zmet_of (by decide +kernel) rfl hz (Nat.le_of_ble_eq_true rfl) rfl (fun E _ _ hE B => x_X6_isIn B hE S a0 a2) h
abbrev rm_X3_takeBuses : Room := { frames := 1, cells := 0, slots := 0, locals := 22 }
theorem y_X3_takeBuses : yX3_takeBuses.cls = RX3 ∧ yX3_takeBuses.cls ≠ "java/lang/invoke/MethodHandle" ∧ yX3_takeBuses.cls ≠ "java/lang/invoke/VarHandle" ∧ (parseMethodDescriptor yX3_takeBuses.desc).map (fun d => d.parameters.length) = some 1 := by decide +kernel
theorem m_X3_takeBuses_f23 : Cond.fieldLink RX3 23 "LongestMet$Holding" "buses" "I" ∈ wsX3_takeBuses := List.mem_cons_of_mem _ (List.mem_append_left _ (List.mem_of_getElem? (i := 0) rfl))
theorem m_X3_takeBuses_inX3 : ∀ x ∈ u_ws RX3 TX3 5, x ∈ wsX3_takeBuses := fun _ h => List.mem_cons_of_mem _ (List.mem_append_right _ h)
theorem m_X3_takeBuses_f11 : Cond.fieldLink RX3 11 "LongestMet$Holding" "goes" "[I" ∈ wsX3_takeBuses := List.mem_cons_of_mem _ (List.mem_append_left _ (List.mem_of_getElem? (i := 1) rfl))
set_option maxRecDepth 100000 in
set_option maxHeartbeats 4000000 in
theorem xL_X3_takeBuses_7 {E : zCx} {g : zGx} (B : zGood E (WX g) (zT g) cX3_takeBuses RX3 wsX3_takeBuses none rm_X3_takeBuses) (hE : E.2.2 = 4) (a1 : Int64) (k : zSt → Option zSt) (hk : ∀ (S7x : zSt), Xo E (WX g) eVw S7x 56 [] [] (k S7x)) : ∀ (n : Nat) (S7 : zSt) (v3_7 : Int32), Xo E (WX g) eVw S7 7 [(0, .ref (g.1 3)), (1, .long a1), (3, .int v3_7)] [] (L_X3_takeBuses_7 a1 k n S7 v3_7) := by
  have n3 : 3 < E.2.2 := by rw [hE]; decide
  intro n
  induction n with
  | zero =>
    intro _ _
    exact r_none
  | succ n ih =>
    intro S7 v3_7
    rw [L_X3_takeBuses_7]
    refine r_iload_n B 2 dX3_takeBuses_7 rfl rfl ?_
    refine r_bipush B (60 : Int32) dX3_takeBuses_8 (by decide) ?_
    refine r_icmp_ge B 56 dX3_takeBuses_10 (by decide) (fun _ => ?_) (fun _ => ?_)
    · refine r_sub [] rfl ?_
      exact hk S7
    · refine r_aload_n B 0 dX3_takeBuses_13 rfl rfl ?_
      refine r_get B 3 2 3 (Nat.le_of_ble_eq_true rfl) rfl (cX_3 g _) rfl m_X3_takeBuses_inX3 (Nat.le_of_ble_eq_true rfl) m_X3_takeBuses_f23 rfl dX3_takeBuses_14 ?_
      refine r_bipush B (12 : Int32) dX3_takeBuses_17 (by decide) ?_
      refine r_icmp_ge B 56 dX3_takeBuses_19 (by decide) (fun _ => ?_) (fun _ => ?_)
      · refine r_sub [] rfl ?_
        exact hk S7
      · refine r_lload_n B 1 dX3_takeBuses_22 rfl rfl ?_
        refine r_iload_n B 2 dX3_takeBuses_23 rfl rfl ?_
        refine r_cI (zrunS (As := [.long a1, .int v3_7]) (rest := []) B 2 (fun b hb => k_X6_isIn B.2.2.1 hb) gX3_takeBuses_X6_isIn rfl rfl rfl y_X6_isIn ⟨Nat.le_of_ble_eq_true rfl, Nat.le_of_ble_eq_true rfl⟩ rfl rfl (Nat.le_of_ble_eq_true rfl) dX3_takeBuses_24) (fun r24 => ?_)
        refine r_if_eq B 50 dX3_takeBuses_27 (by decide) (fun _ => ?_) (fun _ => ?_)
        · refine r_iinc (lv' := fun x3_50 => [(3, .int x3_50), (0, .ref (g.1 3)), (1, .long a1)]) B 2 (1 : Int32) dX3_takeBuses_50 rfl (by decide) n3 (fun _ => rfl) (fun x3_50 => ?_)
          refine r_goto B 7 dX3_takeBuses_53 (by decide) ?_
          refine r_sub [1, 2, 0] rfl ?_
          exact ih S7 x3_50
        · refine r_aload_n B 0 dX3_takeBuses_30 rfl rfl ?_
          refine r_get B 3 2 0 (Nat.le_of_ble_eq_true rfl) rfl (cX_3 g _) rfl m_X3_takeBuses_inX3 (Nat.le_of_ble_eq_true rfl) m_X3_takeBuses_f11 rfl dX3_takeBuses_31 ?_
          refine r_aload_n B 0 dX3_takeBuses_34 rfl rfl ?_
          refine r_get B 3 2 3 (Nat.le_of_ble_eq_true rfl) rfl (cX_3 g _) rfl m_X3_takeBuses_inX3 (Nat.le_of_ble_eq_true rfl) m_X3_takeBuses_f23 rfl dX3_takeBuses_35 ?_
          refine r_iload_n B 2 dX3_takeBuses_38 rfl rfl ?_
          refine r_iast B 12 0 (Nat.le_of_ble_eq_true rfl) rfl (cX_12 g _) rfl (uX_12 g _ _) dX3_takeBuses_39 (fun S39 => ?_)
          refine r_aload_n B 0 dX3_takeBuses_40 rfl rfl ?_
          refine r_dup B rfl dX3_takeBuses_41 ?_
          refine r_get B 3 2 3 (Nat.le_of_ble_eq_true rfl) rfl (cX_3 g _) rfl m_X3_takeBuses_inX3 (Nat.le_of_ble_eq_true rfl) m_X3_takeBuses_f23 rfl dX3_takeBuses_42 ?_
          refine r_iconst B (1 : Int32) dX3_takeBuses_45 (by decide) ?_
          refine r_iadd B dX3_takeBuses_46 ?_
          refine r_put (ty := .int) B 3 2 3 tyX3 tyX3_ok nmX3 (Nat.le_of_ble_eq_true rfl) rfl (cX_3 g _) rfl m_X3_takeBuses_inX3 (Nat.le_of_ble_eq_true rfl) m_X3_takeBuses_f23 rfl (by decide +kernel) rfl rfl (Nat.le_of_ble_eq_true rfl) (pX_3_3 g _ _) dX3_takeBuses_47 (fun S47 => ?_)
          refine r_iinc (lv' := fun x3_50 => [(3, .int x3_50), (0, .ref (g.1 3)), (1, .long a1)]) B 2 (1 : Int32) dX3_takeBuses_50 rfl (by decide) n3 (fun _ => rfl) (fun x3_50 => ?_)
          refine r_goto B 7 dX3_takeBuses_53 (by decide) ?_
          refine r_sub [1, 2, 0] rfl ?_
          exact ih S47 x3_50
set_option maxRecDepth 100000 in
set_option maxHeartbeats 4000000 in
theorem x_X3_takeBuses {E : zCx} {g : zGx} (B : zGood E (WX g) (zT g) cX3_takeBuses RX3 wsX3_takeBuses none rm_X3_takeBuses) (hE : E.2.2 = 4) (S : zSt) (a1 : Int64) : Xo E (WX g) eVw S 0 [(0, .ref (g.1 3)), (1, .long a1)] [] (F_X3_takeBuses S a1) := by
  have n3 : 3 < E.2.2 := by rw [hE]; decide
  unfold F_X3_takeBuses
  refine r_aload_n B 0 dX3_takeBuses_0 rfl rfl ?_
  refine r_iconst B (0 : Int32) dX3_takeBuses_1 (by decide) ?_
  refine r_put (ty := .int) B 3 2 3 tyX3 tyX3_ok nmX3 (Nat.le_of_ble_eq_true rfl) rfl (cX_3 g _) rfl m_X3_takeBuses_inX3 (Nat.le_of_ble_eq_true rfl) m_X3_takeBuses_f23 rfl (by decide +kernel) rfl rfl (Nat.le_of_ble_eq_true rfl) (pX_3_3 g _ _) dX3_takeBuses_2 (fun S2 => ?_)
  refine r_iconst B (0 : Int32) dX3_takeBuses_5 (by decide) ?_
  refine r_istore_n (lv' := fun x3_6 => [(3, .int x3_6), (0, .ref (g.1 3)), (1, .long a1)]) B dX3_takeBuses_6 rfl n3 (fun _ => rfl) (fun x3_6 => ?_)
  refine r_sub [1, 2, 0] rfl ?_
  refine xL_X3_takeBuses_7 B hE a1 _ ?_ 1000 S2 x3_6
  intro S7x_7
  exact r_vret B dX3_takeBuses_56 rfl
set_option maxRecDepth 20000 in
theorem k_X3_takeBuses {l : Launch} {D : va_G} {g : zGx} (hz : zin (WX g)) {S : zSt} {a1 : Int64} {b : zSt} (h : F_X3_takeBuses S a1 = some b) : zMet l D (WX g) (zT g) yX3_takeBuses wsX3_takeBuses rm_X3_takeBuses S [.ref (g.1 3), .long a1] (eVw b) := zmet_of (by decide +kernel) rfl hz (Nat.le_of_ble_eq_true rfl) rfl (fun E _ _ hE B => x_X3_takeBuses B hE S a1) h
abbrev rm_X6_waitsIn : Room := { frames := 0, cells := 0, slots := 0, locals := 0 }
theorem y_X6_waitsIn : yX6_waitsIn.cls ≠ "java/lang/invoke/MethodHandle" ∧ yX6_waitsIn.cls ≠ "java/lang/invoke/VarHandle" ∧ (parseMethodDescriptor yX6_waitsIn.desc).map (fun d => d.parameters.length) = some 1 := by decide +kernel
set_option maxRecDepth 100000 in
set_option maxHeartbeats 4000000 in
theorem x_X6_waitsIn {E : zCx} {g : zGx} (B : zGood E (WX g) (zT g) cX6_waitsIn RX6 wsX6_waitsIn (some .int) rm_X6_waitsIn) (hE : E.2.2 = 1) (S : zSt) (a0 : Int32) : Xo E (WX g) (eI S) S 0 [(0, .int a0)] [] (F_X6_waitsIn a0) := by
  unfold F_X6_waitsIn
  refine r_iload_n B 0 dX6_waitsIn_0 rfl rfl ?_
  refine r_iload_n B 0 dX6_waitsIn_1 rfl rfl ?_
  refine r_iconst B (1 : Int32) dX6_waitsIn_2 (by decide) ?_
  refine r_isub B dX6_waitsIn_3 ?_
  refine r_imul B dX6_waitsIn_4 ?_
  refine r_iconst B (2 : Int32) dX6_waitsIn_5 (by decide) ?_
  refine r_idiv B dX6_waitsIn_6 (fun _ => ?_)
  exact r_iret B dX6_waitsIn_7 rfl
set_option maxRecDepth 20000 in
theorem k_X6_waitsIn {l : Launch} {D : va_G} {g : zGx} (hz : zin (WX g)) {S : zSt} {a0 : Int32} {b : Int32} (h : F_X6_waitsIn a0 = some b) : zMet l D (WX g) (zT g) yX6_waitsIn wsX6_waitsIn rm_X6_waitsIn S [.int a0] ((eI S) b) := zmet_of (by decide +kernel) rfl hz (Nat.le_of_ble_eq_true rfl) rfl (fun E _ _ hE B => x_X6_waitsIn B hE S a0) h
abbrev rm_X3_through : Room := { frames := 1, cells := 0, slots := 0, locals := 20 }
theorem y_X3_through : yX3_through.cls = RX3 ∧ yX3_through.cls ≠ "java/lang/invoke/MethodHandle" ∧ yX3_through.cls ≠ "java/lang/invoke/VarHandle" ∧ (parseMethodDescriptor yX3_through.desc).map (fun d => d.parameters.length) = some 3 := by decide +kernel
theorem m_X3_through_f11 : Cond.fieldLink RX3 11 "LongestMet$Holding" "goes" "[I" ∈ wsX3_through := List.mem_cons_of_mem _ (List.mem_append_left _ (List.mem_of_getElem? (i := 0) rfl))
theorem m_X3_through_inX3 : ∀ x ∈ u_ws RX3 TX3 5, x ∈ wsX3_through := fun _ h => List.mem_cons_of_mem _ (List.mem_append_right _ h)
theorem m_X3_through_c34 : Cond.constant RX3 34 (1000000) ∈ wsX3_through := List.mem_cons_of_mem _ (List.mem_append_left _ (List.mem_of_getElem? (i := 2) rfl))
theorem m_X3_through_f20 : Cond.fieldLink RX3 20 "LongestMet$Holding" "onward" "[[I" ∈ wsX3_through := List.mem_cons_of_mem _ (List.mem_append_left _ (List.mem_of_getElem? (i := 1) rfl))
set_option maxRecDepth 100000 in
set_option maxHeartbeats 4000000 in
theorem x_X3_through {E : zCx} {g : zGx} (B : zGood E (WX g) (zT g) cX3_through RX3 wsX3_through (some .int) rm_X3_through) (hE : E.2.2 = 5) (S : zSt) (a1 : Int32) (a2 : Int32) (a3 : Int32) : Xo E (WX g) (eI S) S 0 [(0, .ref (g.1 3)), (1, .int a1), (2, .int a2), (3, .int a3)] [] (F_X3_through S a1 a2 a3) := by
  have n4 : 4 < E.2.2 := by rw [hE]; decide
  unfold F_X3_through
  refine r_aload_n B 0 dX3_through_0 rfl rfl ?_
  refine r_get B 3 2 0 (Nat.le_of_ble_eq_true rfl) rfl (cX_3 g _) rfl m_X3_through_inX3 (Nat.le_of_ble_eq_true rfl) m_X3_through_f11 rfl dX3_through_1 ?_
  refine r_iload_n B 2 dX3_through_4 rfl rfl ?_
  refine r_iald B 12 0 (Nat.le_of_ble_eq_true rfl) rfl (cX_12 g _) rfl dX3_through_5 ?_
  refine r_iload_n B 3 dX3_through_6 rfl rfl ?_
  refine r_iadd B dX3_through_7 ?_
  refine r_istore (lv' := fun x4_8 => [(4, .int x4_8), (0, .ref (g.1 3)), (1, .int a1), (2, .int a2), (3, .int a3)]) B dX3_through_8 n4 (fun _ => rfl) (fun x4_8 => ?_)
  refine r_iload B 0 dX3_through_10 rfl ?_
  refine r_iload_n B 2 dX3_through_12 rfl rfl ?_
  refine r_icmp_le B 35 dX3_through_13 (by decide) (fun _ => ?_) (fun _ => ?_)
  · refine r_ldc B (1000000 : Int32) m_X3_through_c34 dX3_through_35 ?_
    exact r_iret B dX3_through_37 rfl
  · refine r_iload B 0 dX3_through_16 rfl ?_
    refine r_iload_n B 2 dX3_through_18 rfl rfl ?_
    refine r_isub B dX3_through_19 ?_
    refine r_cI (zrunS (As := [.int (x4_8 - a1)]) (rest := []) B 1 (fun b hb => k_X6_waitsIn B.2.2.1 hb) gX3_through_X6_waitsIn rfl rfl rfl y_X6_waitsIn ⟨Nat.le_of_ble_eq_true rfl, Nat.le_of_ble_eq_true rfl⟩ rfl rfl (Nat.le_of_ble_eq_true rfl) dX3_through_20) (fun r20 => ?_)
    refine r_aload_n B 1 dX3_through_23 rfl rfl ?_
    refine r_get B 3 2 2 (Nat.le_of_ble_eq_true rfl) rfl (cX_3 g _) rfl m_X3_through_inX3 (Nat.le_of_ble_eq_true rfl) m_X3_through_f20 rfl dX3_through_24 ?_
    refine r_iload_n B 3 dX3_through_27 rfl rfl ?_
    refine r_aald B 14 2 (Nat.le_of_ble_eq_true rfl) rfl (cX_14 g _) rfl dX3_through_28 (fun h28 => ?_)
    refine r_iload_n B 4 dX3_through_29 rfl rfl ?_
    refine r_iald B (26 + a2.toNatClampNeg) 0 (hX_r26 g h28) rfl (cX_r26 g _ h28) rfl dX3_through_30 ?_
    refine r_iadd B dX3_through_31 ?_
    refine r_goto B 37 dX3_through_32 (by decide) ?_
    exact r_iret B dX3_through_37 rfl
set_option maxRecDepth 20000 in
theorem k_X3_through {l : Launch} {D : va_G} {g : zGx} (hz : zin (WX g)) {S : zSt} {a1 : Int32} {a2 : Int32} {a3 : Int32} {b : Int32} (h : F_X3_through S a1 a2 a3 = some b) : zMet l D (WX g) (zT g) yX3_through wsX3_through rm_X3_through S [.ref (g.1 3), .int a1, .int a2, .int a3] ((eI S) b) := zmet_of (by decide +kernel) rfl hz (Nat.le_of_ble_eq_true rfl) rfl (fun E _ _ hE B => x_X3_through B hE S a1 a2 a3) h
