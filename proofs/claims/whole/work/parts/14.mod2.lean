set_option maxRecDepth 100000 in
def F_X11_takeBack (S : zSt) (a1 : Int32) (a2 : Int32) : Option (Int32 × zSt) :=
 (F_X11_in a1 (0 : Int32) ((zI S 2) - (1 : Int32))).bind (fun r8 : Int32 =>
 if r8 = 0 then (some ((-2 : Int32), S)) else
 ((F_X11_in a2 (zI S 3) (999 : Int32)).bind (fun r22 : Int32 =>
 if r22 = 0 then (some ((-2 : Int32), S)) else
 (ibd a1 40 (if (zA S 9 a1.toNatClampNeg) = (-1 : Int32) then (ibd a1 40 (lt (sA S 9 (upd (zA S 9) a1.toNatClampNeg a2)) (fun S50 : zSt =>
 lt (sI S50 3 a2) (fun S53 : zSt =>
 some ((1 : Int32), S53))))) else
 (some ((-3 : Int32), S)))))))
set_option maxRecDepth 100000 in
def F_X11_asOf (S : zSt) (a1 : Int32) : Option (Int32 × zSt) :=
 (F_X11_in a1 (0 : Int32) (999 : Int32)).bind (fun r5 : Int32 =>
 if r5 = 0 then (some ((-2 : Int32), S)) else
 (lt (zI S 4) (fun x2_18 : Int32 =>
 lt (sI S 4 a1) (fun S21 : zSt =>
 some (x2_18, S21)))))
set_option maxRecDepth 100000 in
def L_X11_saidOf_4 (S : zSt) (a1 : Int32) (k : Int32 → Option Int32) : Nat → Int32 → Int32 → Option Int32
  | 0, _, _ => none
  | n + 1, v2_4, v3_4 =>
    (if (zI S 2) ≤ v3_4 then (k v2_4) else
 (ibd v3_4 40 (jn (fun (y0_53 : Int32) =>
 lt y0_53 (fun x4_53 : Int32 =>
 if x4_53 = 0 then (lt (v2_4 + (0 : Int32)) (fun x2_81 : Int32 =>
 lt (v3_4 + (1 : Int32)) (fun x3_82 : Int32 =>
 L_X11_saidOf_4 S a1 k n x2_81 x3_82))) else
 (if a1 = 0 then (lt (v2_4 + (1 : Int32)) (fun x2_81 : Int32 =>
 lt (v3_4 + (1 : Int32)) (fun x3_82 : Int32 =>
 L_X11_saidOf_4 S a1 k n x2_81 x3_82))) else
 (ibd v3_4 40 (if (zA S 7 v3_4.toNatClampNeg) = a1 then (lt (v2_4 + (1 : Int32)) (fun x2_81 : Int32 =>
 lt (v3_4 + (1 : Int32)) (fun x3_82 : Int32 =>
 L_X11_saidOf_4 S a1 k n x2_81 x3_82))) else
 (lt (v2_4 + (0 : Int32)) (fun x2_81 : Int32 =>
 lt (v3_4 + (1 : Int32)) (fun x3_82 : Int32 =>
 L_X11_saidOf_4 S a1 k n x2_81 x3_82)))))))) (fun j53 : Int32 → Option Int32 =>
 if (zI S 4) < (zA S 8 v3_4.toNatClampNeg) then (j53 (0 : Int32)) else
 (ibd v3_4 40 (if (zA S 9 v3_4.toNatClampNeg) = (-1 : Int32) then (j53 (1 : Int32)) else
 (ibd v3_4 40 (if (zA S 9 v3_4.toNatClampNeg) ≤ (zI S 4) then (j53 (0 : Int32)) else
 (j53 (1 : Int32))))))))))
set_option maxRecDepth 100000 in
def F_X11_saidOf (S : zSt) (a1 : Int32) : Option Int32 :=
 lt (0 : Int32) (fun x2_1 : Int32 =>
 lt (0 : Int32) (fun x3_3 : Int32 =>
 L_X11_saidOf_4 S a1 (fun (w2_4 : Int32) =>
 some w2_4) 1000 x2_1 x3_3))
set_option maxRecDepth 100000 in
def F_X11_said (S : zSt) (a1 : Int32) : Option Int32 :=
 (F_X11_in a1 (1 : Int32) (8 : Int32)).bind (fun r4 : Int32 =>
 if r4 = 0 then (some (-2 : Int32)) else
 ((F_X11_saidOf S a1).bind (fun r12 : Int32 =>
 some r12)))
set_option maxRecDepth 100000 in
def L_X11_familyParts_4 (S : zSt) (k : Int32 → Option Int32) : Nat → Int32 → Int32 → Option Int32
  | 0, _, _ => none
  | n + 1, v1_4, v2_4 =>
    (if (9 : Int32) ≤ v2_4 then (k v1_4) else
 ((F_X11_saidOf S v2_4).bind (fun r13 : Int32 =>
 nz v2_4 (lt (v1_4 + (r13 * ((840 : Int32) / v2_4))) (fun x1_23 : Int32 =>
 lt (v2_4 + (1 : Int32)) (fun x2_24 : Int32 =>
 L_X11_familyParts_4 S k n x1_23 x2_24))))))
set_option maxRecDepth 100000 in
def F_X11_familyParts (S : zSt) : Option Int32 :=
 lt (0 : Int32) (fun x1_1 : Int32 =>
 lt (1 : Int32) (fun x2_3 : Int32 =>
 L_X11_familyParts_4 S (fun (w1_4 : Int32) =>
 some w1_4) 1000 x1_1 x2_3))
set_option maxRecDepth 100000 in
def F_X11_share (S : zSt) (a1 : Int32) (a2 : Int32) (a3 : Int32) : Option Int64 :=
 (F_X11_in a1 (1 : Int32) (8 : Int32)).bind (fun r4 : Int32 =>
 jn ((F_X11_no (-2 : Int32)).bind (fun r30 : Int64 =>
 some r30)) (fun j28 : Option Int64 =>
 if r4 = 0 then (j28) else
 ((F_X11_in a2 (0 : Int32) (1 : Int32)).bind (fun r13 : Int32 =>
 if r13 = 0 then (j28) else
 ((F_X11_in a3 (0 : Int32) (1 : Int32)).bind (fun r22 : Int32 =>
 if r22 = 0 then (j28) else
 ((F_X11_saidOf S (0 : Int32)).bind (fun r36 : Int32 =>
 lt r36 (fun x4_39 : Int32 =>
 if x4_39 = 0 then ((F_X11_no (-3 : Int32)).bind (fun r48 : Int64 =>
 some r48)) else
 (if a2 = 0 then ((F_X11_saidOf S a1).bind (fun r58 : Int32 =>
 (F_X11_lowest (r58.toInt64) (x4_39.toInt64) a3).bind (fun r66 : Int64 =>
 some r66))) else
 ((F_X11_saidOf S a1).bind (fun r74 : Int32 =>
 nz a1 ((F_X11_familyParts S).bind (fun r85 : Int32 =>
 (F_X11_lowest ((r74 * ((840 : Int32) / a1)).toInt64) (r85.toInt64) a3).bind (fun r90 : Int64 =>
 some r90)))))))))))))))
set_option maxRecDepth 100000 in
def L_X11_sizeNow_22 (S : zSt) (a1 : Int32) (a2 : Int32) (x3_5 : Int32) (k : Int32 → Option Int64) : Nat → Int32 → Int32 → Option Int64
  | 0, _, _ => none
  | n + 1, v4_22, v5_22 =>
    (if (9 : Int32) ≤ v5_22 then (k v4_22) else
 ((F_X11_saidOf S v5_22).bind (fun r36 : Int32 =>
 lt (v4_22 + (v5_22 * r36)) (fun x4_41 : Int32 =>
 lt (v5_22 + (1 : Int32)) (fun x5_43 : Int32 =>
 L_X11_sizeNow_22 S a1 a2 x3_5 k n x4_41 x5_43)))))
set_option maxRecDepth 100000 in
def F_X11_sizeNow (S : zSt) (a1 : Int32) (a2 : Int32) : Option Int64 :=
 (F_X11_saidOf S (0 : Int32)).bind (fun r2 : Int32 =>
 lt r2 (fun x3_5 : Int32 =>
 if x3_5 = 0 then ((F_X11_no (-3 : Int32)).bind (fun r12 : Int64 =>
 some r12)) else
 (lt (0 : Int32) (fun x4_17 : Int32 =>
 lt (1 : Int32) (fun x5_20 : Int32 =>
 L_X11_sizeNow_22 S a1 a2 x3_5 (fun (w4_22 : Int32) =>
 if a1 = 0 then ((F_X11_lowest (w4_22.toInt64) (x3_5.toInt64) a2).bind (fun r59 : Int64 =>
 some r59)) else
 ((F_X11_familyParts S).bind (fun r72 : Int32 =>
 (F_X11_lowest (((840 : Int32) * x3_5).toInt64) (r72.toInt64) a2).bind (fun r77 : Int64 =>
 some r77)))) 1000 x4_17 x5_20)))))
set_option maxRecDepth 100000 in
def F_X11_size (S : zSt) (a1 : Int32) (a2 : Int32) : Option Int64 :=
 (F_X11_in a1 (0 : Int32) (1 : Int32)).bind (fun r3 : Int32 =>
 jn ((F_X11_no (-2 : Int32)).bind (fun r29 : Int64 =>
 some r29)) (fun j27 : Option Int64 =>
 if r3 = 0 then (j27) else
 ((F_X11_in a2 (0 : Int32) (1 : Int32)).bind (fun r12 : Int32 =>
 if r12 = 0 then (j27) else
 ((F_X11_sizeNow S a1 a2).bind (fun r21 : Int64 =>
 some r21))))))
set_option maxRecDepth 100000 in
def F_X11_families (S : zSt) (a1 : Int32) (a2 : Int32) (a3 : Int32) : Option (Int32 × zSt) :=
 (F_X11_in a1 (0 : Int32) (3 : Int32)).bind (fun r3 : Int32 =>
 if r3 = 0 then (some ((-2 : Int32), S)) else
 ((F_X11_in a2 (1 : Int32) (8 : Int32)).bind (fun r13 : Int32 =>
 if r13 = 0 then (some ((-2 : Int32), S)) else
 ((F_X11_in a3 (0 : Int32) (9 : Int32)).bind (fun r23 : Int32 =>
 if r23 = 0 then (some ((-2 : Int32), S)) else
 (ibd (((9 : Int32) * a1) + a2) 36 (lt (zA S 10 (((9 : Int32) * a1) + a2).toNatClampNeg) (fun x4_43 : Int32 =>
 ibd (((9 : Int32) * a1) + a2) 36 (lt (sA S 10 (upd (zA S 10) (((9 : Int32) * a1) + a2).toNatClampNeg a3)) (fun S56 : zSt =>
 some (x4_43, S56)))))))))))
set_option maxRecDepth 100000 in
def L_X11_choose_18 (a0 : Int32) (a1 : Int32) (k : Int64 → Option Int64) : Nat → Int64 → Int32 → Option Int64
  | 0, _, _ => none
  | n + 1, v2_18, v4_18 =>
    (if a1 ≤ v4_18 then (k v2_18) else
 (if (lg_cmp v2_18 (0 : Int64)) ≤ 0 then (k v2_18) else
 (nzl ((v4_18.toInt64) + (1 : Int64)) (lt ((v2_18 * ((a0 - v4_18).toInt64)) / ((v4_18.toInt64) + (1 : Int64))) (fun x2_43 : Int64 =>
 lt (v4_18 + (1 : Int32)) (fun x4_44 : Int32 =>
 L_X11_choose_18 a0 a1 k n x2_43 x4_44))))))
set_option maxRecDepth 100000 in
def F_X11_choose (a0 : Int32) (a1 : Int32) : Option Int64 :=
 (F_X11_in a1 (0 : Int32) a0).bind (fun r3 : Int32 =>
 jn (fun (y0_14 : Int64) =>
 lt y0_14 (fun x2_14 : Int64 =>
 lt (0 : Int32) (fun x4_16 : Int32 =>
 L_X11_choose_18 a0 a1 (fun (w2_18 : Int64) =>
 some w2_18) 1000 x2_14 x4_16))) (fun j14 : Int64 → Option Int64 =>
 if r3 = 0 then (j14 (0 : Int64)) else
 (j14 (1 : Int64))))
set_option maxRecDepth 100000 in
def L_X11_childrenOf_4 (S : zSt) (a1 : Int32) (k : Int32 → Option Int32) : Nat → Int32 → Int32 → Option Int32
  | 0, _, _ => none
  | n + 1, v2_4, v3_4 =>
    (if (9 : Int32) ≤ v3_4 then (k v2_4) else
 (ibd (((9 : Int32) * a1) + v3_4) 36 (lt (v2_4 + (v3_4 * (zA S 10 (((9 : Int32) * a1) + v3_4).toNatClampNeg))) (fun x2_25 : Int32 =>
 lt (v3_4 + (1 : Int32)) (fun x3_26 : Int32 =>
 L_X11_childrenOf_4 S a1 k n x2_25 x3_26)))))
set_option maxRecDepth 100000 in
def F_X11_childrenOf (S : zSt) (a1 : Int32) : Option Int32 :=
 lt (0 : Int32) (fun x2_1 : Int32 =>
 lt (1 : Int32) (fun x3_3 : Int32 =>
 L_X11_childrenOf_4 S a1 (fun (w2_4 : Int32) =>
 some w2_4) 1000 x2_1 x3_3))
set_option maxRecDepth 100000 in
def L_X11_choices_5 (S : zSt) (a1 : Int32) (k : Int64 → Option Int64) : Nat → Int64 → Int32 → Option Int64
  | 0, _, _ => none
  | n + 1, v2_5, v4_5 =>
    (if (9 : Int32) ≤ v4_5 then (k v2_5) else
 (ibd (((9 : Int32) * a1) + v4_5) 36 ((F_X11_saidOf S v4_5).bind (fun r31 : Int32 =>
 (F_X11_choose (v4_5 * (zA S 10 (((9 : Int32) * a1) + v4_5).toNatClampNeg)) r31).bind (fun r34 : Int64 =>
 lt (v2_5 * r34) (fun x2_38 : Int64 =>
 lt (v4_5 + (1 : Int32)) (fun x4_39 : Int32 =>
 L_X11_choices_5 S a1 k n x2_38 x4_39)))))))
set_option maxRecDepth 100000 in
def F_X11_choices (S : zSt) (a1 : Int32) : Option Int64 :=
 lt (1 : Int64) (fun x2_1 : Int64 =>
 lt (1 : Int32) (fun x4_3 : Int32 =>
 L_X11_choices_5 S a1 (fun (w2_5 : Int64) =>
 some w2_5) 1000 x2_1 x4_3))
set_option maxRecDepth 100000 in
def F_X11_chance (S : zSt) (a1 : Int32) (a2 : Int32) : Option Int64 :=
 (F_X11_in a1 (0 : Int32) (3 : Int32)).bind (fun r3 : Int32 =>
 jn ((F_X11_no (-2 : Int32)).bind (fun r20 : Int64 =>
 some r20)) (fun j18 : Option Int64 =>
 if r3 = 0 then (j18) else
 ((F_X11_in a2 (0 : Int32) (1 : Int32)).bind (fun r12 : Int32 =>
 if r12 = 0 then (j18) else
 ((F_X11_saidOf S (0 : Int32)).bind (fun r26 : Int32 =>
 lt r26 (fun x3_29 : Int32 =>
 if x3_29 ≤ (8 : Int32) then ((F_X11_childrenOf S a1).bind (fun r44 : Int32 =>
 if x3_29 ≤ r44 then ((F_X11_choices S a1).bind (fun r61 : Int64 =>
 (F_X11_childrenOf S a1).bind (fun r66 : Int32 =>
 (F_X11_choose r66 x3_29).bind (fun r70 : Int64 =>
 (F_X11_lowest r61 r70 a2).bind (fun r74 : Int64 =>
 some r74))))) else
 ((F_X11_no (-3 : Int32)).bind (fun r53 : Int64 =>
 some r53)))) else
 ((F_X11_no (-4 : Int32)).bind (fun r38 : Int64 =>
 some r38)))))))))
set_option maxRecDepth 100000 in
def L_X11_likeliestNow_25 (S : zSt) (x1_5 : Int32) (k : Int32 → Option Int32) : Nat → Int32 → Int64 → Int64 → Int32 → Option Int32
  | 0, _, _, _, _ => none
  | n + 1, v2_25, v3_25, v5_25, v7_25 =>
    (if (4 : Int32) ≤ v7_25 then (k v2_25) else
 ((F_X11_childrenOf S v7_25).bind (fun r34 : Int32 =>
 (F_X11_choose r34 x1_5).bind (fun r38 : Int64 =>
 lt r38 (fun x8_41 : Int64 =>
 if (lg_cmp x8_41 (0 : Int64)) ≤ 0 then (lt (v7_25 + (1 : Int32)) (fun x7_81 : Int32 =>
 L_X11_likeliestNow_25 S x1_5 k n v2_25 v3_25 v5_25 x7_81)) else
 ((F_X11_choices S v7_25).bind (fun r53 : Int64 =>
 (F_X11_way r53 x8_41 v3_25 v5_25).bind (fun r61 : Int32 =>
 if r61 ≤ 0 then (lt (v7_25 + (1 : Int32)) (fun x7_81 : Int32 =>
 L_X11_likeliestNow_25 S x1_5 k n v2_25 v3_25 v5_25 x7_81)) else
 (lt v7_25 (fun x2_69 : Int32 =>
 (F_X11_choices S v7_25).bind (fun r73 : Int64 =>
 lt r73 (fun x3_76 : Int64 =>
 lt x8_41 (fun x5_79 : Int64 =>
 lt (v7_25 + (1 : Int32)) (fun x7_81 : Int32 =>
 L_X11_likeliestNow_25 S x1_5 k n x2_69 x3_76 x5_79 x7_81))))))))))))))
set_option maxRecDepth 100000 in
def F_X11_likeliestNow (S : zSt) : Option Int32 :=
 (F_X11_saidOf S (0 : Int32)).bind (fun r2 : Int32 =>
 lt r2 (fun x1_5 : Int32 =>
 if x1_5 ≤ (8 : Int32) then (lt (-1 : Int32) (fun x2_16 : Int32 =>
 lt (0 : Int64) (fun x3_18 : Int64 =>
 lt (1 : Int64) (fun x5_20 : Int64 =>
 lt (0 : Int32) (fun x7_23 : Int32 =>
 L_X11_likeliestNow_25 S x1_5 (fun (w2_25 : Int32) =>
 some w2_25) 1000 x2_16 x3_18 x5_20 x7_23))))) else
 (some (-4 : Int32))))
set_option maxRecDepth 100000 in
def F_X11_likeliest (S : zSt) : Option Int32 :=
 (F_X11_likeliestNow S).bind (fun r1 : Int32 =>
 some r1)
set_option maxRecDepth 100000 in
def F_X11_stay (S : zSt) (a1 : Int32) (a2 : Int32) : Option (Int32 × zSt) :=
 (F_X11_in a1 (0 : Int32) (99 : Int32)).bind (fun r4 : Int32 =>
 if r4 = 0 then (some ((-2 : Int32), S)) else
 ((F_X11_in a2 a1 (99 : Int32)).bind (fun r14 : Int32 =>
 if r14 = 0 then (some ((-2 : Int32), S)) else
 (if (a2 - a1) ≤ (19 : Int32) then (if (zI S 5) = (24 : Int32) then (some ((-4 : Int32), S)) else
 (ibd (zI S 5) 24 (lt (sA S 11 (upd (zA S 11) (zI S 5).toNatClampNeg a1)) (fun S52 : zSt =>
 ibd (zI S52 5) 24 (lt (sA S52 12 (upd (zA S52 12) (zI S52 5).toNatClampNeg a2)) (fun S62 : zSt =>
 lt (sI S62 5 ((zI S62 5) + (1 : Int32))) (fun S70 : zSt =>
 some (((zI S70 5) - (1 : Int32)), S70)))))))) else
 (some ((-2 : Int32), S))))))
set_option maxRecDepth 100000 in
def F_X11_leaves (S : zSt) (a1 : Int32) (a2 : Int32) : Option (Int32 × zSt) :=
 (F_X11_in a1 (0 : Int32) ((zI S 5) - (1 : Int32))).bind (fun r8 : Int32 =>
 if r8 = 0 then (some ((-2 : Int32), S)) else
 (ibd a1 24 ((F_X11_in a2 (zA S 11 a1.toNatClampNeg) (99 : Int32)).bind (fun r23 : Int32 =>
 if r23 = 0 then (some ((-2 : Int32), S)) else
 (ibd a1 24 (if (a2 - (zA S 11 a1.toNatClampNeg)) ≤ (19 : Int32) then (ibd a1 24 (lt (zA S 12 a1.toNatClampNeg) (fun x3_51 : Int32 =>
 ibd a1 24 (lt (sA S 12 (upd (zA S 12) a1.toNatClampNeg a2)) (fun S58 : zSt =>
 some (x3_51, S58)))))) else
 (some ((-2 : Int32), S))))))))
set_option maxRecDepth 100000 in
def F_X11_lengthOf (S : zSt) (a1 : Int32) : Option Int32 :=
 ibd a1 24 (ibd a1 24 (some (((zA S 12 a1.toNatClampNeg) - (zA S 11 a1.toNatClampNeg)) + (1 : Int32))))
set_option maxRecDepth 100000 in
def F_X11_daysIn (S : zSt) (a1 : Int32) (a2 : Int32) (a3 : Int32) : Option Int32 :=
 ibd a1 24 (jn (fun (y0_20 : Int32) =>
 lt y0_20 (fun x4_20 : Int32 =>
 ibd a1 24 (jn (fun (y0_42 : Int32) =>
 lt y0_42 (fun x5_42 : Int32 =>
 if x4_20 ≤ x5_42 then (some ((x5_42 - x4_20) + (1 : Int32))) else
 (some (0 : Int32)))) (fun j42 : Int32 → Option Int32 =>
 if a3 ≤ (zA S 12 a1.toNatClampNeg) then (j42 a3) else
 (ibd a1 24 (j42 (zA S 12 a1.toNatClampNeg))))))) (fun j20 : Int32 → Option Int32 =>
 if (zA S 11 a1.toNatClampNeg) ≤ a2 then (j20 a2) else
 (ibd a1 24 (j20 (zA S 11 a1.toNatClampNeg)))))
set_option maxRecDepth 100000 in
def L_X11_wardOf_6 (S : zSt) (a1 : Int32) (a2 : Int32) (a3 : Int32) (k : Int64 → Option Int64) : Nat → Int64 → Int32 → Option Int64
  | 0, _, _ => none
  | n + 1, v4_6, v6_6 =>
    (if (zI S 5) ≤ v6_6 then (k v4_6) else
 ((F_X11_daysIn S v6_6 a1 a2).bind (fun r20 : Int32 =>
 lt r20 (fun x7_23 : Int32 =>
 (F_X11_lengthOf S v6_6).bind (fun r28 : Int32 =>
 lt r28 (fun x8_31 : Int32 =>
 ibd v6_6 24 ((F_X11_in (zA S 11 v6_6.toNatClampNeg) a1 a2).bind (fun r42 : Int32 =>
 lt r42 (fun x9_45 : Int32 =>
 if a3 = (0 : Int32) then (if x9_45 = 0 then (lt (v4_6 + (0 : Int64)) (fun x4_101 : Int64 =>
 lt (v6_6 + (1 : Int32)) (fun x6_205 : Int32 =>
 L_X11_wardOf_6 S a1 a2 a3 k n x4_101 x6_205))) else
 (lt (v4_6 + (1 : Int64)) (fun x4_101 : Int64 =>
 lt (v6_6 + (1 : Int32)) (fun x6_205 : Int32 =>
 L_X11_wardOf_6 S a1 a2 a3 k n x4_101 x6_205)))) else
 if a3 = (1 : Int32) then (if x7_23 ≤ 0 then (lt (v4_6 + (0 : Int64)) (fun x4_119 : Int64 =>
 lt (v6_6 + (1 : Int32)) (fun x6_205 : Int32 =>
 L_X11_wardOf_6 S a1 a2 a3 k n x4_119 x6_205))) else
 (lt (v4_6 + (1 : Int64)) (fun x4_119 : Int64 =>
 lt (v6_6 + (1 : Int32)) (fun x6_205 : Int32 =>
 L_X11_wardOf_6 S a1 a2 a3 k n x4_119 x6_205)))) else
 if a3 = (2 : Int32) then (lt (v4_6 + (x7_23.toInt64)) (fun x4_130 : Int64 =>
 lt (v6_6 + (1 : Int32)) (fun x6_205 : Int32 =>
 L_X11_wardOf_6 S a1 a2 a3 k n x4_130 x6_205))) else
 if a3 = (3 : Int32) then (if x9_45 = 0 then (lt (v4_6 + (0 : Int64)) (fun x4_150 : Int64 =>
 lt (v6_6 + (1 : Int32)) (fun x6_205 : Int32 =>
 L_X11_wardOf_6 S a1 a2 a3 k n x4_150 x6_205))) else
 (lt (v4_6 + (x8_31.toInt64)) (fun x4_150 : Int64 =>
 lt (v6_6 + (1 : Int32)) (fun x6_205 : Int32 =>
 L_X11_wardOf_6 S a1 a2 a3 k n x4_150 x6_205)))) else
 if a3 = (4 : Int32) then (if x7_23 ≤ 0 then (lt (v4_6 + (0 : Int64)) (fun x4_170 : Int64 =>
 lt (v6_6 + (1 : Int32)) (fun x6_205 : Int32 =>
 L_X11_wardOf_6 S a1 a2 a3 k n x4_170 x6_205))) else
 (lt (v4_6 + (x8_31.toInt64)) (fun x4_170 : Int64 =>
 lt (v6_6 + (1 : Int32)) (fun x6_205 : Int32 =>
 L_X11_wardOf_6 S a1 a2 a3 k n x4_170 x6_205)))) else
 if a3 = (5 : Int32) then (lt (v4_6 + ((x7_23 * x8_31).toInt64)) (fun x4_184 : Int64 =>
 lt (v6_6 + (1 : Int32)) (fun x6_205 : Int32 =>
 L_X11_wardOf_6 S a1 a2 a3 k n x4_184 x6_205))) else
 (nzl (x8_31.toInt64) (lt (v4_6 + ((x7_23.toInt64) * ((232792560 : Int64) / (x8_31.toInt64)))) (fun x4_203 : Int64 =>
 lt (v6_6 + (1 : Int32)) (fun x6_205 : Int32 =>
 L_X11_wardOf_6 S a1 a2 a3 k n x4_203 x6_205)))))))))))))
set_option maxRecDepth 100000 in
def F_X11_wardOf (S : zSt) (a1 : Int32) (a2 : Int32) (a3 : Int32) : Option Int64 :=
 lt (0 : Int64) (fun x4_1 : Int64 =>
 lt (0 : Int32) (fun x6_4 : Int32 =>
 L_X11_wardOf_6 S a1 a2 a3 (fun (w4_6 : Int64) =>
 some w4_6) 1000 x4_1 x6_4))
set_option maxRecDepth 100000 in
def F_X11_wardNow (S : zSt) (a1 : Int32) (a2 : Int32) (a3 : Int32) : Option Int32 :=
 if (3 : Int32) ≤ a3 then ((F_X11_wardOf S a1 a2 (0 : Int32)).bind (fun r18 : Int64 =>
 if (lg_cmp r18 (0 : Int64)) = 0 then (some (-3 : Int32)) else
 ((F_X11_wardOf S a1 a2 (3 : Int32)).bind (fun r35 : Int64 =>
 (F_X11_wardOf S a1 a2 (2 : Int32)).bind (fun r42 : Int64 =>
 if (lg_cmp r35 r42) = 0 then (some (1 : Int32)) else
 (some (0 : Int32))))))) else
 ((F_X11_wardOf S a1 a2 a3).bind (fun r9 : Int64 =>
 some (r9.toInt32)))
set_option maxRecDepth 100000 in
def F_X11_isSpan (a0 : Int32) (a1 : Int32) : Option Int32 :=
 (F_X11_in a0 (0 : Int32) (99 : Int32)).bind (fun r4 : Int32 =>
 if r4 = 0 then (some (0 : Int32)) else
 ((F_X11_in a1 a0 (99 : Int32)).bind (fun r14 : Int32 =>
 if r14 = 0 then (some (0 : Int32)) else
 (some (1 : Int32)))))
set_option maxRecDepth 100000 in
def F_X11_ward (S : zSt) (a1 : Int32) (a2 : Int32) (a3 : Int32) : Option Int32 :=
 (F_X11_isSpan a1 a2).bind (fun r2 : Int32 =>
 if r2 = 0 then (some (-2 : Int32)) else
 ((F_X11_in a3 (0 : Int32) (3 : Int32)).bind (fun r11 : Int32 =>
 if r11 = 0 then (some (-2 : Int32)) else
 ((F_X11_wardNow S a1 a2 a3).bind (fun r21 : Int32 =>
 some r21)))))
set_option maxRecDepth 100000 in
def F_X11_meansNow (S : zSt) (a1 : Int32) (a2 : Int32) (a3 : Int32) (a4 : Int32) : Option Int64 :=
 lt (((a2 - a1) + (1 : Int32)).toInt64) (fun x5_6 : Int64 =>
 lt (0 : Int64) (fun x7_9 : Int64 =>
 lt (0 : Int64) (fun x9_12 : Int64 =>
 jn (fun (x7_166 : Int64) (x9_166 : Int64) =>
 if (lg_cmp x9_166 (0 : Int64)) = 0 then ((F_X11_no (-3 : Int32)).bind (fun r175 : Int64 =>
 some r175)) else
 ((F_X11_lowest x7_166 x9_166 a4).bind (fun r187 : Int64 =>
 some r187))) (fun j166 : Int64 → Int64 → Option Int64 =>
 if a3 = (0 : Int32) then ((F_X11_wardOf S a1 a2 (3 : Int32)).bind (fun r52 : Int64 =>
 lt r52 (fun x7_55 : Int64 =>
 (F_X11_wardOf S a1 a2 (0 : Int32)).bind (fun r61 : Int64 =>
 lt r61 (fun x9_64 : Int64 =>
 j166 x7_55 x9_64))))) else
 if a3 = (1 : Int32) then ((F_X11_wardOf S a1 a2 (4 : Int32)).bind (fun r73 : Int64 =>
 lt r73 (fun x7_76 : Int64 =>
 (F_X11_wardOf S a1 a2 (1 : Int32)).bind (fun r82 : Int64 =>
 lt r82 (fun x9_85 : Int64 =>
 j166 x7_76 x9_85))))) else
 if a3 = (2 : Int32) then ((F_X11_wardOf S a1 a2 (5 : Int32)).bind (fun r94 : Int64 =>
 lt r94 (fun x7_97 : Int64 =>
 (F_X11_wardOf S a1 a2 (2 : Int32)).bind (fun r103 : Int64 =>
 lt r103 (fun x9_106 : Int64 =>
 j166 x7_97 x9_106))))) else
 if a3 = (3 : Int32) then ((F_X11_wardOf S a1 a2 (2 : Int32)).bind (fun r115 : Int64 =>
 lt (r115 * (232792560 : Int64)) (fun x7_122 : Int64 =>
 (F_X11_wardOf S a1 a2 (6 : Int32)).bind (fun r129 : Int64 =>
 lt r129 (fun x9_132 : Int64 =>
 j166 x7_122 x9_132))))) else
 if a3 = (4 : Int32) then ((F_X11_wardOf S a1 a2 (0 : Int32)).bind (fun r141 : Int64 =>
 lt r141 (fun x7_144 : Int64 =>
 lt x5_6 (fun x9_148 : Int64 =>
 j166 x7_144 x9_148)))) else
 ((F_X11_wardOf S a1 a2 (2 : Int32)).bind (fun r157 : Int64 =>
 lt r157 (fun x7_160 : Int64 =>
 lt x5_6 (fun x9_164 : Int64 =>
 j166 x7_160 x9_164))))))))
set_option maxRecDepth 100000 in
def F_X11_means (S : zSt) (a1 : Int32) (a2 : Int32) (a3 : Int32) (a4 : Int32) : Option Int64 :=
 (F_X11_isSpan a1 a2).bind (fun r2 : Int32 =>
 jn ((F_X11_no (-2 : Int32)).bind (fun r41 : Int64 =>
 some r41)) (fun j39 : Option Int64 =>
 if r2 = 0 then (j39) else
 ((F_X11_in a3 (0 : Int32) (5 : Int32)).bind (fun r11 : Int32 =>
 if r11 = 0 then (j39) else
 ((F_X11_in a4 (0 : Int32) (1 : Int32)).bind (fun r21 : Int32 =>
 if r21 = 0 then (j39) else
 ((F_X11_meansNow S a1 a2 a3 a4).bind (fun r33 : Int64 =>
 some r33))))))))
set_option maxRecDepth 100000 in
def L_X11_apartNow_17 (S : zSt) (v1_6 : Int32) (v2_6 : Int32) (k : Int32 → Option Int32) : Nat → Int32 → Int32 → Option Int32
  | 0, _, _ => none
  | n + 1, v4_17, v5_17 =>
    (if (zI S 5) ≤ v5_17 then (k v4_17) else
 (ibd v5_17 24 (if (zA S 11 v5_17.toNatClampNeg) ≤ v2_6 then (lt v4_17 (fun x4_61 : Int32 =>
 lt (v5_17 + (1 : Int32)) (fun x5_63 : Int32 =>
 L_X11_apartNow_17 S v1_6 v2_6 k n x4_61 x5_63))) else
 (ibd v5_17 24 (if v4_17 ≤ (zA S 12 v5_17.toNatClampNeg) then (lt v4_17 (fun x4_61 : Int32 =>
 lt (v5_17 + (1 : Int32)) (fun x5_63 : Int32 =>
 L_X11_apartNow_17 S v1_6 v2_6 k n x4_61 x5_63))) else
 (ibd v5_17 24 (lt (zA S 12 v5_17.toNatClampNeg) (fun x4_61 : Int32 =>
 lt (v5_17 + (1 : Int32)) (fun x5_63 : Int32 =>
 L_X11_apartNow_17 S v1_6 v2_6 k n x4_61 x5_63)))))))))
set_option maxRecDepth 100000 in
def L_X11_apartNow_6 (S : zSt) (k : Int32 → Option Int32) : Nat → Int32 → Int32 → Int32 → Option Int32
  | 0, _, _, _ => none
  | n + 1, v1_6, v2_6, v3_6 =>
    (if v3_6 = 0 then (k v1_6) else
 (lt (100000 : Int32) (fun x4_12 : Int32 =>
 lt (0 : Int32) (fun x5_15 : Int32 =>
 L_X11_apartNow_17 S v1_6 v2_6 (fun (w4_17 : Int32) =>
 jn (fun (y0_81 : Int32) =>
 lt y0_81 (fun x3_81 : Int32 =>
 if x3_81 = 0 then (lt (v1_6 + (0 : Int32)) (fun x1_93 : Int32 =>
 lt w4_17 (fun x2_96 : Int32 =>
 L_X11_apartNow_6 S k n x1_93 x2_96 x3_81))) else
 (lt (v1_6 + (1 : Int32)) (fun x1_93 : Int32 =>
 lt w4_17 (fun x2_96 : Int32 =>
 L_X11_apartNow_6 S k n x1_93 x2_96 x3_81))))) (fun j81 : Int32 → Option Int32 =>
 if (100000 : Int32) ≤ w4_17 then (j81 (0 : Int32)) else
 (j81 (1 : Int32)))) 1000 x4_12 x5_15))))
set_option maxRecDepth 100000 in
def F_X11_apartNow (S : zSt) : Option Int32 :=
 lt (0 : Int32) (fun x1_1 : Int32 =>
 lt (-1 : Int32) (fun x2_3 : Int32 =>
 lt (1 : Int32) (fun x3_5 : Int32 =>
 L_X11_apartNow_6 S (fun (w1_6 : Int32) =>
 some w1_6) 1000 x1_1 x2_3 x3_5)))
set_option maxRecDepth 100000 in
def L_X11_fullestNow_17 (S : zSt) (a1 : Int32) (k : Int32 → Int32 → Option Int32) : Nat → Int32 → Int32 → Int32 → Option Int32
  | 0, _, _, _ => none
  | n + 1, v2_17, v3_17, v4_17 =>
    (if (100 : Int32) ≤ v4_17 then (k v2_17 v3_17) else
 ((F_X11_wardOf S v4_17 v4_17 (2 : Int32)).bind (fun r30 : Int64 =>
 lt (r30.toInt32) (fun x5_34 : Int32 =>
 jn (fun (y0_48 : Int32) =>
 lt y0_48 (fun x2_48 : Int32 =>
 if x5_34 ≤ v3_17 then (lt v3_17 (fun x3_61 : Int32 =>
 lt (v4_17 + (1 : Int32)) (fun x4_62 : Int32 =>
 L_X11_fullestNow_17 S a1 k n x2_48 x3_61 x4_62))) else
 (lt x5_34 (fun x3_61 : Int32 =>
 lt (v4_17 + (1 : Int32)) (fun x4_62 : Int32 =>
 L_X11_fullestNow_17 S a1 k n x2_48 x3_61 x4_62))))) (fun j48 : Int32 → Option Int32 =>
 if x5_34 ≤ v3_17 then (j48 v2_17) else
 (j48 v4_17))))))
set_option maxRecDepth 100000 in
def F_X11_fullestNow (S : zSt) (a1 : Int32) : Option Int32 :=
 if a1 = (2 : Int32) then ((F_X11_apartNow S).bind (fun r6 : Int32 =>
 some r6)) else
 (lt (0 : Int32) (fun x2_11 : Int32 =>
 lt (-1 : Int32) (fun x3_13 : Int32 =>
 lt (0 : Int32) (fun x4_15 : Int32 =>
 L_X11_fullestNow_17 S a1 (fun (w2_17 : Int32) (w3_17 : Int32) =>
 if a1 = 0 then (some w2_17) else
 (some w3_17)) 1000 x2_11 x3_13 x4_15))))
set_option maxRecDepth 100000 in
def F_X11_fullest (S : zSt) (a1 : Int32) : Option Int32 :=
 (F_X11_in a1 (0 : Int32) (2 : Int32)).bind (fun r3 : Int32 =>
 if r3 = 0 then (some (-2 : Int32)) else
 ((F_X11_fullestNow S a1).bind (fun r11 : Int32 =>
 some r11)))
set_option maxRecDepth 100000 in
def F_X11_friends (S : zSt) (a1 : Int32) (a2 : Int32) (a3 : Int32) : Option (Int32 × zSt) :=
 (F_X11_in a1 (0 : Int32) (7 : Int32)).bind (fun r4 : Int32 =>
 if r4 = 0 then (some ((-2 : Int32), S)) else
 ((F_X11_in a2 (0 : Int32) (7 : Int32)).bind (fun r14 : Int32 =>
 if r14 = 0 then (some ((-2 : Int32), S)) else
 (if a1 = a2 then (some ((-2 : Int32), S)) else
 ((F_X11_in a3 (0 : Int32) (1 : Int32)).bind (fun r28 : Int32 =>
 if r28 = 0 then (some ((-2 : Int32), S)) else
 (ibd a1 8 (lt (((zA S 13 a1.toNatClampNeg) >>> (a2 &&& 31)) &&& (1 : Int32)) (fun x4_47 : Int32 =>
 jn (fun (y0_84 : Int32) =>
 ibd a1 8 (lt (sA S 13 (upd (zA S 13) a1.toNatClampNeg y0_84)) (fun S84 : zSt =>
 if a3 = (1 : Int32) then (ibd a2 8 (ibd a2 8 (lt (sA S84 13 (upd (zA S84 13) a2.toNatClampNeg ((zA S84 13 a2.toNatClampNeg) ||| ((1 : Int32) <<< (a1 &&& 31))))) (fun S120 : zSt =>
 some (x4_47, S120))))) else
 (ibd a2 8 (ibd a2 8 (lt (sA S84 13 (upd (zA S84 13) a2.toNatClampNeg ((zA S84 13 a2.toNatClampNeg) &&& (((1 : Int32) <<< (a1 &&& 31)) ^^^ (-1 : Int32))))) (fun S120 : zSt =>
 some (x4_47, S120)))))))) (fun j84 : Int32 → Option (Int32 × zSt) =>
 if a3 = (1 : Int32) then (ibd a1 8 (j84 ((zA S 13 a1.toNatClampNeg) ||| ((1 : Int32) <<< (a2 &&& 31))))) else
 (ibd a1 8 (j84 ((zA S 13 a1.toNatClampNeg) &&& (((1 : Int32) <<< (a2 &&& 31)) ^^^ (-1 : Int32)))))))))))))))
set_option maxRecDepth 100000 in
def L_X11_pickedParts_19 (S : zSt) (a1 : Int32) (k : Int32 → Option Int32) : Nat → Int32 → Int32 → Option Int32
  | 0, _, _ => none
  | n + 1, v2_19, v3_19 =>
    (if (8 : Int32) ≤ v3_19 then (k v2_19) else
 (ibd v3_19 8 ((F_X11_has (zA S 13 v3_19.toNatClampNeg) a1).bind (fun r33 : Int32 =>
 if r33 = 0 then (lt (v2_19 + (0 : Int32)) (fun x2_57 : Int32 =>
 lt (v3_19 + (1 : Int32)) (fun x3_58 : Int32 =>
 L_X11_pickedParts_19 S a1 k n x2_57 x3_58))) else
 (ibd v3_19 8 ((F_X11_ones (zA S 13 v3_19.toNatClampNeg)).bind (fun r48 : Int32 =>
 nz r48 (lt (v2_19 + ((420 : Int32) / r48)) (fun x2_57 : Int32 =>
 lt (v3_19 + (1 : Int32)) (fun x3_58 : Int32 =>
 L_X11_pickedParts_19 S a1 k n x2_57 x3_58))))))))))
set_option maxRecDepth 100000 in
def F_X11_pickedParts (S : zSt) (a1 : Int32) : Option Int32 :=
 ibd a1 8 (jn (fun (y0_16 : Int32) =>
 lt y0_16 (fun x2_16 : Int32 =>
 lt (0 : Int32) (fun x3_18 : Int32 =>
 L_X11_pickedParts_19 S a1 (fun (w2_19 : Int32) =>
 some w2_19) 1000 x2_16 x3_18))) (fun j16 : Int32 → Option Int32 =>
 if (zA S 13 a1.toNatClampNeg) = 0 then (j16 (420 : Int32)) else
 (j16 (0 : Int32))))
abbrev rm_X11_takeBack : Room := { frames := 1, cells := 0, slots := 0, locals := 22 }
theorem y_X11_takeBack : yX11_takeBack.cls = RX11 ∧ yX11_takeBack.cls ≠ "java/lang/invoke/MethodHandle" ∧ yX11_takeBack.cls ≠ "java/lang/invoke/VarHandle" ∧ (parseMethodDescriptor yX11_takeBack.desc).map (fun d => d.parameters.length) = some 2 := by decide +kernel
theorem m_X11_takeBack_f137 : Cond.fieldLink RX11 137 "LongestMetModel" "answers" "I" ∈ wsX11_takeBack := List.mem_cons_of_mem _ (List.mem_append_left _ (List.mem_of_getElem? (i := 0) rfl))
theorem m_X11_takeBack_inX11 : ∀ x ∈ u_ws RX11 TX11 27, x ∈ wsX11_takeBack := fun _ h => List.mem_cons_of_mem _ (List.mem_append_right _ h)
theorem m_X11_takeBack_f134 : Cond.fieldLink RX11 134 "LongestMetModel" "lastTime" "I" ∈ wsX11_takeBack := List.mem_cons_of_mem _ (List.mem_append_left _ (List.mem_of_getElem? (i := 1) rfl))
theorem m_X11_takeBack_f34 : Cond.fieldLink RX11 34 "LongestMetModel" "answerBack" "[I" ∈ wsX11_takeBack := List.mem_cons_of_mem _ (List.mem_append_left _ (List.mem_of_getElem? (i := 2) rfl))
set_option maxRecDepth 100000 in
set_option maxHeartbeats 4000000 in
theorem x_X11_takeBack {E : zCx} {g : zGx} (B : zGood E (WM g) (zT g) cX11_takeBack RX11 wsX11_takeBack (some .int) rm_X11_takeBack) (hE : E.2.2 = 3) (S : zSt) (a1 : Int32) (a2 : Int32) : Xo E (WM g) eIw S 0 [(0, .ref (g.1 0)), (1, .int a1), (2, .int a2)] [] (F_X11_takeBack S a1 a2) := by
  unfold F_X11_takeBack
  refine r_iload_n B 1 dX11_takeBack_0 rfl rfl ?_
  refine r_iconst B (0 : Int32) dX11_takeBack_1 (by decide) ?_
  refine r_aload_n B 0 dX11_takeBack_2 rfl rfl ?_
  refine r_get B 0 10 8 (Nat.le_of_ble_eq_true rfl) rfl (cM_0 g _) rfl m_X11_takeBack_inX11 (Nat.le_of_ble_eq_true rfl) m_X11_takeBack_f137 rfl dX11_takeBack_3 ?_
  refine r_iconst B (1 : Int32) dX11_takeBack_6 (by decide) ?_
  refine r_isub B dX11_takeBack_7 ?_
  refine r_cI (zrunS (As := [.int a1, .int (0 : Int32), .int ((zI S 2) - (1 : Int32))]) (rest := []) B 3 (fun b hb => k_X11_in B.2.2.1 hb) gX11_takeBack_X11_in rfl rfl rfl y_X11_in ⟨Nat.le_of_ble_eq_true rfl, Nat.le_of_ble_eq_true rfl⟩ rfl rfl (Nat.le_of_ble_eq_true rfl) dX11_takeBack_8) (fun r8 => ?_)
  refine r_if_eq B 28 dX11_takeBack_11 (by decide) (fun _ => ?_) (fun _ => ?_)
  · refine r_bipush B (-2 : Int32) dX11_takeBack_28 (by decide) ?_
    exact r_iret B dX11_takeBack_30 rfl
  · refine r_iload_n B 2 dX11_takeBack_14 rfl rfl ?_
    refine r_aload_n B 0 dX11_takeBack_15 rfl rfl ?_
    refine r_get B 0 10 12 (Nat.le_of_ble_eq_true rfl) rfl (cM_0 g _) rfl m_X11_takeBack_inX11 (Nat.le_of_ble_eq_true rfl) m_X11_takeBack_f134 rfl dX11_takeBack_16 ?_
    refine r_sipush B (999 : Int32) dX11_takeBack_19 (by decide) ?_
    refine r_cI (zrunS (As := [.int a2, .int (zI S 3), .int (999 : Int32)]) (rest := []) B 3 (fun b hb => k_X11_in B.2.2.1 hb) gX11_takeBack_X11_in rfl rfl rfl y_X11_in ⟨Nat.le_of_ble_eq_true rfl, Nat.le_of_ble_eq_true rfl⟩ rfl rfl (Nat.le_of_ble_eq_true rfl) dX11_takeBack_22) (fun r22 => ?_)
    refine r_if_ne B 31 dX11_takeBack_25 (by decide) (fun _ => ?_) (fun _ => ?_)
    · refine r_aload_n B 0 dX11_takeBack_31 rfl rfl ?_
      refine r_get B 0 10 11 (Nat.le_of_ble_eq_true rfl) rfl (cM_0 g _) rfl m_X11_takeBack_inX11 (Nat.le_of_ble_eq_true rfl) m_X11_takeBack_f34 rfl dX11_takeBack_32 ?_
      refine r_iload_n B 1 dX11_takeBack_35 rfl rfl ?_
      refine r_iald B 9 0 (Nat.le_of_ble_eq_true rfl) rfl (cM_9 g _) rfl dX11_takeBack_36 ?_
      refine r_iconst B (-1 : Int32) dX11_takeBack_37 (by decide) ?_
      refine r_icmp_eq B 44 dX11_takeBack_38 (by decide) (fun _ => ?_) (fun _ => ?_)
      · refine r_aload_n B 0 dX11_takeBack_44 rfl rfl ?_
        refine r_get B 0 10 11 (Nat.le_of_ble_eq_true rfl) rfl (cM_0 g _) rfl m_X11_takeBack_inX11 (Nat.le_of_ble_eq_true rfl) m_X11_takeBack_f34 rfl dX11_takeBack_45 ?_
        refine r_iload_n B 1 dX11_takeBack_48 rfl rfl ?_
        refine r_iload_n B 2 dX11_takeBack_49 rfl rfl ?_
        refine r_iast B 9 0 (Nat.le_of_ble_eq_true rfl) rfl (cM_9 g _) rfl (uM_9 g _ _) dX11_takeBack_50 (fun S50 => ?_)
        refine r_aload_n B 0 dX11_takeBack_51 rfl rfl ?_
        refine r_iload_n B 2 dX11_takeBack_52 rfl rfl ?_
        refine r_put (ty := .int) B 0 10 12 tyX11 tyX11_ok nmX11 (Nat.le_of_ble_eq_true rfl) rfl (cM_0 g _) rfl m_X11_takeBack_inX11 (Nat.le_of_ble_eq_true rfl) m_X11_takeBack_f134 rfl (by decide +kernel) rfl rfl (Nat.le_of_ble_eq_true rfl) (pM_0_12 g _ _) dX11_takeBack_53 (fun S53 => ?_)
        refine r_iconst B (1 : Int32) dX11_takeBack_56 (by decide) ?_
        exact r_iret B dX11_takeBack_57 rfl
      · refine r_bipush B (-3 : Int32) dX11_takeBack_41 (by decide) ?_
        exact r_iret B dX11_takeBack_43 rfl
    · refine r_bipush B (-2 : Int32) dX11_takeBack_28 (by decide) ?_
      exact r_iret B dX11_takeBack_30 rfl
set_option maxRecDepth 20000 in
theorem k_X11_takeBack {l : Launch} {D : va_G} {g : zGx} (hz : zin (WM g)) {S : zSt} {a1 : Int32} {a2 : Int32} {b : (Int32 × zSt)} (h : F_X11_takeBack S a1 a2 = some b) : zMet l D (WM g) (zT g) yX11_takeBack wsX11_takeBack rm_X11_takeBack S [.ref (g.1 0), .int a1, .int a2] (eIw b) := zmet_of (by decide +kernel) rfl hz (Nat.le_of_ble_eq_true rfl) rfl (fun E _ _ hE B => x_X11_takeBack B hE S a1 a2) h
abbrev rm_X11_asOf : Room := { frames := 1, cells := 0, slots := 0, locals := 22 }
theorem y_X11_asOf : yX11_asOf.cls = RX11 ∧ yX11_asOf.cls ≠ "java/lang/invoke/MethodHandle" ∧ yX11_asOf.cls ≠ "java/lang/invoke/VarHandle" ∧ (parseMethodDescriptor yX11_asOf.desc).map (fun d => d.parameters.length) = some 1 := by decide +kernel
theorem m_X11_asOf_f37 : Cond.fieldLink RX11 37 "LongestMetModel" "knownTo" "I" ∈ wsX11_asOf := List.mem_cons_of_mem _ (List.mem_append_left _ (List.mem_of_getElem? (i := 0) rfl))
theorem m_X11_asOf_inX11 : ∀ x ∈ u_ws RX11 TX11 27, x ∈ wsX11_asOf := fun _ h => List.mem_cons_of_mem _ (List.mem_append_right _ h)
set_option maxRecDepth 100000 in
set_option maxHeartbeats 4000000 in
theorem x_X11_asOf {E : zCx} {g : zGx} (B : zGood E (WM g) (zT g) cX11_asOf RX11 wsX11_asOf (some .int) rm_X11_asOf) (hE : E.2.2 = 3) (S : zSt) (a1 : Int32) : Xo E (WM g) eIw S 0 [(0, .ref (g.1 0)), (1, .int a1)] [] (F_X11_asOf S a1) := by
  have n2 : 2 < E.2.2 := by rw [hE]; decide
  unfold F_X11_asOf
  refine r_iload_n B 1 dX11_asOf_0 rfl rfl ?_
  refine r_iconst B (0 : Int32) dX11_asOf_1 (by decide) ?_
  refine r_sipush B (999 : Int32) dX11_asOf_2 (by decide) ?_
  refine r_cI (zrunS (As := [.int a1, .int (0 : Int32), .int (999 : Int32)]) (rest := []) B 3 (fun b hb => k_X11_in B.2.2.1 hb) gX11_asOf_X11_in rfl rfl rfl y_X11_in ⟨Nat.le_of_ble_eq_true rfl, Nat.le_of_ble_eq_true rfl⟩ rfl rfl (Nat.le_of_ble_eq_true rfl) dX11_asOf_5) (fun r5 => ?_)
  refine r_if_ne B 14 dX11_asOf_8 (by decide) (fun _ => ?_) (fun _ => ?_)
  · refine r_aload_n B 0 dX11_asOf_14 rfl rfl ?_
    refine r_get B 0 10 13 (Nat.le_of_ble_eq_true rfl) rfl (cM_0 g _) rfl m_X11_asOf_inX11 (Nat.le_of_ble_eq_true rfl) m_X11_asOf_f37 rfl dX11_asOf_15 ?_
    refine r_istore_n (lv' := fun x2_18 => [(2, .int x2_18), (0, .ref (g.1 0)), (1, .int a1)]) B dX11_asOf_18 rfl n2 (fun _ => rfl) (fun x2_18 => ?_)
    refine r_aload_n B 1 dX11_asOf_19 rfl rfl ?_
    refine r_iload_n B 2 dX11_asOf_20 rfl rfl ?_
    refine r_put (ty := .int) B 0 10 13 tyX11 tyX11_ok nmX11 (Nat.le_of_ble_eq_true rfl) rfl (cM_0 g _) rfl m_X11_asOf_inX11 (Nat.le_of_ble_eq_true rfl) m_X11_asOf_f37 rfl (by decide +kernel) rfl rfl (Nat.le_of_ble_eq_true rfl) (pM_0_13 g _ _) dX11_asOf_21 (fun S21 => ?_)
    refine r_iload_n B 0 dX11_asOf_24 rfl rfl ?_
    exact r_iret B dX11_asOf_25 rfl
  · refine r_bipush B (-2 : Int32) dX11_asOf_11 (by decide) ?_
    exact r_iret B dX11_asOf_13 rfl
set_option maxRecDepth 20000 in
theorem k_X11_asOf {l : Launch} {D : va_G} {g : zGx} (hz : zin (WM g)) {S : zSt} {a1 : Int32} {b : (Int32 × zSt)} (h : F_X11_asOf S a1 = some b) : zMet l D (WM g) (zT g) yX11_asOf wsX11_asOf rm_X11_asOf S [.ref (g.1 0), .int a1] (eIw b) := zmet_of (by decide +kernel) rfl hz (Nat.le_of_ble_eq_true rfl) rfl (fun E _ _ hE B => x_X11_asOf B hE S a1) h
abbrev rm_X11_saidOf : Room := { frames := 0, cells := 0, slots := 0, locals := 0 }
theorem y_X11_saidOf : yX11_saidOf.cls = RX11 ∧ yX11_saidOf.cls ≠ "java/lang/invoke/MethodHandle" ∧ yX11_saidOf.cls ≠ "java/lang/invoke/VarHandle" ∧ (parseMethodDescriptor yX11_saidOf.desc).map (fun d => d.parameters.length) = some 1 := by decide +kernel
theorem m_X11_saidOf_f137 : Cond.fieldLink RX11 137 "LongestMetModel" "answers" "I" ∈ wsX11_saidOf := List.mem_cons_of_mem _ (List.mem_append_left _ (List.mem_of_getElem? (i := 0) rfl))
theorem m_X11_saidOf_inX11 : ∀ x ∈ u_ws RX11 TX11 27, x ∈ wsX11_saidOf := fun _ h => List.mem_cons_of_mem _ (List.mem_append_right _ h)
theorem m_X11_saidOf_f31 : Cond.fieldLink RX11 31 "LongestMetModel" "answerTime" "[I" ∈ wsX11_saidOf := List.mem_cons_of_mem _ (List.mem_append_left _ (List.mem_of_getElem? (i := 1) rfl))
theorem m_X11_saidOf_f37 : Cond.fieldLink RX11 37 "LongestMetModel" "knownTo" "I" ∈ wsX11_saidOf := List.mem_cons_of_mem _ (List.mem_append_left _ (List.mem_of_getElem? (i := 2) rfl))
theorem m_X11_saidOf_f28 : Cond.fieldLink RX11 28 "LongestMetModel" "answerOf" "[I" ∈ wsX11_saidOf := List.mem_cons_of_mem _ (List.mem_append_left _ (List.mem_of_getElem? (i := 4) rfl))
theorem m_X11_saidOf_f34 : Cond.fieldLink RX11 34 "LongestMetModel" "answerBack" "[I" ∈ wsX11_saidOf := List.mem_cons_of_mem _ (List.mem_append_left _ (List.mem_of_getElem? (i := 3) rfl))
set_option maxRecDepth 100000 in
set_option maxHeartbeats 4000000 in
theorem xL_X11_saidOf_4 {E : zCx} {g : zGx} (B : zGood E (WM g) (zT g) cX11_saidOf RX11 wsX11_saidOf (some .int) rm_X11_saidOf) (hE : E.2.2 = 5) (S : zSt) (a1 : Int32) (k : Int32 → Option Int32) (hk : ∀ (w2 : Int32), Xo E (WM g) (eI S) S 88 [(2, .int w2)] [] (k w2)) : ∀ (n : Nat) (v2_4 : Int32) (v3_4 : Int32), Xo E (WM g) (eI S) S 4 [(0, .ref (g.1 0)), (1, .int a1), (2, .int v2_4), (3, .int v3_4)] [] (L_X11_saidOf_4 S a1 k n v2_4 v3_4) := by
  have n2 : 2 < E.2.2 := by rw [hE]; decide
  have n3 : 3 < E.2.2 := by rw [hE]; decide
  have n4 : 4 < E.2.2 := by rw [hE]; decide
  intro n
  induction n with
  | zero =>
    intro _ _
    exact r_none
  | succ n ih =>
    intro v2_4 v3_4
    rw [L_X11_saidOf_4]
    refine r_iload_n B 3 dX11_saidOf_4 rfl rfl ?_
    refine r_aload_n B 0 dX11_saidOf_5 rfl rfl ?_
    refine r_get B 0 10 8 (Nat.le_of_ble_eq_true rfl) rfl (cM_0 g _) rfl m_X11_saidOf_inX11 (Nat.le_of_ble_eq_true rfl) m_X11_saidOf_f137 rfl dX11_saidOf_6 ?_
    refine r_icmp_ge B 88 dX11_saidOf_9 (by decide) (fun _ => ?_) (fun _ => ?_)
    · refine r_sub [2] rfl ?_
      exact hk v2_4
    · refine r_aload_n B 0 dX11_saidOf_12 rfl rfl ?_
      refine r_get B 0 10 10 (Nat.le_of_ble_eq_true rfl) rfl (cM_0 g _) rfl m_X11_saidOf_inX11 (Nat.le_of_ble_eq_true rfl) m_X11_saidOf_f31 rfl dX11_saidOf_13 ?_
      refine r_iload_n B 3 dX11_saidOf_16 rfl rfl ?_
      refine r_iald B 8 0 (Nat.le_of_ble_eq_true rfl) rfl (cM_8 g _) rfl dX11_saidOf_17 ?_
      refine r_aload_n B 0 dX11_saidOf_18 rfl rfl ?_
      refine r_get B 0 10 13 (Nat.le_of_ble_eq_true rfl) rfl (cM_0 g _) rfl m_X11_saidOf_inX11 (Nat.le_of_ble_eq_true rfl) m_X11_saidOf_f37 rfl dX11_saidOf_19 ?_
      refine r_jn2 (P := fun j53 : Int32 → Option Int32 => ∀ (y0_53 : Int32), Xo E (WM g) (eI S) S 53 [(0, .ref (g.1 0)), (1, .int a1), (2, .int v2_4), (3, .int v3_4)] [.int y0_53] (j53 y0_53)) ?_ (fun j53 hj53 => ?_)
      · intro y0_53
        refine r_istore (lv' := fun x4_53 => [(4, .int x4_53), (0, .ref (g.1 0)), (1, .int a1), (2, .int v2_4), (3, .int v3_4)]) B dX11_saidOf_53 n4 (fun _ => rfl) (fun x4_53 => ?_)
        refine r_iload_n B 3 dX11_saidOf_55 rfl rfl ?_
        refine r_iload B 0 dX11_saidOf_56 rfl ?_
        refine r_if_eq B 79 dX11_saidOf_58 (by decide) (fun _ => ?_) (fun _ => ?_)
        · refine r_iconst B (0 : Int32) dX11_saidOf_79 (by decide) ?_
          refine r_iadd B dX11_saidOf_80 ?_
          refine r_istore_n (lv' := fun x2_81 => [(2, .int x2_81), (4, .int x4_53), (0, .ref (g.1 0)), (1, .int a1), (3, .int v3_4)]) B dX11_saidOf_81 rfl n2 (fun _ => rfl) (fun x2_81 => ?_)
          refine r_iinc (lv' := fun x3_82 => [(3, .int x3_82), (2, .int x2_81), (4, .int x4_53), (0, .ref (g.1 0)), (1, .int a1)]) B 4 (1 : Int32) dX11_saidOf_82 rfl (by decide) n3 (fun _ => rfl) (fun x3_82 => ?_)
          refine r_goto B 4 dX11_saidOf_85 (by decide) ?_
          refine r_sub [3, 4, 1, 0] rfl ?_
          exact ih x2_81 x3_82
        · refine r_iload_n B 2 dX11_saidOf_61 rfl rfl ?_
          refine r_if_eq B 75 dX11_saidOf_62 (by decide) (fun _ => ?_) (fun _ => ?_)
          · refine r_iconst B (1 : Int32) dX11_saidOf_75 (by decide) ?_
            refine r_goto B 80 dX11_saidOf_76 (by decide) ?_
            refine r_iadd B dX11_saidOf_80 ?_
            refine r_istore_n (lv' := fun x2_81 => [(2, .int x2_81), (4, .int x4_53), (0, .ref (g.1 0)), (1, .int a1), (3, .int v3_4)]) B dX11_saidOf_81 rfl n2 (fun _ => rfl) (fun x2_81 => ?_)
            refine r_iinc (lv' := fun x3_82 => [(3, .int x3_82), (2, .int x2_81), (4, .int x4_53), (0, .ref (g.1 0)), (1, .int a1)]) B 4 (1 : Int32) dX11_saidOf_82 rfl (by decide) n3 (fun _ => rfl) (fun x3_82 => ?_)
            refine r_goto B 4 dX11_saidOf_85 (by decide) ?_
            refine r_sub [3, 4, 1, 0] rfl ?_
            exact ih x2_81 x3_82
          · refine r_aload_n B 1 dX11_saidOf_65 rfl rfl ?_
            refine r_get B 0 10 9 (Nat.le_of_ble_eq_true rfl) rfl (cM_0 g _) rfl m_X11_saidOf_inX11 (Nat.le_of_ble_eq_true rfl) m_X11_saidOf_f28 rfl dX11_saidOf_66 ?_
            refine r_iload_n B 4 dX11_saidOf_69 rfl rfl ?_
            refine r_iald B 7 0 (Nat.le_of_ble_eq_true rfl) rfl (cM_7 g _) rfl dX11_saidOf_70 ?_
            refine r_iload_n B 2 dX11_saidOf_71 rfl rfl ?_
            refine r_icmp_ne B 79 dX11_saidOf_72 (by decide) (fun _ => ?_) (fun _ => ?_)
            · refine r_iconst B (0 : Int32) dX11_saidOf_79 (by decide) ?_
              refine r_iadd B dX11_saidOf_80 ?_
              refine r_istore_n (lv' := fun x2_81 => [(2, .int x2_81), (4, .int x4_53), (0, .ref (g.1 0)), (1, .int a1), (3, .int v3_4)]) B dX11_saidOf_81 rfl n2 (fun _ => rfl) (fun x2_81 => ?_)
              refine r_iinc (lv' := fun x3_82 => [(3, .int x3_82), (2, .int x2_81), (4, .int x4_53), (0, .ref (g.1 0)), (1, .int a1)]) B 4 (1 : Int32) dX11_saidOf_82 rfl (by decide) n3 (fun _ => rfl) (fun x3_82 => ?_)
              refine r_goto B 4 dX11_saidOf_85 (by decide) ?_
              refine r_sub [3, 4, 1, 0] rfl ?_
              exact ih x2_81 x3_82
            · refine r_iconst B (1 : Int32) dX11_saidOf_75 (by decide) ?_
              refine r_goto B 80 dX11_saidOf_76 (by decide) ?_
              refine r_iadd B dX11_saidOf_80 ?_
              refine r_istore_n (lv' := fun x2_81 => [(2, .int x2_81), (4, .int x4_53), (0, .ref (g.1 0)), (1, .int a1), (3, .int v3_4)]) B dX11_saidOf_81 rfl n2 (fun _ => rfl) (fun x2_81 => ?_)
              refine r_iinc (lv' := fun x3_82 => [(3, .int x3_82), (2, .int x2_81), (4, .int x4_53), (0, .ref (g.1 0)), (1, .int a1)]) B 4 (1 : Int32) dX11_saidOf_82 rfl (by decide) n3 (fun _ => rfl) (fun x3_82 => ?_)
              refine r_goto B 4 dX11_saidOf_85 (by decide) ?_
              refine r_sub [3, 4, 1, 0] rfl ?_
              exact ih x2_81 x3_82
      refine r_icmp_gt B 52 dX11_saidOf_22 (by decide) (fun _ => ?_) (fun _ => ?_)
      · refine r_iconst B (0 : Int32) dX11_saidOf_52 (by decide) ?_
        exact hj53 (0 : Int32)
      · refine r_aload_n B 0 dX11_saidOf_25 rfl rfl ?_
        refine r_get B 0 10 11 (Nat.le_of_ble_eq_true rfl) rfl (cM_0 g _) rfl m_X11_saidOf_inX11 (Nat.le_of_ble_eq_true rfl) m_X11_saidOf_f34 rfl dX11_saidOf_26 ?_
        refine r_iload_n B 3 dX11_saidOf_29 rfl rfl ?_
        refine r_iald B 9 0 (Nat.le_of_ble_eq_true rfl) rfl (cM_9 g _) rfl dX11_saidOf_30 ?_
        refine r_iconst B (-1 : Int32) dX11_saidOf_31 (by decide) ?_
        refine r_icmp_eq B 48 dX11_saidOf_32 (by decide) (fun _ => ?_) (fun _ => ?_)
        · refine r_iconst B (1 : Int32) dX11_saidOf_48 (by decide) ?_
          refine r_goto B 53 dX11_saidOf_49 (by decide) ?_
          exact hj53 (1 : Int32)
        · refine r_aload_n B 0 dX11_saidOf_35 rfl rfl ?_
          refine r_get B 0 10 11 (Nat.le_of_ble_eq_true rfl) rfl (cM_0 g _) rfl m_X11_saidOf_inX11 (Nat.le_of_ble_eq_true rfl) m_X11_saidOf_f34 rfl dX11_saidOf_36 ?_
          refine r_iload_n B 3 dX11_saidOf_39 rfl rfl ?_
          refine r_iald B 9 0 (Nat.le_of_ble_eq_true rfl) rfl (cM_9 g _) rfl dX11_saidOf_40 ?_
          refine r_aload_n B 0 dX11_saidOf_41 rfl rfl ?_
          refine r_get B 0 10 13 (Nat.le_of_ble_eq_true rfl) rfl (cM_0 g _) rfl m_X11_saidOf_inX11 (Nat.le_of_ble_eq_true rfl) m_X11_saidOf_f37 rfl dX11_saidOf_42 ?_
          refine r_icmp_le B 52 dX11_saidOf_45 (by decide) (fun _ => ?_) (fun _ => ?_)
          · refine r_iconst B (0 : Int32) dX11_saidOf_52 (by decide) ?_
            exact hj53 (0 : Int32)
          · refine r_iconst B (1 : Int32) dX11_saidOf_48 (by decide) ?_
            refine r_goto B 53 dX11_saidOf_49 (by decide) ?_
            exact hj53 (1 : Int32)
set_option maxRecDepth 100000 in
set_option maxHeartbeats 4000000 in
theorem x_X11_saidOf {E : zCx} {g : zGx} (B : zGood E (WM g) (zT g) cX11_saidOf RX11 wsX11_saidOf (some .int) rm_X11_saidOf) (hE : E.2.2 = 5) (S : zSt) (a1 : Int32) : Xo E (WM g) (eI S) S 0 [(0, .ref (g.1 0)), (1, .int a1)] [] (F_X11_saidOf S a1) := by
  have n2 : 2 < E.2.2 := by rw [hE]; decide
  have n3 : 3 < E.2.2 := by rw [hE]; decide
  have n4 : 4 < E.2.2 := by rw [hE]; decide
  unfold F_X11_saidOf
  refine r_iconst B (0 : Int32) dX11_saidOf_0 (by decide) ?_
  refine r_istore_n (lv' := fun x2_1 => [(2, .int x2_1), (0, .ref (g.1 0)), (1, .int a1)]) B dX11_saidOf_1 rfl n2 (fun _ => rfl) (fun x2_1 => ?_)
  refine r_iconst B (0 : Int32) dX11_saidOf_2 (by decide) ?_
  refine r_istore_n (lv' := fun x3_3 => [(3, .int x3_3), (2, .int x2_1), (0, .ref (g.1 0)), (1, .int a1)]) B dX11_saidOf_3 rfl n3 (fun _ => rfl) (fun x3_3 => ?_)
  refine r_sub [2, 3, 1, 0] rfl ?_
  refine xL_X11_saidOf_4 B hE S a1 _ ?_ 1000 x2_1 x3_3
  intro w2_4
  refine r_iload_n B 0 dX11_saidOf_88 rfl rfl ?_
  exact r_iret B dX11_saidOf_89 rfl
set_option maxRecDepth 20000 in
theorem k_X11_saidOf {l : Launch} {D : va_G} {g : zGx} (hz : zin (WM g)) {S : zSt} {a1 : Int32} {b : Int32} (h : F_X11_saidOf S a1 = some b) : zMet l D (WM g) (zT g) yX11_saidOf wsX11_saidOf rm_X11_saidOf S [.ref (g.1 0), .int a1] ((eI S) b) := zmet_of (by decide +kernel) rfl hz (Nat.le_of_ble_eq_true rfl) rfl (fun E _ _ hE B => x_X11_saidOf B hE S a1) h
abbrev rm_X11_said : Room := { frames := 1, cells := 0, slots := 0, locals := 24 }
theorem y_X11_said : yX11_said.cls = RX11 ∧ yX11_said.cls ≠ "java/lang/invoke/MethodHandle" ∧ yX11_said.cls ≠ "java/lang/invoke/VarHandle" ∧ (parseMethodDescriptor yX11_said.desc).map (fun d => d.parameters.length) = some 1 := by decide +kernel
set_option maxRecDepth 100000 in
set_option maxHeartbeats 4000000 in
theorem x_X11_said {E : zCx} {g : zGx} (B : zGood E (WM g) (zT g) cX11_said RX11 wsX11_said (some .int) rm_X11_said) (hE : E.2.2 = 2) (S : zSt) (a1 : Int32) : Xo E (WM g) (eI S) S 0 [(0, .ref (g.1 0)), (1, .int a1)] [] (F_X11_said S a1) := by
  unfold F_X11_said
  refine r_iload_n B 1 dX11_said_0 rfl rfl ?_
  refine r_iconst B (1 : Int32) dX11_said_1 (by decide) ?_
  refine r_bipush B (8 : Int32) dX11_said_2 (by decide) ?_
  refine r_cI (zrunS (As := [.int a1, .int (1 : Int32), .int (8 : Int32)]) (rest := []) B 3 (fun b hb => k_X11_in B.2.2.1 hb) gX11_said_X11_in rfl rfl rfl y_X11_in ⟨Nat.le_of_ble_eq_true rfl, Nat.le_of_ble_eq_true rfl⟩ rfl rfl (Nat.le_of_ble_eq_true rfl) dX11_said_4) (fun r4 => ?_)
  refine r_if_eq B 18 dX11_said_7 (by decide) (fun _ => ?_) (fun _ => ?_)
  · refine r_bipush B (-2 : Int32) dX11_said_18 (by decide) ?_
    exact r_iret B dX11_said_20 rfl
  · refine r_aload_n B 0 dX11_said_10 rfl rfl ?_
    refine r_iload_n B 1 dX11_said_11 rfl rfl ?_
    refine r_cI (zrunV (As := [.int a1]) (rest := []) B 1 0 (fun b hb => k_X11_saidOf B.2.2.1 hb) gX11_said_X11_saidOf rfl rfl rfl y_X11_saidOf ⟨Nat.le_of_ble_eq_true rfl, Nat.le_of_ble_eq_true rfl⟩ (Nat.le_of_ble_eq_true rfl) rfl (cM_0 g _) rfl rfl rfl (Nat.le_of_ble_eq_true rfl) dX11_said_12) (fun r12 => ?_)
    refine r_goto B 20 dX11_said_15 (by decide) ?_
    exact r_iret B dX11_said_20 rfl
set_option maxRecDepth 20000 in
theorem k_X11_said {l : Launch} {D : va_G} {g : zGx} (hz : zin (WM g)) {S : zSt} {a1 : Int32} {b : Int32} (h : F_X11_said S a1 = some b) : zMet l D (WM g) (zT g) yX11_said wsX11_said rm_X11_said S [.ref (g.1 0), .int a1] ((eI S) b) := zmet_of (by decide +kernel) rfl hz (Nat.le_of_ble_eq_true rfl) rfl (fun E _ _ hE B => x_X11_said B hE S a1) h
abbrev rm_X11_familyParts : Room := { frames := 1, cells := 0, slots := 0, locals := 24 }
theorem y_X11_familyParts : yX11_familyParts.cls = RX11 ∧ yX11_familyParts.cls ≠ "java/lang/invoke/MethodHandle" ∧ yX11_familyParts.cls ≠ "java/lang/invoke/VarHandle" ∧ (parseMethodDescriptor yX11_familyParts.desc).map (fun d => d.parameters.length) = some 0 := by decide +kernel
set_option maxRecDepth 100000 in
set_option maxHeartbeats 4000000 in
theorem xL_X11_familyParts_4 {E : zCx} {g : zGx} (B : zGood E (WM g) (zT g) cX11_familyParts RX11 wsX11_familyParts (some .int) rm_X11_familyParts) (hE : E.2.2 = 3) (S : zSt) (k : Int32 → Option Int32) (hk : ∀ (w1 : Int32), Xo E (WM g) (eI S) S 30 [(1, .int w1)] [] (k w1)) : ∀ (n : Nat) (v1_4 : Int32) (v2_4 : Int32), Xo E (WM g) (eI S) S 4 [(0, .ref (g.1 0)), (1, .int v1_4), (2, .int v2_4)] [] (L_X11_familyParts_4 S k n v1_4 v2_4) := by
  have n1 : 1 < E.2.2 := by rw [hE]; decide
  have n2 : 2 < E.2.2 := by rw [hE]; decide
  intro n
  induction n with
  | zero =>
    intro _ _
    exact r_none
  | succ n ih =>
    intro v1_4 v2_4
    rw [L_X11_familyParts_4]
    refine r_iload_n B 2 dX11_familyParts_4 rfl rfl ?_
    refine r_bipush B (9 : Int32) dX11_familyParts_5 (by decide) ?_
    refine r_icmp_ge B 30 dX11_familyParts_7 (by decide) (fun _ => ?_) (fun _ => ?_)
    · refine r_sub [1] rfl ?_
      exact hk v1_4
    · refine r_iload_n B 1 dX11_familyParts_10 rfl rfl ?_
      refine r_aload_n B 0 dX11_familyParts_11 rfl rfl ?_
      refine r_iload_n B 2 dX11_familyParts_12 rfl rfl ?_
      refine r_cI (zrunV (As := [.int v2_4]) (rest := [.int v1_4]) B 1 0 (fun b hb => k_X11_saidOf B.2.2.1 hb) gX11_familyParts_X11_saidOf rfl rfl rfl y_X11_saidOf ⟨Nat.le_of_ble_eq_true rfl, Nat.le_of_ble_eq_true rfl⟩ (Nat.le_of_ble_eq_true rfl) rfl (cM_0 g _) rfl rfl rfl (Nat.le_of_ble_eq_true rfl) dX11_familyParts_13) (fun r13 => ?_)
      refine r_sipush B (840 : Int32) dX11_familyParts_16 (by decide) ?_
      refine r_iload_n B 2 dX11_familyParts_19 rfl rfl ?_
      refine r_idiv B dX11_familyParts_20 (fun _ => ?_)
      refine r_imul B dX11_familyParts_21 ?_
      refine r_iadd B dX11_familyParts_22 ?_
      refine r_istore_n (lv' := fun x1_23 => [(1, .int x1_23), (0, .ref (g.1 0)), (2, .int v2_4)]) B dX11_familyParts_23 rfl n1 (fun _ => rfl) (fun x1_23 => ?_)
      refine r_iinc (lv' := fun x2_24 => [(2, .int x2_24), (1, .int x1_23), (0, .ref (g.1 0))]) B 2 (1 : Int32) dX11_familyParts_24 rfl (by decide) n2 (fun _ => rfl) (fun x2_24 => ?_)
      refine r_goto B 4 dX11_familyParts_27 (by decide) ?_
      refine r_sub [2, 1, 0] rfl ?_
      exact ih x1_23 x2_24
set_option maxRecDepth 100000 in
set_option maxHeartbeats 4000000 in
theorem x_X11_familyParts {E : zCx} {g : zGx} (B : zGood E (WM g) (zT g) cX11_familyParts RX11 wsX11_familyParts (some .int) rm_X11_familyParts) (hE : E.2.2 = 3) (S : zSt) : Xo E (WM g) (eI S) S 0 [(0, .ref (g.1 0))] [] (F_X11_familyParts S) := by
  have n1 : 1 < E.2.2 := by rw [hE]; decide
  have n2 : 2 < E.2.2 := by rw [hE]; decide
  unfold F_X11_familyParts
  refine r_iconst B (0 : Int32) dX11_familyParts_0 (by decide) ?_
  refine r_istore_n (lv' := fun x1_1 => [(1, .int x1_1), (0, .ref (g.1 0))]) B dX11_familyParts_1 rfl n1 (fun _ => rfl) (fun x1_1 => ?_)
  refine r_iconst B (1 : Int32) dX11_familyParts_2 (by decide) ?_
  refine r_istore_n (lv' := fun x2_3 => [(2, .int x2_3), (1, .int x1_1), (0, .ref (g.1 0))]) B dX11_familyParts_3 rfl n2 (fun _ => rfl) (fun x2_3 => ?_)
  refine r_sub [2, 1, 0] rfl ?_
  refine xL_X11_familyParts_4 B hE S _ ?_ 1000 x1_1 x2_3
  intro w1_4
  refine r_iload_n B 0 dX11_familyParts_30 rfl rfl ?_
  exact r_iret B dX11_familyParts_31 rfl
set_option maxRecDepth 20000 in
theorem k_X11_familyParts {l : Launch} {D : va_G} {g : zGx} (hz : zin (WM g)) {S : zSt} {b : Int32} (h : F_X11_familyParts S = some b) : zMet l D (WM g) (zT g) yX11_familyParts wsX11_familyParts rm_X11_familyParts S [.ref (g.1 0)] ((eI S) b) := zmet_of (by decide +kernel) rfl hz (Nat.le_of_ble_eq_true rfl) rfl (fun E _ _ hE B => x_X11_familyParts B hE S) h
abbrev rm_X11_share : Room := { frames := 2, cells := 0, slots := 0, locals := 46 }
theorem y_X11_share : yX11_share.cls = RX11 ∧ yX11_share.cls ≠ "java/lang/invoke/MethodHandle" ∧ yX11_share.cls ≠ "java/lang/invoke/VarHandle" ∧ (parseMethodDescriptor yX11_share.desc).map (fun d => d.parameters.length) = some 3 := by decide +kernel
set_option maxRecDepth 100000 in
set_option maxHeartbeats 4000000 in
theorem x_X11_share {E : zCx} {g : zGx} (B : zGood E (WM g) (zT g) cX11_share RX11 wsX11_share (some .long) rm_X11_share) (hE : E.2.2 = 5) (S : zSt) (a1 : Int32) (a2 : Int32) (a3 : Int32) : Xo E (WM g) (eL S) S 0 [(0, .ref (g.1 0)), (1, .int a1), (2, .int a2), (3, .int a3)] [] (F_X11_share S a1 a2 a3) := by
  have n4 : 4 < E.2.2 := by rw [hE]; decide
  unfold F_X11_share
  refine r_iload_n B 1 dX11_share_0 rfl rfl ?_
  refine r_iconst B (1 : Int32) dX11_share_1 (by decide) ?_
  refine r_bipush B (8 : Int32) dX11_share_2 (by decide) ?_
  refine r_cI (zrunS (As := [.int a1, .int (1 : Int32), .int (8 : Int32)]) (rest := []) B 3 (fun b hb => k_X11_in B.2.2.1 hb) gX11_share_X11_in rfl rfl rfl y_X11_in ⟨Nat.le_of_ble_eq_true rfl, Nat.le_of_ble_eq_true rfl⟩ rfl rfl (Nat.le_of_ble_eq_true rfl) dX11_share_4) (fun r4 => ?_)
  refine r_jn2 (P := fun j28 : Option Int64 => Xo E (WM g) (eL S) S 28 [] [] (j28)) ?_ (fun j28 hj28 => ?_)
  · refine r_bipush B (-2 : Int32) dX11_share_28 (by decide) ?_
    refine r_cL (zrunS (As := [.int (-2 : Int32)]) (rest := []) B 1 (fun b hb => k_X11_no B.2.2.1 hb) gX11_share_X11_no rfl rfl rfl y_X11_no ⟨Nat.le_of_ble_eq_true rfl, Nat.le_of_ble_eq_true rfl⟩ rfl rfl (Nat.le_of_ble_eq_true rfl) dX11_share_30) (fun r30 => ?_)
    exact r_lret B dX11_share_33 rfl
  refine r_if_eq B 28 dX11_share_7 (by decide) (fun _ => ?_) (fun _ => ?_)
  · refine r_sub [] rfl ?_
    exact hj28
  · refine r_iload_n B 2 dX11_share_10 rfl rfl ?_
    refine r_iconst B (0 : Int32) dX11_share_11 (by decide) ?_
    refine r_iconst B (1 : Int32) dX11_share_12 (by decide) ?_
    refine r_cI (zrunS (As := [.int a2, .int (0 : Int32), .int (1 : Int32)]) (rest := []) B 3 (fun b hb => k_X11_in B.2.2.1 hb) gX11_share_X11_in rfl rfl rfl y_X11_in ⟨Nat.le_of_ble_eq_true rfl, Nat.le_of_ble_eq_true rfl⟩ rfl rfl (Nat.le_of_ble_eq_true rfl) dX11_share_13) (fun r13 => ?_)
    refine r_if_eq B 28 dX11_share_16 (by decide) (fun _ => ?_) (fun _ => ?_)
    · refine r_sub [] rfl ?_
      exact hj28
    · refine r_iload_n B 3 dX11_share_19 rfl rfl ?_
      refine r_iconst B (0 : Int32) dX11_share_20 (by decide) ?_
      refine r_iconst B (1 : Int32) dX11_share_21 (by decide) ?_
      refine r_cI (zrunS (As := [.int a3, .int (0 : Int32), .int (1 : Int32)]) (rest := []) B 3 (fun b hb => k_X11_in B.2.2.1 hb) gX11_share_X11_in rfl rfl rfl y_X11_in ⟨Nat.le_of_ble_eq_true rfl, Nat.le_of_ble_eq_true rfl⟩ rfl rfl (Nat.le_of_ble_eq_true rfl) dX11_share_22) (fun r22 => ?_)
      refine r_if_ne B 34 dX11_share_25 (by decide) (fun _ => ?_) (fun _ => ?_)
      · refine r_aload_n B 0 dX11_share_34 rfl rfl ?_
        refine r_iconst B (0 : Int32) dX11_share_35 (by decide) ?_
        refine r_cI (zrunV (As := [.int (0 : Int32)]) (rest := []) B 1 0 (fun b hb => k_X11_saidOf B.2.2.1 hb) gX11_share_X11_saidOf rfl rfl rfl y_X11_saidOf ⟨Nat.le_of_ble_eq_true rfl, Nat.le_of_ble_eq_true rfl⟩ (Nat.le_of_ble_eq_true rfl) rfl (cM_0 g _) rfl rfl rfl (Nat.le_of_ble_eq_true rfl) dX11_share_36) (fun r36 => ?_)
        refine r_istore (lv' := fun x4_39 => [(4, .int x4_39), (0, .ref (g.1 0)), (1, .int a1), (2, .int a2), (3, .int a3)]) B dX11_share_39 n4 (fun _ => rfl) (fun x4_39 => ?_)
        refine r_iload B 0 dX11_share_41 rfl ?_
        refine r_if_ne B 52 dX11_share_43 (by decide) (fun _ => ?_) (fun _ => ?_)
        · refine r_iload_n B 3 dX11_share_52 rfl rfl ?_
          refine r_if_ne B 72 dX11_share_53 (by decide) (fun _ => ?_) (fun _ => ?_)
          · refine r_aload_n B 1 dX11_share_72 rfl rfl ?_
            refine r_iload_n B 2 dX11_share_73 rfl rfl ?_
            refine r_cI (zrunV (As := [.int a1]) (rest := []) B 1 0 (fun b hb => k_X11_saidOf B.2.2.1 hb) gX11_share_X11_saidOf rfl rfl rfl y_X11_saidOf ⟨Nat.le_of_ble_eq_true rfl, Nat.le_of_ble_eq_true rfl⟩ (Nat.le_of_ble_eq_true rfl) rfl (cM_0 g _) rfl rfl rfl (Nat.le_of_ble_eq_true rfl) dX11_share_74) (fun r74 => ?_)
            refine r_sipush B (840 : Int32) dX11_share_77 (by decide) ?_
            refine r_iload_n B 2 dX11_share_80 rfl rfl ?_
            refine r_idiv B dX11_share_81 (fun _ => ?_)
            refine r_imul B dX11_share_82 ?_
            refine r_i2l B dX11_share_83 ?_
            refine r_aload_n B 1 dX11_share_84 rfl rfl ?_
            refine r_cI (zrunV (As := []) (rest := [.long ((r74 * ((840 : Int32) / a1)).toInt64)]) B 0 0 (fun b hb => k_X11_familyParts B.2.2.1 hb) gX11_share_X11_familyParts rfl rfl rfl y_X11_familyParts ⟨Nat.le_of_ble_eq_true rfl, Nat.le_of_ble_eq_true rfl⟩ (Nat.le_of_ble_eq_true rfl) rfl (cM_0 g _) rfl rfl rfl (Nat.le_of_ble_eq_true rfl) dX11_share_85) (fun r85 => ?_)
            refine r_i2l B dX11_share_88 ?_
            refine r_iload_n B 4 dX11_share_89 rfl rfl ?_
            refine r_cL (zrunS (As := [.long ((r74 * ((840 : Int32) / a1)).toInt64), .long (r85.toInt64), .int a3]) (rest := []) B 3 (fun b hb => k_X11_lowest B.2.2.1 hb) gX11_share_X11_lowest rfl rfl rfl y_X11_lowest ⟨Nat.le_of_ble_eq_true rfl, Nat.le_of_ble_eq_true rfl⟩ rfl rfl (Nat.le_of_ble_eq_true rfl) dX11_share_90) (fun r90 => ?_)
            exact r_lret B dX11_share_93 rfl
          · refine r_aload_n B 1 dX11_share_56 rfl rfl ?_
            refine r_iload_n B 2 dX11_share_57 rfl rfl ?_
            refine r_cI (zrunV (As := [.int a1]) (rest := []) B 1 0 (fun b hb => k_X11_saidOf B.2.2.1 hb) gX11_share_X11_saidOf rfl rfl rfl y_X11_saidOf ⟨Nat.le_of_ble_eq_true rfl, Nat.le_of_ble_eq_true rfl⟩ (Nat.le_of_ble_eq_true rfl) rfl (cM_0 g _) rfl rfl rfl (Nat.le_of_ble_eq_true rfl) dX11_share_58) (fun r58 => ?_)
            refine r_i2l B dX11_share_61 ?_
            refine r_iload B 0 dX11_share_62 rfl ?_
            refine r_i2l B dX11_share_64 ?_
            refine r_iload_n B 4 dX11_share_65 rfl rfl ?_
            refine r_cL (zrunS (As := [.long (r58.toInt64), .long (x4_39.toInt64), .int a3]) (rest := []) B 3 (fun b hb => k_X11_lowest B.2.2.1 hb) gX11_share_X11_lowest rfl rfl rfl y_X11_lowest ⟨Nat.le_of_ble_eq_true rfl, Nat.le_of_ble_eq_true rfl⟩ rfl rfl (Nat.le_of_ble_eq_true rfl) dX11_share_66) (fun r66 => ?_)
            refine r_goto B 93 dX11_share_69 (by decide) ?_
            exact r_lret B dX11_share_93 rfl
        · refine r_bipush B (-3 : Int32) dX11_share_46 (by decide) ?_
          refine r_cL (zrunS (As := [.int (-3 : Int32)]) (rest := []) B 1 (fun b hb => k_X11_no B.2.2.1 hb) gX11_share_X11_no rfl rfl rfl y_X11_no ⟨Nat.le_of_ble_eq_true rfl, Nat.le_of_ble_eq_true rfl⟩ rfl rfl (Nat.le_of_ble_eq_true rfl) dX11_share_48) (fun r48 => ?_)
          exact r_lret B dX11_share_51 rfl
      · refine r_sub [] rfl ?_
        exact hj28
set_option maxRecDepth 20000 in
theorem k_X11_share {l : Launch} {D : va_G} {g : zGx} (hz : zin (WM g)) {S : zSt} {a1 : Int32} {a2 : Int32} {a3 : Int32} {b : Int64} (h : F_X11_share S a1 a2 a3 = some b) : zMet l D (WM g) (zT g) yX11_share wsX11_share rm_X11_share S [.ref (g.1 0), .int a1, .int a2, .int a3] ((eL S) b) := zmet_of (by decide +kernel) rfl hz (Nat.le_of_ble_eq_true rfl) rfl (fun E _ _ hE B => x_X11_share B hE S a1 a2 a3) h
abbrev rm_X11_sizeNow : Room := { frames := 2, cells := 0, slots := 0, locals := 46 }
theorem y_X11_sizeNow : yX11_sizeNow.cls = RX11 ∧ yX11_sizeNow.cls ≠ "java/lang/invoke/MethodHandle" ∧ yX11_sizeNow.cls ≠ "java/lang/invoke/VarHandle" ∧ (parseMethodDescriptor yX11_sizeNow.desc).map (fun d => d.parameters.length) = some 2 := by decide +kernel
set_option maxRecDepth 100000 in
set_option maxHeartbeats 4000000 in
theorem xL_X11_sizeNow_22 {E : zCx} {g : zGx} (B : zGood E (WM g) (zT g) cX11_sizeNow RX11 wsX11_sizeNow (some .long) rm_X11_sizeNow) (hE : E.2.2 = 6) (S : zSt) (a1 : Int32) (a2 : Int32) (x3_5 : Int32) (k : Int32 → Option Int64) (hk : ∀ (w4 : Int32), Xo E (WM g) (eL S) S 49 [(0, .ref (g.1 0)), (1, .int a1), (2, .int a2), (3, .int x3_5), (4, .int w4)] [] (k w4)) : ∀ (n : Nat) (v4_22 : Int32) (v5_22 : Int32), Xo E (WM g) (eL S) S 22 [(0, .ref (g.1 0)), (1, .int a1), (2, .int a2), (3, .int x3_5), (4, .int v4_22), (5, .int v5_22)] [] (L_X11_sizeNow_22 S a1 a2 x3_5 k n v4_22 v5_22) := by
  have n3 : 3 < E.2.2 := by rw [hE]; decide
  have n4 : 4 < E.2.2 := by rw [hE]; decide
  have n5 : 5 < E.2.2 := by rw [hE]; decide
  intro n
  induction n with
  | zero =>
    intro _ _
    exact r_none
  | succ n ih =>
    intro v4_22 v5_22
    rw [L_X11_sizeNow_22]
    refine r_iload B 5 dX11_sizeNow_22 rfl ?_
    refine r_bipush B (9 : Int32) dX11_sizeNow_24 (by decide) ?_
    refine r_icmp_ge B 49 dX11_sizeNow_26 (by decide) (fun _ => ?_) (fun _ => ?_)
    · refine r_sub [0, 1, 2, 3, 4] rfl ?_
      exact hk v4_22
    · refine r_iload B 4 dX11_sizeNow_29 rfl ?_
      refine r_iload B 5 dX11_sizeNow_31 rfl ?_
      refine r_aload_n B 0 dX11_sizeNow_33 rfl rfl ?_
      refine r_iload B 5 dX11_sizeNow_34 rfl ?_
      refine r_cI (zrunV (As := [.int v5_22]) (rest := [.int v5_22, .int v4_22]) B 1 0 (fun b hb => k_X11_saidOf B.2.2.1 hb) gX11_sizeNow_X11_saidOf rfl rfl rfl y_X11_saidOf ⟨Nat.le_of_ble_eq_true rfl, Nat.le_of_ble_eq_true rfl⟩ (Nat.le_of_ble_eq_true rfl) rfl (cM_0 g _) rfl rfl rfl (Nat.le_of_ble_eq_true rfl) dX11_sizeNow_36) (fun r36 => ?_)
      refine r_imul B dX11_sizeNow_39 ?_
      refine r_iadd B dX11_sizeNow_40 ?_
      refine r_istore (lv' := fun x4_41 => [(4, .int x4_41), (0, .ref (g.1 0)), (1, .int a1), (2, .int a2), (3, .int x3_5), (5, .int v5_22)]) B dX11_sizeNow_41 n4 (fun _ => rfl) (fun x4_41 => ?_)
      refine r_iinc (lv' := fun x5_43 => [(5, .int x5_43), (4, .int x4_41), (0, .ref (g.1 0)), (1, .int a1), (2, .int a2), (3, .int x3_5)]) B 5 (1 : Int32) dX11_sizeNow_43 rfl (by decide) n5 (fun _ => rfl) (fun x5_43 => ?_)
      refine r_goto B 22 dX11_sizeNow_46 (by decide) ?_
      refine r_sub [2, 3, 4, 5, 1, 0] rfl ?_
      exact ih x4_41 x5_43
set_option maxRecDepth 100000 in
set_option maxHeartbeats 4000000 in
theorem x_X11_sizeNow {E : zCx} {g : zGx} (B : zGood E (WM g) (zT g) cX11_sizeNow RX11 wsX11_sizeNow (some .long) rm_X11_sizeNow) (hE : E.2.2 = 6) (S : zSt) (a1 : Int32) (a2 : Int32) : Xo E (WM g) (eL S) S 0 [(0, .ref (g.1 0)), (1, .int a1), (2, .int a2)] [] (F_X11_sizeNow S a1 a2) := by
  have n3 : 3 < E.2.2 := by rw [hE]; decide
  have n4 : 4 < E.2.2 := by rw [hE]; decide
  have n5 : 5 < E.2.2 := by rw [hE]; decide
  unfold F_X11_sizeNow
  refine r_aload_n B 0 dX11_sizeNow_0 rfl rfl ?_
  refine r_iconst B (0 : Int32) dX11_sizeNow_1 (by decide) ?_
  refine r_cI (zrunV (As := [.int (0 : Int32)]) (rest := []) B 1 0 (fun b hb => k_X11_saidOf B.2.2.1 hb) gX11_sizeNow_X11_saidOf rfl rfl rfl y_X11_saidOf ⟨Nat.le_of_ble_eq_true rfl, Nat.le_of_ble_eq_true rfl⟩ (Nat.le_of_ble_eq_true rfl) rfl (cM_0 g _) rfl rfl rfl (Nat.le_of_ble_eq_true rfl) dX11_sizeNow_2) (fun r2 => ?_)
  refine r_istore_n (lv' := fun x3_5 => [(3, .int x3_5), (0, .ref (g.1 0)), (1, .int a1), (2, .int a2)]) B dX11_sizeNow_5 rfl n3 (fun _ => rfl) (fun x3_5 => ?_)
  refine r_iload_n B 0 dX11_sizeNow_6 rfl rfl ?_
  refine r_if_ne B 16 dX11_sizeNow_7 (by decide) (fun _ => ?_) (fun _ => ?_)
  · refine r_iconst B (0 : Int32) dX11_sizeNow_16 (by decide) ?_
    refine r_istore (lv' := fun x4_17 => [(4, .int x4_17), (3, .int x3_5), (0, .ref (g.1 0)), (1, .int a1), (2, .int a2)]) B dX11_sizeNow_17 n4 (fun _ => rfl) (fun x4_17 => ?_)
    refine r_iconst B (1 : Int32) dX11_sizeNow_19 (by decide) ?_
    refine r_istore (lv' := fun x5_20 => [(5, .int x5_20), (4, .int x4_17), (3, .int x3_5), (0, .ref (g.1 0)), (1, .int a1), (2, .int a2)]) B dX11_sizeNow_20 n5 (fun _ => rfl) (fun x5_20 => ?_)
    refine r_sub [3, 4, 5, 2, 1, 0] rfl ?_
    refine xL_X11_sizeNow_22 B hE S a1 a2 x3_5 _ ?_ 1000 x4_17 x5_20
    intro w4_22
    refine r_iload_n B 1 dX11_sizeNow_49 rfl rfl ?_
    refine r_if_ne B 65 dX11_sizeNow_50 (by decide) (fun _ => ?_) (fun _ => ?_)
    · refine r_sipush B (840 : Int32) dX11_sizeNow_65 (by decide) ?_
      refine r_iload_n B 3 dX11_sizeNow_68 rfl rfl ?_
      refine r_imul B dX11_sizeNow_69 ?_
      refine r_i2l B dX11_sizeNow_70 ?_
      refine r_aload_n B 0 dX11_sizeNow_71 rfl rfl ?_
      refine r_cI (zrunV (As := []) (rest := [.long (((840 : Int32) * x3_5).toInt64)]) B 0 0 (fun b hb => k_X11_familyParts B.2.2.1 hb) gX11_sizeNow_X11_familyParts rfl rfl rfl y_X11_familyParts ⟨Nat.le_of_ble_eq_true rfl, Nat.le_of_ble_eq_true rfl⟩ (Nat.le_of_ble_eq_true rfl) rfl (cM_0 g _) rfl rfl rfl (Nat.le_of_ble_eq_true rfl) dX11_sizeNow_72) (fun r72 => ?_)
      refine r_i2l B dX11_sizeNow_75 ?_
      refine r_iload_n B 2 dX11_sizeNow_76 rfl rfl ?_
      refine r_cL (zrunS (As := [.long (((840 : Int32) * x3_5).toInt64), .long (r72.toInt64), .int a2]) (rest := []) B 3 (fun b hb => k_X11_lowest B.2.2.1 hb) gX11_sizeNow_X11_lowest rfl rfl rfl y_X11_lowest ⟨Nat.le_of_ble_eq_true rfl, Nat.le_of_ble_eq_true rfl⟩ rfl rfl (Nat.le_of_ble_eq_true rfl) dX11_sizeNow_77) (fun r77 => ?_)
      exact r_lret B dX11_sizeNow_80 rfl
    · refine r_iload B 4 dX11_sizeNow_53 rfl ?_
      refine r_i2l B dX11_sizeNow_55 ?_
      refine r_iload_n B 3 dX11_sizeNow_56 rfl rfl ?_
      refine r_i2l B dX11_sizeNow_57 ?_
      refine r_iload_n B 2 dX11_sizeNow_58 rfl rfl ?_
      refine r_cL (zrunS (As := [.long (w4_22.toInt64), .long (x3_5.toInt64), .int a2]) (rest := []) B 3 (fun b hb => k_X11_lowest B.2.2.1 hb) gX11_sizeNow_X11_lowest rfl rfl rfl y_X11_lowest ⟨Nat.le_of_ble_eq_true rfl, Nat.le_of_ble_eq_true rfl⟩ rfl rfl (Nat.le_of_ble_eq_true rfl) dX11_sizeNow_59) (fun r59 => ?_)
      refine r_goto B 80 dX11_sizeNow_62 (by decide) ?_
      exact r_lret B dX11_sizeNow_80 rfl
  · refine r_bipush B (-3 : Int32) dX11_sizeNow_10 (by decide) ?_
    refine r_cL (zrunS (As := [.int (-3 : Int32)]) (rest := []) B 1 (fun b hb => k_X11_no B.2.2.1 hb) gX11_sizeNow_X11_no rfl rfl rfl y_X11_no ⟨Nat.le_of_ble_eq_true rfl, Nat.le_of_ble_eq_true rfl⟩ rfl rfl (Nat.le_of_ble_eq_true rfl) dX11_sizeNow_12) (fun r12 => ?_)
    exact r_lret B dX11_sizeNow_15 rfl
set_option maxRecDepth 20000 in
theorem k_X11_sizeNow {l : Launch} {D : va_G} {g : zGx} (hz : zin (WM g)) {S : zSt} {a1 : Int32} {a2 : Int32} {b : Int64} (h : F_X11_sizeNow S a1 a2 = some b) : zMet l D (WM g) (zT g) yX11_sizeNow wsX11_sizeNow rm_X11_sizeNow S [.ref (g.1 0), .int a1, .int a2] ((eL S) b) := zmet_of (by decide +kernel) rfl hz (Nat.le_of_ble_eq_true rfl) rfl (fun E _ _ hE B => x_X11_sizeNow B hE S a1 a2) h
abbrev rm_X11_size : Room := { frames := 3, cells := 0, slots := 0, locals := 71 }
theorem y_X11_size : yX11_size.cls = RX11 ∧ yX11_size.cls ≠ "java/lang/invoke/MethodHandle" ∧ yX11_size.cls ≠ "java/lang/invoke/VarHandle" ∧ (parseMethodDescriptor yX11_size.desc).map (fun d => d.parameters.length) = some 2 := by decide +kernel
set_option maxRecDepth 100000 in
set_option maxHeartbeats 4000000 in
theorem x_X11_size {E : zCx} {g : zGx} (B : zGood E (WM g) (zT g) cX11_size RX11 wsX11_size (some .long) rm_X11_size) (hE : E.2.2 = 3) (S : zSt) (a1 : Int32) (a2 : Int32) : Xo E (WM g) (eL S) S 0 [(0, .ref (g.1 0)), (1, .int a1), (2, .int a2)] [] (F_X11_size S a1 a2) := by
  unfold F_X11_size
  refine r_iload_n B 1 dX11_size_0 rfl rfl ?_
  refine r_iconst B (0 : Int32) dX11_size_1 (by decide) ?_
  refine r_iconst B (1 : Int32) dX11_size_2 (by decide) ?_
  refine r_cI (zrunS (As := [.int a1, .int (0 : Int32), .int (1 : Int32)]) (rest := []) B 3 (fun b hb => k_X11_in B.2.2.1 hb) gX11_size_X11_in rfl rfl rfl y_X11_in ⟨Nat.le_of_ble_eq_true rfl, Nat.le_of_ble_eq_true rfl⟩ rfl rfl (Nat.le_of_ble_eq_true rfl) dX11_size_3) (fun r3 => ?_)
  refine r_jn2 (P := fun j27 : Option Int64 => Xo E (WM g) (eL S) S 27 [] [] (j27)) ?_ (fun j27 hj27 => ?_)
  · refine r_bipush B (-2 : Int32) dX11_size_27 (by decide) ?_
    refine r_cL (zrunS (As := [.int (-2 : Int32)]) (rest := []) B 1 (fun b hb => k_X11_no B.2.2.1 hb) gX11_size_X11_no rfl rfl rfl y_X11_no ⟨Nat.le_of_ble_eq_true rfl, Nat.le_of_ble_eq_true rfl⟩ rfl rfl (Nat.le_of_ble_eq_true rfl) dX11_size_29) (fun r29 => ?_)
    exact r_lret B dX11_size_32 rfl
  refine r_if_eq B 27 dX11_size_6 (by decide) (fun _ => ?_) (fun _ => ?_)
  · refine r_sub [] rfl ?_
    exact hj27
  · refine r_iload_n B 2 dX11_size_9 rfl rfl ?_
    refine r_iconst B (0 : Int32) dX11_size_10 (by decide) ?_
    refine r_iconst B (1 : Int32) dX11_size_11 (by decide) ?_
    refine r_cI (zrunS (As := [.int a2, .int (0 : Int32), .int (1 : Int32)]) (rest := []) B 3 (fun b hb => k_X11_in B.2.2.1 hb) gX11_size_X11_in rfl rfl rfl y_X11_in ⟨Nat.le_of_ble_eq_true rfl, Nat.le_of_ble_eq_true rfl⟩ rfl rfl (Nat.le_of_ble_eq_true rfl) dX11_size_12) (fun r12 => ?_)
    refine r_if_eq B 27 dX11_size_15 (by decide) (fun _ => ?_) (fun _ => ?_)
    · refine r_sub [] rfl ?_
      exact hj27
    · refine r_aload_n B 0 dX11_size_18 rfl rfl ?_
      refine r_iload_n B 1 dX11_size_19 rfl rfl ?_
      refine r_iload_n B 2 dX11_size_20 rfl rfl ?_
      refine r_cL (zrunV (As := [.int a1, .int a2]) (rest := []) B 2 0 (fun b hb => k_X11_sizeNow B.2.2.1 hb) gX11_size_X11_sizeNow rfl rfl rfl y_X11_sizeNow ⟨Nat.le_of_ble_eq_true rfl, Nat.le_of_ble_eq_true rfl⟩ (Nat.le_of_ble_eq_true rfl) rfl (cM_0 g _) rfl rfl rfl (Nat.le_of_ble_eq_true rfl) dX11_size_21) (fun r21 => ?_)
      refine r_goto B 32 dX11_size_24 (by decide) ?_
      exact r_lret B dX11_size_32 rfl
set_option maxRecDepth 20000 in
theorem k_X11_size {l : Launch} {D : va_G} {g : zGx} (hz : zin (WM g)) {S : zSt} {a1 : Int32} {a2 : Int32} {b : Int64} (h : F_X11_size S a1 a2 = some b) : zMet l D (WM g) (zT g) yX11_size wsX11_size rm_X11_size S [.ref (g.1 0), .int a1, .int a2] ((eL S) b) := zmet_of (by decide +kernel) rfl hz (Nat.le_of_ble_eq_true rfl) rfl (fun E _ _ hE B => x_X11_size B hE S a1 a2) h
abbrev rm_X11_families : Room := { frames := 1, cells := 0, slots := 0, locals := 22 }
theorem y_X11_families : yX11_families.cls = RX11 ∧ yX11_families.cls ≠ "java/lang/invoke/MethodHandle" ∧ yX11_families.cls ≠ "java/lang/invoke/VarHandle" ∧ (parseMethodDescriptor yX11_families.desc).map (fun d => d.parameters.length) = some 3 := by decide +kernel
theorem m_X11_families_f41 : Cond.fieldLink RX11 41 "LongestMetModel" "families" "[I" ∈ wsX11_families := List.mem_cons_of_mem _ (List.mem_append_left _ (List.mem_of_getElem? (i := 0) rfl))
theorem m_X11_families_inX11 : ∀ x ∈ u_ws RX11 TX11 27, x ∈ wsX11_families := fun _ h => List.mem_cons_of_mem _ (List.mem_append_right _ h)
set_option maxRecDepth 100000 in
set_option maxHeartbeats 4000000 in
theorem x_X11_families {E : zCx} {g : zGx} (B : zGood E (WM g) (zT g) cX11_families RX11 wsX11_families (some .int) rm_X11_families) (hE : E.2.2 = 5) (S : zSt) (a1 : Int32) (a2 : Int32) (a3 : Int32) : Xo E (WM g) eIw S 0 [(0, .ref (g.1 0)), (1, .int a1), (2, .int a2), (3, .int a3)] [] (F_X11_families S a1 a2 a3) := by
  have n4 : 4 < E.2.2 := by rw [hE]; decide
  unfold F_X11_families
  refine r_iload_n B 1 dX11_families_0 rfl rfl ?_
  refine r_iconst B (0 : Int32) dX11_families_1 (by decide) ?_
  refine r_iconst B (3 : Int32) dX11_families_2 (by decide) ?_
  refine r_cI (zrunS (As := [.int a1, .int (0 : Int32), .int (3 : Int32)]) (rest := []) B 3 (fun b hb => k_X11_in B.2.2.1 hb) gX11_families_X11_in rfl rfl rfl y_X11_in ⟨Nat.le_of_ble_eq_true rfl, Nat.le_of_ble_eq_true rfl⟩ rfl rfl (Nat.le_of_ble_eq_true rfl) dX11_families_3) (fun r3 => ?_)
  refine r_if_eq B 29 dX11_families_6 (by decide) (fun _ => ?_) (fun _ => ?_)
  · refine r_bipush B (-2 : Int32) dX11_families_29 (by decide) ?_
    exact r_iret B dX11_families_31 rfl
  · refine r_iload_n B 2 dX11_families_9 rfl rfl ?_
    refine r_iconst B (1 : Int32) dX11_families_10 (by decide) ?_
    refine r_bipush B (8 : Int32) dX11_families_11 (by decide) ?_
    refine r_cI (zrunS (As := [.int a2, .int (1 : Int32), .int (8 : Int32)]) (rest := []) B 3 (fun b hb => k_X11_in B.2.2.1 hb) gX11_families_X11_in rfl rfl rfl y_X11_in ⟨Nat.le_of_ble_eq_true rfl, Nat.le_of_ble_eq_true rfl⟩ rfl rfl (Nat.le_of_ble_eq_true rfl) dX11_families_13) (fun r13 => ?_)
    refine r_if_eq B 29 dX11_families_16 (by decide) (fun _ => ?_) (fun _ => ?_)
    · refine r_bipush B (-2 : Int32) dX11_families_29 (by decide) ?_
      exact r_iret B dX11_families_31 rfl
    · refine r_iload_n B 3 dX11_families_19 rfl rfl ?_
      refine r_iconst B (0 : Int32) dX11_families_20 (by decide) ?_
      refine r_bipush B (9 : Int32) dX11_families_21 (by decide) ?_
      refine r_cI (zrunS (As := [.int a3, .int (0 : Int32), .int (9 : Int32)]) (rest := []) B 3 (fun b hb => k_X11_in B.2.2.1 hb) gX11_families_X11_in rfl rfl rfl y_X11_in ⟨Nat.le_of_ble_eq_true rfl, Nat.le_of_ble_eq_true rfl⟩ rfl rfl (Nat.le_of_ble_eq_true rfl) dX11_families_23) (fun r23 => ?_)
      refine r_if_ne B 32 dX11_families_26 (by decide) (fun _ => ?_) (fun _ => ?_)
      · refine r_aload_n B 0 dX11_families_32 rfl rfl ?_
        refine r_get B 0 10 14 (Nat.le_of_ble_eq_true rfl) rfl (cM_0 g _) rfl m_X11_families_inX11 (Nat.le_of_ble_eq_true rfl) m_X11_families_f41 rfl dX11_families_33 ?_
        refine r_bipush B (9 : Int32) dX11_families_36 (by decide) ?_
        refine r_iload_n B 1 dX11_families_38 rfl rfl ?_
        refine r_imul B dX11_families_39 ?_
        refine r_iload_n B 2 dX11_families_40 rfl rfl ?_
        refine r_iadd B dX11_families_41 ?_
        refine r_iald B 10 0 (Nat.le_of_ble_eq_true rfl) rfl (cM_10 g _) rfl dX11_families_42 ?_
        refine r_istore (lv' := fun x4_43 => [(4, .int x4_43), (0, .ref (g.1 0)), (1, .int a1), (2, .int a2), (3, .int a3)]) B dX11_families_43 n4 (fun _ => rfl) (fun x4_43 => ?_)
        refine r_aload_n B 1 dX11_families_45 rfl rfl ?_
        refine r_get B 0 10 14 (Nat.le_of_ble_eq_true rfl) rfl (cM_0 g _) rfl m_X11_families_inX11 (Nat.le_of_ble_eq_true rfl) m_X11_families_f41 rfl dX11_families_46 ?_
        refine r_bipush B (9 : Int32) dX11_families_49 (by decide) ?_
        refine r_iload_n B 2 dX11_families_51 rfl rfl ?_
        refine r_imul B dX11_families_52 ?_
        refine r_iload_n B 3 dX11_families_53 rfl rfl ?_
        refine r_iadd B dX11_families_54 ?_
        refine r_iload_n B 4 dX11_families_55 rfl rfl ?_
        refine r_iast B 10 0 (Nat.le_of_ble_eq_true rfl) rfl (cM_10 g _) rfl (uM_10 g _ _) dX11_families_56 (fun S56 => ?_)
        refine r_iload B 0 dX11_families_57 rfl ?_
        exact r_iret B dX11_families_59 rfl
      · refine r_bipush B (-2 : Int32) dX11_families_29 (by decide) ?_
        exact r_iret B dX11_families_31 rfl
set_option maxRecDepth 20000 in
theorem k_X11_families {l : Launch} {D : va_G} {g : zGx} (hz : zin (WM g)) {S : zSt} {a1 : Int32} {a2 : Int32} {a3 : Int32} {b : (Int32 × zSt)} (h : F_X11_families S a1 a2 a3 = some b) : zMet l D (WM g) (zT g) yX11_families wsX11_families rm_X11_families S [.ref (g.1 0), .int a1, .int a2, .int a3] (eIw b) := zmet_of (by decide +kernel) rfl hz (Nat.le_of_ble_eq_true rfl) rfl (fun E _ _ hE B => x_X11_families B hE S a1 a2 a3) h
abbrev rm_X11_choose : Room := { frames := 1, cells := 0, slots := 0, locals := 22 }
theorem y_X11_choose : yX11_choose.cls ≠ "java/lang/invoke/MethodHandle" ∧ yX11_choose.cls ≠ "java/lang/invoke/VarHandle" ∧ (parseMethodDescriptor yX11_choose.desc).map (fun d => d.parameters.length) = some 2 := by decide +kernel
set_option maxRecDepth 100000 in
set_option maxHeartbeats 4000000 in
theorem xL_X11_choose_18 {E : zCx} {g : zGx} (B : zGood E (WM g) (zT g) cX11_choose RX11 wsX11_choose (some .long) rm_X11_choose) (hE : E.2.2 = 5) (S : zSt) (a0 : Int32) (a1 : Int32) (k : Int64 → Option Int64) (hk : ∀ (w2 : Int64), Xo E (WM g) (eL S) S 50 [(2, .long w2)] [] (k w2)) : ∀ (n : Nat) (v2_18 : Int64) (v4_18 : Int32), Xo E (WM g) (eL S) S 18 [(0, .int a0), (1, .int a1), (2, .long v2_18), (4, .int v4_18)] [] (L_X11_choose_18 a0 a1 k n v2_18 v4_18) := by
  have nn2 : 2 + 1 < E.2.2 := by rw [hE]; decide
  have n4 : 4 < E.2.2 := by rw [hE]; decide
  intro n
  induction n with
  | zero =>
    intro _ _
    exact r_none
  | succ n ih =>
    intro v2_18 v4_18
    rw [L_X11_choose_18]
    refine r_iload B 3 dX11_choose_18 rfl ?_
    refine r_iload_n B 1 dX11_choose_20 rfl rfl ?_
    refine r_icmp_ge B 50 dX11_choose_21 (by decide) (fun _ => ?_) (fun _ => ?_)
    · refine r_sub [2] rfl ?_
      exact hk v2_18
    · refine r_lload_n B 2 dX11_choose_24 rfl rfl ?_
      refine r_lconst B (0 : Int64) dX11_choose_25 (by decide) ?_
      refine r_lcmp B dX11_choose_26 ?_
      refine r_if_le B 50 dX11_choose_27 (by decide) (fun _ => ?_) (fun _ => ?_)
      · refine r_sub [2] rfl ?_
        exact hk v2_18
      · refine r_lload_n B 2 dX11_choose_30 rfl rfl ?_
        refine r_iload_n B 0 dX11_choose_31 rfl rfl ?_
        refine r_iload B 3 dX11_choose_32 rfl ?_
        refine r_isub B dX11_choose_34 ?_
        refine r_i2l B dX11_choose_35 ?_
        refine r_lmul B dX11_choose_36 ?_
        refine r_iload B 3 dX11_choose_37 rfl ?_
        refine r_i2l B dX11_choose_39 ?_
        refine r_lconst B (1 : Int64) dX11_choose_40 (by decide) ?_
        refine r_ladd B dX11_choose_41 ?_
        refine r_ldiv B dX11_choose_42 (fun _ => ?_)
        refine r_lstore_n (lv' := fun x2_43 => [(2, .long x2_43), (0, .int a0), (1, .int a1), (4, .int v4_18)]) B dX11_choose_43 rfl nn2 (fun _ => rfl) (fun x2_43 => ?_)
        refine r_iinc (lv' := fun x4_44 => [(4, .int x4_44), (2, .long x2_43), (0, .int a0), (1, .int a1)]) B 3 (1 : Int32) dX11_choose_44 rfl (by decide) n4 (fun _ => rfl) (fun x4_44 => ?_)
        refine r_goto B 18 dX11_choose_47 (by decide) ?_
        refine r_sub [2, 3, 1, 0] rfl ?_
        exact ih x2_43 x4_44
set_option maxRecDepth 100000 in
set_option maxHeartbeats 4000000 in
theorem x_X11_choose {E : zCx} {g : zGx} (B : zGood E (WM g) (zT g) cX11_choose RX11 wsX11_choose (some .long) rm_X11_choose) (hE : E.2.2 = 5) (S : zSt) (a0 : Int32) (a1 : Int32) : Xo E (WM g) (eL S) S 0 [(0, .int a0), (1, .int a1)] [] (F_X11_choose a0 a1) := by
  have nn2 : 2 + 1 < E.2.2 := by rw [hE]; decide
  have n4 : 4 < E.2.2 := by rw [hE]; decide
  unfold F_X11_choose
  refine r_iload_n B 1 dX11_choose_0 rfl rfl ?_
  refine r_iconst B (0 : Int32) dX11_choose_1 (by decide) ?_
  refine r_iload_n B 0 dX11_choose_2 rfl rfl ?_
  refine r_cI (zrunS (As := [.int a1, .int (0 : Int32), .int a0]) (rest := []) B 3 (fun b hb => k_X11_in B.2.2.1 hb) gX11_choose_X11_in rfl rfl rfl y_X11_in ⟨Nat.le_of_ble_eq_true rfl, Nat.le_of_ble_eq_true rfl⟩ rfl rfl (Nat.le_of_ble_eq_true rfl) dX11_choose_3) (fun r3 => ?_)
  refine r_jn2 (P := fun j14 : Int64 → Option Int64 => ∀ (y0_14 : Int64), Xo E (WM g) (eL S) S 14 [(0, .int a0), (1, .int a1)] [.long y0_14] (j14 y0_14)) ?_ (fun j14 hj14 => ?_)
  · intro y0_14
    refine r_lstore_n (lv' := fun x2_14 => [(2, .long x2_14), (0, .int a0), (1, .int a1)]) B dX11_choose_14 rfl nn2 (fun _ => rfl) (fun x2_14 => ?_)
    refine r_iconst B (0 : Int32) dX11_choose_15 (by decide) ?_
    refine r_istore (lv' := fun x4_16 => [(4, .int x4_16), (2, .long x2_14), (0, .int a0), (1, .int a1)]) B dX11_choose_16 n4 (fun _ => rfl) (fun x4_16 => ?_)
    refine r_sub [2, 3, 1, 0] rfl ?_
    refine xL_X11_choose_18 B hE S a0 a1 _ ?_ 1000 x2_14 x4_16
    intro w2_18
    refine r_lload_n B 0 dX11_choose_50 rfl rfl ?_
    exact r_lret B dX11_choose_51 rfl
  refine r_if_eq B 13 dX11_choose_6 (by decide) (fun _ => ?_) (fun _ => ?_)
  · refine r_lconst B (0 : Int64) dX11_choose_13 (by decide) ?_
    exact hj14 (0 : Int64)
  · refine r_lconst B (1 : Int64) dX11_choose_9 (by decide) ?_
    refine r_goto B 14 dX11_choose_10 (by decide) ?_
    exact hj14 (1 : Int64)
set_option maxRecDepth 20000 in
theorem k_X11_choose {l : Launch} {D : va_G} {g : zGx} (hz : zin (WM g)) {S : zSt} {a0 : Int32} {a1 : Int32} {b : Int64} (h : F_X11_choose a0 a1 = some b) : zMet l D (WM g) (zT g) yX11_choose wsX11_choose rm_X11_choose S [.int a0, .int a1] ((eL S) b) := zmet_of (by decide +kernel) rfl hz (Nat.le_of_ble_eq_true rfl) rfl (fun E _ _ hE B => x_X11_choose B hE S a0 a1) h
abbrev rm_X11_childrenOf : Room := { frames := 0, cells := 0, slots := 0, locals := 0 }
theorem y_X11_childrenOf : yX11_childrenOf.cls = RX11 ∧ yX11_childrenOf.cls ≠ "java/lang/invoke/MethodHandle" ∧ yX11_childrenOf.cls ≠ "java/lang/invoke/VarHandle" ∧ (parseMethodDescriptor yX11_childrenOf.desc).map (fun d => d.parameters.length) = some 1 := by decide +kernel
theorem m_X11_childrenOf_f41 : Cond.fieldLink RX11 41 "LongestMetModel" "families" "[I" ∈ wsX11_childrenOf := List.mem_cons_of_mem _ (List.mem_append_left _ (List.mem_of_getElem? (i := 0) rfl))
theorem m_X11_childrenOf_inX11 : ∀ x ∈ u_ws RX11 TX11 27, x ∈ wsX11_childrenOf := fun _ h => List.mem_cons_of_mem _ (List.mem_append_right _ h)
set_option maxRecDepth 100000 in
set_option maxHeartbeats 4000000 in
theorem xL_X11_childrenOf_4 {E : zCx} {g : zGx} (B : zGood E (WM g) (zT g) cX11_childrenOf RX11 wsX11_childrenOf (some .int) rm_X11_childrenOf) (hE : E.2.2 = 4) (S : zSt) (a1 : Int32) (k : Int32 → Option Int32) (hk : ∀ (w2 : Int32), Xo E (WM g) (eI S) S 32 [(2, .int w2)] [] (k w2)) : ∀ (n : Nat) (v2_4 : Int32) (v3_4 : Int32), Xo E (WM g) (eI S) S 4 [(0, .ref (g.1 0)), (1, .int a1), (2, .int v2_4), (3, .int v3_4)] [] (L_X11_childrenOf_4 S a1 k n v2_4 v3_4) := by
  have n2 : 2 < E.2.2 := by rw [hE]; decide
  have n3 : 3 < E.2.2 := by rw [hE]; decide
  intro n
  induction n with
  | zero =>
    intro _ _
    exact r_none
  | succ n ih =>
    intro v2_4 v3_4
    rw [L_X11_childrenOf_4]
    refine r_iload_n B 3 dX11_childrenOf_4 rfl rfl ?_
    refine r_bipush B (9 : Int32) dX11_childrenOf_5 (by decide) ?_
    refine r_icmp_ge B 32 dX11_childrenOf_7 (by decide) (fun _ => ?_) (fun _ => ?_)
    · refine r_sub [2] rfl ?_
      exact hk v2_4
    · refine r_iload_n B 2 dX11_childrenOf_10 rfl rfl ?_
      refine r_iload_n B 3 dX11_childrenOf_11 rfl rfl ?_
      refine r_aload_n B 0 dX11_childrenOf_12 rfl rfl ?_
      refine r_get B 0 10 14 (Nat.le_of_ble_eq_true rfl) rfl (cM_0 g _) rfl m_X11_childrenOf_inX11 (Nat.le_of_ble_eq_true rfl) m_X11_childrenOf_f41 rfl dX11_childrenOf_13 ?_
      refine r_bipush B (9 : Int32) dX11_childrenOf_16 (by decide) ?_
      refine r_iload_n B 1 dX11_childrenOf_18 rfl rfl ?_
      refine r_imul B dX11_childrenOf_19 ?_
      refine r_iload_n B 3 dX11_childrenOf_20 rfl rfl ?_
      refine r_iadd B dX11_childrenOf_21 ?_
      refine r_iald B 10 0 (Nat.le_of_ble_eq_true rfl) rfl (cM_10 g _) rfl dX11_childrenOf_22 ?_
      refine r_imul B dX11_childrenOf_23 ?_
      refine r_iadd B dX11_childrenOf_24 ?_
      refine r_istore_n (lv' := fun x2_25 => [(2, .int x2_25), (0, .ref (g.1 0)), (1, .int a1), (3, .int v3_4)]) B dX11_childrenOf_25 rfl n2 (fun _ => rfl) (fun x2_25 => ?_)
      refine r_iinc (lv' := fun x3_26 => [(3, .int x3_26), (2, .int x2_25), (0, .ref (g.1 0)), (1, .int a1)]) B 3 (1 : Int32) dX11_childrenOf_26 rfl (by decide) n3 (fun _ => rfl) (fun x3_26 => ?_)
      refine r_goto B 4 dX11_childrenOf_29 (by decide) ?_
      refine r_sub [2, 3, 1, 0] rfl ?_
      exact ih x2_25 x3_26
set_option maxRecDepth 100000 in
set_option maxHeartbeats 4000000 in
theorem x_X11_childrenOf {E : zCx} {g : zGx} (B : zGood E (WM g) (zT g) cX11_childrenOf RX11 wsX11_childrenOf (some .int) rm_X11_childrenOf) (hE : E.2.2 = 4) (S : zSt) (a1 : Int32) : Xo E (WM g) (eI S) S 0 [(0, .ref (g.1 0)), (1, .int a1)] [] (F_X11_childrenOf S a1) := by
  have n2 : 2 < E.2.2 := by rw [hE]; decide
  have n3 : 3 < E.2.2 := by rw [hE]; decide
  unfold F_X11_childrenOf
  refine r_iconst B (0 : Int32) dX11_childrenOf_0 (by decide) ?_
  refine r_istore_n (lv' := fun x2_1 => [(2, .int x2_1), (0, .ref (g.1 0)), (1, .int a1)]) B dX11_childrenOf_1 rfl n2 (fun _ => rfl) (fun x2_1 => ?_)
  refine r_iconst B (1 : Int32) dX11_childrenOf_2 (by decide) ?_
  refine r_istore_n (lv' := fun x3_3 => [(3, .int x3_3), (2, .int x2_1), (0, .ref (g.1 0)), (1, .int a1)]) B dX11_childrenOf_3 rfl n3 (fun _ => rfl) (fun x3_3 => ?_)
  refine r_sub [2, 3, 1, 0] rfl ?_
  refine xL_X11_childrenOf_4 B hE S a1 _ ?_ 1000 x2_1 x3_3
  intro w2_4
  refine r_iload_n B 0 dX11_childrenOf_32 rfl rfl ?_
  exact r_iret B dX11_childrenOf_33 rfl
set_option maxRecDepth 20000 in
theorem k_X11_childrenOf {l : Launch} {D : va_G} {g : zGx} (hz : zin (WM g)) {S : zSt} {a1 : Int32} {b : Int32} (h : F_X11_childrenOf S a1 = some b) : zMet l D (WM g) (zT g) yX11_childrenOf wsX11_childrenOf rm_X11_childrenOf S [.ref (g.1 0), .int a1] ((eI S) b) := zmet_of (by decide +kernel) rfl hz (Nat.le_of_ble_eq_true rfl) rfl (fun E _ _ hE B => x_X11_childrenOf B hE S a1) h
abbrev rm_X11_choices : Room := { frames := 2, cells := 0, slots := 0, locals := 46 }
theorem y_X11_choices : yX11_choices.cls = RX11 ∧ yX11_choices.cls ≠ "java/lang/invoke/MethodHandle" ∧ yX11_choices.cls ≠ "java/lang/invoke/VarHandle" ∧ (parseMethodDescriptor yX11_choices.desc).map (fun d => d.parameters.length) = some 1 := by decide +kernel
theorem m_X11_choices_f41 : Cond.fieldLink RX11 41 "LongestMetModel" "families" "[I" ∈ wsX11_choices := List.mem_cons_of_mem _ (List.mem_append_left _ (List.mem_of_getElem? (i := 0) rfl))
theorem m_X11_choices_inX11 : ∀ x ∈ u_ws RX11 TX11 27, x ∈ wsX11_choices := fun _ h => List.mem_cons_of_mem _ (List.mem_append_right _ h)
set_option maxRecDepth 100000 in
set_option maxHeartbeats 4000000 in
theorem xL_X11_choices_5 {E : zCx} {g : zGx} (B : zGood E (WM g) (zT g) cX11_choices RX11 wsX11_choices (some .long) rm_X11_choices) (hE : E.2.2 = 5) (S : zSt) (a1 : Int32) (k : Int64 → Option Int64) (hk : ∀ (w2 : Int64), Xo E (WM g) (eL S) S 45 [(2, .long w2)] [] (k w2)) : ∀ (n : Nat) (v2_5 : Int64) (v4_5 : Int32), Xo E (WM g) (eL S) S 5 [(0, .ref (g.1 0)), (1, .int a1), (2, .long v2_5), (4, .int v4_5)] [] (L_X11_choices_5 S a1 k n v2_5 v4_5) := by
  have nn2 : 2 + 1 < E.2.2 := by rw [hE]; decide
  have n4 : 4 < E.2.2 := by rw [hE]; decide
  intro n
  induction n with
  | zero =>
    intro _ _
    exact r_none
  | succ n ih =>
    intro v2_5 v4_5
    rw [L_X11_choices_5]
    refine r_iload B 3 dX11_choices_5 rfl ?_
    refine r_bipush B (9 : Int32) dX11_choices_7 (by decide) ?_
    refine r_icmp_ge B 45 dX11_choices_9 (by decide) (fun _ => ?_) (fun _ => ?_)
    · refine r_sub [2] rfl ?_
      exact hk v2_5
    · refine r_lload_n B 2 dX11_choices_12 rfl rfl ?_
      refine r_iload B 3 dX11_choices_13 rfl ?_
      refine r_aload_n B 0 dX11_choices_15 rfl rfl ?_
      refine r_get B 0 10 14 (Nat.le_of_ble_eq_true rfl) rfl (cM_0 g _) rfl m_X11_choices_inX11 (Nat.le_of_ble_eq_true rfl) m_X11_choices_f41 rfl dX11_choices_16 ?_
      refine r_bipush B (9 : Int32) dX11_choices_19 (by decide) ?_
      refine r_iload_n B 1 dX11_choices_21 rfl rfl ?_
      refine r_imul B dX11_choices_22 ?_
      refine r_iload B 3 dX11_choices_23 rfl ?_
      refine r_iadd B dX11_choices_25 ?_
      refine r_iald B 10 0 (Nat.le_of_ble_eq_true rfl) rfl (cM_10 g _) rfl dX11_choices_26 ?_
      refine r_imul B dX11_choices_27 ?_
      refine r_aload_n B 0 dX11_choices_28 rfl rfl ?_
      refine r_iload B 3 dX11_choices_29 rfl ?_
      refine r_cI (zrunV (As := [.int v4_5]) (rest := [.int (v4_5 * (zA S 10 (((9 : Int32) * a1) + v4_5).toNatClampNeg)), .long v2_5]) B 1 0 (fun b hb => k_X11_saidOf B.2.2.1 hb) gX11_choices_X11_saidOf rfl rfl rfl y_X11_saidOf ⟨Nat.le_of_ble_eq_true rfl, Nat.le_of_ble_eq_true rfl⟩ (Nat.le_of_ble_eq_true rfl) rfl (cM_0 g _) rfl rfl rfl (Nat.le_of_ble_eq_true rfl) dX11_choices_31) (fun r31 => ?_)
      refine r_cL (zrunS (As := [.int (v4_5 * (zA S 10 (((9 : Int32) * a1) + v4_5).toNatClampNeg)), .int r31]) (rest := [.long v2_5]) B 2 (fun b hb => k_X11_choose B.2.2.1 hb) gX11_choices_X11_choose rfl rfl rfl y_X11_choose ⟨Nat.le_of_ble_eq_true rfl, Nat.le_of_ble_eq_true rfl⟩ rfl rfl (Nat.le_of_ble_eq_true rfl) dX11_choices_34) (fun r34 => ?_)
      refine r_lmul B dX11_choices_37 ?_
      refine r_lstore_n (lv' := fun x2_38 => [(2, .long x2_38), (0, .ref (g.1 0)), (1, .int a1), (4, .int v4_5)]) B dX11_choices_38 rfl nn2 (fun _ => rfl) (fun x2_38 => ?_)
      refine r_iinc (lv' := fun x4_39 => [(4, .int x4_39), (2, .long x2_38), (0, .ref (g.1 0)), (1, .int a1)]) B 3 (1 : Int32) dX11_choices_39 rfl (by decide) n4 (fun _ => rfl) (fun x4_39 => ?_)
      refine r_goto B 5 dX11_choices_42 (by decide) ?_
      refine r_sub [2, 3, 1, 0] rfl ?_
      exact ih x2_38 x4_39
set_option maxRecDepth 100000 in
set_option maxHeartbeats 4000000 in
theorem x_X11_choices {E : zCx} {g : zGx} (B : zGood E (WM g) (zT g) cX11_choices RX11 wsX11_choices (some .long) rm_X11_choices) (hE : E.2.2 = 5) (S : zSt) (a1 : Int32) : Xo E (WM g) (eL S) S 0 [(0, .ref (g.1 0)), (1, .int a1)] [] (F_X11_choices S a1) := by
  have nn2 : 2 + 1 < E.2.2 := by rw [hE]; decide
  have n4 : 4 < E.2.2 := by rw [hE]; decide
  unfold F_X11_choices
  refine r_lconst B (1 : Int64) dX11_choices_0 (by decide) ?_
  refine r_lstore_n (lv' := fun x2_1 => [(2, .long x2_1), (0, .ref (g.1 0)), (1, .int a1)]) B dX11_choices_1 rfl nn2 (fun _ => rfl) (fun x2_1 => ?_)
  refine r_iconst B (1 : Int32) dX11_choices_2 (by decide) ?_
  refine r_istore (lv' := fun x4_3 => [(4, .int x4_3), (2, .long x2_1), (0, .ref (g.1 0)), (1, .int a1)]) B dX11_choices_3 n4 (fun _ => rfl) (fun x4_3 => ?_)
  refine r_sub [2, 3, 1, 0] rfl ?_
  refine xL_X11_choices_5 B hE S a1 _ ?_ 1000 x2_1 x4_3
  intro w2_5
  refine r_lload_n B 0 dX11_choices_45 rfl rfl ?_
  exact r_lret B dX11_choices_46 rfl
set_option maxRecDepth 20000 in
theorem k_X11_choices {l : Launch} {D : va_G} {g : zGx} (hz : zin (WM g)) {S : zSt} {a1 : Int32} {b : Int64} (h : F_X11_choices S a1 = some b) : zMet l D (WM g) (zT g) yX11_choices wsX11_choices rm_X11_choices S [.ref (g.1 0), .int a1] ((eL S) b) := zmet_of (by decide +kernel) rfl hz (Nat.le_of_ble_eq_true rfl) rfl (fun E _ _ hE B => x_X11_choices B hE S a1) h
abbrev rm_X11_chance : Room := { frames := 3, cells := 0, slots := 0, locals := 70 }
theorem y_X11_chance : yX11_chance.cls = RX11 ∧ yX11_chance.cls ≠ "java/lang/invoke/MethodHandle" ∧ yX11_chance.cls ≠ "java/lang/invoke/VarHandle" ∧ (parseMethodDescriptor yX11_chance.desc).map (fun d => d.parameters.length) = some 2 := by decide +kernel
set_option maxRecDepth 100000 in
set_option maxHeartbeats 4000000 in
theorem x_X11_chance {E : zCx} {g : zGx} (B : zGood E (WM g) (zT g) cX11_chance RX11 wsX11_chance (some .long) rm_X11_chance) (hE : E.2.2 = 4) (S : zSt) (a1 : Int32) (a2 : Int32) : Xo E (WM g) (eL S) S 0 [(0, .ref (g.1 0)), (1, .int a1), (2, .int a2)] [] (F_X11_chance S a1 a2) := by
  have n3 : 3 < E.2.2 := by rw [hE]; decide
  unfold F_X11_chance
  refine r_iload_n B 1 dX11_chance_0 rfl rfl ?_
  refine r_iconst B (0 : Int32) dX11_chance_1 (by decide) ?_
  refine r_iconst B (3 : Int32) dX11_chance_2 (by decide) ?_
  refine r_cI (zrunS (As := [.int a1, .int (0 : Int32), .int (3 : Int32)]) (rest := []) B 3 (fun b hb => k_X11_in B.2.2.1 hb) gX11_chance_X11_in rfl rfl rfl y_X11_in ⟨Nat.le_of_ble_eq_true rfl, Nat.le_of_ble_eq_true rfl⟩ rfl rfl (Nat.le_of_ble_eq_true rfl) dX11_chance_3) (fun r3 => ?_)
  refine r_jn2 (P := fun j18 : Option Int64 => Xo E (WM g) (eL S) S 18 [] [] (j18)) ?_ (fun j18 hj18 => ?_)
  · refine r_bipush B (-2 : Int32) dX11_chance_18 (by decide) ?_
    refine r_cL (zrunS (As := [.int (-2 : Int32)]) (rest := []) B 1 (fun b hb => k_X11_no B.2.2.1 hb) gX11_chance_X11_no rfl rfl rfl y_X11_no ⟨Nat.le_of_ble_eq_true rfl, Nat.le_of_ble_eq_true rfl⟩ rfl rfl (Nat.le_of_ble_eq_true rfl) dX11_chance_20) (fun r20 => ?_)
    exact r_lret B dX11_chance_23 rfl
  refine r_if_eq B 18 dX11_chance_6 (by decide) (fun _ => ?_) (fun _ => ?_)
  · refine r_sub [] rfl ?_
    exact hj18
  · refine r_iload_n B 2 dX11_chance_9 rfl rfl ?_
    refine r_iconst B (0 : Int32) dX11_chance_10 (by decide) ?_
    refine r_iconst B (1 : Int32) dX11_chance_11 (by decide) ?_
    refine r_cI (zrunS (As := [.int a2, .int (0 : Int32), .int (1 : Int32)]) (rest := []) B 3 (fun b hb => k_X11_in B.2.2.1 hb) gX11_chance_X11_in rfl rfl rfl y_X11_in ⟨Nat.le_of_ble_eq_true rfl, Nat.le_of_ble_eq_true rfl⟩ rfl rfl (Nat.le_of_ble_eq_true rfl) dX11_chance_12) (fun r12 => ?_)
    refine r_if_ne B 24 dX11_chance_15 (by decide) (fun _ => ?_) (fun _ => ?_)
    · refine r_aload_n B 0 dX11_chance_24 rfl rfl ?_
      refine r_iconst B (0 : Int32) dX11_chance_25 (by decide) ?_
      refine r_cI (zrunV (As := [.int (0 : Int32)]) (rest := []) B 1 0 (fun b hb => k_X11_saidOf B.2.2.1 hb) gX11_chance_X11_saidOf rfl rfl rfl y_X11_saidOf ⟨Nat.le_of_ble_eq_true rfl, Nat.le_of_ble_eq_true rfl⟩ (Nat.le_of_ble_eq_true rfl) rfl (cM_0 g _) rfl rfl rfl (Nat.le_of_ble_eq_true rfl) dX11_chance_26) (fun r26 => ?_)
      refine r_istore_n (lv' := fun x3_29 => [(3, .int x3_29), (0, .ref (g.1 0)), (1, .int a1), (2, .int a2)]) B dX11_chance_29 rfl n3 (fun _ => rfl) (fun x3_29 => ?_)
      refine r_iload_n B 0 dX11_chance_30 rfl rfl ?_
      refine r_bipush B (8 : Int32) dX11_chance_31 (by decide) ?_
      refine r_icmp_le B 42 dX11_chance_33 (by decide) (fun _ => ?_) (fun _ => ?_)
      · refine r_aload_n B 1 dX11_chance_42 rfl rfl ?_
        refine r_iload_n B 2 dX11_chance_43 rfl rfl ?_
        refine r_cI (zrunV (As := [.int a1]) (rest := []) B 1 0 (fun b hb => k_X11_childrenOf B.2.2.1 hb) gX11_chance_X11_childrenOf rfl rfl rfl y_X11_childrenOf ⟨Nat.le_of_ble_eq_true rfl, Nat.le_of_ble_eq_true rfl⟩ (Nat.le_of_ble_eq_true rfl) rfl (cM_0 g _) rfl rfl rfl (Nat.le_of_ble_eq_true rfl) dX11_chance_44) (fun r44 => ?_)
        refine r_iload_n B 0 dX11_chance_47 rfl rfl ?_
        refine r_icmp_ge B 59 dX11_chance_48 (by decide) (fun _ => ?_) (fun _ => ?_)
        · refine r_aload_n B 1 dX11_chance_59 rfl rfl ?_
          refine r_iload_n B 2 dX11_chance_60 rfl rfl ?_
          refine r_cL (zrunV (As := [.int a1]) (rest := []) B 1 0 (fun b hb => k_X11_choices B.2.2.1 hb) gX11_chance_X11_choices rfl rfl rfl y_X11_choices ⟨Nat.le_of_ble_eq_true rfl, Nat.le_of_ble_eq_true rfl⟩ (Nat.le_of_ble_eq_true rfl) rfl (cM_0 g _) rfl rfl rfl (Nat.le_of_ble_eq_true rfl) dX11_chance_61) (fun r61 => ?_)
          refine r_aload_n B 1 dX11_chance_64 rfl rfl ?_
          refine r_iload_n B 2 dX11_chance_65 rfl rfl ?_
          refine r_cI (zrunV (As := [.int a1]) (rest := [.long r61]) B 1 0 (fun b hb => k_X11_childrenOf B.2.2.1 hb) gX11_chance_X11_childrenOf rfl rfl rfl y_X11_childrenOf ⟨Nat.le_of_ble_eq_true rfl, Nat.le_of_ble_eq_true rfl⟩ (Nat.le_of_ble_eq_true rfl) rfl (cM_0 g _) rfl rfl rfl (Nat.le_of_ble_eq_true rfl) dX11_chance_66) (fun r66 => ?_)
          refine r_iload_n B 0 dX11_chance_69 rfl rfl ?_
          refine r_cL (zrunS (As := [.int r66, .int x3_29]) (rest := [.long r61]) B 2 (fun b hb => k_X11_choose B.2.2.1 hb) gX11_chance_X11_choose rfl rfl rfl y_X11_choose ⟨Nat.le_of_ble_eq_true rfl, Nat.le_of_ble_eq_true rfl⟩ rfl rfl (Nat.le_of_ble_eq_true rfl) dX11_chance_70) (fun r70 => ?_)
          refine r_iload_n B 3 dX11_chance_73 rfl rfl ?_
          refine r_cL (zrunS (As := [.long r61, .long r70, .int a2]) (rest := []) B 3 (fun b hb => k_X11_lowest B.2.2.1 hb) gX11_chance_X11_lowest rfl rfl rfl y_X11_lowest ⟨Nat.le_of_ble_eq_true rfl, Nat.le_of_ble_eq_true rfl⟩ rfl rfl (Nat.le_of_ble_eq_true rfl) dX11_chance_74) (fun r74 => ?_)
          exact r_lret B dX11_chance_77 rfl
        · refine r_bipush B (-3 : Int32) dX11_chance_51 (by decide) ?_
          refine r_cL (zrunS (As := [.int (-3 : Int32)]) (rest := []) B 1 (fun b hb => k_X11_no B.2.2.1 hb) gX11_chance_X11_no rfl rfl rfl y_X11_no ⟨Nat.le_of_ble_eq_true rfl, Nat.le_of_ble_eq_true rfl⟩ rfl rfl (Nat.le_of_ble_eq_true rfl) dX11_chance_53) (fun r53 => ?_)
          refine r_goto B 77 dX11_chance_56 (by decide) ?_
          exact r_lret B dX11_chance_77 rfl
      · refine r_bipush B (-4 : Int32) dX11_chance_36 (by decide) ?_
        refine r_cL (zrunS (As := [.int (-4 : Int32)]) (rest := []) B 1 (fun b hb => k_X11_no B.2.2.1 hb) gX11_chance_X11_no rfl rfl rfl y_X11_no ⟨Nat.le_of_ble_eq_true rfl, Nat.le_of_ble_eq_true rfl⟩ rfl rfl (Nat.le_of_ble_eq_true rfl) dX11_chance_38) (fun r38 => ?_)
        exact r_lret B dX11_chance_41 rfl
    · refine r_sub [] rfl ?_
      exact hj18
set_option maxRecDepth 20000 in
theorem k_X11_chance {l : Launch} {D : va_G} {g : zGx} (hz : zin (WM g)) {S : zSt} {a1 : Int32} {a2 : Int32} {b : Int64} (h : F_X11_chance S a1 a2 = some b) : zMet l D (WM g) (zT g) yX11_chance wsX11_chance rm_X11_chance S [.ref (g.1 0), .int a1, .int a2] ((eL S) b) := zmet_of (by decide +kernel) rfl hz (Nat.le_of_ble_eq_true rfl) rfl (fun E _ _ hE B => x_X11_chance B hE S a1 a2) h
abbrev rm_X11_likeliestNow : Room := { frames := 3, cells := 0, slots := 0, locals := 70 }
theorem y_X11_likeliestNow : yX11_likeliestNow.cls = RX11 ∧ yX11_likeliestNow.cls ≠ "java/lang/invoke/MethodHandle" ∧ yX11_likeliestNow.cls ≠ "java/lang/invoke/VarHandle" ∧ (parseMethodDescriptor yX11_likeliestNow.desc).map (fun d => d.parameters.length) = some 0 := by decide +kernel
set_option maxRecDepth 100000 in
set_option maxHeartbeats 4000000 in
theorem xL_X11_likeliestNow_25 {E : zCx} {g : zGx} (B : zGood E (WM g) (zT g) cX11_likeliestNow RX11 wsX11_likeliestNow (some .int) rm_X11_likeliestNow) (hE : E.2.2 = 10) (S : zSt) (x1_5 : Int32) (k : Int32 → Option Int32) (hk : ∀ (w2 : Int32), Xo E (WM g) (eI S) S 87 [(2, .int w2)] [] (k w2)) : ∀ (n : Nat) (v2_25 : Int32) (v3_25 : Int64) (v5_25 : Int64) (v7_25 : Int32), Xo E (WM g) (eI S) S 25 [(0, .ref (g.1 0)), (1, .int x1_5), (2, .int v2_25), (3, .long v3_25), (5, .long v5_25), (7, .int v7_25)] [] (L_X11_likeliestNow_25 S x1_5 k n v2_25 v3_25 v5_25 v7_25) := by
  have n1 : 1 < E.2.2 := by rw [hE]; decide
  have n2 : 2 < E.2.2 := by rw [hE]; decide
  have nn3 : 3 + 1 < E.2.2 := by rw [hE]; decide
  have nn5 : 5 + 1 < E.2.2 := by rw [hE]; decide
  have n7 : 7 < E.2.2 := by rw [hE]; decide
  have nn8 : 8 + 1 < E.2.2 := by rw [hE]; decide
  intro n
  induction n with
  | zero =>
    intro _ _ _ _
    exact r_none
  | succ n ih =>
    intro v2_25 v3_25 v5_25 v7_25
    rw [L_X11_likeliestNow_25]
    refine r_iload B 5 dX11_likeliestNow_25 rfl ?_
    refine r_iconst B (4 : Int32) dX11_likeliestNow_27 (by decide) ?_
    refine r_icmp_ge B 87 dX11_likeliestNow_28 (by decide) (fun _ => ?_) (fun _ => ?_)
    · refine r_sub [2] rfl ?_
      exact hk v2_25
    · refine r_aload_n B 0 dX11_likeliestNow_31 rfl rfl ?_
      refine r_iload B 5 dX11_likeliestNow_32 rfl ?_
      refine r_cI (zrunV (As := [.int v7_25]) (rest := []) B 1 0 (fun b hb => k_X11_childrenOf B.2.2.1 hb) gX11_likeliestNow_X11_childrenOf rfl rfl rfl y_X11_childrenOf ⟨Nat.le_of_ble_eq_true rfl, Nat.le_of_ble_eq_true rfl⟩ (Nat.le_of_ble_eq_true rfl) rfl (cM_0 g _) rfl rfl rfl (Nat.le_of_ble_eq_true rfl) dX11_likeliestNow_34) (fun r34 => ?_)
      refine r_iload_n B 1 dX11_likeliestNow_37 rfl rfl ?_
      refine r_cL (zrunS (As := [.int r34, .int x1_5]) (rest := []) B 2 (fun b hb => k_X11_choose B.2.2.1 hb) gX11_likeliestNow_X11_choose rfl rfl rfl y_X11_choose ⟨Nat.le_of_ble_eq_true rfl, Nat.le_of_ble_eq_true rfl⟩ rfl rfl (Nat.le_of_ble_eq_true rfl) dX11_likeliestNow_38) (fun r38 => ?_)
      refine r_lstore (lv' := fun x8_41 => [(8, .long x8_41), (0, .ref (g.1 0)), (1, .int x1_5), (2, .int v2_25), (3, .long v3_25), (5, .long v5_25), (7, .int v7_25)]) B dX11_likeliestNow_41 nn8 (fun _ => rfl) (fun x8_41 => ?_)
      refine r_lload B 0 dX11_likeliestNow_43 rfl ?_
      refine r_lconst B (0 : Int64) dX11_likeliestNow_45 (by decide) ?_
      refine r_lcmp B dX11_likeliestNow_46 ?_
      refine r_if_le B 81 dX11_likeliestNow_47 (by decide) (fun _ => ?_) (fun _ => ?_)
      · refine r_iinc (lv' := fun x7_81 => [(7, .int x7_81), (8, .long x8_41), (0, .ref (g.1 0)), (1, .int x1_5), (2, .int v2_25), (3, .long v3_25), (5, .long v5_25)]) B 6 (1 : Int32) dX11_likeliestNow_81 rfl (by decide) n7 (fun _ => rfl) (fun x7_81 => ?_)
        refine r_goto B 25 dX11_likeliestNow_84 (by decide) ?_
        refine r_sub [2, 3, 4, 5, 6, 0] rfl ?_
        exact ih v2_25 v3_25 v5_25 x7_81
      · refine r_aload_n B 1 dX11_likeliestNow_50 rfl rfl ?_
        refine r_iload B 6 dX11_likeliestNow_51 rfl ?_
        refine r_cL (zrunV (As := [.int v7_25]) (rest := []) B 1 0 (fun b hb => k_X11_choices B.2.2.1 hb) gX11_likeliestNow_X11_choices rfl rfl rfl y_X11_choices ⟨Nat.le_of_ble_eq_true rfl, Nat.le_of_ble_eq_true rfl⟩ (Nat.le_of_ble_eq_true rfl) rfl (cM_0 g _) rfl rfl rfl (Nat.le_of_ble_eq_true rfl) dX11_likeliestNow_53) (fun r53 => ?_)
        refine r_lload B 0 dX11_likeliestNow_56 rfl ?_
        refine r_lload_n B 4 dX11_likeliestNow_58 rfl rfl ?_
        refine r_lload B 5 dX11_likeliestNow_59 rfl ?_
        refine r_cI (zrunS (As := [.long r53, .long x8_41, .long v3_25, .long v5_25]) (rest := []) B 4 (fun b hb => k_X11_way B.2.2.1 hb) gX11_likeliestNow_X11_way rfl rfl rfl y_X11_way ⟨Nat.le_of_ble_eq_true rfl, Nat.le_of_ble_eq_true rfl⟩ rfl rfl (Nat.le_of_ble_eq_true rfl) dX11_likeliestNow_61) (fun r61 => ?_)
        refine r_if_le B 81 dX11_likeliestNow_64 (by decide) (fun _ => ?_) (fun _ => ?_)
        · refine r_iinc (lv' := fun x7_81 => [(7, .int x7_81), (8, .long x8_41), (0, .ref (g.1 0)), (1, .int x1_5), (2, .int v2_25), (3, .long v3_25), (5, .long v5_25)]) B 6 (1 : Int32) dX11_likeliestNow_81 rfl (by decide) n7 (fun _ => rfl) (fun x7_81 => ?_)
          refine r_goto B 25 dX11_likeliestNow_84 (by decide) ?_
          refine r_sub [2, 3, 4, 5, 6, 0] rfl ?_
          exact ih v2_25 v3_25 v5_25 x7_81
        · refine r_iload B 6 dX11_likeliestNow_67 rfl ?_
          refine r_istore_n (lv' := fun x2_69 => [(2, .int x2_69), (8, .long x8_41), (0, .ref (g.1 0)), (1, .int x1_5), (3, .long v3_25), (5, .long v5_25), (7, .int v7_25)]) B dX11_likeliestNow_69 rfl n2 (fun _ => rfl) (fun x2_69 => ?_)
          refine r_aload_n B 2 dX11_likeliestNow_70 rfl rfl ?_
          refine r_iload B 6 dX11_likeliestNow_71 rfl ?_
          refine r_cL (zrunV (As := [.int v7_25]) (rest := []) B 1 0 (fun b hb => k_X11_choices B.2.2.1 hb) gX11_likeliestNow_X11_choices rfl rfl rfl y_X11_choices ⟨Nat.le_of_ble_eq_true rfl, Nat.le_of_ble_eq_true rfl⟩ (Nat.le_of_ble_eq_true rfl) rfl (cM_0 g _) rfl rfl rfl (Nat.le_of_ble_eq_true rfl) dX11_likeliestNow_73) (fun r73 => ?_)
          refine r_lstore_n (lv' := fun x3_76 => [(3, .long x3_76), (2, .int x2_69), (8, .long x8_41), (0, .ref (g.1 0)), (1, .int x1_5), (5, .long v5_25), (7, .int v7_25)]) B dX11_likeliestNow_76 rfl nn3 (fun _ => rfl) (fun x3_76 => ?_)
          refine r_lload B 2 dX11_likeliestNow_77 rfl ?_
          refine r_lstore (lv' := fun x5_79 => [(5, .long x5_79), (3, .long x3_76), (2, .int x2_69), (8, .long x8_41), (0, .ref (g.1 0)), (1, .int x1_5), (7, .int v7_25)]) B dX11_likeliestNow_79 nn5 (fun _ => rfl) (fun x5_79 => ?_)
          refine r_iinc (lv' := fun x7_81 => [(7, .int x7_81), (5, .long x5_79), (3, .long x3_76), (2, .int x2_69), (8, .long x8_41), (0, .ref (g.1 0)), (1, .int x1_5)]) B 6 (1 : Int32) dX11_likeliestNow_81 rfl (by decide) n7 (fun _ => rfl) (fun x7_81 => ?_)
          refine r_goto B 25 dX11_likeliestNow_84 (by decide) ?_
          refine r_sub [5, 6, 3, 2, 1, 0] rfl ?_
          exact ih x2_69 x3_76 x5_79 x7_81
set_option maxRecDepth 100000 in
set_option maxHeartbeats 4000000 in
theorem x_X11_likeliestNow {E : zCx} {g : zGx} (B : zGood E (WM g) (zT g) cX11_likeliestNow RX11 wsX11_likeliestNow (some .int) rm_X11_likeliestNow) (hE : E.2.2 = 10) (S : zSt) : Xo E (WM g) (eI S) S 0 [(0, .ref (g.1 0))] [] (F_X11_likeliestNow S) := by
  have n1 : 1 < E.2.2 := by rw [hE]; decide
  have n2 : 2 < E.2.2 := by rw [hE]; decide
  have nn3 : 3 + 1 < E.2.2 := by rw [hE]; decide
  have nn5 : 5 + 1 < E.2.2 := by rw [hE]; decide
  have n7 : 7 < E.2.2 := by rw [hE]; decide
  have nn8 : 8 + 1 < E.2.2 := by rw [hE]; decide
  unfold F_X11_likeliestNow
  refine r_aload_n B 0 dX11_likeliestNow_0 rfl rfl ?_
  refine r_iconst B (0 : Int32) dX11_likeliestNow_1 (by decide) ?_
  refine r_cI (zrunV (As := [.int (0 : Int32)]) (rest := []) B 1 0 (fun b hb => k_X11_saidOf B.2.2.1 hb) gX11_likeliestNow_X11_saidOf rfl rfl rfl y_X11_saidOf ⟨Nat.le_of_ble_eq_true rfl, Nat.le_of_ble_eq_true rfl⟩ (Nat.le_of_ble_eq_true rfl) rfl (cM_0 g _) rfl rfl rfl (Nat.le_of_ble_eq_true rfl) dX11_likeliestNow_2) (fun r2 => ?_)
  refine r_istore_n (lv' := fun x1_5 => [(1, .int x1_5), (0, .ref (g.1 0))]) B dX11_likeliestNow_5 rfl n1 (fun _ => rfl) (fun x1_5 => ?_)
  refine r_iload_n B 0 dX11_likeliestNow_6 rfl rfl ?_
  refine r_bipush B (8 : Int32) dX11_likeliestNow_7 (by decide) ?_
  refine r_icmp_le B 15 dX11_likeliestNow_9 (by decide) (fun _ => ?_) (fun _ => ?_)
  · refine r_iconst B (-1 : Int32) dX11_likeliestNow_15 (by decide) ?_
    refine r_istore_n (lv' := fun x2_16 => [(2, .int x2_16), (1, .int x1_5), (0, .ref (g.1 0))]) B dX11_likeliestNow_16 rfl n2 (fun _ => rfl) (fun x2_16 => ?_)
    refine r_lconst B (0 : Int64) dX11_likeliestNow_17 (by decide) ?_
    refine r_lstore_n (lv' := fun x3_18 => [(3, .long x3_18), (2, .int x2_16), (1, .int x1_5), (0, .ref (g.1 0))]) B dX11_likeliestNow_18 rfl nn3 (fun _ => rfl) (fun x3_18 => ?_)
    refine r_lconst B (1 : Int64) dX11_likeliestNow_19 (by decide) ?_
    refine r_lstore (lv' := fun x5_20 => [(5, .long x5_20), (3, .long x3_18), (2, .int x2_16), (1, .int x1_5), (0, .ref (g.1 0))]) B dX11_likeliestNow_20 nn5 (fun _ => rfl) (fun x5_20 => ?_)
    refine r_iconst B (0 : Int32) dX11_likeliestNow_22 (by decide) ?_
    refine r_istore (lv' := fun x7_23 => [(7, .int x7_23), (5, .long x5_20), (3, .long x3_18), (2, .int x2_16), (1, .int x1_5), (0, .ref (g.1 0))]) B dX11_likeliestNow_23 n7 (fun _ => rfl) (fun x7_23 => ?_)
    refine r_sub [5, 4, 3, 2, 1, 0] rfl ?_
    refine xL_X11_likeliestNow_25 B hE S x1_5 _ ?_ 1000 x2_16 x3_18 x5_20 x7_23
    intro w2_25
    refine r_iload_n B 0 dX11_likeliestNow_87 rfl rfl ?_
    exact r_iret B dX11_likeliestNow_88 rfl
  · refine r_bipush B (-4 : Int32) dX11_likeliestNow_12 (by decide) ?_
    exact r_iret B dX11_likeliestNow_14 rfl
set_option maxRecDepth 20000 in
theorem k_X11_likeliestNow {l : Launch} {D : va_G} {g : zGx} (hz : zin (WM g)) {S : zSt} {b : Int32} (h : F_X11_likeliestNow S = some b) : zMet l D (WM g) (zT g) yX11_likeliestNow wsX11_likeliestNow rm_X11_likeliestNow S [.ref (g.1 0)] ((eI S) b) := zmet_of (by decide +kernel) rfl hz (Nat.le_of_ble_eq_true rfl) rfl (fun E _ _ hE B => x_X11_likeliestNow B hE S) h
abbrev rm_X11_likeliest : Room := { frames := 4, cells := 0, slots := 0, locals := 99 }
theorem y_X11_likeliest : yX11_likeliest.cls = RX11 ∧ yX11_likeliest.cls ≠ "java/lang/invoke/MethodHandle" ∧ yX11_likeliest.cls ≠ "java/lang/invoke/VarHandle" ∧ (parseMethodDescriptor yX11_likeliest.desc).map (fun d => d.parameters.length) = some 0 := by decide +kernel
set_option maxRecDepth 100000 in
set_option maxHeartbeats 4000000 in
theorem x_X11_likeliest {E : zCx} {g : zGx} (B : zGood E (WM g) (zT g) cX11_likeliest RX11 wsX11_likeliest (some .int) rm_X11_likeliest) (hE : E.2.2 = 1) (S : zSt) : Xo E (WM g) (eI S) S 0 [(0, .ref (g.1 0))] [] (F_X11_likeliest S) := by
  unfold F_X11_likeliest
  refine r_aload_n B 0 dX11_likeliest_0 rfl rfl ?_
  refine r_cI (zrunV (As := []) (rest := []) B 0 0 (fun b hb => k_X11_likeliestNow B.2.2.1 hb) gX11_likeliest_X11_likeliestNow rfl rfl rfl y_X11_likeliestNow ⟨Nat.le_of_ble_eq_true rfl, Nat.le_of_ble_eq_true rfl⟩ (Nat.le_of_ble_eq_true rfl) rfl (cM_0 g _) rfl rfl rfl (Nat.le_of_ble_eq_true rfl) dX11_likeliest_1) (fun r1 => ?_)
  exact r_iret B dX11_likeliest_4 rfl
set_option maxRecDepth 20000 in
theorem k_X11_likeliest {l : Launch} {D : va_G} {g : zGx} (hz : zin (WM g)) {S : zSt} {b : Int32} (h : F_X11_likeliest S = some b) : zMet l D (WM g) (zT g) yX11_likeliest wsX11_likeliest rm_X11_likeliest S [.ref (g.1 0)] ((eI S) b) := zmet_of (by decide +kernel) rfl hz (Nat.le_of_ble_eq_true rfl) rfl (fun E _ _ hE B => x_X11_likeliest B hE S) h
abbrev rm_X11_stay : Room := { frames := 1, cells := 0, slots := 0, locals := 22 }
theorem y_X11_stay : yX11_stay.cls = RX11 ∧ yX11_stay.cls ≠ "java/lang/invoke/MethodHandle" ∧ yX11_stay.cls ≠ "java/lang/invoke/VarHandle" ∧ (parseMethodDescriptor yX11_stay.desc).map (fun d => d.parameters.length) = some 2 := by decide +kernel
theorem m_X11_stay_f176 : Cond.fieldLink RX11 176 "LongestMetModel" "stays" "I" ∈ wsX11_stay := List.mem_cons_of_mem _ (List.mem_append_left _ (List.mem_of_getElem? (i := 0) rfl))
theorem m_X11_stay_inX11 : ∀ x ∈ u_ws RX11 TX11 27, x ∈ wsX11_stay := fun _ h => List.mem_cons_of_mem _ (List.mem_append_right _ h)
theorem m_X11_stay_f44 : Cond.fieldLink RX11 44 "LongestMetModel" "fromDay" "[I" ∈ wsX11_stay := List.mem_cons_of_mem _ (List.mem_append_left _ (List.mem_of_getElem? (i := 1) rfl))
theorem m_X11_stay_f47 : Cond.fieldLink RX11 47 "LongestMetModel" "toDay" "[I" ∈ wsX11_stay := List.mem_cons_of_mem _ (List.mem_append_left _ (List.mem_of_getElem? (i := 2) rfl))
set_option maxRecDepth 100000 in
set_option maxHeartbeats 4000000 in
theorem x_X11_stay {E : zCx} {g : zGx} (B : zGood E (WM g) (zT g) cX11_stay RX11 wsX11_stay (some .int) rm_X11_stay) (hE : E.2.2 = 3) (S : zSt) (a1 : Int32) (a2 : Int32) : Xo E (WM g) eIw S 0 [(0, .ref (g.1 0)), (1, .int a1), (2, .int a2)] [] (F_X11_stay S a1 a2) := by
  unfold F_X11_stay
  refine r_iload_n B 1 dX11_stay_0 rfl rfl ?_
  refine r_iconst B (0 : Int32) dX11_stay_1 (by decide) ?_
  refine r_bipush B (99 : Int32) dX11_stay_2 (by decide) ?_
  refine r_cI (zrunS (As := [.int a1, .int (0 : Int32), .int (99 : Int32)]) (rest := []) B 3 (fun b hb => k_X11_in B.2.2.1 hb) gX11_stay_X11_in rfl rfl rfl y_X11_in ⟨Nat.le_of_ble_eq_true rfl, Nat.le_of_ble_eq_true rfl⟩ rfl rfl (Nat.le_of_ble_eq_true rfl) dX11_stay_4) (fun r4 => ?_)
  refine r_if_eq B 28 dX11_stay_7 (by decide) (fun _ => ?_) (fun _ => ?_)
  · refine r_bipush B (-2 : Int32) dX11_stay_28 (by decide) ?_
    exact r_iret B dX11_stay_30 rfl
  · refine r_iload_n B 2 dX11_stay_10 rfl rfl ?_
    refine r_iload_n B 1 dX11_stay_11 rfl rfl ?_
    refine r_bipush B (99 : Int32) dX11_stay_12 (by decide) ?_
    refine r_cI (zrunS (As := [.int a2, .int a1, .int (99 : Int32)]) (rest := []) B 3 (fun b hb => k_X11_in B.2.2.1 hb) gX11_stay_X11_in rfl rfl rfl y_X11_in ⟨Nat.le_of_ble_eq_true rfl, Nat.le_of_ble_eq_true rfl⟩ rfl rfl (Nat.le_of_ble_eq_true rfl) dX11_stay_14) (fun r14 => ?_)
    refine r_if_eq B 28 dX11_stay_17 (by decide) (fun _ => ?_) (fun _ => ?_)
    · refine r_bipush B (-2 : Int32) dX11_stay_28 (by decide) ?_
      exact r_iret B dX11_stay_30 rfl
    · refine r_iload_n B 2 dX11_stay_20 rfl rfl ?_
      refine r_iload_n B 1 dX11_stay_21 rfl rfl ?_
      refine r_isub B dX11_stay_22 ?_
      refine r_bipush B (19 : Int32) dX11_stay_23 (by decide) ?_
      refine r_icmp_le B 31 dX11_stay_25 (by decide) (fun _ => ?_) (fun _ => ?_)
      · refine r_aload_n B 0 dX11_stay_31 rfl rfl ?_
        refine r_get B 0 10 15 (Nat.le_of_ble_eq_true rfl) rfl (cM_0 g _) rfl m_X11_stay_inX11 (Nat.le_of_ble_eq_true rfl) m_X11_stay_f176 rfl dX11_stay_32 ?_
        refine r_bipush B (24 : Int32) dX11_stay_35 (by decide) ?_
        refine r_icmp_ne B 43 dX11_stay_37 (by decide) (fun _ => ?_) (fun _ => ?_)
        · refine r_aload_n B 0 dX11_stay_43 rfl rfl ?_
          refine r_get B 0 10 16 (Nat.le_of_ble_eq_true rfl) rfl (cM_0 g _) rfl m_X11_stay_inX11 (Nat.le_of_ble_eq_true rfl) m_X11_stay_f44 rfl dX11_stay_44 ?_
          refine r_aload_n B 0 dX11_stay_47 rfl rfl ?_
          refine r_get B 0 10 15 (Nat.le_of_ble_eq_true rfl) rfl (cM_0 g _) rfl m_X11_stay_inX11 (Nat.le_of_ble_eq_true rfl) m_X11_stay_f176 rfl dX11_stay_48 ?_
          refine r_iload_n B 1 dX11_stay_51 rfl rfl ?_
          refine r_iast B 11 0 (Nat.le_of_ble_eq_true rfl) rfl (cM_11 g _) rfl (uM_11 g _ _) dX11_stay_52 (fun S52 => ?_)
          refine r_aload_n B 0 dX11_stay_53 rfl rfl ?_
          refine r_get B 0 10 17 (Nat.le_of_ble_eq_true rfl) rfl (cM_0 g _) rfl m_X11_stay_inX11 (Nat.le_of_ble_eq_true rfl) m_X11_stay_f47 rfl dX11_stay_54 ?_
          refine r_aload_n B 0 dX11_stay_57 rfl rfl ?_
          refine r_get B 0 10 15 (Nat.le_of_ble_eq_true rfl) rfl (cM_0 g _) rfl m_X11_stay_inX11 (Nat.le_of_ble_eq_true rfl) m_X11_stay_f176 rfl dX11_stay_58 ?_
          refine r_iload_n B 2 dX11_stay_61 rfl rfl ?_
          refine r_iast B 12 0 (Nat.le_of_ble_eq_true rfl) rfl (cM_12 g _) rfl (uM_12 g _ _) dX11_stay_62 (fun S62 => ?_)
          refine r_aload_n B 0 dX11_stay_63 rfl rfl ?_
          refine r_dup B rfl dX11_stay_64 ?_
          refine r_get B 0 10 15 (Nat.le_of_ble_eq_true rfl) rfl (cM_0 g _) rfl m_X11_stay_inX11 (Nat.le_of_ble_eq_true rfl) m_X11_stay_f176 rfl dX11_stay_65 ?_
          refine r_iconst B (1 : Int32) dX11_stay_68 (by decide) ?_
          refine r_iadd B dX11_stay_69 ?_
          refine r_put (ty := .int) B 0 10 15 tyX11 tyX11_ok nmX11 (Nat.le_of_ble_eq_true rfl) rfl (cM_0 g _) rfl m_X11_stay_inX11 (Nat.le_of_ble_eq_true rfl) m_X11_stay_f176 rfl (by decide +kernel) rfl rfl (Nat.le_of_ble_eq_true rfl) (pM_0_15 g _ _) dX11_stay_70 (fun S70 => ?_)
          refine r_aload_n B 0 dX11_stay_73 rfl rfl ?_
          refine r_get B 0 10 15 (Nat.le_of_ble_eq_true rfl) rfl (cM_0 g _) rfl m_X11_stay_inX11 (Nat.le_of_ble_eq_true rfl) m_X11_stay_f176 rfl dX11_stay_74 ?_
          refine r_iconst B (1 : Int32) dX11_stay_77 (by decide) ?_
          refine r_isub B dX11_stay_78 ?_
          exact r_iret B dX11_stay_79 rfl
        · refine r_bipush B (-4 : Int32) dX11_stay_40 (by decide) ?_
          exact r_iret B dX11_stay_42 rfl
      · refine r_bipush B (-2 : Int32) dX11_stay_28 (by decide) ?_
        exact r_iret B dX11_stay_30 rfl
set_option maxRecDepth 20000 in
theorem k_X11_stay {l : Launch} {D : va_G} {g : zGx} (hz : zin (WM g)) {S : zSt} {a1 : Int32} {a2 : Int32} {b : (Int32 × zSt)} (h : F_X11_stay S a1 a2 = some b) : zMet l D (WM g) (zT g) yX11_stay wsX11_stay rm_X11_stay S [.ref (g.1 0), .int a1, .int a2] (eIw b) := zmet_of (by decide +kernel) rfl hz (Nat.le_of_ble_eq_true rfl) rfl (fun E _ _ hE B => x_X11_stay B hE S a1 a2) h
abbrev rm_X11_leaves : Room := { frames := 1, cells := 0, slots := 0, locals := 22 }
theorem y_X11_leaves : yX11_leaves.cls = RX11 ∧ yX11_leaves.cls ≠ "java/lang/invoke/MethodHandle" ∧ yX11_leaves.cls ≠ "java/lang/invoke/VarHandle" ∧ (parseMethodDescriptor yX11_leaves.desc).map (fun d => d.parameters.length) = some 2 := by decide +kernel
theorem m_X11_leaves_f176 : Cond.fieldLink RX11 176 "LongestMetModel" "stays" "I" ∈ wsX11_leaves := List.mem_cons_of_mem _ (List.mem_append_left _ (List.mem_of_getElem? (i := 0) rfl))
theorem m_X11_leaves_inX11 : ∀ x ∈ u_ws RX11 TX11 27, x ∈ wsX11_leaves := fun _ h => List.mem_cons_of_mem _ (List.mem_append_right _ h)
theorem m_X11_leaves_f44 : Cond.fieldLink RX11 44 "LongestMetModel" "fromDay" "[I" ∈ wsX11_leaves := List.mem_cons_of_mem _ (List.mem_append_left _ (List.mem_of_getElem? (i := 1) rfl))
theorem m_X11_leaves_f47 : Cond.fieldLink RX11 47 "LongestMetModel" "toDay" "[I" ∈ wsX11_leaves := List.mem_cons_of_mem _ (List.mem_append_left _ (List.mem_of_getElem? (i := 2) rfl))
set_option maxRecDepth 100000 in
set_option maxHeartbeats 4000000 in
theorem x_X11_leaves {E : zCx} {g : zGx} (B : zGood E (WM g) (zT g) cX11_leaves RX11 wsX11_leaves (some .int) rm_X11_leaves) (hE : E.2.2 = 4) (S : zSt) (a1 : Int32) (a2 : Int32) : Xo E (WM g) eIw S 0 [(0, .ref (g.1 0)), (1, .int a1), (2, .int a2)] [] (F_X11_leaves S a1 a2) := by
  have n3 : 3 < E.2.2 := by rw [hE]; decide
  unfold F_X11_leaves
  refine r_iload_n B 1 dX11_leaves_0 rfl rfl ?_
  refine r_iconst B (0 : Int32) dX11_leaves_1 (by decide) ?_
  refine r_aload_n B 0 dX11_leaves_2 rfl rfl ?_
  refine r_get B 0 10 15 (Nat.le_of_ble_eq_true rfl) rfl (cM_0 g _) rfl m_X11_leaves_inX11 (Nat.le_of_ble_eq_true rfl) m_X11_leaves_f176 rfl dX11_leaves_3 ?_
  refine r_iconst B (1 : Int32) dX11_leaves_6 (by decide) ?_
  refine r_isub B dX11_leaves_7 ?_
  refine r_cI (zrunS (As := [.int a1, .int (0 : Int32), .int ((zI S 5) - (1 : Int32))]) (rest := []) B 3 (fun b hb => k_X11_in B.2.2.1 hb) gX11_leaves_X11_in rfl rfl rfl y_X11_in ⟨Nat.le_of_ble_eq_true rfl, Nat.le_of_ble_eq_true rfl⟩ rfl rfl (Nat.le_of_ble_eq_true rfl) dX11_leaves_8) (fun r8 => ?_)
  refine r_if_eq B 42 dX11_leaves_11 (by decide) (fun _ => ?_) (fun _ => ?_)
  · refine r_bipush B (-2 : Int32) dX11_leaves_42 (by decide) ?_
    exact r_iret B dX11_leaves_44 rfl
  · refine r_iload_n B 2 dX11_leaves_14 rfl rfl ?_
    refine r_aload_n B 0 dX11_leaves_15 rfl rfl ?_
    refine r_get B 0 10 16 (Nat.le_of_ble_eq_true rfl) rfl (cM_0 g _) rfl m_X11_leaves_inX11 (Nat.le_of_ble_eq_true rfl) m_X11_leaves_f44 rfl dX11_leaves_16 ?_
    refine r_iload_n B 1 dX11_leaves_19 rfl rfl ?_
    refine r_iald B 11 0 (Nat.le_of_ble_eq_true rfl) rfl (cM_11 g _) rfl dX11_leaves_20 ?_
    refine r_bipush B (99 : Int32) dX11_leaves_21 (by decide) ?_
    refine r_cI (zrunS (As := [.int a2, .int (zA S 11 a1.toNatClampNeg), .int (99 : Int32)]) (rest := []) B 3 (fun b hb => k_X11_in B.2.2.1 hb) gX11_leaves_X11_in rfl rfl rfl y_X11_in ⟨Nat.le_of_ble_eq_true rfl, Nat.le_of_ble_eq_true rfl⟩ rfl rfl (Nat.le_of_ble_eq_true rfl) dX11_leaves_23) (fun r23 => ?_)
    refine r_if_eq B 42 dX11_leaves_26 (by decide) (fun _ => ?_) (fun _ => ?_)
    · refine r_bipush B (-2 : Int32) dX11_leaves_42 (by decide) ?_
      exact r_iret B dX11_leaves_44 rfl
    · refine r_iload_n B 2 dX11_leaves_29 rfl rfl ?_
      refine r_aload_n B 0 dX11_leaves_30 rfl rfl ?_
      refine r_get B 0 10 16 (Nat.le_of_ble_eq_true rfl) rfl (cM_0 g _) rfl m_X11_leaves_inX11 (Nat.le_of_ble_eq_true rfl) m_X11_leaves_f44 rfl dX11_leaves_31 ?_
      refine r_iload_n B 1 dX11_leaves_34 rfl rfl ?_
      refine r_iald B 11 0 (Nat.le_of_ble_eq_true rfl) rfl (cM_11 g _) rfl dX11_leaves_35 ?_
      refine r_isub B dX11_leaves_36 ?_
      refine r_bipush B (19 : Int32) dX11_leaves_37 (by decide) ?_
      refine r_icmp_le B 45 dX11_leaves_39 (by decide) (fun _ => ?_) (fun _ => ?_)
      · refine r_aload_n B 0 dX11_leaves_45 rfl rfl ?_
        refine r_get B 0 10 17 (Nat.le_of_ble_eq_true rfl) rfl (cM_0 g _) rfl m_X11_leaves_inX11 (Nat.le_of_ble_eq_true rfl) m_X11_leaves_f47 rfl dX11_leaves_46 ?_
        refine r_iload_n B 1 dX11_leaves_49 rfl rfl ?_
        refine r_iald B 12 0 (Nat.le_of_ble_eq_true rfl) rfl (cM_12 g _) rfl dX11_leaves_50 ?_
        refine r_istore_n (lv' := fun x3_51 => [(3, .int x3_51), (0, .ref (g.1 0)), (1, .int a1), (2, .int a2)]) B dX11_leaves_51 rfl n3 (fun _ => rfl) (fun x3_51 => ?_)
        refine r_aload_n B 1 dX11_leaves_52 rfl rfl ?_
        refine r_get B 0 10 17 (Nat.le_of_ble_eq_true rfl) rfl (cM_0 g _) rfl m_X11_leaves_inX11 (Nat.le_of_ble_eq_true rfl) m_X11_leaves_f47 rfl dX11_leaves_53 ?_
        refine r_iload_n B 2 dX11_leaves_56 rfl rfl ?_
        refine r_iload_n B 3 dX11_leaves_57 rfl rfl ?_
        refine r_iast B 12 0 (Nat.le_of_ble_eq_true rfl) rfl (cM_12 g _) rfl (uM_12 g _ _) dX11_leaves_58 (fun S58 => ?_)
        refine r_iload_n B 0 dX11_leaves_59 rfl rfl ?_
        exact r_iret B dX11_leaves_60 rfl
      · refine r_bipush B (-2 : Int32) dX11_leaves_42 (by decide) ?_
        exact r_iret B dX11_leaves_44 rfl
set_option maxRecDepth 20000 in
theorem k_X11_leaves {l : Launch} {D : va_G} {g : zGx} (hz : zin (WM g)) {S : zSt} {a1 : Int32} {a2 : Int32} {b : (Int32 × zSt)} (h : F_X11_leaves S a1 a2 = some b) : zMet l D (WM g) (zT g) yX11_leaves wsX11_leaves rm_X11_leaves S [.ref (g.1 0), .int a1, .int a2] (eIw b) := zmet_of (by decide +kernel) rfl hz (Nat.le_of_ble_eq_true rfl) rfl (fun E _ _ hE B => x_X11_leaves B hE S a1 a2) h
abbrev rm_X11_lengthOf : Room := { frames := 0, cells := 0, slots := 0, locals := 0 }
theorem y_X11_lengthOf : yX11_lengthOf.cls = RX11 ∧ yX11_lengthOf.cls ≠ "java/lang/invoke/MethodHandle" ∧ yX11_lengthOf.cls ≠ "java/lang/invoke/VarHandle" ∧ (parseMethodDescriptor yX11_lengthOf.desc).map (fun d => d.parameters.length) = some 1 := by decide +kernel
theorem m_X11_lengthOf_f47 : Cond.fieldLink RX11 47 "LongestMetModel" "toDay" "[I" ∈ wsX11_lengthOf := List.mem_cons_of_mem _ (List.mem_append_left _ (List.mem_of_getElem? (i := 0) rfl))
theorem m_X11_lengthOf_inX11 : ∀ x ∈ u_ws RX11 TX11 27, x ∈ wsX11_lengthOf := fun _ h => List.mem_cons_of_mem _ (List.mem_append_right _ h)
theorem m_X11_lengthOf_f44 : Cond.fieldLink RX11 44 "LongestMetModel" "fromDay" "[I" ∈ wsX11_lengthOf := List.mem_cons_of_mem _ (List.mem_append_left _ (List.mem_of_getElem? (i := 1) rfl))
set_option maxRecDepth 100000 in
set_option maxHeartbeats 4000000 in
theorem x_X11_lengthOf {E : zCx} {g : zGx} (B : zGood E (WM g) (zT g) cX11_lengthOf RX11 wsX11_lengthOf (some .int) rm_X11_lengthOf) (hE : E.2.2 = 2) (S : zSt) (a1 : Int32) : Xo E (WM g) (eI S) S 0 [(0, .ref (g.1 0)), (1, .int a1)] [] (F_X11_lengthOf S a1) := by
  unfold F_X11_lengthOf
  refine r_aload_n B 0 dX11_lengthOf_0 rfl rfl ?_
  refine r_get B 0 10 17 (Nat.le_of_ble_eq_true rfl) rfl (cM_0 g _) rfl m_X11_lengthOf_inX11 (Nat.le_of_ble_eq_true rfl) m_X11_lengthOf_f47 rfl dX11_lengthOf_1 ?_
  refine r_iload_n B 1 dX11_lengthOf_4 rfl rfl ?_
  refine r_iald B 12 0 (Nat.le_of_ble_eq_true rfl) rfl (cM_12 g _) rfl dX11_lengthOf_5 ?_
  refine r_aload_n B 0 dX11_lengthOf_6 rfl rfl ?_
  refine r_get B 0 10 16 (Nat.le_of_ble_eq_true rfl) rfl (cM_0 g _) rfl m_X11_lengthOf_inX11 (Nat.le_of_ble_eq_true rfl) m_X11_lengthOf_f44 rfl dX11_lengthOf_7 ?_
  refine r_iload_n B 1 dX11_lengthOf_10 rfl rfl ?_
  refine r_iald B 11 0 (Nat.le_of_ble_eq_true rfl) rfl (cM_11 g _) rfl dX11_lengthOf_11 ?_
  refine r_isub B dX11_lengthOf_12 ?_
  refine r_iconst B (1 : Int32) dX11_lengthOf_13 (by decide) ?_
  refine r_iadd B dX11_lengthOf_14 ?_
  exact r_iret B dX11_lengthOf_15 rfl
set_option maxRecDepth 20000 in
theorem k_X11_lengthOf {l : Launch} {D : va_G} {g : zGx} (hz : zin (WM g)) {S : zSt} {a1 : Int32} {b : Int32} (h : F_X11_lengthOf S a1 = some b) : zMet l D (WM g) (zT g) yX11_lengthOf wsX11_lengthOf rm_X11_lengthOf S [.ref (g.1 0), .int a1] ((eI S) b) := zmet_of (by decide +kernel) rfl hz (Nat.le_of_ble_eq_true rfl) rfl (fun E _ _ hE B => x_X11_lengthOf B hE S a1) h
abbrev rm_X11_daysIn : Room := { frames := 0, cells := 0, slots := 0, locals := 0 }
theorem y_X11_daysIn : yX11_daysIn.cls = RX11 ∧ yX11_daysIn.cls ≠ "java/lang/invoke/MethodHandle" ∧ yX11_daysIn.cls ≠ "java/lang/invoke/VarHandle" ∧ (parseMethodDescriptor yX11_daysIn.desc).map (fun d => d.parameters.length) = some 3 := by decide +kernel
theorem m_X11_daysIn_f44 : Cond.fieldLink RX11 44 "LongestMetModel" "fromDay" "[I" ∈ wsX11_daysIn := List.mem_cons_of_mem _ (List.mem_append_left _ (List.mem_of_getElem? (i := 0) rfl))
theorem m_X11_daysIn_inX11 : ∀ x ∈ u_ws RX11 TX11 27, x ∈ wsX11_daysIn := fun _ h => List.mem_cons_of_mem _ (List.mem_append_right _ h)
theorem m_X11_daysIn_f47 : Cond.fieldLink RX11 47 "LongestMetModel" "toDay" "[I" ∈ wsX11_daysIn := List.mem_cons_of_mem _ (List.mem_append_left _ (List.mem_of_getElem? (i := 1) rfl))
set_option maxRecDepth 100000 in
set_option maxHeartbeats 4000000 in
theorem x_X11_daysIn {E : zCx} {g : zGx} (B : zGood E (WM g) (zT g) cX11_daysIn RX11 wsX11_daysIn (some .int) rm_X11_daysIn) (hE : E.2.2 = 6) (S : zSt) (a1 : Int32) (a2 : Int32) (a3 : Int32) : Xo E (WM g) (eI S) S 0 [(0, .ref (g.1 0)), (1, .int a1), (2, .int a2), (3, .int a3)] [] (F_X11_daysIn S a1 a2 a3) := by
  have n4 : 4 < E.2.2 := by rw [hE]; decide
  have n5 : 5 < E.2.2 := by rw [hE]; decide
  unfold F_X11_daysIn
  refine r_aload_n B 0 dX11_daysIn_0 rfl rfl ?_
  refine r_get B 0 10 16 (Nat.le_of_ble_eq_true rfl) rfl (cM_0 g _) rfl m_X11_daysIn_inX11 (Nat.le_of_ble_eq_true rfl) m_X11_daysIn_f44 rfl dX11_daysIn_1 ?_
  refine r_iload_n B 1 dX11_daysIn_4 rfl rfl ?_
  refine r_iald B 11 0 (Nat.le_of_ble_eq_true rfl) rfl (cM_11 g _) rfl dX11_daysIn_5 ?_
  refine r_iload_n B 2 dX11_daysIn_6 rfl rfl ?_
  refine r_jn2 (P := fun j20 : Int32 → Option Int32 => ∀ (y0_20 : Int32), Xo E (WM g) (eI S) S 20 [(0, .ref (g.1 0)), (1, .int a1), (3, .int a3)] [.int y0_20] (j20 y0_20)) ?_ (fun j20 hj20 => ?_)
  · intro y0_20
    refine r_istore (lv' := fun x4_20 => [(4, .int x4_20), (0, .ref (g.1 0)), (1, .int a1), (3, .int a3)]) B dX11_daysIn_20 n4 (fun _ => rfl) (fun x4_20 => ?_)
    refine r_aload_n B 1 dX11_daysIn_22 rfl rfl ?_
    refine r_get B 0 10 17 (Nat.le_of_ble_eq_true rfl) rfl (cM_0 g _) rfl m_X11_daysIn_inX11 (Nat.le_of_ble_eq_true rfl) m_X11_daysIn_f47 rfl dX11_daysIn_23 ?_
    refine r_iload_n B 2 dX11_daysIn_26 rfl rfl ?_
    refine r_iald B 12 0 (Nat.le_of_ble_eq_true rfl) rfl (cM_12 g _) rfl dX11_daysIn_27 ?_
    refine r_iload_n B 3 dX11_daysIn_28 rfl rfl ?_
    refine r_jn2 (P := fun j42 : Int32 → Option Int32 => ∀ (y0_42 : Int32), Xo E (WM g) (eI S) S 42 [(4, .int x4_20)] [.int y0_42] (j42 y0_42)) ?_ (fun j42 hj42 => ?_)
    · intro y0_42
      refine r_istore (lv' := fun x5_42 => [(5, .int x5_42), (4, .int x4_20)]) B dX11_daysIn_42 n5 (fun _ => rfl) (fun x5_42 => ?_)
      refine r_iload B 0 dX11_daysIn_44 rfl ?_
      refine r_iload B 1 dX11_daysIn_46 rfl ?_
      refine r_icmp_ge B 55 dX11_daysIn_48 (by decide) (fun _ => ?_) (fun _ => ?_)
      · refine r_iload B 0 dX11_daysIn_55 rfl ?_
        refine r_iload B 1 dX11_daysIn_57 rfl ?_
        refine r_isub B dX11_daysIn_59 ?_
        refine r_iconst B (1 : Int32) dX11_daysIn_60 (by decide) ?_
        refine r_iadd B dX11_daysIn_61 ?_
        exact r_iret B dX11_daysIn_62 rfl
      · refine r_iconst B (0 : Int32) dX11_daysIn_51 (by decide) ?_
        refine r_goto B 62 dX11_daysIn_52 (by decide) ?_
        exact r_iret B dX11_daysIn_62 rfl
    refine r_icmp_ge B 41 dX11_daysIn_29 (by decide) (fun _ => ?_) (fun _ => ?_)
    · refine r_iload_n B 3 dX11_daysIn_41 rfl rfl ?_
      refine r_sub [0] rfl ?_
      exact hj42 a3
    · refine r_aload_n B 1 dX11_daysIn_32 rfl rfl ?_
      refine r_get B 0 10 17 (Nat.le_of_ble_eq_true rfl) rfl (cM_0 g _) rfl m_X11_daysIn_inX11 (Nat.le_of_ble_eq_true rfl) m_X11_daysIn_f47 rfl dX11_daysIn_33 ?_
      refine r_iload_n B 2 dX11_daysIn_36 rfl rfl ?_
      refine r_iald B 12 0 (Nat.le_of_ble_eq_true rfl) rfl (cM_12 g _) rfl dX11_daysIn_37 ?_
      refine r_goto B 42 dX11_daysIn_38 (by decide) ?_
      refine r_sub [0] rfl ?_
      exact hj42 (zA S 12 a1.toNatClampNeg)
  refine r_icmp_le B 19 dX11_daysIn_7 (by decide) (fun _ => ?_) (fun _ => ?_)
  · refine r_iload_n B 2 dX11_daysIn_19 rfl rfl ?_
    refine r_sub [0, 1, 3] rfl ?_
    exact hj20 a2
  · refine r_aload_n B 0 dX11_daysIn_10 rfl rfl ?_
    refine r_get B 0 10 16 (Nat.le_of_ble_eq_true rfl) rfl (cM_0 g _) rfl m_X11_daysIn_inX11 (Nat.le_of_ble_eq_true rfl) m_X11_daysIn_f44 rfl dX11_daysIn_11 ?_
    refine r_iload_n B 1 dX11_daysIn_14 rfl rfl ?_
    refine r_iald B 11 0 (Nat.le_of_ble_eq_true rfl) rfl (cM_11 g _) rfl dX11_daysIn_15 ?_
    refine r_goto B 20 dX11_daysIn_16 (by decide) ?_
    refine r_sub [0, 1, 3] rfl ?_
    exact hj20 (zA S 11 a1.toNatClampNeg)
set_option maxRecDepth 20000 in
theorem k_X11_daysIn {l : Launch} {D : va_G} {g : zGx} (hz : zin (WM g)) {S : zSt} {a1 : Int32} {a2 : Int32} {a3 : Int32} {b : Int32} (h : F_X11_daysIn S a1 a2 a3 = some b) : zMet l D (WM g) (zT g) yX11_daysIn wsX11_daysIn rm_X11_daysIn S [.ref (g.1 0), .int a1, .int a2, .int a3] ((eI S) b) := zmet_of (by decide +kernel) rfl hz (Nat.le_of_ble_eq_true rfl) rfl (fun E _ _ hE B => x_X11_daysIn B hE S a1 a2 a3) h
abbrev rm_X11_wardOf : Room := { frames := 1, cells := 0, slots := 0, locals := 25 }
theorem y_X11_wardOf : yX11_wardOf.cls = RX11 ∧ yX11_wardOf.cls ≠ "java/lang/invoke/MethodHandle" ∧ yX11_wardOf.cls ≠ "java/lang/invoke/VarHandle" ∧ (parseMethodDescriptor yX11_wardOf.desc).map (fun d => d.parameters.length) = some 3 := by decide +kernel
theorem m_X11_wardOf_f176 : Cond.fieldLink RX11 176 "LongestMetModel" "stays" "I" ∈ wsX11_wardOf := List.mem_cons_of_mem _ (List.mem_append_left _ (List.mem_of_getElem? (i := 0) rfl))
theorem m_X11_wardOf_inX11 : ∀ x ∈ u_ws RX11 TX11 27, x ∈ wsX11_wardOf := fun _ h => List.mem_cons_of_mem _ (List.mem_append_right _ h)
theorem m_X11_wardOf_f44 : Cond.fieldLink RX11 44 "LongestMetModel" "fromDay" "[I" ∈ wsX11_wardOf := List.mem_cons_of_mem _ (List.mem_append_left _ (List.mem_of_getElem? (i := 1) rfl))
theorem m_X11_wardOf_c185 : Cond.constantLong RX11 185 (232792560) ∈ wsX11_wardOf := List.mem_cons_of_mem _ (List.mem_append_left _ (List.mem_of_getElem? (i := 2) rfl))
set_option maxRecDepth 100000 in
set_option maxHeartbeats 4000000 in
theorem xL_X11_wardOf_6 {E : zCx} {g : zGx} (B : zGood E (WM g) (zT g) cX11_wardOf RX11 wsX11_wardOf (some .long) rm_X11_wardOf) (hE : E.2.2 = 10) (S : zSt) (a1 : Int32) (a2 : Int32) (a3 : Int32) (k : Int64 → Option Int64) (hk : ∀ (w4 : Int64), Xo E (WM g) (eL S) S 211 [(4, .long w4)] [] (k w4)) : ∀ (n : Nat) (v4_6 : Int64) (v6_6 : Int32), Xo E (WM g) (eL S) S 6 [(0, .ref (g.1 0)), (1, .int a1), (2, .int a2), (3, .int a3), (4, .long v4_6), (6, .int v6_6)] [] (L_X11_wardOf_6 S a1 a2 a3 k n v4_6 v6_6) := by
  have nn4 : 4 + 1 < E.2.2 := by rw [hE]; decide
  have n6 : 6 < E.2.2 := by rw [hE]; decide
  have n7 : 7 < E.2.2 := by rw [hE]; decide
  have n8 : 8 < E.2.2 := by rw [hE]; decide
  have n9 : 9 < E.2.2 := by rw [hE]; decide
  intro n
  induction n with
  | zero =>
    intro _ _
    exact r_none
  | succ n ih =>
    intro v4_6 v6_6
    rw [L_X11_wardOf_6]
    refine r_iload B 5 dX11_wardOf_6 rfl ?_
    refine r_aload_n B 0 dX11_wardOf_8 rfl rfl ?_
    refine r_get B 0 10 15 (Nat.le_of_ble_eq_true rfl) rfl (cM_0 g _) rfl m_X11_wardOf_inX11 (Nat.le_of_ble_eq_true rfl) m_X11_wardOf_f176 rfl dX11_wardOf_9 ?_
    refine r_icmp_ge B 211 dX11_wardOf_12 (by decide) (fun _ => ?_) (fun _ => ?_)
    · refine r_sub [4] rfl ?_
      exact hk v4_6
    · refine r_aload_n B 0 dX11_wardOf_15 rfl rfl ?_
      refine r_iload B 5 dX11_wardOf_16 rfl ?_
      refine r_iload_n B 1 dX11_wardOf_18 rfl rfl ?_
      refine r_iload_n B 2 dX11_wardOf_19 rfl rfl ?_
      refine r_cI (zrunV (As := [.int v6_6, .int a1, .int a2]) (rest := []) B 3 0 (fun b hb => k_X11_daysIn B.2.2.1 hb) gX11_wardOf_X11_daysIn rfl rfl rfl y_X11_daysIn ⟨Nat.le_of_ble_eq_true rfl, Nat.le_of_ble_eq_true rfl⟩ (Nat.le_of_ble_eq_true rfl) rfl (cM_0 g _) rfl rfl rfl (Nat.le_of_ble_eq_true rfl) dX11_wardOf_20) (fun r20 => ?_)
      refine r_istore (lv' := fun x7_23 => [(7, .int x7_23), (0, .ref (g.1 0)), (1, .int a1), (2, .int a2), (3, .int a3), (4, .long v4_6), (6, .int v6_6)]) B dX11_wardOf_23 n7 (fun _ => rfl) (fun x7_23 => ?_)
      refine r_aload_n B 1 dX11_wardOf_25 rfl rfl ?_
      refine r_iload B 6 dX11_wardOf_26 rfl ?_
      refine r_cI (zrunV (As := [.int v6_6]) (rest := []) B 1 0 (fun b hb => k_X11_lengthOf B.2.2.1 hb) gX11_wardOf_X11_lengthOf rfl rfl rfl y_X11_lengthOf ⟨Nat.le_of_ble_eq_true rfl, Nat.le_of_ble_eq_true rfl⟩ (Nat.le_of_ble_eq_true rfl) rfl (cM_0 g _) rfl rfl rfl (Nat.le_of_ble_eq_true rfl) dX11_wardOf_28) (fun r28 => ?_)
      refine r_istore (lv' := fun x8_31 => [(8, .int x8_31), (7, .int x7_23), (0, .ref (g.1 0)), (1, .int a1), (2, .int a2), (3, .int a3), (4, .long v4_6), (6, .int v6_6)]) B dX11_wardOf_31 n8 (fun _ => rfl) (fun x8_31 => ?_)
      refine r_aload_n B 2 dX11_wardOf_33 rfl rfl ?_
      refine r_get B 0 10 16 (Nat.le_of_ble_eq_true rfl) rfl (cM_0 g _) rfl m_X11_wardOf_inX11 (Nat.le_of_ble_eq_true rfl) m_X11_wardOf_f44 rfl dX11_wardOf_34 ?_
      refine r_iload B 7 dX11_wardOf_37 rfl ?_
      refine r_iald B 11 0 (Nat.le_of_ble_eq_true rfl) rfl (cM_11 g _) rfl dX11_wardOf_39 ?_
      refine r_iload_n B 3 dX11_wardOf_40 rfl rfl ?_
      refine r_iload_n B 4 dX11_wardOf_41 rfl rfl ?_
      refine r_cI (zrunS (As := [.int (zA S 11 v6_6.toNatClampNeg), .int a1, .int a2]) (rest := []) B 3 (fun b hb => k_X11_in B.2.2.1 hb) gX11_wardOf_X11_in rfl rfl rfl y_X11_in ⟨Nat.le_of_ble_eq_true rfl, Nat.le_of_ble_eq_true rfl⟩ rfl rfl (Nat.le_of_ble_eq_true rfl) dX11_wardOf_42) (fun r42 => ?_)
      refine r_istore (lv' := fun x9_45 => [(9, .int x9_45), (8, .int x8_31), (7, .int x7_23), (0, .ref (g.1 0)), (1, .int a1), (2, .int a2), (3, .int a3), (4, .long v4_6), (6, .int v6_6)]) B dX11_wardOf_45 n9 (fun _ => rfl) (fun x9_45 => ?_)
      refine r_iload_n B 6 dX11_wardOf_47 rfl rfl ?_
      refine r_swc (0 : Int32) ?_ (fun h48_0 => ?_)
      · refine r_tabIn B 88 dX11_wardOf_48 (by decide) (by decide) rfl (by decide) ?_
        refine r_lload B 7 dX11_wardOf_88 rfl ?_
        refine r_iload B 0 dX11_wardOf_90 rfl ?_
        refine r_if_eq B 99 dX11_wardOf_92 (by decide) (fun _ => ?_) (fun _ => ?_)
        · refine r_lconst B (0 : Int64) dX11_wardOf_99 (by decide) ?_
          refine r_ladd B dX11_wardOf_100 ?_
          refine r_lstore (lv' := fun x4_101 => [(4, .long x4_101), (9, .int x9_45), (8, .int x8_31), (7, .int x7_23), (0, .ref (g.1 0)), (1, .int a1), (2, .int a2), (3, .int a3), (6, .int v6_6)]) B dX11_wardOf_101 nn4 (fun _ => rfl) (fun x4_101 => ?_)
          refine r_goto B 205 dX11_wardOf_103 (by decide) ?_
          refine r_iinc (lv' := fun x6_205 => [(6, .int x6_205), (4, .long x4_101), (9, .int x9_45), (8, .int x8_31), (7, .int x7_23), (0, .ref (g.1 0)), (1, .int a1), (2, .int a2), (3, .int a3)]) B 8 (1 : Int32) dX11_wardOf_205 rfl (by decide) n6 (fun _ => rfl) (fun x6_205 => ?_)
          refine r_goto B 6 dX11_wardOf_208 (by decide) ?_
          refine r_sub [5, 6, 7, 8, 1, 0] rfl ?_
          exact ih x4_101 x6_205
        · refine r_lconst B (1 : Int64) dX11_wardOf_95 (by decide) ?_
          refine r_goto B 100 dX11_wardOf_96 (by decide) ?_
          refine r_ladd B dX11_wardOf_100 ?_
          refine r_lstore (lv' := fun x4_101 => [(4, .long x4_101), (9, .int x9_45), (8, .int x8_31), (7, .int x7_23), (0, .ref (g.1 0)), (1, .int a1), (2, .int a2), (3, .int a3), (6, .int v6_6)]) B dX11_wardOf_101 nn4 (fun _ => rfl) (fun x4_101 => ?_)
          refine r_goto B 205 dX11_wardOf_103 (by decide) ?_
          refine r_iinc (lv' := fun x6_205 => [(6, .int x6_205), (4, .long x4_101), (9, .int x9_45), (8, .int x8_31), (7, .int x7_23), (0, .ref (g.1 0)), (1, .int a1), (2, .int a2), (3, .int a3)]) B 8 (1 : Int32) dX11_wardOf_205 rfl (by decide) n6 (fun _ => rfl) (fun x6_205 => ?_)
          refine r_goto B 6 dX11_wardOf_208 (by decide) ?_
          refine r_sub [5, 6, 7, 8, 1, 0] rfl ?_
          exact ih x4_101 x6_205
      refine r_swc (1 : Int32) ?_ (fun h48_1 => ?_)
      · refine r_tabIn B 106 dX11_wardOf_48 (by decide) (by decide) rfl (by decide) ?_
        refine r_lload B 7 dX11_wardOf_106 rfl ?_
        refine r_iload B 2 dX11_wardOf_108 rfl ?_
        refine r_if_le B 117 dX11_wardOf_110 (by decide) (fun _ => ?_) (fun _ => ?_)
        · refine r_lconst B (0 : Int64) dX11_wardOf_117 (by decide) ?_
          refine r_ladd B dX11_wardOf_118 ?_
          refine r_lstore (lv' := fun x4_119 => [(4, .long x4_119), (9, .int x9_45), (8, .int x8_31), (7, .int x7_23), (0, .ref (g.1 0)), (1, .int a1), (2, .int a2), (3, .int a3), (6, .int v6_6)]) B dX11_wardOf_119 nn4 (fun _ => rfl) (fun x4_119 => ?_)
          refine r_goto B 205 dX11_wardOf_121 (by decide) ?_
          refine r_iinc (lv' := fun x6_205 => [(6, .int x6_205), (4, .long x4_119), (9, .int x9_45), (8, .int x8_31), (7, .int x7_23), (0, .ref (g.1 0)), (1, .int a1), (2, .int a2), (3, .int a3)]) B 8 (1 : Int32) dX11_wardOf_205 rfl (by decide) n6 (fun _ => rfl) (fun x6_205 => ?_)
          refine r_goto B 6 dX11_wardOf_208 (by decide) ?_
          refine r_sub [5, 6, 7, 8, 1, 0] rfl ?_
          exact ih x4_119 x6_205
        · refine r_lconst B (1 : Int64) dX11_wardOf_113 (by decide) ?_
          refine r_goto B 118 dX11_wardOf_114 (by decide) ?_
          refine r_ladd B dX11_wardOf_118 ?_
          refine r_lstore (lv' := fun x4_119 => [(4, .long x4_119), (9, .int x9_45), (8, .int x8_31), (7, .int x7_23), (0, .ref (g.1 0)), (1, .int a1), (2, .int a2), (3, .int a3), (6, .int v6_6)]) B dX11_wardOf_119 nn4 (fun _ => rfl) (fun x4_119 => ?_)
          refine r_goto B 205 dX11_wardOf_121 (by decide) ?_
          refine r_iinc (lv' := fun x6_205 => [(6, .int x6_205), (4, .long x4_119), (9, .int x9_45), (8, .int x8_31), (7, .int x7_23), (0, .ref (g.1 0)), (1, .int a1), (2, .int a2), (3, .int a3)]) B 8 (1 : Int32) dX11_wardOf_205 rfl (by decide) n6 (fun _ => rfl) (fun x6_205 => ?_)
          refine r_goto B 6 dX11_wardOf_208 (by decide) ?_
          refine r_sub [5, 6, 7, 8, 1, 0] rfl ?_
          exact ih x4_119 x6_205
      refine r_swc (2 : Int32) ?_ (fun h48_2 => ?_)
      · refine r_tabIn B 124 dX11_wardOf_48 (by decide) (by decide) rfl (by decide) ?_
        refine r_lload B 7 dX11_wardOf_124 rfl ?_
        refine r_iload B 2 dX11_wardOf_126 rfl ?_
        refine r_i2l B dX11_wardOf_128 ?_
        refine r_ladd B dX11_wardOf_129 ?_
        refine r_lstore (lv' := fun x4_130 => [(4, .long x4_130), (9, .int x9_45), (8, .int x8_31), (7, .int x7_23), (0, .ref (g.1 0)), (1, .int a1), (2, .int a2), (3, .int a3), (6, .int v6_6)]) B dX11_wardOf_130 nn4 (fun _ => rfl) (fun x4_130 => ?_)
        refine r_goto B 205 dX11_wardOf_132 (by decide) ?_
        refine r_iinc (lv' := fun x6_205 => [(6, .int x6_205), (4, .long x4_130), (9, .int x9_45), (8, .int x8_31), (7, .int x7_23), (0, .ref (g.1 0)), (1, .int a1), (2, .int a2), (3, .int a3)]) B 8 (1 : Int32) dX11_wardOf_205 rfl (by decide) n6 (fun _ => rfl) (fun x6_205 => ?_)
        refine r_goto B 6 dX11_wardOf_208 (by decide) ?_
        refine r_sub [5, 6, 7, 8, 1, 0] rfl ?_
        exact ih x4_130 x6_205
      refine r_swc (3 : Int32) ?_ (fun h48_3 => ?_)
      · refine r_tabIn B 135 dX11_wardOf_48 (by decide) (by decide) rfl (by decide) ?_
        refine r_lload B 7 dX11_wardOf_135 rfl ?_
        refine r_iload B 0 dX11_wardOf_137 rfl ?_
        refine r_if_eq B 148 dX11_wardOf_139 (by decide) (fun _ => ?_) (fun _ => ?_)
        · refine r_lconst B (0 : Int64) dX11_wardOf_148 (by decide) ?_
          refine r_ladd B dX11_wardOf_149 ?_
          refine r_lstore (lv' := fun x4_150 => [(4, .long x4_150), (9, .int x9_45), (8, .int x8_31), (7, .int x7_23), (0, .ref (g.1 0)), (1, .int a1), (2, .int a2), (3, .int a3), (6, .int v6_6)]) B dX11_wardOf_150 nn4 (fun _ => rfl) (fun x4_150 => ?_)
          refine r_goto B 205 dX11_wardOf_152 (by decide) ?_
          refine r_iinc (lv' := fun x6_205 => [(6, .int x6_205), (4, .long x4_150), (9, .int x9_45), (8, .int x8_31), (7, .int x7_23), (0, .ref (g.1 0)), (1, .int a1), (2, .int a2), (3, .int a3)]) B 8 (1 : Int32) dX11_wardOf_205 rfl (by decide) n6 (fun _ => rfl) (fun x6_205 => ?_)
          refine r_goto B 6 dX11_wardOf_208 (by decide) ?_
          refine r_sub [5, 6, 7, 8, 1, 0] rfl ?_
          exact ih x4_150 x6_205
        · refine r_iload B 1 dX11_wardOf_142 rfl ?_
          refine r_i2l B dX11_wardOf_144 ?_
          refine r_goto B 149 dX11_wardOf_145 (by decide) ?_
          refine r_ladd B dX11_wardOf_149 ?_
          refine r_lstore (lv' := fun x4_150 => [(4, .long x4_150), (9, .int x9_45), (8, .int x8_31), (7, .int x7_23), (0, .ref (g.1 0)), (1, .int a1), (2, .int a2), (3, .int a3), (6, .int v6_6)]) B dX11_wardOf_150 nn4 (fun _ => rfl) (fun x4_150 => ?_)
          refine r_goto B 205 dX11_wardOf_152 (by decide) ?_
          refine r_iinc (lv' := fun x6_205 => [(6, .int x6_205), (4, .long x4_150), (9, .int x9_45), (8, .int x8_31), (7, .int x7_23), (0, .ref (g.1 0)), (1, .int a1), (2, .int a2), (3, .int a3)]) B 8 (1 : Int32) dX11_wardOf_205 rfl (by decide) n6 (fun _ => rfl) (fun x6_205 => ?_)
          refine r_goto B 6 dX11_wardOf_208 (by decide) ?_
          refine r_sub [5, 6, 7, 8, 1, 0] rfl ?_
          exact ih x4_150 x6_205
      refine r_swc (4 : Int32) ?_ (fun h48_4 => ?_)
      · refine r_tabIn B 155 dX11_wardOf_48 (by decide) (by decide) rfl (by decide) ?_
        refine r_lload B 7 dX11_wardOf_155 rfl ?_
        refine r_iload B 2 dX11_wardOf_157 rfl ?_
        refine r_if_le B 168 dX11_wardOf_159 (by decide) (fun _ => ?_) (fun _ => ?_)
        · refine r_lconst B (0 : Int64) dX11_wardOf_168 (by decide) ?_
          refine r_ladd B dX11_wardOf_169 ?_
          refine r_lstore (lv' := fun x4_170 => [(4, .long x4_170), (9, .int x9_45), (8, .int x8_31), (7, .int x7_23), (0, .ref (g.1 0)), (1, .int a1), (2, .int a2), (3, .int a3), (6, .int v6_6)]) B dX11_wardOf_170 nn4 (fun _ => rfl) (fun x4_170 => ?_)
          refine r_goto B 205 dX11_wardOf_172 (by decide) ?_
          refine r_iinc (lv' := fun x6_205 => [(6, .int x6_205), (4, .long x4_170), (9, .int x9_45), (8, .int x8_31), (7, .int x7_23), (0, .ref (g.1 0)), (1, .int a1), (2, .int a2), (3, .int a3)]) B 8 (1 : Int32) dX11_wardOf_205 rfl (by decide) n6 (fun _ => rfl) (fun x6_205 => ?_)
          refine r_goto B 6 dX11_wardOf_208 (by decide) ?_
          refine r_sub [5, 6, 7, 8, 1, 0] rfl ?_
          exact ih x4_170 x6_205
        · refine r_iload B 1 dX11_wardOf_162 rfl ?_
          refine r_i2l B dX11_wardOf_164 ?_
          refine r_goto B 169 dX11_wardOf_165 (by decide) ?_
          refine r_ladd B dX11_wardOf_169 ?_
          refine r_lstore (lv' := fun x4_170 => [(4, .long x4_170), (9, .int x9_45), (8, .int x8_31), (7, .int x7_23), (0, .ref (g.1 0)), (1, .int a1), (2, .int a2), (3, .int a3), (6, .int v6_6)]) B dX11_wardOf_170 nn4 (fun _ => rfl) (fun x4_170 => ?_)
          refine r_goto B 205 dX11_wardOf_172 (by decide) ?_
          refine r_iinc (lv' := fun x6_205 => [(6, .int x6_205), (4, .long x4_170), (9, .int x9_45), (8, .int x8_31), (7, .int x7_23), (0, .ref (g.1 0)), (1, .int a1), (2, .int a2), (3, .int a3)]) B 8 (1 : Int32) dX11_wardOf_205 rfl (by decide) n6 (fun _ => rfl) (fun x6_205 => ?_)
          refine r_goto B 6 dX11_wardOf_208 (by decide) ?_
          refine r_sub [5, 6, 7, 8, 1, 0] rfl ?_
          exact ih x4_170 x6_205
      refine r_swc (5 : Int32) ?_ (fun h48_5 => ?_)
      · refine r_tabIn B 175 dX11_wardOf_48 (by decide) (by decide) rfl (by decide) ?_
        refine r_lload B 7 dX11_wardOf_175 rfl ?_
        refine r_iload B 2 dX11_wardOf_177 rfl ?_
        refine r_iload B 1 dX11_wardOf_179 rfl ?_
        refine r_imul B dX11_wardOf_181 ?_
        refine r_i2l B dX11_wardOf_182 ?_
        refine r_ladd B dX11_wardOf_183 ?_
        refine r_lstore (lv' := fun x4_184 => [(4, .long x4_184), (9, .int x9_45), (8, .int x8_31), (7, .int x7_23), (0, .ref (g.1 0)), (1, .int a1), (2, .int a2), (3, .int a3), (6, .int v6_6)]) B dX11_wardOf_184 nn4 (fun _ => rfl) (fun x4_184 => ?_)
        refine r_goto B 205 dX11_wardOf_186 (by decide) ?_
        refine r_iinc (lv' := fun x6_205 => [(6, .int x6_205), (4, .long x4_184), (9, .int x9_45), (8, .int x8_31), (7, .int x7_23), (0, .ref (g.1 0)), (1, .int a1), (2, .int a2), (3, .int a3)]) B 8 (1 : Int32) dX11_wardOf_205 rfl (by decide) n6 (fun _ => rfl) (fun x6_205 => ?_)
        refine r_goto B 6 dX11_wardOf_208 (by decide) ?_
        refine r_sub [5, 6, 7, 8, 1, 0] rfl ?_
        exact ih x4_184 x6_205
      refine r_tabOut B 189 dX11_wardOf_48 (by have z0 := lv_neT h48_0 (a := 0) (by decide); have z1 := lv_neT h48_1 (a := 1) (by decide); have z2 := lv_neT h48_2 (a := 2) (by decide); have z3 := lv_neT h48_3 (a := 3) (by decide); have z4 := lv_neT h48_4 (a := 4) (by decide); have z5 := lv_neT h48_5 (a := 5) (by decide); omega) (by decide) ?_
      refine r_lload B 7 dX11_wardOf_189 rfl ?_
      refine r_iload B 2 dX11_wardOf_191 rfl ?_
      refine r_i2l B dX11_wardOf_193 ?_
      refine r_ldc2 B (232792560 : Int64) m_X11_wardOf_c185 dX11_wardOf_194 ?_
      refine r_iload B 1 dX11_wardOf_197 rfl ?_
      refine r_i2l B dX11_wardOf_199 ?_
      refine r_ldiv B dX11_wardOf_200 (fun _ => ?_)
      refine r_lmul B dX11_wardOf_201 ?_
      refine r_ladd B dX11_wardOf_202 ?_
      refine r_lstore (lv' := fun x4_203 => [(4, .long x4_203), (9, .int x9_45), (8, .int x8_31), (7, .int x7_23), (0, .ref (g.1 0)), (1, .int a1), (2, .int a2), (3, .int a3), (6, .int v6_6)]) B dX11_wardOf_203 nn4 (fun _ => rfl) (fun x4_203 => ?_)
      refine r_iinc (lv' := fun x6_205 => [(6, .int x6_205), (4, .long x4_203), (9, .int x9_45), (8, .int x8_31), (7, .int x7_23), (0, .ref (g.1 0)), (1, .int a1), (2, .int a2), (3, .int a3)]) B 8 (1 : Int32) dX11_wardOf_205 rfl (by decide) n6 (fun _ => rfl) (fun x6_205 => ?_)
      refine r_goto B 6 dX11_wardOf_208 (by decide) ?_
      refine r_sub [5, 6, 7, 8, 1, 0] rfl ?_
      exact ih x4_203 x6_205
set_option maxRecDepth 100000 in
set_option maxHeartbeats 4000000 in
theorem x_X11_wardOf {E : zCx} {g : zGx} (B : zGood E (WM g) (zT g) cX11_wardOf RX11 wsX11_wardOf (some .long) rm_X11_wardOf) (hE : E.2.2 = 10) (S : zSt) (a1 : Int32) (a2 : Int32) (a3 : Int32) : Xo E (WM g) (eL S) S 0 [(0, .ref (g.1 0)), (1, .int a1), (2, .int a2), (3, .int a3)] [] (F_X11_wardOf S a1 a2 a3) := by
  have nn4 : 4 + 1 < E.2.2 := by rw [hE]; decide
  have n6 : 6 < E.2.2 := by rw [hE]; decide
  have n7 : 7 < E.2.2 := by rw [hE]; decide
  have n8 : 8 < E.2.2 := by rw [hE]; decide
  have n9 : 9 < E.2.2 := by rw [hE]; decide
  unfold F_X11_wardOf
  refine r_lconst B (0 : Int64) dX11_wardOf_0 (by decide) ?_
  refine r_lstore (lv' := fun x4_1 => [(4, .long x4_1), (0, .ref (g.1 0)), (1, .int a1), (2, .int a2), (3, .int a3)]) B dX11_wardOf_1 nn4 (fun _ => rfl) (fun x4_1 => ?_)
  refine r_iconst B (0 : Int32) dX11_wardOf_3 (by decide) ?_
  refine r_istore (lv' := fun x6_4 => [(6, .int x6_4), (4, .long x4_1), (0, .ref (g.1 0)), (1, .int a1), (2, .int a2), (3, .int a3)]) B dX11_wardOf_4 n6 (fun _ => rfl) (fun x6_4 => ?_)
  refine r_sub [2, 3, 4, 5, 1, 0] rfl ?_
  refine xL_X11_wardOf_6 B hE S a1 a2 a3 _ ?_ 1000 x4_1 x6_4
  intro w4_6
  refine r_lload B 0 dX11_wardOf_211 rfl ?_
  exact r_lret B dX11_wardOf_213 rfl
set_option maxRecDepth 20000 in
theorem k_X11_wardOf {l : Launch} {D : va_G} {g : zGx} (hz : zin (WM g)) {S : zSt} {a1 : Int32} {a2 : Int32} {a3 : Int32} {b : Int64} (h : F_X11_wardOf S a1 a2 a3 = some b) : zMet l D (WM g) (zT g) yX11_wardOf wsX11_wardOf rm_X11_wardOf S [.ref (g.1 0), .int a1, .int a2, .int a3] ((eL S) b) := zmet_of (by decide +kernel) rfl hz (Nat.le_of_ble_eq_true rfl) rfl (fun E _ _ hE B => x_X11_wardOf B hE S a1 a2 a3) h
abbrev rm_X11_wardNow : Room := { frames := 2, cells := 0, slots := 0, locals := 54 }
theorem y_X11_wardNow : yX11_wardNow.cls = RX11 ∧ yX11_wardNow.cls ≠ "java/lang/invoke/MethodHandle" ∧ yX11_wardNow.cls ≠ "java/lang/invoke/VarHandle" ∧ (parseMethodDescriptor yX11_wardNow.desc).map (fun d => d.parameters.length) = some 3 := by decide +kernel
set_option maxRecDepth 100000 in
set_option maxHeartbeats 4000000 in
theorem x_X11_wardNow {E : zCx} {g : zGx} (B : zGood E (WM g) (zT g) cX11_wardNow RX11 wsX11_wardNow (some .int) rm_X11_wardNow) (hE : E.2.2 = 4) (S : zSt) (a1 : Int32) (a2 : Int32) (a3 : Int32) : Xo E (WM g) (eI S) S 0 [(0, .ref (g.1 0)), (1, .int a1), (2, .int a2), (3, .int a3)] [] (F_X11_wardNow S a1 a2 a3) := by
  unfold F_X11_wardNow
  refine r_iload_n B 3 dX11_wardNow_0 rfl rfl ?_
  refine r_iconst B (3 : Int32) dX11_wardNow_1 (by decide) ?_
  refine r_icmp_ge B 14 dX11_wardNow_2 (by decide) (fun _ => ?_) (fun _ => ?_)
  · refine r_aload_n B 0 dX11_wardNow_14 rfl rfl ?_
    refine r_iload_n B 1 dX11_wardNow_15 rfl rfl ?_
    refine r_iload_n B 2 dX11_wardNow_16 rfl rfl ?_
    refine r_iconst B (0 : Int32) dX11_wardNow_17 (by decide) ?_
    refine r_cL (zrunV (As := [.int a1, .int a2, .int (0 : Int32)]) (rest := []) B 3 0 (fun b hb => k_X11_wardOf B.2.2.1 hb) gX11_wardNow_X11_wardOf rfl rfl rfl y_X11_wardOf ⟨Nat.le_of_ble_eq_true rfl, Nat.le_of_ble_eq_true rfl⟩ (Nat.le_of_ble_eq_true rfl) rfl (cM_0 g _) rfl rfl rfl (Nat.le_of_ble_eq_true rfl) dX11_wardNow_18) (fun r18 => ?_)
    refine r_lconst B (0 : Int64) dX11_wardNow_21 (by decide) ?_
    refine r_lcmp B dX11_wardNow_22 ?_
    refine r_if_ne B 31 dX11_wardNow_23 (by decide) (fun _ => ?_) (fun _ => ?_)
    · refine r_aload_n B 0 dX11_wardNow_31 rfl rfl ?_
      refine r_iload_n B 1 dX11_wardNow_32 rfl rfl ?_
      refine r_iload_n B 2 dX11_wardNow_33 rfl rfl ?_
      refine r_iconst B (3 : Int32) dX11_wardNow_34 (by decide) ?_
      refine r_cL (zrunV (As := [.int a1, .int a2, .int (3 : Int32)]) (rest := []) B 3 0 (fun b hb => k_X11_wardOf B.2.2.1 hb) gX11_wardNow_X11_wardOf rfl rfl rfl y_X11_wardOf ⟨Nat.le_of_ble_eq_true rfl, Nat.le_of_ble_eq_true rfl⟩ (Nat.le_of_ble_eq_true rfl) rfl (cM_0 g _) rfl rfl rfl (Nat.le_of_ble_eq_true rfl) dX11_wardNow_35) (fun r35 => ?_)
      refine r_aload_n B 0 dX11_wardNow_38 rfl rfl ?_
      refine r_iload_n B 1 dX11_wardNow_39 rfl rfl ?_
      refine r_iload_n B 2 dX11_wardNow_40 rfl rfl ?_
      refine r_iconst B (2 : Int32) dX11_wardNow_41 (by decide) ?_
      refine r_cL (zrunV (As := [.int a1, .int a2, .int (2 : Int32)]) (rest := [.long r35]) B 3 0 (fun b hb => k_X11_wardOf B.2.2.1 hb) gX11_wardNow_X11_wardOf rfl rfl rfl y_X11_wardOf ⟨Nat.le_of_ble_eq_true rfl, Nat.le_of_ble_eq_true rfl⟩ (Nat.le_of_ble_eq_true rfl) rfl (cM_0 g _) rfl rfl rfl (Nat.le_of_ble_eq_true rfl) dX11_wardNow_42) (fun r42 => ?_)
      refine r_lcmp B dX11_wardNow_45 ?_
      refine r_if_ne B 53 dX11_wardNow_46 (by decide) (fun _ => ?_) (fun _ => ?_)
      · refine r_iconst B (0 : Int32) dX11_wardNow_53 (by decide) ?_
        exact r_iret B dX11_wardNow_54 rfl
      · refine r_iconst B (1 : Int32) dX11_wardNow_49 (by decide) ?_
        refine r_goto B 54 dX11_wardNow_50 (by decide) ?_
        exact r_iret B dX11_wardNow_54 rfl
    · refine r_bipush B (-3 : Int32) dX11_wardNow_26 (by decide) ?_
      refine r_goto B 54 dX11_wardNow_28 (by decide) ?_
      exact r_iret B dX11_wardNow_54 rfl
  · refine r_aload_n B 0 dX11_wardNow_5 rfl rfl ?_
    refine r_iload_n B 1 dX11_wardNow_6 rfl rfl ?_
    refine r_iload_n B 2 dX11_wardNow_7 rfl rfl ?_
    refine r_iload_n B 3 dX11_wardNow_8 rfl rfl ?_
    refine r_cL (zrunV (As := [.int a1, .int a2, .int a3]) (rest := []) B 3 0 (fun b hb => k_X11_wardOf B.2.2.1 hb) gX11_wardNow_X11_wardOf rfl rfl rfl y_X11_wardOf ⟨Nat.le_of_ble_eq_true rfl, Nat.le_of_ble_eq_true rfl⟩ (Nat.le_of_ble_eq_true rfl) rfl (cM_0 g _) rfl rfl rfl (Nat.le_of_ble_eq_true rfl) dX11_wardNow_9) (fun r9 => ?_)
    refine r_l2i B dX11_wardNow_12 ?_
    exact r_iret B dX11_wardNow_13 rfl
set_option maxRecDepth 20000 in
theorem k_X11_wardNow {l : Launch} {D : va_G} {g : zGx} (hz : zin (WM g)) {S : zSt} {a1 : Int32} {a2 : Int32} {a3 : Int32} {b : Int32} (h : F_X11_wardNow S a1 a2 a3 = some b) : zMet l D (WM g) (zT g) yX11_wardNow wsX11_wardNow rm_X11_wardNow S [.ref (g.1 0), .int a1, .int a2, .int a3] ((eI S) b) := zmet_of (by decide +kernel) rfl hz (Nat.le_of_ble_eq_true rfl) rfl (fun E _ _ hE B => x_X11_wardNow B hE S a1 a2 a3) h
abbrev rm_X11_isSpan : Room := { frames := 1, cells := 0, slots := 0, locals := 22 }
theorem y_X11_isSpan : yX11_isSpan.cls ≠ "java/lang/invoke/MethodHandle" ∧ yX11_isSpan.cls ≠ "java/lang/invoke/VarHandle" ∧ (parseMethodDescriptor yX11_isSpan.desc).map (fun d => d.parameters.length) = some 2 := by decide +kernel
set_option maxRecDepth 100000 in
set_option maxHeartbeats 4000000 in
theorem x_X11_isSpan {E : zCx} {g : zGx} (B : zGood E (WM g) (zT g) cX11_isSpan RX11 wsX11_isSpan (some .boolean) rm_X11_isSpan) (hE : E.2.2 = 2) (S : zSt) (a0 : Int32) (a1 : Int32) : Xo E (WM g) (eI S) S 0 [(0, .int a0), (1, .int a1)] [] (F_X11_isSpan a0 a1) := by
  unfold F_X11_isSpan
  refine r_iload_n B 0 dX11_isSpan_0 rfl rfl ?_
  refine r_iconst B (0 : Int32) dX11_isSpan_1 (by decide) ?_
  refine r_bipush B (99 : Int32) dX11_isSpan_2 (by decide) ?_
  refine r_cI (zrunS (As := [.int a0, .int (0 : Int32), .int (99 : Int32)]) (rest := []) B 3 (fun b hb => k_X11_in B.2.2.1 hb) gX11_isSpan_X11_in rfl rfl rfl y_X11_in ⟨Nat.le_of_ble_eq_true rfl, Nat.le_of_ble_eq_true rfl⟩ rfl rfl (Nat.le_of_ble_eq_true rfl) dX11_isSpan_4) (fun r4 => ?_)
  refine r_if_eq B 24 dX11_isSpan_7 (by decide) (fun _ => ?_) (fun _ => ?_)
  · refine r_iconst B (0 : Int32) dX11_isSpan_24 (by decide) ?_
    exact r_zret0 B dX11_isSpan_25 rfl
  · refine r_iload_n B 1 dX11_isSpan_10 rfl rfl ?_
    refine r_iload_n B 0 dX11_isSpan_11 rfl rfl ?_
    refine r_bipush B (99 : Int32) dX11_isSpan_12 (by decide) ?_
    refine r_cI (zrunS (As := [.int a1, .int a0, .int (99 : Int32)]) (rest := []) B 3 (fun b hb => k_X11_in B.2.2.1 hb) gX11_isSpan_X11_in rfl rfl rfl y_X11_in ⟨Nat.le_of_ble_eq_true rfl, Nat.le_of_ble_eq_true rfl⟩ rfl rfl (Nat.le_of_ble_eq_true rfl) dX11_isSpan_14) (fun r14 => ?_)
    refine r_if_eq B 24 dX11_isSpan_17 (by decide) (fun _ => ?_) (fun _ => ?_)
    · refine r_iconst B (0 : Int32) dX11_isSpan_24 (by decide) ?_
      exact r_zret0 B dX11_isSpan_25 rfl
    · refine r_iconst B (1 : Int32) dX11_isSpan_20 (by decide) ?_
      refine r_goto B 25 dX11_isSpan_21 (by decide) ?_
      exact r_zret1 B dX11_isSpan_25 rfl
set_option maxRecDepth 20000 in
theorem k_X11_isSpan {l : Launch} {D : va_G} {g : zGx} (hz : zin (WM g)) {S : zSt} {a0 : Int32} {a1 : Int32} {b : Int32} (h : F_X11_isSpan a0 a1 = some b) : zMet l D (WM g) (zT g) yX11_isSpan wsX11_isSpan rm_X11_isSpan S [.int a0, .int a1] ((eI S) b) := zmet_of (by decide +kernel) rfl hz (Nat.le_of_ble_eq_true rfl) rfl (fun E _ _ hE B => x_X11_isSpan B hE S a0 a1) h
abbrev rm_X11_ward : Room := { frames := 3, cells := 0, slots := 0, locals := 77 }
theorem y_X11_ward : yX11_ward.cls = RX11 ∧ yX11_ward.cls ≠ "java/lang/invoke/MethodHandle" ∧ yX11_ward.cls ≠ "java/lang/invoke/VarHandle" ∧ (parseMethodDescriptor yX11_ward.desc).map (fun d => d.parameters.length) = some 3 := by decide +kernel
set_option maxRecDepth 100000 in
set_option maxHeartbeats 4000000 in
theorem x_X11_ward {E : zCx} {g : zGx} (B : zGood E (WM g) (zT g) cX11_ward RX11 wsX11_ward (some .int) rm_X11_ward) (hE : E.2.2 = 4) (S : zSt) (a1 : Int32) (a2 : Int32) (a3 : Int32) : Xo E (WM g) (eI S) S 0 [(0, .ref (g.1 0)), (1, .int a1), (2, .int a2), (3, .int a3)] [] (F_X11_ward S a1 a2 a3) := by
  unfold F_X11_ward
  refine r_iload_n B 1 dX11_ward_0 rfl rfl ?_
  refine r_iload_n B 2 dX11_ward_1 rfl rfl ?_
  refine r_cI (zrunS (As := [.int a1, .int a2]) (rest := []) B 2 (fun b hb => k_X11_isSpan B.2.2.1 hb) gX11_ward_X11_isSpan rfl rfl rfl y_X11_isSpan ⟨Nat.le_of_ble_eq_true rfl, Nat.le_of_ble_eq_true rfl⟩ rfl rfl (Nat.le_of_ble_eq_true rfl) dX11_ward_2) (fun r2 => ?_)
  refine r_if_eq B 27 dX11_ward_5 (by decide) (fun _ => ?_) (fun _ => ?_)
  · refine r_bipush B (-2 : Int32) dX11_ward_27 (by decide) ?_
    exact r_iret B dX11_ward_29 rfl
  · refine r_iload_n B 3 dX11_ward_8 rfl rfl ?_
    refine r_iconst B (0 : Int32) dX11_ward_9 (by decide) ?_
    refine r_iconst B (3 : Int32) dX11_ward_10 (by decide) ?_
    refine r_cI (zrunS (As := [.int a3, .int (0 : Int32), .int (3 : Int32)]) (rest := []) B 3 (fun b hb => k_X11_in B.2.2.1 hb) gX11_ward_X11_in rfl rfl rfl y_X11_in ⟨Nat.le_of_ble_eq_true rfl, Nat.le_of_ble_eq_true rfl⟩ rfl rfl (Nat.le_of_ble_eq_true rfl) dX11_ward_11) (fun r11 => ?_)
    refine r_if_eq B 27 dX11_ward_14 (by decide) (fun _ => ?_) (fun _ => ?_)
    · refine r_bipush B (-2 : Int32) dX11_ward_27 (by decide) ?_
      exact r_iret B dX11_ward_29 rfl
    · refine r_aload_n B 0 dX11_ward_17 rfl rfl ?_
      refine r_iload_n B 1 dX11_ward_18 rfl rfl ?_
      refine r_iload_n B 2 dX11_ward_19 rfl rfl ?_
      refine r_iload_n B 3 dX11_ward_20 rfl rfl ?_
      refine r_cI (zrunV (As := [.int a1, .int a2, .int a3]) (rest := []) B 3 0 (fun b hb => k_X11_wardNow B.2.2.1 hb) gX11_ward_X11_wardNow rfl rfl rfl y_X11_wardNow ⟨Nat.le_of_ble_eq_true rfl, Nat.le_of_ble_eq_true rfl⟩ (Nat.le_of_ble_eq_true rfl) rfl (cM_0 g _) rfl rfl rfl (Nat.le_of_ble_eq_true rfl) dX11_ward_21) (fun r21 => ?_)
      refine r_goto B 29 dX11_ward_24 (by decide) ?_
      exact r_iret B dX11_ward_29 rfl
set_option maxRecDepth 20000 in
theorem k_X11_ward {l : Launch} {D : va_G} {g : zGx} (hz : zin (WM g)) {S : zSt} {a1 : Int32} {a2 : Int32} {a3 : Int32} {b : Int32} (h : F_X11_ward S a1 a2 a3 = some b) : zMet l D (WM g) (zT g) yX11_ward wsX11_ward rm_X11_ward S [.ref (g.1 0), .int a1, .int a2, .int a3] ((eI S) b) := zmet_of (by decide +kernel) rfl hz (Nat.le_of_ble_eq_true rfl) rfl (fun E _ _ hE B => x_X11_ward B hE S a1 a2 a3) h
abbrev rm_X11_meansNow : Room := { frames := 2, cells := 0, slots := 0, locals := 54 }
theorem y_X11_meansNow : yX11_meansNow.cls = RX11 ∧ yX11_meansNow.cls ≠ "java/lang/invoke/MethodHandle" ∧ yX11_meansNow.cls ≠ "java/lang/invoke/VarHandle" ∧ (parseMethodDescriptor yX11_meansNow.desc).map (fun d => d.parameters.length) = some 4 := by decide +kernel
theorem m_X11_meansNow_c185 : Cond.constantLong RX11 185 (232792560) ∈ wsX11_meansNow := List.mem_cons_of_mem _ (List.mem_append_left _ (List.mem_append_left _ (List.mem_of_getElem? (i := 0) rfl)))
set_option maxRecDepth 100000 in
set_option maxHeartbeats 4000000 in
theorem x_X11_meansNow {E : zCx} {g : zGx} (B : zGood E (WM g) (zT g) cX11_meansNow RX11 wsX11_meansNow (some .long) rm_X11_meansNow) (hE : E.2.2 = 11) (S : zSt) (a1 : Int32) (a2 : Int32) (a3 : Int32) (a4 : Int32) : Xo E (WM g) (eL S) S 0 [(0, .ref (g.1 0)), (1, .int a1), (2, .int a2), (3, .int a3), (4, .int a4)] [] (F_X11_meansNow S a1 a2 a3 a4) := by
  have nn5 : 5 + 1 < E.2.2 := by rw [hE]; decide
  have nn7 : 7 + 1 < E.2.2 := by rw [hE]; decide
  have nn9 : 9 + 1 < E.2.2 := by rw [hE]; decide
  unfold F_X11_meansNow
  refine r_iload_n B 2 dX11_meansNow_0 rfl rfl ?_
  refine r_iload_n B 1 dX11_meansNow_1 rfl rfl ?_
  refine r_isub B dX11_meansNow_2 ?_
  refine r_iconst B (1 : Int32) dX11_meansNow_3 (by decide) ?_
  refine r_iadd B dX11_meansNow_4 ?_
  refine r_i2l B dX11_meansNow_5 ?_
  refine r_lstore (lv' := fun x5_6 => [(5, .long x5_6), (0, .ref (g.1 0)), (1, .int a1), (2, .int a2), (3, .int a3), (4, .int a4)]) B dX11_meansNow_6 nn5 (fun _ => rfl) (fun x5_6 => ?_)
  refine r_lconst B (0 : Int64) dX11_meansNow_8 (by decide) ?_
  refine r_lstore (lv' := fun x7_9 => [(7, .long x7_9), (5, .long x5_6), (0, .ref (g.1 0)), (1, .int a1), (2, .int a2), (3, .int a3), (4, .int a4)]) B dX11_meansNow_9 nn7 (fun _ => rfl) (fun x7_9 => ?_)
  refine r_lconst B (0 : Int64) dX11_meansNow_11 (by decide) ?_
  refine r_lstore (lv' := fun x9_12 => [(9, .long x9_12), (7, .long x7_9), (5, .long x5_6), (0, .ref (g.1 0)), (1, .int a1), (2, .int a2), (3, .int a3), (4, .int a4)]) B dX11_meansNow_12 nn9 (fun _ => rfl) (fun x9_12 => ?_)
  refine r_iload_n B 6 dX11_meansNow_14 rfl rfl ?_
  refine r_jn2 (P := fun j166 : Int64 → Int64 → Option Int64 => ∀ (x7_166 : Int64) (x9_166 : Int64), Xo E (WM g) (eL S) S 166 [(4, .int a4), (7, .long x7_166), (9, .long x9_166)] [] (j166 x7_166 x9_166)) ?_ (fun j166 hj166 => ?_)
  · intro x7_166 x9_166
    refine r_lload B 2 dX11_meansNow_166 rfl ?_
    refine r_lconst B (0 : Int64) dX11_meansNow_168 (by decide) ?_
    refine r_lcmp B dX11_meansNow_169 ?_
    refine r_if_ne B 181 dX11_meansNow_170 (by decide) (fun _ => ?_) (fun _ => ?_)
    · refine r_lload B 1 dX11_meansNow_181 rfl ?_
      refine r_lload B 2 dX11_meansNow_183 rfl ?_
      refine r_iload B 0 dX11_meansNow_185 rfl ?_
      refine r_cL (zrunS (As := [.long x7_166, .long x9_166, .int a4]) (rest := []) B 3 (fun b hb => k_X11_lowest B.2.2.1 hb) gX11_meansNow_X11_lowest rfl rfl rfl y_X11_lowest ⟨Nat.le_of_ble_eq_true rfl, Nat.le_of_ble_eq_true rfl⟩ rfl rfl (Nat.le_of_ble_eq_true rfl) dX11_meansNow_187) (fun r187 => ?_)
      exact r_lret B dX11_meansNow_190 rfl
    · refine r_bipush B (-3 : Int32) dX11_meansNow_173 (by decide) ?_
      refine r_cL (zrunS (As := [.int (-3 : Int32)]) (rest := []) B 1 (fun b hb => k_X11_no B.2.2.1 hb) gX11_meansNow_X11_no rfl rfl rfl y_X11_no ⟨Nat.le_of_ble_eq_true rfl, Nat.le_of_ble_eq_true rfl⟩ rfl rfl (Nat.le_of_ble_eq_true rfl) dX11_meansNow_175) (fun r175 => ?_)
      refine r_goto B 190 dX11_meansNow_178 (by decide) ?_
      exact r_lret B dX11_meansNow_190 rfl
  refine r_swc (0 : Int32) ?_ (fun h15_0 => ?_)
  · refine r_tabIn B 48 dX11_meansNow_15 (by decide) (by decide) rfl (by decide) ?_
    refine r_aload_n B 3 dX11_meansNow_48 rfl rfl ?_
    refine r_iload_n B 4 dX11_meansNow_49 rfl rfl ?_
    refine r_iload_n B 5 dX11_meansNow_50 rfl rfl ?_
    refine r_iconst B (3 : Int32) dX11_meansNow_51 (by decide) ?_
    refine r_cL (zrunV (As := [.int a1, .int a2, .int (3 : Int32)]) (rest := []) B 3 0 (fun b hb => k_X11_wardOf B.2.2.1 hb) gX11_meansNow_X11_wardOf rfl rfl rfl y_X11_wardOf ⟨Nat.le_of_ble_eq_true rfl, Nat.le_of_ble_eq_true rfl⟩ (Nat.le_of_ble_eq_true rfl) rfl (cM_0 g _) rfl rfl rfl (Nat.le_of_ble_eq_true rfl) dX11_meansNow_52) (fun r52 => ?_)
    refine r_lstore (lv' := fun x7_55 => [(7, .long x7_55), (9, .long x9_12), (5, .long x5_6), (0, .ref (g.1 0)), (1, .int a1), (2, .int a2), (3, .int a3), (4, .int a4)]) B dX11_meansNow_55 nn7 (fun _ => rfl) (fun x7_55 => ?_)
    refine r_aload_n B 3 dX11_meansNow_57 rfl rfl ?_
    refine r_iload_n B 4 dX11_meansNow_58 rfl rfl ?_
    refine r_iload_n B 5 dX11_meansNow_59 rfl rfl ?_
    refine r_iconst B (0 : Int32) dX11_meansNow_60 (by decide) ?_
    refine r_cL (zrunV (As := [.int a1, .int a2, .int (0 : Int32)]) (rest := []) B 3 0 (fun b hb => k_X11_wardOf B.2.2.1 hb) gX11_meansNow_X11_wardOf rfl rfl rfl y_X11_wardOf ⟨Nat.le_of_ble_eq_true rfl, Nat.le_of_ble_eq_true rfl⟩ (Nat.le_of_ble_eq_true rfl) rfl (cM_0 g _) rfl rfl rfl (Nat.le_of_ble_eq_true rfl) dX11_meansNow_61) (fun r61 => ?_)
    refine r_lstore (lv' := fun x9_64 => [(9, .long x9_64), (7, .long x7_55), (5, .long x5_6), (0, .ref (g.1 0)), (1, .int a1), (2, .int a2), (3, .int a3), (4, .int a4)]) B dX11_meansNow_64 nn9 (fun _ => rfl) (fun x9_64 => ?_)
    refine r_goto B 166 dX11_meansNow_66 (by decide) ?_
    refine r_sub [7, 1, 0] rfl ?_
    exact hj166 x7_55 x9_64
  refine r_swc (1 : Int32) ?_ (fun h15_1 => ?_)
  · refine r_tabIn B 69 dX11_meansNow_15 (by decide) (by decide) rfl (by decide) ?_
    refine r_aload_n B 3 dX11_meansNow_69 rfl rfl ?_
    refine r_iload_n B 4 dX11_meansNow_70 rfl rfl ?_
    refine r_iload_n B 5 dX11_meansNow_71 rfl rfl ?_
    refine r_iconst B (4 : Int32) dX11_meansNow_72 (by decide) ?_
    refine r_cL (zrunV (As := [.int a1, .int a2, .int (4 : Int32)]) (rest := []) B 3 0 (fun b hb => k_X11_wardOf B.2.2.1 hb) gX11_meansNow_X11_wardOf rfl rfl rfl y_X11_wardOf ⟨Nat.le_of_ble_eq_true rfl, Nat.le_of_ble_eq_true rfl⟩ (Nat.le_of_ble_eq_true rfl) rfl (cM_0 g _) rfl rfl rfl (Nat.le_of_ble_eq_true rfl) dX11_meansNow_73) (fun r73 => ?_)
    refine r_lstore (lv' := fun x7_76 => [(7, .long x7_76), (9, .long x9_12), (5, .long x5_6), (0, .ref (g.1 0)), (1, .int a1), (2, .int a2), (3, .int a3), (4, .int a4)]) B dX11_meansNow_76 nn7 (fun _ => rfl) (fun x7_76 => ?_)
    refine r_aload_n B 3 dX11_meansNow_78 rfl rfl ?_
    refine r_iload_n B 4 dX11_meansNow_79 rfl rfl ?_
    refine r_iload_n B 5 dX11_meansNow_80 rfl rfl ?_
    refine r_iconst B (1 : Int32) dX11_meansNow_81 (by decide) ?_
    refine r_cL (zrunV (As := [.int a1, .int a2, .int (1 : Int32)]) (rest := []) B 3 0 (fun b hb => k_X11_wardOf B.2.2.1 hb) gX11_meansNow_X11_wardOf rfl rfl rfl y_X11_wardOf ⟨Nat.le_of_ble_eq_true rfl, Nat.le_of_ble_eq_true rfl⟩ (Nat.le_of_ble_eq_true rfl) rfl (cM_0 g _) rfl rfl rfl (Nat.le_of_ble_eq_true rfl) dX11_meansNow_82) (fun r82 => ?_)
    refine r_lstore (lv' := fun x9_85 => [(9, .long x9_85), (7, .long x7_76), (5, .long x5_6), (0, .ref (g.1 0)), (1, .int a1), (2, .int a2), (3, .int a3), (4, .int a4)]) B dX11_meansNow_85 nn9 (fun _ => rfl) (fun x9_85 => ?_)
    refine r_goto B 166 dX11_meansNow_87 (by decide) ?_
    refine r_sub [7, 1, 0] rfl ?_
    exact hj166 x7_76 x9_85
  refine r_swc (2 : Int32) ?_ (fun h15_2 => ?_)
  · refine r_tabIn B 90 dX11_meansNow_15 (by decide) (by decide) rfl (by decide) ?_
    refine r_aload_n B 3 dX11_meansNow_90 rfl rfl ?_
    refine r_iload_n B 4 dX11_meansNow_91 rfl rfl ?_
    refine r_iload_n B 5 dX11_meansNow_92 rfl rfl ?_
    refine r_iconst B (5 : Int32) dX11_meansNow_93 (by decide) ?_
    refine r_cL (zrunV (As := [.int a1, .int a2, .int (5 : Int32)]) (rest := []) B 3 0 (fun b hb => k_X11_wardOf B.2.2.1 hb) gX11_meansNow_X11_wardOf rfl rfl rfl y_X11_wardOf ⟨Nat.le_of_ble_eq_true rfl, Nat.le_of_ble_eq_true rfl⟩ (Nat.le_of_ble_eq_true rfl) rfl (cM_0 g _) rfl rfl rfl (Nat.le_of_ble_eq_true rfl) dX11_meansNow_94) (fun r94 => ?_)
    refine r_lstore (lv' := fun x7_97 => [(7, .long x7_97), (9, .long x9_12), (5, .long x5_6), (0, .ref (g.1 0)), (1, .int a1), (2, .int a2), (3, .int a3), (4, .int a4)]) B dX11_meansNow_97 nn7 (fun _ => rfl) (fun x7_97 => ?_)
    refine r_aload_n B 3 dX11_meansNow_99 rfl rfl ?_
    refine r_iload_n B 4 dX11_meansNow_100 rfl rfl ?_
    refine r_iload_n B 5 dX11_meansNow_101 rfl rfl ?_
    refine r_iconst B (2 : Int32) dX11_meansNow_102 (by decide) ?_
    refine r_cL (zrunV (As := [.int a1, .int a2, .int (2 : Int32)]) (rest := []) B 3 0 (fun b hb => k_X11_wardOf B.2.2.1 hb) gX11_meansNow_X11_wardOf rfl rfl rfl y_X11_wardOf ⟨Nat.le_of_ble_eq_true rfl, Nat.le_of_ble_eq_true rfl⟩ (Nat.le_of_ble_eq_true rfl) rfl (cM_0 g _) rfl rfl rfl (Nat.le_of_ble_eq_true rfl) dX11_meansNow_103) (fun r103 => ?_)
    refine r_lstore (lv' := fun x9_106 => [(9, .long x9_106), (7, .long x7_97), (5, .long x5_6), (0, .ref (g.1 0)), (1, .int a1), (2, .int a2), (3, .int a3), (4, .int a4)]) B dX11_meansNow_106 nn9 (fun _ => rfl) (fun x9_106 => ?_)
    refine r_goto B 166 dX11_meansNow_108 (by decide) ?_
    refine r_sub [7, 1, 0] rfl ?_
    exact hj166 x7_97 x9_106
  refine r_swc (3 : Int32) ?_ (fun h15_3 => ?_)
  · refine r_tabIn B 111 dX11_meansNow_15 (by decide) (by decide) rfl (by decide) ?_
    refine r_aload_n B 3 dX11_meansNow_111 rfl rfl ?_
    refine r_iload_n B 4 dX11_meansNow_112 rfl rfl ?_
    refine r_iload_n B 5 dX11_meansNow_113 rfl rfl ?_
    refine r_iconst B (2 : Int32) dX11_meansNow_114 (by decide) ?_
    refine r_cL (zrunV (As := [.int a1, .int a2, .int (2 : Int32)]) (rest := []) B 3 0 (fun b hb => k_X11_wardOf B.2.2.1 hb) gX11_meansNow_X11_wardOf rfl rfl rfl y_X11_wardOf ⟨Nat.le_of_ble_eq_true rfl, Nat.le_of_ble_eq_true rfl⟩ (Nat.le_of_ble_eq_true rfl) rfl (cM_0 g _) rfl rfl rfl (Nat.le_of_ble_eq_true rfl) dX11_meansNow_115) (fun r115 => ?_)
    refine r_ldc2 B (232792560 : Int64) m_X11_meansNow_c185 dX11_meansNow_118 ?_
    refine r_lmul B dX11_meansNow_121 ?_
    refine r_lstore (lv' := fun x7_122 => [(7, .long x7_122), (9, .long x9_12), (5, .long x5_6), (0, .ref (g.1 0)), (1, .int a1), (2, .int a2), (3, .int a3), (4, .int a4)]) B dX11_meansNow_122 nn7 (fun _ => rfl) (fun x7_122 => ?_)
    refine r_aload_n B 3 dX11_meansNow_124 rfl rfl ?_
    refine r_iload_n B 4 dX11_meansNow_125 rfl rfl ?_
    refine r_iload_n B 5 dX11_meansNow_126 rfl rfl ?_
    refine r_bipush B (6 : Int32) dX11_meansNow_127 (by decide) ?_
    refine r_cL (zrunV (As := [.int a1, .int a2, .int (6 : Int32)]) (rest := []) B 3 0 (fun b hb => k_X11_wardOf B.2.2.1 hb) gX11_meansNow_X11_wardOf rfl rfl rfl y_X11_wardOf ⟨Nat.le_of_ble_eq_true rfl, Nat.le_of_ble_eq_true rfl⟩ (Nat.le_of_ble_eq_true rfl) rfl (cM_0 g _) rfl rfl rfl (Nat.le_of_ble_eq_true rfl) dX11_meansNow_129) (fun r129 => ?_)
    refine r_lstore (lv' := fun x9_132 => [(9, .long x9_132), (7, .long x7_122), (5, .long x5_6), (0, .ref (g.1 0)), (1, .int a1), (2, .int a2), (3, .int a3), (4, .int a4)]) B dX11_meansNow_132 nn9 (fun _ => rfl) (fun x9_132 => ?_)
    refine r_goto B 166 dX11_meansNow_134 (by decide) ?_
    refine r_sub [7, 1, 0] rfl ?_
    exact hj166 x7_122 x9_132
  refine r_swc (4 : Int32) ?_ (fun h15_4 => ?_)
  · refine r_tabIn B 137 dX11_meansNow_15 (by decide) (by decide) rfl (by decide) ?_
    refine r_aload_n B 3 dX11_meansNow_137 rfl rfl ?_
    refine r_iload_n B 4 dX11_meansNow_138 rfl rfl ?_
    refine r_iload_n B 5 dX11_meansNow_139 rfl rfl ?_
    refine r_iconst B (0 : Int32) dX11_meansNow_140 (by decide) ?_
    refine r_cL (zrunV (As := [.int a1, .int a2, .int (0 : Int32)]) (rest := []) B 3 0 (fun b hb => k_X11_wardOf B.2.2.1 hb) gX11_meansNow_X11_wardOf rfl rfl rfl y_X11_wardOf ⟨Nat.le_of_ble_eq_true rfl, Nat.le_of_ble_eq_true rfl⟩ (Nat.le_of_ble_eq_true rfl) rfl (cM_0 g _) rfl rfl rfl (Nat.le_of_ble_eq_true rfl) dX11_meansNow_141) (fun r141 => ?_)
    refine r_lstore (lv' := fun x7_144 => [(7, .long x7_144), (9, .long x9_12), (5, .long x5_6), (0, .ref (g.1 0)), (1, .int a1), (2, .int a2), (3, .int a3), (4, .int a4)]) B dX11_meansNow_144 nn7 (fun _ => rfl) (fun x7_144 => ?_)
    refine r_lload B 2 dX11_meansNow_146 rfl ?_
    refine r_lstore (lv' := fun x9_148 => [(9, .long x9_148), (7, .long x7_144), (5, .long x5_6), (0, .ref (g.1 0)), (1, .int a1), (2, .int a2), (3, .int a3), (4, .int a4)]) B dX11_meansNow_148 nn9 (fun _ => rfl) (fun x9_148 => ?_)
    refine r_goto B 166 dX11_meansNow_150 (by decide) ?_
    refine r_sub [7, 1, 0] rfl ?_
    exact hj166 x7_144 x9_148
  refine r_tabOut B 153 dX11_meansNow_15 (by have z0 := lv_neT h15_0 (a := 0) (by decide); have z1 := lv_neT h15_1 (a := 1) (by decide); have z2 := lv_neT h15_2 (a := 2) (by decide); have z3 := lv_neT h15_3 (a := 3) (by decide); have z4 := lv_neT h15_4 (a := 4) (by decide); omega) (by decide) ?_
  refine r_aload_n B 3 dX11_meansNow_153 rfl rfl ?_
  refine r_iload_n B 4 dX11_meansNow_154 rfl rfl ?_
  refine r_iload_n B 5 dX11_meansNow_155 rfl rfl ?_
  refine r_iconst B (2 : Int32) dX11_meansNow_156 (by decide) ?_
  refine r_cL (zrunV (As := [.int a1, .int a2, .int (2 : Int32)]) (rest := []) B 3 0 (fun b hb => k_X11_wardOf B.2.2.1 hb) gX11_meansNow_X11_wardOf rfl rfl rfl y_X11_wardOf ⟨Nat.le_of_ble_eq_true rfl, Nat.le_of_ble_eq_true rfl⟩ (Nat.le_of_ble_eq_true rfl) rfl (cM_0 g _) rfl rfl rfl (Nat.le_of_ble_eq_true rfl) dX11_meansNow_157) (fun r157 => ?_)
  refine r_lstore (lv' := fun x7_160 => [(7, .long x7_160), (9, .long x9_12), (5, .long x5_6), (0, .ref (g.1 0)), (1, .int a1), (2, .int a2), (3, .int a3), (4, .int a4)]) B dX11_meansNow_160 nn7 (fun _ => rfl) (fun x7_160 => ?_)
  refine r_lload B 2 dX11_meansNow_162 rfl ?_
  refine r_lstore (lv' := fun x9_164 => [(9, .long x9_164), (7, .long x7_160), (5, .long x5_6), (0, .ref (g.1 0)), (1, .int a1), (2, .int a2), (3, .int a3), (4, .int a4)]) B dX11_meansNow_164 nn9 (fun _ => rfl) (fun x9_164 => ?_)
  refine r_sub [7, 1, 0] rfl ?_
  exact hj166 x7_160 x9_164
set_option maxRecDepth 20000 in
theorem k_X11_meansNow {l : Launch} {D : va_G} {g : zGx} (hz : zin (WM g)) {S : zSt} {a1 : Int32} {a2 : Int32} {a3 : Int32} {a4 : Int32} {b : Int64} (h : F_X11_meansNow S a1 a2 a3 a4 = some b) : zMet l D (WM g) (zT g) yX11_meansNow wsX11_meansNow rm_X11_meansNow S [.ref (g.1 0), .int a1, .int a2, .int a3, .int a4] ((eL S) b) := zmet_of (by decide +kernel) rfl hz (Nat.le_of_ble_eq_true rfl) rfl (fun E _ _ hE B => x_X11_meansNow B hE S a1 a2 a3 a4) h
abbrev rm_X11_means : Room := { frames := 3, cells := 0, slots := 0, locals := 84 }
theorem y_X11_means : yX11_means.cls = RX11 ∧ yX11_means.cls ≠ "java/lang/invoke/MethodHandle" ∧ yX11_means.cls ≠ "java/lang/invoke/VarHandle" ∧ (parseMethodDescriptor yX11_means.desc).map (fun d => d.parameters.length) = some 4 := by decide +kernel
set_option maxRecDepth 100000 in
set_option maxHeartbeats 4000000 in
theorem x_X11_means {E : zCx} {g : zGx} (B : zGood E (WM g) (zT g) cX11_means RX11 wsX11_means (some .long) rm_X11_means) (hE : E.2.2 = 5) (S : zSt) (a1 : Int32) (a2 : Int32) (a3 : Int32) (a4 : Int32) : Xo E (WM g) (eL S) S 0 [(0, .ref (g.1 0)), (1, .int a1), (2, .int a2), (3, .int a3), (4, .int a4)] [] (F_X11_means S a1 a2 a3 a4) := by
  unfold F_X11_means
  refine r_iload_n B 1 dX11_means_0 rfl rfl ?_
  refine r_iload_n B 2 dX11_means_1 rfl rfl ?_
  refine r_cI (zrunS (As := [.int a1, .int a2]) (rest := []) B 2 (fun b hb => k_X11_isSpan B.2.2.1 hb) gX11_means_X11_isSpan rfl rfl rfl y_X11_isSpan ⟨Nat.le_of_ble_eq_true rfl, Nat.le_of_ble_eq_true rfl⟩ rfl rfl (Nat.le_of_ble_eq_true rfl) dX11_means_2) (fun r2 => ?_)
  refine r_jn2 (P := fun j39 : Option Int64 => Xo E (WM g) (eL S) S 39 [] [] (j39)) ?_ (fun j39 hj39 => ?_)
  · refine r_bipush B (-2 : Int32) dX11_means_39 (by decide) ?_
    refine r_cL (zrunS (As := [.int (-2 : Int32)]) (rest := []) B 1 (fun b hb => k_X11_no B.2.2.1 hb) gX11_means_X11_no rfl rfl rfl y_X11_no ⟨Nat.le_of_ble_eq_true rfl, Nat.le_of_ble_eq_true rfl⟩ rfl rfl (Nat.le_of_ble_eq_true rfl) dX11_means_41) (fun r41 => ?_)
    exact r_lret B dX11_means_44 rfl
  refine r_if_eq B 39 dX11_means_5 (by decide) (fun _ => ?_) (fun _ => ?_)
  · refine r_sub [] rfl ?_
    exact hj39
  · refine r_iload_n B 3 dX11_means_8 rfl rfl ?_
    refine r_iconst B (0 : Int32) dX11_means_9 (by decide) ?_
    refine r_iconst B (5 : Int32) dX11_means_10 (by decide) ?_
    refine r_cI (zrunS (As := [.int a3, .int (0 : Int32), .int (5 : Int32)]) (rest := []) B 3 (fun b hb => k_X11_in B.2.2.1 hb) gX11_means_X11_in rfl rfl rfl y_X11_in ⟨Nat.le_of_ble_eq_true rfl, Nat.le_of_ble_eq_true rfl⟩ rfl rfl (Nat.le_of_ble_eq_true rfl) dX11_means_11) (fun r11 => ?_)
    refine r_if_eq B 39 dX11_means_14 (by decide) (fun _ => ?_) (fun _ => ?_)
    · refine r_sub [] rfl ?_
      exact hj39
    · refine r_iload B 4 dX11_means_17 rfl ?_
      refine r_iconst B (0 : Int32) dX11_means_19 (by decide) ?_
      refine r_iconst B (1 : Int32) dX11_means_20 (by decide) ?_
      refine r_cI (zrunS (As := [.int a4, .int (0 : Int32), .int (1 : Int32)]) (rest := []) B 3 (fun b hb => k_X11_in B.2.2.1 hb) gX11_means_X11_in rfl rfl rfl y_X11_in ⟨Nat.le_of_ble_eq_true rfl, Nat.le_of_ble_eq_true rfl⟩ rfl rfl (Nat.le_of_ble_eq_true rfl) dX11_means_21) (fun r21 => ?_)
      refine r_if_eq B 39 dX11_means_24 (by decide) (fun _ => ?_) (fun _ => ?_)
      · refine r_sub [] rfl ?_
        exact hj39
      · refine r_aload_n B 0 dX11_means_27 rfl rfl ?_
        refine r_iload_n B 1 dX11_means_28 rfl rfl ?_
        refine r_iload_n B 2 dX11_means_29 rfl rfl ?_
        refine r_iload_n B 3 dX11_means_30 rfl rfl ?_
        refine r_iload B 4 dX11_means_31 rfl ?_
        refine r_cL (zrunV (As := [.int a1, .int a2, .int a3, .int a4]) (rest := []) B 4 0 (fun b hb => k_X11_meansNow B.2.2.1 hb) gX11_means_X11_meansNow rfl rfl rfl y_X11_meansNow ⟨Nat.le_of_ble_eq_true rfl, Nat.le_of_ble_eq_true rfl⟩ (Nat.le_of_ble_eq_true rfl) rfl (cM_0 g _) rfl rfl rfl (Nat.le_of_ble_eq_true rfl) dX11_means_33) (fun r33 => ?_)
        refine r_goto B 44 dX11_means_36 (by decide) ?_
        exact r_lret B dX11_means_44 rfl
set_option maxRecDepth 20000 in
theorem k_X11_means {l : Launch} {D : va_G} {g : zGx} (hz : zin (WM g)) {S : zSt} {a1 : Int32} {a2 : Int32} {a3 : Int32} {a4 : Int32} {b : Int64} (h : F_X11_means S a1 a2 a3 a4 = some b) : zMet l D (WM g) (zT g) yX11_means wsX11_means rm_X11_means S [.ref (g.1 0), .int a1, .int a2, .int a3, .int a4] ((eL S) b) := zmet_of (by decide +kernel) rfl hz (Nat.le_of_ble_eq_true rfl) rfl (fun E _ _ hE B => x_X11_means B hE S a1 a2 a3 a4) h
abbrev rm_X11_apartNow : Room := { frames := 0, cells := 0, slots := 0, locals := 0 }
theorem y_X11_apartNow : yX11_apartNow.cls = RX11 ∧ yX11_apartNow.cls ≠ "java/lang/invoke/MethodHandle" ∧ yX11_apartNow.cls ≠ "java/lang/invoke/VarHandle" ∧ (parseMethodDescriptor yX11_apartNow.desc).map (fun d => d.parameters.length) = some 0 := by decide +kernel
theorem m_X11_apartNow_c123 : Cond.constant RX11 123 (100000) ∈ wsX11_apartNow := List.mem_cons_of_mem _ (List.mem_append_left _ (List.mem_of_getElem? (i := 0) rfl))
theorem m_X11_apartNow_f176 : Cond.fieldLink RX11 176 "LongestMetModel" "stays" "I" ∈ wsX11_apartNow := List.mem_cons_of_mem _ (List.mem_append_left _ (List.mem_of_getElem? (i := 1) rfl))
theorem m_X11_apartNow_inX11 : ∀ x ∈ u_ws RX11 TX11 27, x ∈ wsX11_apartNow := fun _ h => List.mem_cons_of_mem _ (List.mem_append_right _ h)
theorem m_X11_apartNow_f44 : Cond.fieldLink RX11 44 "LongestMetModel" "fromDay" "[I" ∈ wsX11_apartNow := List.mem_cons_of_mem _ (List.mem_append_left _ (List.mem_of_getElem? (i := 2) rfl))
theorem m_X11_apartNow_f47 : Cond.fieldLink RX11 47 "LongestMetModel" "toDay" "[I" ∈ wsX11_apartNow := List.mem_cons_of_mem _ (List.mem_append_left _ (List.mem_of_getElem? (i := 3) rfl))
set_option maxRecDepth 100000 in
set_option maxHeartbeats 4000000 in
theorem xL_X11_apartNow_17 {E : zCx} {g : zGx} (B : zGood E (WM g) (zT g) cX11_apartNow RX11 wsX11_apartNow (some .int) rm_X11_apartNow) (hE : E.2.2 = 6) (S : zSt) (v1_6 : Int32) (v2_6 : Int32) (k : Int32 → Option Int32) (hk : ∀ (w4 : Int32), Xo E (WM g) (eI S) S 69 [(0, .ref (g.1 0)), (1, .int v1_6), (4, .int w4)] [] (k w4)) : ∀ (n : Nat) (v4_17 : Int32) (v5_17 : Int32), Xo E (WM g) (eI S) S 17 [(0, .ref (g.1 0)), (1, .int v1_6), (2, .int v2_6), (4, .int v4_17), (5, .int v5_17)] [] (L_X11_apartNow_17 S v1_6 v2_6 k n v4_17 v5_17) := by
  have n1 : 1 < E.2.2 := by rw [hE]; decide
  have n2 : 2 < E.2.2 := by rw [hE]; decide
  have n3 : 3 < E.2.2 := by rw [hE]; decide
  have n4 : 4 < E.2.2 := by rw [hE]; decide
  have n5 : 5 < E.2.2 := by rw [hE]; decide
  intro n
  induction n with
  | zero =>
    intro _ _
    exact r_none
  | succ n ih =>
    intro v4_17 v5_17
    rw [L_X11_apartNow_17]
    refine r_iload B 4 dX11_apartNow_17 rfl ?_
    refine r_aload_n B 0 dX11_apartNow_19 rfl rfl ?_
    refine r_get B 0 10 15 (Nat.le_of_ble_eq_true rfl) rfl (cM_0 g _) rfl m_X11_apartNow_inX11 (Nat.le_of_ble_eq_true rfl) m_X11_apartNow_f176 rfl dX11_apartNow_20 ?_
    refine r_icmp_ge B 69 dX11_apartNow_23 (by decide) (fun _ => ?_) (fun _ => ?_)
    · refine r_sub [0, 1, 3] rfl ?_
      exact hk v4_17
    · refine r_aload_n B 0 dX11_apartNow_26 rfl rfl ?_
      refine r_get B 0 10 16 (Nat.le_of_ble_eq_true rfl) rfl (cM_0 g _) rfl m_X11_apartNow_inX11 (Nat.le_of_ble_eq_true rfl) m_X11_apartNow_f44 rfl dX11_apartNow_27 ?_
      refine r_iload B 4 dX11_apartNow_30 rfl ?_
      refine r_iald B 11 0 (Nat.le_of_ble_eq_true rfl) rfl (cM_11 g _) rfl dX11_apartNow_32 ?_
      refine r_iload_n B 2 dX11_apartNow_33 rfl rfl ?_
      refine r_icmp_le B 59 dX11_apartNow_34 (by decide) (fun _ => ?_) (fun _ => ?_)
      · refine r_iload B 3 dX11_apartNow_59 rfl ?_
        refine r_istore (lv' := fun x4_61 => [(4, .int x4_61), (0, .ref (g.1 0)), (1, .int v1_6), (2, .int v2_6), (5, .int v5_17)]) B dX11_apartNow_61 n4 (fun _ => rfl) (fun x4_61 => ?_)
        refine r_iinc (lv' := fun x5_63 => [(5, .int x5_63), (4, .int x4_61), (0, .ref (g.1 0)), (1, .int v1_6), (2, .int v2_6)]) B 4 (1 : Int32) dX11_apartNow_63 rfl (by decide) n5 (fun _ => rfl) (fun x5_63 => ?_)
        refine r_goto B 17 dX11_apartNow_66 (by decide) ?_
        refine r_sub [2, 3, 4, 1, 0] rfl ?_
        exact ih x4_61 x5_63
      · refine r_aload_n B 0 dX11_apartNow_37 rfl rfl ?_
        refine r_get B 0 10 17 (Nat.le_of_ble_eq_true rfl) rfl (cM_0 g _) rfl m_X11_apartNow_inX11 (Nat.le_of_ble_eq_true rfl) m_X11_apartNow_f47 rfl dX11_apartNow_38 ?_
        refine r_iload B 4 dX11_apartNow_41 rfl ?_
        refine r_iald B 12 0 (Nat.le_of_ble_eq_true rfl) rfl (cM_12 g _) rfl dX11_apartNow_43 ?_
        refine r_iload B 3 dX11_apartNow_44 rfl ?_
        refine r_icmp_ge B 59 dX11_apartNow_46 (by decide) (fun _ => ?_) (fun _ => ?_)
        · refine r_iload B 3 dX11_apartNow_59 rfl ?_
          refine r_istore (lv' := fun x4_61 => [(4, .int x4_61), (0, .ref (g.1 0)), (1, .int v1_6), (2, .int v2_6), (5, .int v5_17)]) B dX11_apartNow_61 n4 (fun _ => rfl) (fun x4_61 => ?_)
          refine r_iinc (lv' := fun x5_63 => [(5, .int x5_63), (4, .int x4_61), (0, .ref (g.1 0)), (1, .int v1_6), (2, .int v2_6)]) B 4 (1 : Int32) dX11_apartNow_63 rfl (by decide) n5 (fun _ => rfl) (fun x5_63 => ?_)
          refine r_goto B 17 dX11_apartNow_66 (by decide) ?_
          refine r_sub [2, 3, 4, 1, 0] rfl ?_
          exact ih x4_61 x5_63
        · refine r_aload_n B 0 dX11_apartNow_49 rfl rfl ?_
          refine r_get B 0 10 17 (Nat.le_of_ble_eq_true rfl) rfl (cM_0 g _) rfl m_X11_apartNow_inX11 (Nat.le_of_ble_eq_true rfl) m_X11_apartNow_f47 rfl dX11_apartNow_50 ?_
          refine r_iload B 4 dX11_apartNow_53 rfl ?_
          refine r_iald B 12 0 (Nat.le_of_ble_eq_true rfl) rfl (cM_12 g _) rfl dX11_apartNow_55 ?_
          refine r_goto B 61 dX11_apartNow_56 (by decide) ?_
          refine r_istore (lv' := fun x4_61 => [(4, .int x4_61), (0, .ref (g.1 0)), (1, .int v1_6), (2, .int v2_6), (5, .int v5_17)]) B dX11_apartNow_61 n4 (fun _ => rfl) (fun x4_61 => ?_)
          refine r_iinc (lv' := fun x5_63 => [(5, .int x5_63), (4, .int x4_61), (0, .ref (g.1 0)), (1, .int v1_6), (2, .int v2_6)]) B 4 (1 : Int32) dX11_apartNow_63 rfl (by decide) n5 (fun _ => rfl) (fun x5_63 => ?_)
          refine r_goto B 17 dX11_apartNow_66 (by decide) ?_
          refine r_sub [2, 3, 4, 1, 0] rfl ?_
          exact ih x4_61 x5_63
set_option maxRecDepth 100000 in
set_option maxHeartbeats 4000000 in
theorem xL_X11_apartNow_6 {E : zCx} {g : zGx} (B : zGood E (WM g) (zT g) cX11_apartNow RX11 wsX11_apartNow (some .int) rm_X11_apartNow) (hE : E.2.2 = 6) (S : zSt) (k : Int32 → Option Int32) (hk : ∀ (w1 : Int32), Xo E (WM g) (eI S) S 100 [(1, .int w1)] [] (k w1)) : ∀ (n : Nat) (v1_6 : Int32) (v2_6 : Int32) (v3_6 : Int32), Xo E (WM g) (eI S) S 6 [(0, .ref (g.1 0)), (1, .int v1_6), (2, .int v2_6), (3, .int v3_6)] [] (L_X11_apartNow_6 S k n v1_6 v2_6 v3_6) := by
  have n1 : 1 < E.2.2 := by rw [hE]; decide
  have n2 : 2 < E.2.2 := by rw [hE]; decide
  have n3 : 3 < E.2.2 := by rw [hE]; decide
  have n4 : 4 < E.2.2 := by rw [hE]; decide
  have n5 : 5 < E.2.2 := by rw [hE]; decide
  intro n
  induction n with
  | zero =>
    intro _ _ _
    exact r_none
  | succ n ih =>
    intro v1_6 v2_6 v3_6
    rw [L_X11_apartNow_6]
    refine r_iload_n B 3 dX11_apartNow_6 rfl rfl ?_
    refine r_if_eq B 100 dX11_apartNow_7 (by decide) (fun _ => ?_) (fun _ => ?_)
    · refine r_sub [1] rfl ?_
      exact hk v1_6
    · refine r_ldc B (100000 : Int32) m_X11_apartNow_c123 dX11_apartNow_10 ?_
      refine r_istore (lv' := fun x4_12 => [(4, .int x4_12), (0, .ref (g.1 0)), (1, .int v1_6), (2, .int v2_6), (3, .int v3_6)]) B dX11_apartNow_12 n4 (fun _ => rfl) (fun x4_12 => ?_)
      refine r_iconst B (0 : Int32) dX11_apartNow_14 (by decide) ?_
      refine r_istore (lv' := fun x5_15 => [(5, .int x5_15), (4, .int x4_12), (0, .ref (g.1 0)), (1, .int v1_6), (2, .int v2_6), (3, .int v3_6)]) B dX11_apartNow_15 n5 (fun _ => rfl) (fun x5_15 => ?_)
      refine r_sub [2, 3, 4, 1, 0] rfl ?_
      refine xL_X11_apartNow_17 B hE S v1_6 v2_6 _ ?_ 1000 x4_12 x5_15
      intro w4_17
      refine r_iload B 2 dX11_apartNow_69 rfl ?_
      refine r_ldc B (100000 : Int32) m_X11_apartNow_c123 dX11_apartNow_71 ?_
      refine r_jn2 (P := fun j81 : Int32 → Option Int32 => ∀ (y0_81 : Int32), Xo E (WM g) (eI S) S 81 [(0, .ref (g.1 0)), (1, .int v1_6), (4, .int w4_17)] [.int y0_81] (j81 y0_81)) ?_ (fun j81 hj81 => ?_)
      · intro y0_81
        refine r_istore_n (lv' := fun x3_81 => [(3, .int x3_81), (0, .ref (g.1 0)), (1, .int v1_6), (4, .int w4_17)]) B dX11_apartNow_81 rfl n3 (fun _ => rfl) (fun x3_81 => ?_)
        refine r_iload_n B 2 dX11_apartNow_82 rfl rfl ?_
        refine r_iload_n B 0 dX11_apartNow_83 rfl rfl ?_
        refine r_if_eq B 91 dX11_apartNow_84 (by decide) (fun _ => ?_) (fun _ => ?_)
        · refine r_iconst B (0 : Int32) dX11_apartNow_91 (by decide) ?_
          refine r_iadd B dX11_apartNow_92 ?_
          refine r_istore_n (lv' := fun x1_93 => [(1, .int x1_93), (3, .int x3_81), (0, .ref (g.1 0)), (4, .int w4_17)]) B dX11_apartNow_93 rfl n1 (fun _ => rfl) (fun x1_93 => ?_)
          refine r_iload B 3 dX11_apartNow_94 rfl ?_
          refine r_istore_n (lv' := fun x2_96 => [(2, .int x2_96), (1, .int x1_93), (3, .int x3_81), (0, .ref (g.1 0)), (4, .int w4_17)]) B dX11_apartNow_96 rfl n2 (fun _ => rfl) (fun x2_96 => ?_)
          refine r_goto B 6 dX11_apartNow_97 (by decide) ?_
          refine r_sub [3, 1, 0, 2] rfl ?_
          exact ih x1_93 x2_96 x3_81
        · refine r_iconst B (1 : Int32) dX11_apartNow_87 (by decide) ?_
          refine r_goto B 92 dX11_apartNow_88 (by decide) ?_
          refine r_iadd B dX11_apartNow_92 ?_
          refine r_istore_n (lv' := fun x1_93 => [(1, .int x1_93), (3, .int x3_81), (0, .ref (g.1 0)), (4, .int w4_17)]) B dX11_apartNow_93 rfl n1 (fun _ => rfl) (fun x1_93 => ?_)
          refine r_iload B 3 dX11_apartNow_94 rfl ?_
          refine r_istore_n (lv' := fun x2_96 => [(2, .int x2_96), (1, .int x1_93), (3, .int x3_81), (0, .ref (g.1 0)), (4, .int w4_17)]) B dX11_apartNow_96 rfl n2 (fun _ => rfl) (fun x2_96 => ?_)
          refine r_goto B 6 dX11_apartNow_97 (by decide) ?_
          refine r_sub [3, 1, 0, 2] rfl ?_
          exact ih x1_93 x2_96 x3_81
      refine r_icmp_ge B 80 dX11_apartNow_73 (by decide) (fun _ => ?_) (fun _ => ?_)
      · refine r_iconst B (0 : Int32) dX11_apartNow_80 (by decide) ?_
        exact hj81 (0 : Int32)
      · refine r_iconst B (1 : Int32) dX11_apartNow_76 (by decide) ?_
        refine r_goto B 81 dX11_apartNow_77 (by decide) ?_
        exact hj81 (1 : Int32)
set_option maxRecDepth 100000 in
set_option maxHeartbeats 4000000 in
theorem x_X11_apartNow {E : zCx} {g : zGx} (B : zGood E (WM g) (zT g) cX11_apartNow RX11 wsX11_apartNow (some .int) rm_X11_apartNow) (hE : E.2.2 = 6) (S : zSt) : Xo E (WM g) (eI S) S 0 [(0, .ref (g.1 0))] [] (F_X11_apartNow S) := by
  have n1 : 1 < E.2.2 := by rw [hE]; decide
  have n2 : 2 < E.2.2 := by rw [hE]; decide
  have n3 : 3 < E.2.2 := by rw [hE]; decide
  have n4 : 4 < E.2.2 := by rw [hE]; decide
  have n5 : 5 < E.2.2 := by rw [hE]; decide
  unfold F_X11_apartNow
  refine r_iconst B (0 : Int32) dX11_apartNow_0 (by decide) ?_
  refine r_istore_n (lv' := fun x1_1 => [(1, .int x1_1), (0, .ref (g.1 0))]) B dX11_apartNow_1 rfl n1 (fun _ => rfl) (fun x1_1 => ?_)
  refine r_iconst B (-1 : Int32) dX11_apartNow_2 (by decide) ?_
  refine r_istore_n (lv' := fun x2_3 => [(2, .int x2_3), (1, .int x1_1), (0, .ref (g.1 0))]) B dX11_apartNow_3 rfl n2 (fun _ => rfl) (fun x2_3 => ?_)
  refine r_iconst B (1 : Int32) dX11_apartNow_4 (by decide) ?_
  refine r_istore_n (lv' := fun x3_5 => [(3, .int x3_5), (2, .int x2_3), (1, .int x1_1), (0, .ref (g.1 0))]) B dX11_apartNow_5 rfl n3 (fun _ => rfl) (fun x3_5 => ?_)
  refine r_sub [3, 2, 1, 0] rfl ?_
  refine xL_X11_apartNow_6 B hE S _ ?_ 1000 x1_1 x2_3 x3_5
  intro w1_6
  refine r_iload_n B 0 dX11_apartNow_100 rfl rfl ?_
  exact r_iret B dX11_apartNow_101 rfl
set_option maxRecDepth 20000 in
theorem k_X11_apartNow {l : Launch} {D : va_G} {g : zGx} (hz : zin (WM g)) {S : zSt} {b : Int32} (h : F_X11_apartNow S = some b) : zMet l D (WM g) (zT g) yX11_apartNow wsX11_apartNow rm_X11_apartNow S [.ref (g.1 0)] ((eI S) b) := zmet_of (by decide +kernel) rfl hz (Nat.le_of_ble_eq_true rfl) rfl (fun E _ _ hE B => x_X11_apartNow B hE S) h
abbrev rm_X11_fullestNow : Room := { frames := 2, cells := 0, slots := 0, locals := 54 }
theorem y_X11_fullestNow : yX11_fullestNow.cls = RX11 ∧ yX11_fullestNow.cls ≠ "java/lang/invoke/MethodHandle" ∧ yX11_fullestNow.cls ≠ "java/lang/invoke/VarHandle" ∧ (parseMethodDescriptor yX11_fullestNow.desc).map (fun d => d.parameters.length) = some 1 := by decide +kernel
set_option maxRecDepth 100000 in
set_option maxHeartbeats 4000000 in
theorem xL_X11_fullestNow_17 {E : zCx} {g : zGx} (B : zGood E (WM g) (zT g) cX11_fullestNow RX11 wsX11_fullestNow (some .int) rm_X11_fullestNow) (hE : E.2.2 = 6) (S : zSt) (a1 : Int32) (k : Int32 → Int32 → Option Int32) (hk : ∀ (w2 : Int32) (w3 : Int32), Xo E (WM g) (eI S) S 68 [(1, .int a1), (2, .int w2), (3, .int w3)] [] (k w2 w3)) : ∀ (n : Nat) (v2_17 : Int32) (v3_17 : Int32) (v4_17 : Int32), Xo E (WM g) (eI S) S 17 [(0, .ref (g.1 0)), (1, .int a1), (2, .int v2_17), (3, .int v3_17), (4, .int v4_17)] [] (L_X11_fullestNow_17 S a1 k n v2_17 v3_17 v4_17) := by
  have n2 : 2 < E.2.2 := by rw [hE]; decide
  have n3 : 3 < E.2.2 := by rw [hE]; decide
  have n4 : 4 < E.2.2 := by rw [hE]; decide
  have n5 : 5 < E.2.2 := by rw [hE]; decide
  intro n
  induction n with
  | zero =>
    intro _ _ _
    exact r_none
  | succ n ih =>
    intro v2_17 v3_17 v4_17
    rw [L_X11_fullestNow_17]
    refine r_iload B 4 dX11_fullestNow_17 rfl ?_
    refine r_bipush B (100 : Int32) dX11_fullestNow_19 (by decide) ?_
    refine r_icmp_ge B 68 dX11_fullestNow_21 (by decide) (fun _ => ?_) (fun _ => ?_)
    · refine r_sub [1, 2, 3] rfl ?_
      exact hk v2_17 v3_17
    · refine r_aload_n B 0 dX11_fullestNow_24 rfl rfl ?_
      refine r_iload B 4 dX11_fullestNow_25 rfl ?_
      refine r_iload B 4 dX11_fullestNow_27 rfl ?_
      refine r_iconst B (2 : Int32) dX11_fullestNow_29 (by decide) ?_
      refine r_cL (zrunV (As := [.int v4_17, .int v4_17, .int (2 : Int32)]) (rest := []) B 3 0 (fun b hb => k_X11_wardOf B.2.2.1 hb) gX11_fullestNow_X11_wardOf rfl rfl rfl y_X11_wardOf ⟨Nat.le_of_ble_eq_true rfl, Nat.le_of_ble_eq_true rfl⟩ (Nat.le_of_ble_eq_true rfl) rfl (cM_0 g _) rfl rfl rfl (Nat.le_of_ble_eq_true rfl) dX11_fullestNow_30) (fun r30 => ?_)
      refine r_l2i B dX11_fullestNow_33 ?_
      refine r_istore (lv' := fun x5_34 => [(5, .int x5_34), (0, .ref (g.1 0)), (1, .int a1), (2, .int v2_17), (3, .int v3_17), (4, .int v4_17)]) B dX11_fullestNow_34 n5 (fun _ => rfl) (fun x5_34 => ?_)
      refine r_iload B 0 dX11_fullestNow_36 rfl ?_
      refine r_iload_n B 4 dX11_fullestNow_38 rfl rfl ?_
      refine r_jn2 (P := fun j48 : Int32 → Option Int32 => ∀ (y0_48 : Int32), Xo E (WM g) (eI S) S 48 [(0, .ref (g.1 0)), (1, .int a1), (3, .int v3_17), (4, .int v4_17), (5, .int x5_34)] [.int y0_48] (j48 y0_48)) ?_ (fun j48 hj48 => ?_)
      · intro y0_48
        refine r_istore_n (lv' := fun x2_48 => [(2, .int x2_48), (0, .ref (g.1 0)), (1, .int a1), (3, .int v3_17), (4, .int v4_17), (5, .int x5_34)]) B dX11_fullestNow_48 rfl n2 (fun _ => rfl) (fun x2_48 => ?_)
        refine r_iload B 5 dX11_fullestNow_49 rfl ?_
        refine r_iload_n B 3 dX11_fullestNow_51 rfl rfl ?_
        refine r_icmp_le B 60 dX11_fullestNow_52 (by decide) (fun _ => ?_) (fun _ => ?_)
        · refine r_iload_n B 3 dX11_fullestNow_60 rfl rfl ?_
          refine r_istore_n (lv' := fun x3_61 => [(3, .int x3_61), (2, .int x2_48), (0, .ref (g.1 0)), (1, .int a1), (4, .int v4_17), (5, .int x5_34)]) B dX11_fullestNow_61 rfl n3 (fun _ => rfl) (fun x3_61 => ?_)
          refine r_iinc (lv' := fun x4_62 => [(4, .int x4_62), (3, .int x3_61), (2, .int x2_48), (0, .ref (g.1 0)), (1, .int a1), (5, .int x5_34)]) B 4 (1 : Int32) dX11_fullestNow_62 rfl (by decide) n4 (fun _ => rfl) (fun x4_62 => ?_)
          refine r_goto B 17 dX11_fullestNow_65 (by decide) ?_
          refine r_sub [3, 4, 2, 1, 0] rfl ?_
          exact ih x2_48 x3_61 x4_62
        · refine r_iload B 5 dX11_fullestNow_55 rfl ?_
          refine r_goto B 61 dX11_fullestNow_57 (by decide) ?_
          refine r_istore_n (lv' := fun x3_61 => [(3, .int x3_61), (2, .int x2_48), (0, .ref (g.1 0)), (1, .int a1), (4, .int v4_17), (5, .int x5_34)]) B dX11_fullestNow_61 rfl n3 (fun _ => rfl) (fun x3_61 => ?_)
          refine r_iinc (lv' := fun x4_62 => [(4, .int x4_62), (3, .int x3_61), (2, .int x2_48), (0, .ref (g.1 0)), (1, .int a1), (5, .int x5_34)]) B 4 (1 : Int32) dX11_fullestNow_62 rfl (by decide) n4 (fun _ => rfl) (fun x4_62 => ?_)
          refine r_goto B 17 dX11_fullestNow_65 (by decide) ?_
          refine r_sub [3, 4, 2, 1, 0] rfl ?_
          exact ih x2_48 x3_61 x4_62
      refine r_icmp_le B 47 dX11_fullestNow_39 (by decide) (fun _ => ?_) (fun _ => ?_)
      · refine r_iload_n B 3 dX11_fullestNow_47 rfl rfl ?_
        refine r_sub [1, 2, 4, 5, 0] rfl ?_
        exact hj48 v2_17
      · refine r_iload B 5 dX11_fullestNow_42 rfl ?_
        refine r_goto B 48 dX11_fullestNow_44 (by decide) ?_
        refine r_sub [1, 2, 4, 5, 0] rfl ?_
        exact hj48 v4_17
set_option maxRecDepth 100000 in
set_option maxHeartbeats 4000000 in
theorem x_X11_fullestNow {E : zCx} {g : zGx} (B : zGood E (WM g) (zT g) cX11_fullestNow RX11 wsX11_fullestNow (some .int) rm_X11_fullestNow) (hE : E.2.2 = 6) (S : zSt) (a1 : Int32) : Xo E (WM g) (eI S) S 0 [(0, .ref (g.1 0)), (1, .int a1)] [] (F_X11_fullestNow S a1) := by
  have n2 : 2 < E.2.2 := by rw [hE]; decide
  have n3 : 3 < E.2.2 := by rw [hE]; decide
  have n4 : 4 < E.2.2 := by rw [hE]; decide
  have n5 : 5 < E.2.2 := by rw [hE]; decide
  unfold F_X11_fullestNow
  refine r_iload_n B 1 dX11_fullestNow_0 rfl rfl ?_
  refine r_iconst B (2 : Int32) dX11_fullestNow_1 (by decide) ?_
  refine r_icmp_ne B 10 dX11_fullestNow_2 (by decide) (fun _ => ?_) (fun _ => ?_)
  · refine r_iconst B (0 : Int32) dX11_fullestNow_10 (by decide) ?_
    refine r_istore_n (lv' := fun x2_11 => [(2, .int x2_11), (0, .ref (g.1 0)), (1, .int a1)]) B dX11_fullestNow_11 rfl n2 (fun _ => rfl) (fun x2_11 => ?_)
    refine r_iconst B (-1 : Int32) dX11_fullestNow_12 (by decide) ?_
    refine r_istore_n (lv' := fun x3_13 => [(3, .int x3_13), (2, .int x2_11), (0, .ref (g.1 0)), (1, .int a1)]) B dX11_fullestNow_13 rfl n3 (fun _ => rfl) (fun x3_13 => ?_)
    refine r_iconst B (0 : Int32) dX11_fullestNow_14 (by decide) ?_
    refine r_istore (lv' := fun x4_15 => [(4, .int x4_15), (3, .int x3_13), (2, .int x2_11), (0, .ref (g.1 0)), (1, .int a1)]) B dX11_fullestNow_15 n4 (fun _ => rfl) (fun x4_15 => ?_)
    refine r_sub [3, 4, 2, 1, 0] rfl ?_
    refine xL_X11_fullestNow_17 B hE S a1 _ ?_ 1000 x2_11 x3_13 x4_15
    intro w2_17 w3_17
    refine r_iload_n B 0 dX11_fullestNow_68 rfl rfl ?_
    refine r_if_ne B 76 dX11_fullestNow_69 (by decide) (fun _ => ?_) (fun _ => ?_)
    · refine r_iload_n B 2 dX11_fullestNow_76 rfl rfl ?_
      exact r_iret B dX11_fullestNow_77 rfl
    · refine r_iload_n B 1 dX11_fullestNow_72 rfl rfl ?_
      refine r_goto B 77 dX11_fullestNow_73 (by decide) ?_
      exact r_iret B dX11_fullestNow_77 rfl
  · refine r_aload_n B 0 dX11_fullestNow_5 rfl rfl ?_
    refine r_cI (zrunV (As := []) (rest := []) B 0 0 (fun b hb => k_X11_apartNow B.2.2.1 hb) gX11_fullestNow_X11_apartNow rfl rfl rfl y_X11_apartNow ⟨Nat.le_of_ble_eq_true rfl, Nat.le_of_ble_eq_true rfl⟩ (Nat.le_of_ble_eq_true rfl) rfl (cM_0 g _) rfl rfl rfl (Nat.le_of_ble_eq_true rfl) dX11_fullestNow_6) (fun r6 => ?_)
    exact r_iret B dX11_fullestNow_9 rfl
set_option maxRecDepth 20000 in
theorem k_X11_fullestNow {l : Launch} {D : va_G} {g : zGx} (hz : zin (WM g)) {S : zSt} {a1 : Int32} {b : Int32} (h : F_X11_fullestNow S a1 = some b) : zMet l D (WM g) (zT g) yX11_fullestNow wsX11_fullestNow rm_X11_fullestNow S [.ref (g.1 0), .int a1] ((eI S) b) := zmet_of (by decide +kernel) rfl hz (Nat.le_of_ble_eq_true rfl) rfl (fun E _ _ hE B => x_X11_fullestNow B hE S a1) h
abbrev rm_X11_fullest : Room := { frames := 3, cells := 0, slots := 0, locals := 79 }
theorem y_X11_fullest : yX11_fullest.cls = RX11 ∧ yX11_fullest.cls ≠ "java/lang/invoke/MethodHandle" ∧ yX11_fullest.cls ≠ "java/lang/invoke/VarHandle" ∧ (parseMethodDescriptor yX11_fullest.desc).map (fun d => d.parameters.length) = some 1 := by decide +kernel
set_option maxRecDepth 100000 in
set_option maxHeartbeats 4000000 in
theorem x_X11_fullest {E : zCx} {g : zGx} (B : zGood E (WM g) (zT g) cX11_fullest RX11 wsX11_fullest (some .int) rm_X11_fullest) (hE : E.2.2 = 2) (S : zSt) (a1 : Int32) : Xo E (WM g) (eI S) S 0 [(0, .ref (g.1 0)), (1, .int a1)] [] (F_X11_fullest S a1) := by
  unfold F_X11_fullest
  refine r_iload_n B 1 dX11_fullest_0 rfl rfl ?_
  refine r_iconst B (0 : Int32) dX11_fullest_1 (by decide) ?_
  refine r_iconst B (2 : Int32) dX11_fullest_2 (by decide) ?_
  refine r_cI (zrunS (As := [.int a1, .int (0 : Int32), .int (2 : Int32)]) (rest := []) B 3 (fun b hb => k_X11_in B.2.2.1 hb) gX11_fullest_X11_in rfl rfl rfl y_X11_in ⟨Nat.le_of_ble_eq_true rfl, Nat.le_of_ble_eq_true rfl⟩ rfl rfl (Nat.le_of_ble_eq_true rfl) dX11_fullest_3) (fun r3 => ?_)
  refine r_if_eq B 17 dX11_fullest_6 (by decide) (fun _ => ?_) (fun _ => ?_)
  · refine r_bipush B (-2 : Int32) dX11_fullest_17 (by decide) ?_
    exact r_iret B dX11_fullest_19 rfl
  · refine r_aload_n B 0 dX11_fullest_9 rfl rfl ?_
    refine r_iload_n B 1 dX11_fullest_10 rfl rfl ?_
    refine r_cI (zrunV (As := [.int a1]) (rest := []) B 1 0 (fun b hb => k_X11_fullestNow B.2.2.1 hb) gX11_fullest_X11_fullestNow rfl rfl rfl y_X11_fullestNow ⟨Nat.le_of_ble_eq_true rfl, Nat.le_of_ble_eq_true rfl⟩ (Nat.le_of_ble_eq_true rfl) rfl (cM_0 g _) rfl rfl rfl (Nat.le_of_ble_eq_true rfl) dX11_fullest_11) (fun r11 => ?_)
    refine r_goto B 19 dX11_fullest_14 (by decide) ?_
    exact r_iret B dX11_fullest_19 rfl
set_option maxRecDepth 20000 in
theorem k_X11_fullest {l : Launch} {D : va_G} {g : zGx} (hz : zin (WM g)) {S : zSt} {a1 : Int32} {b : Int32} (h : F_X11_fullest S a1 = some b) : zMet l D (WM g) (zT g) yX11_fullest wsX11_fullest rm_X11_fullest S [.ref (g.1 0), .int a1] ((eI S) b) := zmet_of (by decide +kernel) rfl hz (Nat.le_of_ble_eq_true rfl) rfl (fun E _ _ hE B => x_X11_fullest B hE S a1) h
abbrev rm_X11_friends : Room := { frames := 1, cells := 0, slots := 0, locals := 22 }
theorem y_X11_friends : yX11_friends.cls = RX11 ∧ yX11_friends.cls ≠ "java/lang/invoke/MethodHandle" ∧ yX11_friends.cls ≠ "java/lang/invoke/VarHandle" ∧ (parseMethodDescriptor yX11_friends.desc).map (fun d => d.parameters.length) = some 3 := by decide +kernel
theorem m_X11_friends_f50 : Cond.fieldLink RX11 50 "LongestMetModel" "friendsOf" "[I" ∈ wsX11_friends := List.mem_cons_of_mem _ (List.mem_append_left _ (List.mem_of_getElem? (i := 0) rfl))
theorem m_X11_friends_inX11 : ∀ x ∈ u_ws RX11 TX11 27, x ∈ wsX11_friends := fun _ h => List.mem_cons_of_mem _ (List.mem_append_right _ h)
set_option maxRecDepth 100000 in
set_option maxHeartbeats 4000000 in
theorem x_X11_friends {E : zCx} {g : zGx} (B : zGood E (WM g) (zT g) cX11_friends RX11 wsX11_friends (some .int) rm_X11_friends) (hE : E.2.2 = 5) (S : zSt) (a1 : Int32) (a2 : Int32) (a3 : Int32) : Xo E (WM g) eIw S 0 [(0, .ref (g.1 0)), (1, .int a1), (2, .int a2), (3, .int a3)] [] (F_X11_friends S a1 a2 a3) := by
  have n4 : 4 < E.2.2 := by rw [hE]; decide
  unfold F_X11_friends
  refine r_iload_n B 1 dX11_friends_0 rfl rfl ?_
  refine r_iconst B (0 : Int32) dX11_friends_1 (by decide) ?_
  refine r_bipush B (7 : Int32) dX11_friends_2 (by decide) ?_
  refine r_cI (zrunS (As := [.int a1, .int (0 : Int32), .int (7 : Int32)]) (rest := []) B 3 (fun b hb => k_X11_in B.2.2.1 hb) gX11_friends_X11_in rfl rfl rfl y_X11_in ⟨Nat.le_of_ble_eq_true rfl, Nat.le_of_ble_eq_true rfl⟩ rfl rfl (Nat.le_of_ble_eq_true rfl) dX11_friends_4) (fun r4 => ?_)
  refine r_if_eq B 34 dX11_friends_7 (by decide) (fun _ => ?_) (fun _ => ?_)
  · refine r_bipush B (-2 : Int32) dX11_friends_34 (by decide) ?_
    exact r_iret B dX11_friends_36 rfl
  · refine r_iload_n B 2 dX11_friends_10 rfl rfl ?_
    refine r_iconst B (0 : Int32) dX11_friends_11 (by decide) ?_
    refine r_bipush B (7 : Int32) dX11_friends_12 (by decide) ?_
    refine r_cI (zrunS (As := [.int a2, .int (0 : Int32), .int (7 : Int32)]) (rest := []) B 3 (fun b hb => k_X11_in B.2.2.1 hb) gX11_friends_X11_in rfl rfl rfl y_X11_in ⟨Nat.le_of_ble_eq_true rfl, Nat.le_of_ble_eq_true rfl⟩ rfl rfl (Nat.le_of_ble_eq_true rfl) dX11_friends_14) (fun r14 => ?_)
    refine r_if_eq B 34 dX11_friends_17 (by decide) (fun _ => ?_) (fun _ => ?_)
    · refine r_bipush B (-2 : Int32) dX11_friends_34 (by decide) ?_
      exact r_iret B dX11_friends_36 rfl
    · refine r_iload_n B 1 dX11_friends_20 rfl rfl ?_
      refine r_iload_n B 2 dX11_friends_21 rfl rfl ?_
      refine r_icmp_eq B 34 dX11_friends_22 (by decide) (fun _ => ?_) (fun _ => ?_)
      · refine r_bipush B (-2 : Int32) dX11_friends_34 (by decide) ?_
        exact r_iret B dX11_friends_36 rfl
      · refine r_iload_n B 3 dX11_friends_25 rfl rfl ?_
        refine r_iconst B (0 : Int32) dX11_friends_26 (by decide) ?_
        refine r_iconst B (1 : Int32) dX11_friends_27 (by decide) ?_
        refine r_cI (zrunS (As := [.int a3, .int (0 : Int32), .int (1 : Int32)]) (rest := []) B 3 (fun b hb => k_X11_in B.2.2.1 hb) gX11_friends_X11_in rfl rfl rfl y_X11_in ⟨Nat.le_of_ble_eq_true rfl, Nat.le_of_ble_eq_true rfl⟩ rfl rfl (Nat.le_of_ble_eq_true rfl) dX11_friends_28) (fun r28 => ?_)
        refine r_if_ne B 37 dX11_friends_31 (by decide) (fun _ => ?_) (fun _ => ?_)
        · refine r_aload_n B 0 dX11_friends_37 rfl rfl ?_
          refine r_get B 0 10 18 (Nat.le_of_ble_eq_true rfl) rfl (cM_0 g _) rfl m_X11_friends_inX11 (Nat.le_of_ble_eq_true rfl) m_X11_friends_f50 rfl dX11_friends_38 ?_
          refine r_iload_n B 1 dX11_friends_41 rfl rfl ?_
          refine r_iald B 13 0 (Nat.le_of_ble_eq_true rfl) rfl (cM_13 g _) rfl dX11_friends_42 ?_
          refine r_iload_n B 2 dX11_friends_43 rfl rfl ?_
          refine r_ishr B dX11_friends_44 ?_
          refine r_iconst B (1 : Int32) dX11_friends_45 (by decide) ?_
          refine r_iand B dX11_friends_46 ?_
          refine r_istore (lv' := fun x4_47 => [(4, .int x4_47), (0, .ref (g.1 0)), (1, .int a1), (2, .int a2), (3, .int a3)]) B dX11_friends_47 n4 (fun _ => rfl) (fun x4_47 => ?_)
          refine r_aload_n B 1 dX11_friends_49 rfl rfl ?_
          refine r_get B 0 10 18 (Nat.le_of_ble_eq_true rfl) rfl (cM_0 g _) rfl m_X11_friends_inX11 (Nat.le_of_ble_eq_true rfl) m_X11_friends_f50 rfl dX11_friends_50 ?_
          refine r_iload_n B 2 dX11_friends_53 rfl rfl ?_
          refine r_iload_n B 4 dX11_friends_54 rfl rfl ?_
          refine r_iconst B (1 : Int32) dX11_friends_55 (by decide) ?_
          refine r_jn2 (P := fun j84 : Int32 → Option (Int32 × zSt) => ∀ (y0_84 : Int32), Xo E (WM g) eIw S 84 [(0, .ref (g.1 0)), (1, .int a1), (2, .int a2), (3, .int a3), (4, .int x4_47)] [.int y0_84, .int a1, .ref (g.1 13)] (j84 y0_84)) ?_ (fun j84 hj84 => ?_)
          · intro y0_84
            refine r_iast B 13 0 (Nat.le_of_ble_eq_true rfl) rfl (cM_13 g _) rfl (uM_13 g _ _) dX11_friends_84 (fun S84 => ?_)
            refine r_aload_n B 0 dX11_friends_85 rfl rfl ?_
            refine r_get B 0 10 18 (Nat.le_of_ble_eq_true rfl) rfl (cM_0 g _) rfl m_X11_friends_inX11 (Nat.le_of_ble_eq_true rfl) m_X11_friends_f50 rfl dX11_friends_86 ?_
            refine r_iload_n B 2 dX11_friends_89 rfl rfl ?_
            refine r_iload_n B 3 dX11_friends_90 rfl rfl ?_
            refine r_iconst B (1 : Int32) dX11_friends_91 (by decide) ?_
            refine r_icmp_ne B 108 dX11_friends_92 (by decide) (fun _ => ?_) (fun _ => ?_)
            · refine r_aload_n B 0 dX11_friends_108 rfl rfl ?_
              refine r_get B 0 10 18 (Nat.le_of_ble_eq_true rfl) rfl (cM_0 g _) rfl m_X11_friends_inX11 (Nat.le_of_ble_eq_true rfl) m_X11_friends_f50 rfl dX11_friends_109 ?_
              refine r_iload_n B 2 dX11_friends_112 rfl rfl ?_
              refine r_iald B 13 0 (Nat.le_of_ble_eq_true rfl) rfl (cM_13 g _) rfl dX11_friends_113 ?_
              refine r_iconst B (1 : Int32) dX11_friends_114 (by decide) ?_
              refine r_iload_n B 1 dX11_friends_115 rfl rfl ?_
              refine r_ishl B dX11_friends_116 ?_
              refine r_iconst B (-1 : Int32) dX11_friends_117 (by decide) ?_
              refine r_ixor B dX11_friends_118 ?_
              refine r_iand B dX11_friends_119 ?_
              refine r_iast B 13 0 (Nat.le_of_ble_eq_true rfl) rfl (cM_13 g _) rfl (uM_13 g _ _) dX11_friends_120 (fun S120 => ?_)
              refine r_iload B 4 dX11_friends_121 rfl ?_
              exact r_iret B dX11_friends_123 rfl
            · refine r_aload_n B 0 dX11_friends_95 rfl rfl ?_
              refine r_get B 0 10 18 (Nat.le_of_ble_eq_true rfl) rfl (cM_0 g _) rfl m_X11_friends_inX11 (Nat.le_of_ble_eq_true rfl) m_X11_friends_f50 rfl dX11_friends_96 ?_
              refine r_iload_n B 2 dX11_friends_99 rfl rfl ?_
              refine r_iald B 13 0 (Nat.le_of_ble_eq_true rfl) rfl (cM_13 g _) rfl dX11_friends_100 ?_
              refine r_iconst B (1 : Int32) dX11_friends_101 (by decide) ?_
              refine r_iload_n B 1 dX11_friends_102 rfl rfl ?_
              refine r_ishl B dX11_friends_103 ?_
              refine r_ior B dX11_friends_104 ?_
              refine r_goto B 120 dX11_friends_105 (by decide) ?_
              refine r_iast B 13 0 (Nat.le_of_ble_eq_true rfl) rfl (cM_13 g _) rfl (uM_13 g _ _) dX11_friends_120 (fun S120 => ?_)
              refine r_iload B 4 dX11_friends_121 rfl ?_
              exact r_iret B dX11_friends_123 rfl
          refine r_icmp_ne B 72 dX11_friends_56 (by decide) (fun _ => ?_) (fun _ => ?_)
          · refine r_aload_n B 1 dX11_friends_72 rfl rfl ?_
            refine r_get B 0 10 18 (Nat.le_of_ble_eq_true rfl) rfl (cM_0 g _) rfl m_X11_friends_inX11 (Nat.le_of_ble_eq_true rfl) m_X11_friends_f50 rfl dX11_friends_73 ?_
            refine r_iload_n B 2 dX11_friends_76 rfl rfl ?_
            refine r_iald B 13 0 (Nat.le_of_ble_eq_true rfl) rfl (cM_13 g _) rfl dX11_friends_77 ?_
            refine r_iconst B (1 : Int32) dX11_friends_78 (by decide) ?_
            refine r_iload_n B 3 dX11_friends_79 rfl rfl ?_
            refine r_ishl B dX11_friends_80 ?_
            refine r_iconst B (-1 : Int32) dX11_friends_81 (by decide) ?_
            refine r_ixor B dX11_friends_82 ?_
            refine r_iand B dX11_friends_83 ?_
            refine r_sub [1, 2, 3, 4, 0] rfl ?_
            exact hj84 ((zA S 13 a1.toNatClampNeg) &&& (((1 : Int32) <<< (a2 &&& 31)) ^^^ (-1 : Int32)))
          · refine r_aload_n B 1 dX11_friends_59 rfl rfl ?_
            refine r_get B 0 10 18 (Nat.le_of_ble_eq_true rfl) rfl (cM_0 g _) rfl m_X11_friends_inX11 (Nat.le_of_ble_eq_true rfl) m_X11_friends_f50 rfl dX11_friends_60 ?_
            refine r_iload_n B 2 dX11_friends_63 rfl rfl ?_
            refine r_iald B 13 0 (Nat.le_of_ble_eq_true rfl) rfl (cM_13 g _) rfl dX11_friends_64 ?_
            refine r_iconst B (1 : Int32) dX11_friends_65 (by decide) ?_
            refine r_iload_n B 3 dX11_friends_66 rfl rfl ?_
            refine r_ishl B dX11_friends_67 ?_
            refine r_ior B dX11_friends_68 ?_
            refine r_goto B 84 dX11_friends_69 (by decide) ?_
            refine r_sub [1, 2, 3, 4, 0] rfl ?_
            exact hj84 ((zA S 13 a1.toNatClampNeg) ||| ((1 : Int32) <<< (a2 &&& 31)))
        · refine r_bipush B (-2 : Int32) dX11_friends_34 (by decide) ?_
          exact r_iret B dX11_friends_36 rfl
set_option maxRecDepth 20000 in
theorem k_X11_friends {l : Launch} {D : va_G} {g : zGx} (hz : zin (WM g)) {S : zSt} {a1 : Int32} {a2 : Int32} {a3 : Int32} {b : (Int32 × zSt)} (h : F_X11_friends S a1 a2 a3 = some b) : zMet l D (WM g) (zT g) yX11_friends wsX11_friends rm_X11_friends S [.ref (g.1 0), .int a1, .int a2, .int a3] (eIw b) := zmet_of (by decide +kernel) rfl hz (Nat.le_of_ble_eq_true rfl) rfl (fun E _ _ hE B => x_X11_friends B hE S a1 a2 a3) h
abbrev rm_X11_pickedParts : Room := { frames := 1, cells := 0, slots := 0, locals := 22 }
theorem y_X11_pickedParts : yX11_pickedParts.cls = RX11 ∧ yX11_pickedParts.cls ≠ "java/lang/invoke/MethodHandle" ∧ yX11_pickedParts.cls ≠ "java/lang/invoke/VarHandle" ∧ (parseMethodDescriptor yX11_pickedParts.desc).map (fun d => d.parameters.length) = some 1 := by decide +kernel
theorem m_X11_pickedParts_f50 : Cond.fieldLink RX11 50 "LongestMetModel" "friendsOf" "[I" ∈ wsX11_pickedParts := List.mem_cons_of_mem _ (List.mem_append_left _ (List.mem_of_getElem? (i := 0) rfl))
theorem m_X11_pickedParts_inX11 : ∀ x ∈ u_ws RX11 TX11 27, x ∈ wsX11_pickedParts := fun _ h => List.mem_cons_of_mem _ (List.mem_append_right _ h)
set_option maxRecDepth 100000 in
set_option maxHeartbeats 4000000 in
theorem xL_X11_pickedParts_19 {E : zCx} {g : zGx} (B : zGood E (WM g) (zT g) cX11_pickedParts RX11 wsX11_pickedParts (some .int) rm_X11_pickedParts) (hE : E.2.2 = 4) (S : zSt) (a1 : Int32) (k : Int32 → Option Int32) (hk : ∀ (w2 : Int32), Xo E (WM g) (eI S) S 64 [(2, .int w2)] [] (k w2)) : ∀ (n : Nat) (v2_19 : Int32) (v3_19 : Int32), Xo E (WM g) (eI S) S 19 [(0, .ref (g.1 0)), (1, .int a1), (2, .int v2_19), (3, .int v3_19)] [] (L_X11_pickedParts_19 S a1 k n v2_19 v3_19) := by
  have n2 : 2 < E.2.2 := by rw [hE]; decide
  have n3 : 3 < E.2.2 := by rw [hE]; decide
  intro n
  induction n with
  | zero =>
    intro _ _
    exact r_none
  | succ n ih =>
    intro v2_19 v3_19
    rw [L_X11_pickedParts_19]
    refine r_iload_n B 3 dX11_pickedParts_19 rfl rfl ?_
    refine r_bipush B (8 : Int32) dX11_pickedParts_20 (by decide) ?_
    refine r_icmp_ge B 64 dX11_pickedParts_22 (by decide) (fun _ => ?_) (fun _ => ?_)
    · refine r_sub [2] rfl ?_
      exact hk v2_19
    · refine r_iload_n B 2 dX11_pickedParts_25 rfl rfl ?_
      refine r_aload_n B 0 dX11_pickedParts_26 rfl rfl ?_
      refine r_get B 0 10 18 (Nat.le_of_ble_eq_true rfl) rfl (cM_0 g _) rfl m_X11_pickedParts_inX11 (Nat.le_of_ble_eq_true rfl) m_X11_pickedParts_f50 rfl dX11_pickedParts_27 ?_
      refine r_iload_n B 3 dX11_pickedParts_30 rfl rfl ?_
      refine r_iald B 13 0 (Nat.le_of_ble_eq_true rfl) rfl (cM_13 g _) rfl dX11_pickedParts_31 ?_
      refine r_iload_n B 1 dX11_pickedParts_32 rfl rfl ?_
      refine r_cI (zrunS (As := [.int (zA S 13 v3_19.toNatClampNeg), .int a1]) (rest := [.int v2_19]) B 2 (fun b hb => k_X11_has B.2.2.1 hb) gX11_pickedParts_X11_has rfl rfl rfl y_X11_has ⟨Nat.le_of_ble_eq_true rfl, Nat.le_of_ble_eq_true rfl⟩ rfl rfl (Nat.le_of_ble_eq_true rfl) dX11_pickedParts_33) (fun r33 => ?_)
      refine r_if_eq B 55 dX11_pickedParts_36 (by decide) (fun _ => ?_) (fun _ => ?_)
      · refine r_iconst B (0 : Int32) dX11_pickedParts_55 (by decide) ?_
        refine r_iadd B dX11_pickedParts_56 ?_
        refine r_istore_n (lv' := fun x2_57 => [(2, .int x2_57), (0, .ref (g.1 0)), (1, .int a1), (3, .int v3_19)]) B dX11_pickedParts_57 rfl n2 (fun _ => rfl) (fun x2_57 => ?_)
        refine r_iinc (lv' := fun x3_58 => [(3, .int x3_58), (2, .int x2_57), (0, .ref (g.1 0)), (1, .int a1)]) B 3 (1 : Int32) dX11_pickedParts_58 rfl (by decide) n3 (fun _ => rfl) (fun x3_58 => ?_)
        refine r_goto B 19 dX11_pickedParts_61 (by decide) ?_
        refine r_sub [2, 3, 1, 0] rfl ?_
        exact ih x2_57 x3_58
      · refine r_sipush B (420 : Int32) dX11_pickedParts_39 (by decide) ?_
        refine r_aload_n B 0 dX11_pickedParts_42 rfl rfl ?_
        refine r_get B 0 10 18 (Nat.le_of_ble_eq_true rfl) rfl (cM_0 g _) rfl m_X11_pickedParts_inX11 (Nat.le_of_ble_eq_true rfl) m_X11_pickedParts_f50 rfl dX11_pickedParts_43 ?_
        refine r_iload_n B 3 dX11_pickedParts_46 rfl rfl ?_
        refine r_iald B 13 0 (Nat.le_of_ble_eq_true rfl) rfl (cM_13 g _) rfl dX11_pickedParts_47 ?_
        refine r_cI (zrunS (As := [.int (zA S 13 v3_19.toNatClampNeg)]) (rest := [.int (420 : Int32), .int v2_19]) B 1 (fun b hb => k_X11_ones B.2.2.1 hb) gX11_pickedParts_X11_ones rfl rfl rfl y_X11_ones ⟨Nat.le_of_ble_eq_true rfl, Nat.le_of_ble_eq_true rfl⟩ rfl rfl (Nat.le_of_ble_eq_true rfl) dX11_pickedParts_48) (fun r48 => ?_)
        refine r_idiv B dX11_pickedParts_51 (fun _ => ?_)
        refine r_goto B 56 dX11_pickedParts_52 (by decide) ?_
        refine r_iadd B dX11_pickedParts_56 ?_
        refine r_istore_n (lv' := fun x2_57 => [(2, .int x2_57), (0, .ref (g.1 0)), (1, .int a1), (3, .int v3_19)]) B dX11_pickedParts_57 rfl n2 (fun _ => rfl) (fun x2_57 => ?_)
        refine r_iinc (lv' := fun x3_58 => [(3, .int x3_58), (2, .int x2_57), (0, .ref (g.1 0)), (1, .int a1)]) B 3 (1 : Int32) dX11_pickedParts_58 rfl (by decide) n3 (fun _ => rfl) (fun x3_58 => ?_)
        refine r_goto B 19 dX11_pickedParts_61 (by decide) ?_
        refine r_sub [2, 3, 1, 0] rfl ?_
        exact ih x2_57 x3_58
set_option maxRecDepth 100000 in
set_option maxHeartbeats 4000000 in
theorem x_X11_pickedParts {E : zCx} {g : zGx} (B : zGood E (WM g) (zT g) cX11_pickedParts RX11 wsX11_pickedParts (some .int) rm_X11_pickedParts) (hE : E.2.2 = 4) (S : zSt) (a1 : Int32) : Xo E (WM g) (eI S) S 0 [(0, .ref (g.1 0)), (1, .int a1)] [] (F_X11_pickedParts S a1) := by
  have n2 : 2 < E.2.2 := by rw [hE]; decide
  have n3 : 3 < E.2.2 := by rw [hE]; decide
  unfold F_X11_pickedParts
  refine r_aload_n B 0 dX11_pickedParts_0 rfl rfl ?_
  refine r_get B 0 10 18 (Nat.le_of_ble_eq_true rfl) rfl (cM_0 g _) rfl m_X11_pickedParts_inX11 (Nat.le_of_ble_eq_true rfl) m_X11_pickedParts_f50 rfl dX11_pickedParts_1 ?_
  refine r_iload_n B 1 dX11_pickedParts_4 rfl rfl ?_
  refine r_iald B 13 0 (Nat.le_of_ble_eq_true rfl) rfl (cM_13 g _) rfl dX11_pickedParts_5 ?_
  refine r_jn2 (P := fun j16 : Int32 → Option Int32 => ∀ (y0_16 : Int32), Xo E (WM g) (eI S) S 16 [(0, .ref (g.1 0)), (1, .int a1)] [.int y0_16] (j16 y0_16)) ?_ (fun j16 hj16 => ?_)
  · intro y0_16
    refine r_istore_n (lv' := fun x2_16 => [(2, .int x2_16), (0, .ref (g.1 0)), (1, .int a1)]) B dX11_pickedParts_16 rfl n2 (fun _ => rfl) (fun x2_16 => ?_)
    refine r_iconst B (0 : Int32) dX11_pickedParts_17 (by decide) ?_
    refine r_istore_n (lv' := fun x3_18 => [(3, .int x3_18), (2, .int x2_16), (0, .ref (g.1 0)), (1, .int a1)]) B dX11_pickedParts_18 rfl n3 (fun _ => rfl) (fun x3_18 => ?_)
    refine r_sub [2, 3, 1, 0] rfl ?_
    refine xL_X11_pickedParts_19 B hE S a1 _ ?_ 1000 x2_16 x3_18
    intro w2_19
    refine r_iload_n B 0 dX11_pickedParts_64 rfl rfl ?_
    exact r_iret B dX11_pickedParts_65 rfl
  refine r_if_ne B 15 dX11_pickedParts_6 (by decide) (fun _ => ?_) (fun _ => ?_)
  · refine r_iconst B (0 : Int32) dX11_pickedParts_15 (by decide) ?_
    exact hj16 (0 : Int32)
  · refine r_sipush B (420 : Int32) dX11_pickedParts_9 (by decide) ?_
    refine r_goto B 16 dX11_pickedParts_12 (by decide) ?_
    exact hj16 (420 : Int32)
set_option maxRecDepth 20000 in
theorem k_X11_pickedParts {l : Launch} {D : va_G} {g : zGx} (hz : zin (WM g)) {S : zSt} {a1 : Int32} {b : Int32} (h : F_X11_pickedParts S a1 = some b) : zMet l D (WM g) (zT g) yX11_pickedParts wsX11_pickedParts rm_X11_pickedParts S [.ref (g.1 0), .int a1] ((eI S) b) := zmet_of (by decide +kernel) rfl hz (Nat.le_of_ble_eq_true rfl) rfl (fun E _ _ hE B => x_X11_pickedParts B hE S a1) h
