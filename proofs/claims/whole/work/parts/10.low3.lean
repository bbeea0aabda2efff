set_option maxRecDepth 100000 in
def F_X6_setLine (S : zSt) (a1 : Int32) (a2 : Int64) : Option zSt :=
 ibd a1 2 (lt (sL S 11 (vp_updL (zL S 11) a1.toNatClampNeg a2)) (fun S6 : zSt =>
 some S6))
set_option maxRecDepth 100000 in
def F_X6_minutesOf (S : zSt) (a1 : Int32) : Option Int64 :=
 if a1 = (2 : Int32) then (ibd (0 : Int32) 2 (ibd (1 : Int32) 2 (some ((zL S 11 (0 : Int32).toNatClampNeg) ||| (zL S 11 (1 : Int32).toNatClampNeg))))) else
 (ibd a1 2 (some (zL S 11 a1.toNatClampNeg)))
set_option maxRecDepth 100000 in
def F_J13_bitCount_95d88 (a0 : Int64) : Option Int32 :=
 lt (a0 - ((((a0).toUInt64 >>> (((1 : Int32)).toInt64.toUInt64 &&& Int64.toUInt64 63)).toInt64) &&& (6148914691236517205 : Int64))) (fun x0_9 : Int64 =>
 lt ((x0_9 &&& (3689348814741910323 : Int64)) + ((((x0_9).toUInt64 >>> (((2 : Int32)).toInt64.toUInt64 &&& Int64.toUInt64 63)).toInt64) &&& (3689348814741910323 : Int64))) (fun x0_23 : Int64 =>
 lt ((x0_23 + (((x0_23).toUInt64 >>> (((4 : Int32)).toInt64.toUInt64 &&& Int64.toUInt64 63)).toInt64)) &&& (1085102592571150095 : Int64)) (fun x0_33 : Int64 =>
 lt (x0_33 + (((x0_33).toUInt64 >>> (((8 : Int32)).toInt64.toUInt64 &&& Int64.toUInt64 63)).toInt64)) (fun x0_40 : Int64 =>
 lt (x0_40 + (((x0_40).toUInt64 >>> (((16 : Int32)).toInt64.toUInt64 &&& Int64.toUInt64 63)).toInt64)) (fun x0_47 : Int64 =>
 lt (x0_47 + (((x0_47).toUInt64 >>> (((32 : Int32)).toInt64.toUInt64 &&& Int64.toUInt64 63)).toInt64)) (fun x0_54 : Int64 =>
 some ((x0_54.toInt32) &&& (127 : Int32))))))))
set_option maxRecDepth 100000 in
def F_X6_busesOf (S : zSt) (a1 : Int32) : Option Int32 :=
 (F_X6_minutesOf S a1).bind (fun r2 : Int64 =>
 (F_J13_bitCount_95d88 r2).bind (fun r5 : Int32 =>
 some r5))
set_option maxRecDepth 100000 in
def L_X6_waitAt_9 (S : zSt) (a2 : Int32) (x3_5 : Int64) (k : Option Int32) : Nat → Int32 → Option Int32
  | 0, _ => none
  | n + 1, v5_9 =>
    (if (60 : Int32) ≤ v5_9 then (k) else
 (nz (60 : Int32) ((F_X6_isIn x3_5 ((a2 + v5_9) - (a2 + v5_9) / (60 : Int32) * (60 : Int32))).bind (fun r24 : Int32 =>
 if r24 = 0 then (lt (v5_9 + (1 : Int32)) (fun x5_33 : Int32 =>
 L_X6_waitAt_9 S a2 x3_5 k n x5_33)) else
 (some v5_9)))))
set_option maxRecDepth 100000 in
def F_X6_waitAt (S : zSt) (a1 : Int32) (a2 : Int32) : Option Int32 :=
 (F_X6_minutesOf S a1).bind (fun r2 : Int64 =>
 lt r2 (fun x3_5 : Int64 =>
 lt (0 : Int32) (fun x5_7 : Int32 =>
 L_X6_waitAt_9 S a2 x3_5 (some (60 : Int32)) 1000 x5_7)))
set_option maxRecDepth 100000 in
def F_X6_gapBehind (S : zSt) (a1 : Int32) (a2 : Int32) : Option Int32 :=
 nz (60 : Int32) ((F_X6_waitAt S a1 ((a2 + (1 : Int32)) - (a2 + (1 : Int32)) / (60 : Int32) * (60 : Int32))).bind (fun r9 : Int32 =>
 some ((1 : Int32) + r9)))
set_option maxRecDepth 100000 in
def L_X6_metBy_12 (S : zSt) (a1 : Int32) (a2 : Int32) (x3_5 : Int64) (k : Int32 → Option Int32) : Nat → Int32 → Int32 → Option Int32
  | 0, _, _ => none
  | n + 1, v5_12, v6_12 =>
    (if (60 : Int32) ≤ v6_12 then (k v5_12) else
 ((F_X6_isIn x3_5 v6_12).bind (fun r22 : Int32 =>
 if r22 = 0 then (lt (v6_12 + (1 : Int32)) (fun x6_45 : Int32 =>
 L_X6_metBy_12 S a1 a2 x3_5 k n v5_12 x6_45)) else
 ((F_X6_gapBehind S a1 v6_12).bind (fun r32 : Int32 =>
 if r32 = a2 then (lt (v5_12 + a2) (fun x5_43 : Int32 =>
 lt (v6_12 + (1 : Int32)) (fun x6_45 : Int32 =>
 L_X6_metBy_12 S a1 a2 x3_5 k n x5_43 x6_45))) else
 (lt (v6_12 + (1 : Int32)) (fun x6_45 : Int32 =>
 L_X6_metBy_12 S a1 a2 x3_5 k n v5_12 x6_45)))))))
set_option maxRecDepth 100000 in
def F_X6_metBy (S : zSt) (a1 : Int32) (a2 : Int32) : Option Int32 :=
 (F_X6_minutesOf S a1).bind (fun r2 : Int64 =>
 lt r2 (fun x3_5 : Int64 =>
 lt (0 : Int32) (fun x5_7 : Int32 =>
 lt (0 : Int32) (fun x6_10 : Int32 =>
 L_X6_metBy_12 S a1 a2 x3_5 (fun (w5_12 : Int32) =>
 some w5_12) 1000 x5_7 x6_10))))
set_option maxRecDepth 100000 in
def F_X6_weightOf (a0 : Int32) (a1 : Int32) : Option Int32 :=
 if a1 = 0 then (some a0) else
 (if a1 = (1 : Int32) then (some (a0 * a0)) else
 ((F_X6_waitsIn a0).bind (fun r18 : Int32 =>
 some r18)))
set_option maxRecDepth 100000 in
def L_X6_sumOfGaps_12 (S : zSt) (a1 : Int32) (a2 : Int32) (x3_5 : Int64) (k : Int32 → Option Int32) : Nat → Int32 → Int32 → Option Int32
  | 0, _, _ => none
  | n + 1, v5_12, v6_12 =>
    (if (60 : Int32) ≤ v6_12 then (k v5_12) else
 ((F_X6_isIn x3_5 v6_12).bind (fun r22 : Int32 =>
 if r22 = 0 then (lt (v6_12 + (1 : Int32)) (fun x6_44 : Int32 =>
 L_X6_sumOfGaps_12 S a1 a2 x3_5 k n v5_12 x6_44)) else
 ((F_X6_gapBehind S a1 v6_12).bind (fun r34 : Int32 =>
 (F_X6_weightOf r34 a2).bind (fun r38 : Int32 =>
 lt (v5_12 + r38) (fun x5_42 : Int32 =>
 lt (v6_12 + (1 : Int32)) (fun x6_44 : Int32 =>
 L_X6_sumOfGaps_12 S a1 a2 x3_5 k n x5_42 x6_44))))))))
set_option maxRecDepth 100000 in
def F_X6_sumOfGaps (S : zSt) (a1 : Int32) (a2 : Int32) : Option Int32 :=
 (F_X6_minutesOf S a1).bind (fun r2 : Int64 =>
 lt r2 (fun x3_5 : Int64 =>
 lt (0 : Int32) (fun x5_7 : Int32 =>
 lt (0 : Int32) (fun x6_10 : Int32 =>
 L_X6_sumOfGaps_12 S a1 a2 x3_5 (fun (w5_12 : Int32) =>
 some w5_12) 1000 x5_7 x6_10))))
set_option maxRecDepth 100000 in
def F_X7_cannotBeNow (S : zSt) (a1 : Int32) : Option Int32 :=
 (F_X10_outside a1 (zI S 5) (999 : Int32)).bind (fun r8 : Int32 =>
 zb r8 (some r8))
set_option maxRecDepth 100000 in
def F_X7_answer (S : zSt) (a1 : Int32) (a2 : Int32) : Option (Int32 × zSt) :=
 if (zI S 4) < (40 : Int32) then (ibd (zI S 4) 40 (lt (sA S 15 (upd (zA S 15) (zI S 4).toNatClampNeg a1)) (fun S21 : zSt =>
 ibd (zI S21 4) 40 (lt (sA S21 16 (upd (zA S21 16) (zI S21 4).toNatClampNeg a2)) (fun S31 : zSt =>
 ibd (zI S31 4) 40 (lt (sA S31 17 (upd (zA S31 17) (zI S31 4).toNatClampNeg (1000 : Int32))) (fun S43 : zSt =>
 lt (sI S43 5 a2) (fun S46 : zSt =>
 lt (sI S46 4 ((zI S46 4) + (1 : Int32))) (fun S56 : zSt =>
 some (((zI S56 4) - (1 : Int32)), S56)))))))))) else
 (some ((-4 : Int32), S))
set_option maxRecDepth 100000 in
def F_X7_answersTold (S : zSt) : Option Int32 :=
 some (zI S 4)
set_option maxRecDepth 100000 in
def F_X7_isTakenBack (S : zSt) (a1 : Int32) : Option Int32 :=
 ibd a1 40 (if (zA S 17 a1.toNatClampNeg) = (1000 : Int32) then (some (0 : Int32)) else
 (some (1 : Int32)))
set_option maxRecDepth 100000 in
def F_X7_forget (S : zSt) (a1 : Int32) (a2 : Int32) : Option zSt :=
 ibd a1 40 (lt (sA S 17 (upd (zA S 17) a1.toNatClampNeg a2)) (fun S6 : zSt =>
 lt (sI S6 5 a2) (fun S9 : zSt =>
 some S9)))
set_option maxRecDepth 100000 in
def F_X7_lookFrom (S : zSt) (a1 : Int32) : Option (Int32 × zSt) :=
 lt (zI S 6) (fun x2_4 : Int32 =>
 lt (sI S 6 a1) (fun S7 : zSt =>
 some (x2_4, S7)))
set_option maxRecDepth 100000 in
def L_X7_childrenSaid_4 (S : zSt) (k : Int32 → Option Int32) : Nat → Int32 → Int32 → Option Int32
  | 0, _, _ => none
  | n + 1, v1_4, v2_4 =>
    (if (8 : Int32) < v2_4 then (k v1_4) else
 ((F_X7_saying S v2_4).bind (fun r14 : Int32 =>
 lt (v1_4 + (v2_4 * r14)) (fun x1_19 : Int32 =>
 lt (v2_4 + (1 : Int32)) (fun x2_20 : Int32 =>
 L_X7_childrenSaid_4 S k n x1_19 x2_20)))))
set_option maxRecDepth 100000 in
def F_X7_childrenSaid (S : zSt) : Option Int32 :=
 lt (0 : Int32) (fun x1_1 : Int32 =>
 lt (1 : Int32) (fun x2_3 : Int32 =>
 L_X7_childrenSaid_4 S (fun (w1_4 : Int32) =>
 some w1_4) 1000 x1_1 x2_3))
set_option maxRecDepth 100000 in
def F_X7_familyParts (S : zSt) (a1 : Int32) : Option Int32 :=
 if a1 ≤ 0 then (some (0 : Int32)) else
 ((F_X7_saying S a1).bind (fun r6 : Int32 =>
 nz a1 (some (r6 * ((840 : Int32) / a1)))))
set_option maxRecDepth 100000 in
def L_X7_allFamilyParts_4 (S : zSt) (k : Int32 → Option Int32) : Nat → Int32 → Int32 → Option Int32
  | 0, _, _ => none
  | n + 1, v1_4, v2_4 =>
    (if (8 : Int32) < v2_4 then (k v1_4) else
 ((F_X7_familyParts S v2_4).bind (fun r13 : Int32 =>
 lt (v1_4 + r13) (fun x1_17 : Int32 =>
 lt (v2_4 + (1 : Int32)) (fun x2_18 : Int32 =>
 L_X7_allFamilyParts_4 S k n x1_17 x2_18)))))
set_option maxRecDepth 100000 in
def F_X7_allFamilyParts (S : zSt) : Option Int32 :=
 lt (0 : Int32) (fun x1_1 : Int32 =>
 lt (1 : Int32) (fun x2_3 : Int32 =>
 L_X7_allFamilyParts_4 S (fun (w1_4 : Int32) =>
 some w1_4) 1000 x1_1 x2_3))
set_option maxRecDepth 100000 in
def F_X8_append (S : zSt) (a1 : Int32) : Option (Int32 × zSt) :=
 if (zI S 0) < (40 : Int32) then (ibd (zI S 0) 40 (lt (sA S 10 (upd (zA S 10) (zI S 0).toNatClampNeg a1)) (fun S21 : zSt =>
 lt (sI S21 0 ((zI S21 0) + (1 : Int32))) (fun S29 : zSt =>
 some ((zI S29 0), S29))))) else
 (some ((-4 : Int32), S))
set_option maxRecDepth 100000 in
def F_X8_empty (S : zSt) : Option (Int32 × zSt) :=
 lt (zI S 0) (fun x1_4 : Int32 =>
 lt (sI S 0 (0 : Int32)) (fun S7 : zSt =>
 some (x1_4, S7)))
set_option maxRecDepth 100000 in
def F_X8_bytesTyped (S : zSt) : Option Int32 :=
 some (zI S 0)
set_option maxRecDepth 100000 in
def F_X8_minutesScanned (S : zSt) : Option Int64 :=
 some (zJ S 0)
set_option maxRecDepth 100000 in
def F_X8_ahead (S : zSt) : Option Int32 :=
 if (zI S 0) ≤ (zI S 1) then (some (-1 : Int32)) else
 (ibd (zI S 1) 40 (some (zA S 10 (zI S 1).toNatClampNeg)))
set_option maxRecDepth 100000 in
def L_X8_scanNumber_4  (k : zSt → Int32 → Option (Int32 × zSt)) : Nat → zSt → Int32 → Int32 → Option (Int32 × zSt)
  | 0, _, _, _ => none
  | n + 1, S4, v1_4, v2_4 =>
    (if (2 : Int32) ≤ v2_4 then (k S4 v1_4) else
 ((F_X8_ahead S4).bind (fun r10 : Int32 =>
 (F_X10_outside r10 (48 : Int32) (57 : Int32)).bind (fun r17 : Int32 =>
 if r17 = 0 then ((F_X8_ahead S4).bind (fun r32 : Int32 =>
 lt ((((10 : Int32) * (zmax v1_4 (0 : Int32))) + r32) - (48 : Int32)) (fun x1_39 : Int32 =>
 lt (sI S4 1 ((zI S4 1) + (1 : Int32))) (fun S47 : zSt =>
 lt (v2_4 + (1 : Int32)) (fun x2_50 : Int32 =>
 L_X8_scanNumber_4 k n S47 x1_39 x2_50))))) else
 (k S4 v1_4)))))
set_option maxRecDepth 100000 in
def F_X8_scanNumber (S : zSt) : Option (Int32 × zSt) :=
 lt (-1 : Int32) (fun x1_1 : Int32 =>
 lt (0 : Int32) (fun x2_3 : Int32 =>
 L_X8_scanNumber_4 (fun (S4x_4 : zSt) (w1_4 : Int32) =>
 some (w1_4, S4x_4)) 1000 S x1_1 x2_3))
set_option maxRecDepth 100000 in
def L_X8_scanPart_80 (x3_64 : Int32) (k : zSt → Option (Int32 × zSt)) : Nat → zSt → Int32 → Option (Int32 × zSt)
  | 0, _, _ => none
  | n + 1, S80, v4_80 =>
    (if (60 : Int32) ≤ v4_80 then (k S80) else
 (lt (sJ S80 0 ((zJ S80 0) ||| ((1 : Int64) <<< ((v4_80).toInt64 &&& 63)))) (fun S97 : zSt =>
 lt (v4_80 + x3_64) (fun x4_104 : Int32 =>
 L_X8_scanPart_80 x3_64 k n S97 x4_104))))
set_option maxRecDepth 100000 in
def F_X8_scanPart (S : zSt) : Option (Int32 × zSt) :=
 lt (zI S 1) (fun x1_4 : Int32 =>
 b2 (F_X8_scanNumber S) (fun (r6 : Int32) (S6 : zSt) =>
 lt r6 (fun x2_9 : Int32 =>
 (F_X10_outside x2_9 (0 : Int32) (59 : Int32)).bind (fun r14 : Int32 =>
 if r14 = 0 then ((F_X8_ahead S6).bind (fun r23 : Int32 =>
 if r23 = (43 : Int32) then (lt (sI S6 1 ((zI S6 1) + (1 : Int32))) (fun S52 : zSt =>
 lt (zI S52 1) (fun x1_59 : Int32 =>
 b2 (F_X8_scanNumber S52) (fun (r61 : Int32) (S61 : zSt) =>
 lt r61 (fun x3_64 : Int32 =>
 (F_X10_outside x3_64 (1 : Int32) (59 : Int32)).bind (fun r69 : Int32 =>
 if r69 = 0 then (lt x2_9 (fun x4_78 : Int32 =>
 L_X8_scanPart_80 x3_64 (fun (S80x_80 : zSt) =>
 some ((-1 : Int32), S80x_80)) 1000 S61 x4_78)) else
 (some (x1_59, S61)))))))) else
 (lt (sJ S6 0 ((zJ S6 0) ||| ((1 : Int64) <<< ((x2_9).toInt64 &&& 63)))) (fun S40 : zSt =>
 some ((-1 : Int32), S40))))) else
 (some (x1_4, S6))))))
set_option maxRecDepth 100000 in
def L_X8_scan_12  (k : zSt → Option (Int32 × zSt)) : Nat → zSt → Int32 → Option (Int32 × zSt)
  | 0, _, _ => none
  | n + 1, S12, v1_12 =>
    (if (40 : Int32) < v1_12 then (k S12) else
 (b2 (F_X8_scanPart S12) (fun (r19 : Int32) (S19 : zSt) =>
 lt r19 (fun x2_22 : Int32 =>
 if x2_22 = (-1 : Int32) then ((F_X8_ahead S19).bind (fun r31 : Int32 =>
 if r31 = (-1 : Int32) then (some ((-1 : Int32), S19)) else
 ((F_X8_ahead S19).bind (fun r41 : Int32 =>
 if r41 = (44 : Int32) then (lt (sI S19 1 ((zI S19 1) + (1 : Int32))) (fun S61 : zSt =>
 lt (v1_12 + (1 : Int32)) (fun x1_64 : Int32 =>
 L_X8_scan_12 k n S61 x1_64))) else
 (some ((zI S19 1), S19)))))) else
 (some (x2_22, S19))))))
set_option maxRecDepth 100000 in
def F_X8_scan (S : zSt) : Option (Int32 × zSt) :=
 lt (sI S 1 (0 : Int32)) (fun S2 : zSt =>
 lt (sJ S2 0 (0 : Int64)) (fun S7 : zSt =>
 lt (0 : Int32) (fun x1_11 : Int32 =>
 L_X8_scan_12 (fun (S12x_12 : zSt) =>
 some ((zI S12x_12 1), S12x_12)) 1000 S7 x1_11)))
set_option maxRecDepth 100000 in
def F_X9_admit (S : zSt) (a1 : Int32) (a2 : Int32) : Option (Int32 × zSt) :=
 if (zI S 7) < (24 : Int32) then (ibd (zI S 7) 24 (lt (sA S 19 (upd (zA S 19) (zI S 7).toNatClampNeg a1)) (fun S21 : zSt =>
 ibd (zI S21 7) 24 (lt (sA S21 20 (upd (zA S21 20) (zI S21 7).toNatClampNeg a2)) (fun S31 : zSt =>
 lt (sI S31 7 ((zI S31 7) + (1 : Int32))) (fun S39 : zSt =>
 some (((zI S39 7) - (1 : Int32)), S39))))))) else
 (some ((-4 : Int32), S))
set_option maxRecDepth 100000 in
def F_X9_staysTold (S : zSt) : Option Int32 :=
 some (zI S 7)
set_option maxRecDepth 100000 in
def F_X9_firstDay (S : zSt) (a1 : Int32) : Option Int32 :=
 ibd a1 24 (some (zA S 19 a1.toNatClampNeg))
set_option maxRecDepth 100000 in
def F_X9_endOn (S : zSt) (a1 : Int32) (a2 : Int32) : Option (Int32 × zSt) :=
 ibd a1 24 (lt (zA S 20 a1.toNatClampNeg) (fun x3_6 : Int32 =>
 ibd a1 24 (lt (sA S 20 (upd (zA S 20) a1.toNatClampNeg a2)) (fun S13 : zSt =>
 some (x3_6, S13)))))
abbrev rm_X6_setLine : Room := { frames := 0, cells := 0, slots := 0, locals := 0 }
theorem y_X6_setLine : yX6_setLine.cls = RX6 ∧ yX6_setLine.cls ≠ "java/lang/invoke/MethodHandle" ∧ yX6_setLine.cls ≠ "java/lang/invoke/VarHandle" ∧ (parseMethodDescriptor yX6_setLine.desc).map (fun d => d.parameters.length) = some 2 := by decide +kernel
theorem m_X6_setLine_f9 : Cond.fieldLink RX6 9 "LongestMet$Stop" "lines" "[J" ∈ wsX6_setLine := List.mem_cons_of_mem _ (List.mem_append_left _ (List.mem_of_getElem? (i := 0) rfl))
theorem m_X6_setLine_inX6 : ∀ x ∈ u_ws RX6 TX6 1, x ∈ wsX6_setLine := fun _ h => List.mem_cons_of_mem _ (List.mem_append_right _ h)
set_option maxRecDepth 100000 in
set_option maxHeartbeats 4000000 in
theorem x_X6_setLine {E : zCx} {g : zGx} (B : zGood E (WX g) (zT g) cX6_setLine RX6 wsX6_setLine none rm_X6_setLine) (hE : E.2.2 = 4) (S : zSt) (a1 : Int32) (a2 : Int64) : Xo E (WX g) eVw S 0 [(0, .ref (g.1 2)), (1, .int a1), (2, .long a2)] [] (F_X6_setLine S a1 a2) := by
  unfold F_X6_setLine
  refine r_aload_n B 0 dX6_setLine_0 rfl rfl ?_
  refine r_get B 2 5 0 (Nat.le_of_ble_eq_true rfl) rfl (cX_2 g _) rfl m_X6_setLine_inX6 (Nat.le_of_ble_eq_true rfl) m_X6_setLine_f9 rfl dX6_setLine_1 ?_
  refine r_iload_n B 1 dX6_setLine_4 rfl rfl ?_
  refine r_lload_n B 2 dX6_setLine_5 rfl rfl ?_
  refine r_last B 11 1 (Nat.le_of_ble_eq_true rfl) rfl (cX_11 g _) rfl (uX_11 g _ _) dX6_setLine_6 (fun S6 => ?_)
  exact r_vret B dX6_setLine_7 rfl
set_option maxRecDepth 20000 in
theorem k_X6_setLine {l : Launch} {D : va_G} {g : zGx} (hz : zin (WX g)) {S : zSt} {a1 : Int32} {a2 : Int64} {b : zSt} (h : F_X6_setLine S a1 a2 = some b) : zMet l D (WX g) (zT g) yX6_setLine wsX6_setLine rm_X6_setLine S [.ref (g.1 2), .int a1, .long a2] (eVw b) := zmet_of (by decide +kernel) rfl hz (Nat.le_of_ble_eq_true rfl) rfl (fun E _ _ hE B => x_X6_setLine B hE S a1 a2) h
abbrev rm_X6_minutesOf : Room := { frames := 0, cells := 0, slots := 0, locals := 0 }
theorem y_X6_minutesOf : yX6_minutesOf.cls = RX6 ∧ yX6_minutesOf.cls ≠ "java/lang/invoke/MethodHandle" ∧ yX6_minutesOf.cls ≠ "java/lang/invoke/VarHandle" ∧ (parseMethodDescriptor yX6_minutesOf.desc).map (fun d => d.parameters.length) = some 1 := by decide +kernel
theorem m_X6_minutesOf_f9 : Cond.fieldLink RX6 9 "LongestMet$Stop" "lines" "[J" ∈ wsX6_minutesOf := List.mem_cons_of_mem _ (List.mem_append_left _ (List.mem_of_getElem? (i := 0) rfl))
theorem m_X6_minutesOf_inX6 : ∀ x ∈ u_ws RX6 TX6 1, x ∈ wsX6_minutesOf := fun _ h => List.mem_cons_of_mem _ (List.mem_append_right _ h)
set_option maxRecDepth 100000 in
set_option maxHeartbeats 4000000 in
theorem x_X6_minutesOf {E : zCx} {g : zGx} (B : zGood E (WX g) (zT g) cX6_minutesOf RX6 wsX6_minutesOf (some .long) rm_X6_minutesOf) (hE : E.2.2 = 2) (S : zSt) (a1 : Int32) : Xo E (WX g) (eL S) S 0 [(0, .ref (g.1 2)), (1, .int a1)] [] (F_X6_minutesOf S a1) := by
  unfold F_X6_minutesOf
  refine r_iload_n B 1 dX6_minutesOf_0 rfl rfl ?_
  refine r_iconst B (2 : Int32) dX6_minutesOf_1 (by decide) ?_
  refine r_icmp_ne B 21 dX6_minutesOf_2 (by decide) (fun _ => ?_) (fun _ => ?_)
  · refine r_aload_n B 0 dX6_minutesOf_21 rfl rfl ?_
    refine r_get B 2 5 0 (Nat.le_of_ble_eq_true rfl) rfl (cX_2 g _) rfl m_X6_minutesOf_inX6 (Nat.le_of_ble_eq_true rfl) m_X6_minutesOf_f9 rfl dX6_minutesOf_22 ?_
    refine r_iload_n B 1 dX6_minutesOf_25 rfl rfl ?_
    refine r_lald B 11 1 (Nat.le_of_ble_eq_true rfl) rfl (cX_11 g _) rfl dX6_minutesOf_26 ?_
    exact r_lret B dX6_minutesOf_27 rfl
  · refine r_aload_n B 0 dX6_minutesOf_5 rfl rfl ?_
    refine r_get B 2 5 0 (Nat.le_of_ble_eq_true rfl) rfl (cX_2 g _) rfl m_X6_minutesOf_inX6 (Nat.le_of_ble_eq_true rfl) m_X6_minutesOf_f9 rfl dX6_minutesOf_6 ?_
    refine r_iconst B (0 : Int32) dX6_minutesOf_9 (by decide) ?_
    refine r_lald B 11 1 (Nat.le_of_ble_eq_true rfl) rfl (cX_11 g _) rfl dX6_minutesOf_10 ?_
    refine r_aload_n B 0 dX6_minutesOf_11 rfl rfl ?_
    refine r_get B 2 5 0 (Nat.le_of_ble_eq_true rfl) rfl (cX_2 g _) rfl m_X6_minutesOf_inX6 (Nat.le_of_ble_eq_true rfl) m_X6_minutesOf_f9 rfl dX6_minutesOf_12 ?_
    refine r_iconst B (1 : Int32) dX6_minutesOf_15 (by decide) ?_
    refine r_lald B 11 1 (Nat.le_of_ble_eq_true rfl) rfl (cX_11 g _) rfl dX6_minutesOf_16 ?_
    refine r_lor B dX6_minutesOf_17 ?_
    refine r_goto B 27 dX6_minutesOf_18 (by decide) ?_
    exact r_lret B dX6_minutesOf_27 rfl
set_option maxRecDepth 20000 in
theorem k_X6_minutesOf {l : Launch} {D : va_G} {g : zGx} (hz : zin (WX g)) {S : zSt} {a1 : Int32} {b : Int64} (h : F_X6_minutesOf S a1 = some b) : zMet l D (WX g) (zT g) yX6_minutesOf wsX6_minutesOf rm_X6_minutesOf S [.ref (g.1 2), .int a1] ((eL S) b) := zmet_of (by decide +kernel) rfl hz (Nat.le_of_ble_eq_true rfl) rfl (fun E _ _ hE B => x_X6_minutesOf B hE S a1) h
abbrev rm_J13_bitCount_95d88 : Room := { frames := 0, cells := 0, slots := 0, locals := 0 }
theorem y_J13_bitCount_95d88 : yJ13_bitCount_95d88.cls ≠ "java/lang/invoke/MethodHandle" ∧ yJ13_bitCount_95d88.cls ≠ "java/lang/invoke/VarHandle" ∧ (parseMethodDescriptor yJ13_bitCount_95d88.desc).map (fun d => d.parameters.length) = some 1 := by decide +kernel
theorem m_J13_bitCount_95d88_c314 : Cond.constantLong RJ13 314 (6148914691236517205) ∈ wsJ13_bitCount_95d88 := List.mem_cons_of_mem _ (List.mem_of_getElem? (i := 0) rfl)
theorem m_J13_bitCount_95d88_c316 : Cond.constantLong RJ13 316 (3689348814741910323) ∈ wsJ13_bitCount_95d88 := List.mem_cons_of_mem _ (List.mem_of_getElem? (i := 1) rfl)
theorem m_J13_bitCount_95d88_c318 : Cond.constantLong RJ13 318 (1085102592571150095) ∈ wsJ13_bitCount_95d88 := List.mem_cons_of_mem _ (List.mem_of_getElem? (i := 2) rfl)
set_option maxRecDepth 100000 in
set_option maxHeartbeats 4000000 in
theorem x_J13_bitCount_95d88 {E : zCx} {g : zGx} (B : zGood E (WX g) (zT g) cJ13_bitCount_95d88 RJ13 wsJ13_bitCount_95d88 (some .int) rm_J13_bitCount_95d88) (hE : E.2.2 = 2) (S : zSt) (a0 : Int64) : Xo E (WX g) (eI S) S 0 [(0, .long a0)] [] (F_J13_bitCount_95d88 a0) := by
  have nn0 : 0 + 1 < E.2.2 := by rw [hE]; decide
  unfold F_J13_bitCount_95d88
  refine r_lload_n B 0 dJ13_bitCount_95d88_0 rfl rfl ?_
  refine r_lload_n B 0 dJ13_bitCount_95d88_1 rfl rfl ?_
  refine r_iconst B (1 : Int32) dJ13_bitCount_95d88_2 (by decide) ?_
  refine r_lushr B dJ13_bitCount_95d88_3 ?_
  refine r_ldc2 B (6148914691236517205 : Int64) m_J13_bitCount_95d88_c314 dJ13_bitCount_95d88_4 ?_
  refine r_land B dJ13_bitCount_95d88_7 ?_
  refine r_lsub B dJ13_bitCount_95d88_8 ?_
  refine r_lstore_n (lv' := fun x0_9 => [(0, .long x0_9)]) B dJ13_bitCount_95d88_9 rfl nn0 (fun _ => rfl) (fun x0_9 => ?_)
  refine r_lload_n B 0 dJ13_bitCount_95d88_10 rfl rfl ?_
  refine r_ldc2 B (3689348814741910323 : Int64) m_J13_bitCount_95d88_c316 dJ13_bitCount_95d88_11 ?_
  refine r_land B dJ13_bitCount_95d88_14 ?_
  refine r_lload_n B 0 dJ13_bitCount_95d88_15 rfl rfl ?_
  refine r_iconst B (2 : Int32) dJ13_bitCount_95d88_16 (by decide) ?_
  refine r_lushr B dJ13_bitCount_95d88_17 ?_
  refine r_ldc2 B (3689348814741910323 : Int64) m_J13_bitCount_95d88_c316 dJ13_bitCount_95d88_18 ?_
  refine r_land B dJ13_bitCount_95d88_21 ?_
  refine r_ladd B dJ13_bitCount_95d88_22 ?_
  refine r_lstore_n (lv' := fun x0_23 => [(0, .long x0_23)]) B dJ13_bitCount_95d88_23 rfl nn0 (fun _ => rfl) (fun x0_23 => ?_)
  refine r_lload_n B 0 dJ13_bitCount_95d88_24 rfl rfl ?_
  refine r_lload_n B 0 dJ13_bitCount_95d88_25 rfl rfl ?_
  refine r_iconst B (4 : Int32) dJ13_bitCount_95d88_26 (by decide) ?_
  refine r_lushr B dJ13_bitCount_95d88_27 ?_
  refine r_ladd B dJ13_bitCount_95d88_28 ?_
  refine r_ldc2 B (1085102592571150095 : Int64) m_J13_bitCount_95d88_c318 dJ13_bitCount_95d88_29 ?_
  refine r_land B dJ13_bitCount_95d88_32 ?_
  refine r_lstore_n (lv' := fun x0_33 => [(0, .long x0_33)]) B dJ13_bitCount_95d88_33 rfl nn0 (fun _ => rfl) (fun x0_33 => ?_)
  refine r_lload_n B 0 dJ13_bitCount_95d88_34 rfl rfl ?_
  refine r_lload_n B 0 dJ13_bitCount_95d88_35 rfl rfl ?_
  refine r_bipush B (8 : Int32) dJ13_bitCount_95d88_36 (by decide) ?_
  refine r_lushr B dJ13_bitCount_95d88_38 ?_
  refine r_ladd B dJ13_bitCount_95d88_39 ?_
  refine r_lstore_n (lv' := fun x0_40 => [(0, .long x0_40)]) B dJ13_bitCount_95d88_40 rfl nn0 (fun _ => rfl) (fun x0_40 => ?_)
  refine r_lload_n B 0 dJ13_bitCount_95d88_41 rfl rfl ?_
  refine r_lload_n B 0 dJ13_bitCount_95d88_42 rfl rfl ?_
  refine r_bipush B (16 : Int32) dJ13_bitCount_95d88_43 (by decide) ?_
  refine r_lushr B dJ13_bitCount_95d88_45 ?_
  refine r_ladd B dJ13_bitCount_95d88_46 ?_
  refine r_lstore_n (lv' := fun x0_47 => [(0, .long x0_47)]) B dJ13_bitCount_95d88_47 rfl nn0 (fun _ => rfl) (fun x0_47 => ?_)
  refine r_lload_n B 0 dJ13_bitCount_95d88_48 rfl rfl ?_
  refine r_lload_n B 0 dJ13_bitCount_95d88_49 rfl rfl ?_
  refine r_bipush B (32 : Int32) dJ13_bitCount_95d88_50 (by decide) ?_
  refine r_lushr B dJ13_bitCount_95d88_52 ?_
  refine r_ladd B dJ13_bitCount_95d88_53 ?_
  refine r_lstore_n (lv' := fun x0_54 => [(0, .long x0_54)]) B dJ13_bitCount_95d88_54 rfl nn0 (fun _ => rfl) (fun x0_54 => ?_)
  refine r_lload_n B 0 dJ13_bitCount_95d88_55 rfl rfl ?_
  refine r_l2i B dJ13_bitCount_95d88_56 ?_
  refine r_bipush B (127 : Int32) dJ13_bitCount_95d88_57 (by decide) ?_
  refine r_iand B dJ13_bitCount_95d88_59 ?_
  exact r_iret B dJ13_bitCount_95d88_60 rfl
set_option maxRecDepth 20000 in
theorem k_J13_bitCount_95d88 {l : Launch} {D : va_G} {g : zGx} (hz : zin (WX g)) {S : zSt} {a0 : Int64} {b : Int32} (h : F_J13_bitCount_95d88 a0 = some b) : zMet l D (WX g) (zT g) yJ13_bitCount_95d88 wsJ13_bitCount_95d88 rm_J13_bitCount_95d88 S [.long a0] ((eI S) b) := zmet_of (by decide +kernel) rfl hz (Nat.le_of_ble_eq_true rfl) rfl (fun E _ _ hE B => x_J13_bitCount_95d88 B hE S a0) h
abbrev rm_X6_busesOf : Room := { frames := 1, cells := 0, slots := 0, locals := 21 }
theorem y_X6_busesOf : yX6_busesOf.cls = RX6 ∧ yX6_busesOf.cls ≠ "java/lang/invoke/MethodHandle" ∧ yX6_busesOf.cls ≠ "java/lang/invoke/VarHandle" ∧ (parseMethodDescriptor yX6_busesOf.desc).map (fun d => d.parameters.length) = some 1 := by decide +kernel
set_option maxRecDepth 100000 in
set_option maxHeartbeats 4000000 in
theorem x_X6_busesOf {E : zCx} {g : zGx} (B : zGood E (WX g) (zT g) cX6_busesOf RX6 wsX6_busesOf (some .int) rm_X6_busesOf) (hE : E.2.2 = 2) (S : zSt) (a1 : Int32) : Xo E (WX g) (eI S) S 0 [(0, .ref (g.1 2)), (1, .int a1)] [] (F_X6_busesOf S a1) := by
  unfold F_X6_busesOf
  refine r_aload_n B 0 dX6_busesOf_0 rfl rfl ?_
  refine r_iload_n B 1 dX6_busesOf_1 rfl rfl ?_
  refine r_cL (zrunV (As := [.int a1]) (rest := []) B 1 2 (fun b hb => k_X6_minutesOf B.2.2.1 hb) gX6_busesOf_X6_minutesOf rfl rfl rfl y_X6_minutesOf ⟨Nat.le_of_ble_eq_true rfl, Nat.le_of_ble_eq_true rfl⟩ (Nat.le_of_ble_eq_true rfl) rfl (cX_2 g _) rfl rfl rfl (Nat.le_of_ble_eq_true rfl) dX6_busesOf_2) (fun r2 => ?_)
  refine r_cI (zrunS (As := [.long r2]) (rest := []) B 1 (fun b hb => k_J13_bitCount_95d88 B.2.2.1 hb) gX6_busesOf_J13_bitCount_95d88 rfl rfl rfl y_J13_bitCount_95d88 ⟨Nat.le_of_ble_eq_true rfl, Nat.le_of_ble_eq_true rfl⟩ rfl rfl (Nat.le_of_ble_eq_true rfl) dX6_busesOf_5) (fun r5 => ?_)
  exact r_iret B dX6_busesOf_8 rfl
set_option maxRecDepth 20000 in
theorem k_X6_busesOf {l : Launch} {D : va_G} {g : zGx} (hz : zin (WX g)) {S : zSt} {a1 : Int32} {b : Int32} (h : F_X6_busesOf S a1 = some b) : zMet l D (WX g) (zT g) yX6_busesOf wsX6_busesOf rm_X6_busesOf S [.ref (g.1 2), .int a1] ((eI S) b) := zmet_of (by decide +kernel) rfl hz (Nat.le_of_ble_eq_true rfl) rfl (fun E _ _ hE B => x_X6_busesOf B hE S a1) h
abbrev rm_X6_waitAt : Room := { frames := 1, cells := 0, slots := 0, locals := 22 }
theorem y_X6_waitAt : yX6_waitAt.cls = RX6 ∧ yX6_waitAt.cls ≠ "java/lang/invoke/MethodHandle" ∧ yX6_waitAt.cls ≠ "java/lang/invoke/VarHandle" ∧ (parseMethodDescriptor yX6_waitAt.desc).map (fun d => d.parameters.length) = some 2 := by decide +kernel
set_option maxRecDepth 100000 in
set_option maxHeartbeats 4000000 in
theorem xL_X6_waitAt_9 {E : zCx} {g : zGx} (B : zGood E (WX g) (zT g) cX6_waitAt RX6 wsX6_waitAt (some .int) rm_X6_waitAt) (hE : E.2.2 = 6) (S : zSt) (a2 : Int32) (x3_5 : Int64) (k : Option Int32) (hk : Xo E (WX g) (eI S) S 39 [] [] (k)) : ∀ (n : Nat) (v5_9 : Int32), Xo E (WX g) (eI S) S 9 [(2, .int a2), (3, .long x3_5), (5, .int v5_9)] [] (L_X6_waitAt_9 S a2 x3_5 k n v5_9) := by
  have nn3 : 3 + 1 < E.2.2 := by rw [hE]; decide
  have n5 : 5 < E.2.2 := by rw [hE]; decide
  intro n
  induction n with
  | zero =>
    intro _
    exact r_none
  | succ n ih =>
    intro v5_9
    rw [L_X6_waitAt_9]
    refine r_iload B 2 dX6_waitAt_9 rfl ?_
    refine r_bipush B (60 : Int32) dX6_waitAt_11 (by decide) ?_
    refine r_icmp_ge B 39 dX6_waitAt_13 (by decide) (fun _ => ?_) (fun _ => ?_)
    · refine r_sub [] rfl ?_
      exact hk
    · refine r_lload_n B 1 dX6_waitAt_16 rfl rfl ?_
      refine r_iload_n B 0 dX6_waitAt_17 rfl rfl ?_
      refine r_iload B 2 dX6_waitAt_18 rfl ?_
      refine r_iadd B dX6_waitAt_20 ?_
      refine r_bipush B (60 : Int32) dX6_waitAt_21 (by decide) ?_
      refine r_irem B dX6_waitAt_23 (fun _ => ?_)
      refine r_cI (zrunS (As := [.long x3_5, .int ((a2 + v5_9) - (a2 + v5_9) / (60 : Int32) * (60 : Int32))]) (rest := []) B 2 (fun b hb => k_X6_isIn B.2.2.1 hb) gX6_waitAt_X6_isIn rfl rfl rfl y_X6_isIn ⟨Nat.le_of_ble_eq_true rfl, Nat.le_of_ble_eq_true rfl⟩ rfl rfl (Nat.le_of_ble_eq_true rfl) dX6_waitAt_24) (fun r24 => ?_)
      refine r_if_eq B 33 dX6_waitAt_27 (by decide) (fun _ => ?_) (fun _ => ?_)
      · refine r_iinc (lv' := fun x5_33 => [(5, .int x5_33), (2, .int a2), (3, .long x3_5)]) B 2 (1 : Int32) dX6_waitAt_33 rfl (by decide) n5 (fun _ => rfl) (fun x5_33 => ?_)
        refine r_goto B 9 dX6_waitAt_36 (by decide) ?_
        refine r_sub [1, 2, 0] rfl ?_
        exact ih x5_33
      · refine r_iload B 2 dX6_waitAt_30 rfl ?_
        exact r_iret B dX6_waitAt_32 rfl
set_option maxRecDepth 100000 in
set_option maxHeartbeats 4000000 in
theorem x_X6_waitAt {E : zCx} {g : zGx} (B : zGood E (WX g) (zT g) cX6_waitAt RX6 wsX6_waitAt (some .int) rm_X6_waitAt) (hE : E.2.2 = 6) (S : zSt) (a1 : Int32) (a2 : Int32) : Xo E (WX g) (eI S) S 0 [(0, .ref (g.1 2)), (1, .int a1), (2, .int a2)] [] (F_X6_waitAt S a1 a2) := by
  have nn3 : 3 + 1 < E.2.2 := by rw [hE]; decide
  have n5 : 5 < E.2.2 := by rw [hE]; decide
  unfold F_X6_waitAt
  refine r_aload_n B 0 dX6_waitAt_0 rfl rfl ?_
  refine r_iload_n B 1 dX6_waitAt_1 rfl rfl ?_
  refine r_cL (zrunV (As := [.int a1]) (rest := []) B 1 2 (fun b hb => k_X6_minutesOf B.2.2.1 hb) gX6_waitAt_X6_minutesOf rfl rfl rfl y_X6_minutesOf ⟨Nat.le_of_ble_eq_true rfl, Nat.le_of_ble_eq_true rfl⟩ (Nat.le_of_ble_eq_true rfl) rfl (cX_2 g _) rfl rfl rfl (Nat.le_of_ble_eq_true rfl) dX6_waitAt_2) (fun r2 => ?_)
  refine r_lstore_n (lv' := fun x3_5 => [(3, .long x3_5), (0, .ref (g.1 2)), (1, .int a1), (2, .int a2)]) B dX6_waitAt_5 rfl nn3 (fun _ => rfl) (fun x3_5 => ?_)
  refine r_iconst B (0 : Int32) dX6_waitAt_6 (by decide) ?_
  refine r_istore (lv' := fun x5_7 => [(5, .int x5_7), (3, .long x3_5), (0, .ref (g.1 2)), (1, .int a1), (2, .int a2)]) B dX6_waitAt_7 n5 (fun _ => rfl) (fun x5_7 => ?_)
  refine r_sub [4, 1, 0] rfl ?_
  refine xL_X6_waitAt_9 B hE S a2 x3_5 _ ?_ 1000 x5_7
  refine r_bipush B (60 : Int32) dX6_waitAt_39 (by decide) ?_
  exact r_iret B dX6_waitAt_41 rfl
set_option maxRecDepth 20000 in
theorem k_X6_waitAt {l : Launch} {D : va_G} {g : zGx} (hz : zin (WX g)) {S : zSt} {a1 : Int32} {a2 : Int32} {b : Int32} (h : F_X6_waitAt S a1 a2 = some b) : zMet l D (WX g) (zT g) yX6_waitAt wsX6_waitAt rm_X6_waitAt S [.ref (g.1 2), .int a1, .int a2] ((eI S) b) := zmet_of (by decide +kernel) rfl hz (Nat.le_of_ble_eq_true rfl) rfl (fun E _ _ hE B => x_X6_waitAt B hE S a1 a2) h
abbrev rm_X6_gapBehind : Room := { frames := 2, cells := 0, slots := 0, locals := 47 }
theorem y_X6_gapBehind : yX6_gapBehind.cls = RX6 ∧ yX6_gapBehind.cls ≠ "java/lang/invoke/MethodHandle" ∧ yX6_gapBehind.cls ≠ "java/lang/invoke/VarHandle" ∧ (parseMethodDescriptor yX6_gapBehind.desc).map (fun d => d.parameters.length) = some 2 := by decide +kernel
set_option maxRecDepth 100000 in
set_option maxHeartbeats 4000000 in
theorem x_X6_gapBehind {E : zCx} {g : zGx} (B : zGood E (WX g) (zT g) cX6_gapBehind RX6 wsX6_gapBehind (some .int) rm_X6_gapBehind) (hE : E.2.2 = 3) (S : zSt) (a1 : Int32) (a2 : Int32) : Xo E (WX g) (eI S) S 0 [(0, .ref (g.1 2)), (1, .int a1), (2, .int a2)] [] (F_X6_gapBehind S a1 a2) := by
  unfold F_X6_gapBehind
  refine r_iconst B (1 : Int32) dX6_gapBehind_0 (by decide) ?_
  refine r_aload_n B 0 dX6_gapBehind_1 rfl rfl ?_
  refine r_iload_n B 1 dX6_gapBehind_2 rfl rfl ?_
  refine r_iload_n B 2 dX6_gapBehind_3 rfl rfl ?_
  refine r_iconst B (1 : Int32) dX6_gapBehind_4 (by decide) ?_
  refine r_iadd B dX6_gapBehind_5 ?_
  refine r_bipush B (60 : Int32) dX6_gapBehind_6 (by decide) ?_
  refine r_irem B dX6_gapBehind_8 (fun _ => ?_)
  refine r_cI (zrunV (As := [.int a1, .int ((a2 + (1 : Int32)) - (a2 + (1 : Int32)) / (60 : Int32) * (60 : Int32))]) (rest := [.int (1 : Int32)]) B 2 2 (fun b hb => k_X6_waitAt B.2.2.1 hb) gX6_gapBehind_X6_waitAt rfl rfl rfl y_X6_waitAt ⟨Nat.le_of_ble_eq_true rfl, Nat.le_of_ble_eq_true rfl⟩ (Nat.le_of_ble_eq_true rfl) rfl (cX_2 g _) rfl rfl rfl (Nat.le_of_ble_eq_true rfl) dX6_gapBehind_9) (fun r9 => ?_)
  refine r_iadd B dX6_gapBehind_12 ?_
  exact r_iret B dX6_gapBehind_13 rfl
set_option maxRecDepth 20000 in
theorem k_X6_gapBehind {l : Launch} {D : va_G} {g : zGx} (hz : zin (WX g)) {S : zSt} {a1 : Int32} {a2 : Int32} {b : Int32} (h : F_X6_gapBehind S a1 a2 = some b) : zMet l D (WX g) (zT g) yX6_gapBehind wsX6_gapBehind rm_X6_gapBehind S [.ref (g.1 2), .int a1, .int a2] ((eI S) b) := zmet_of (by decide +kernel) rfl hz (Nat.le_of_ble_eq_true rfl) rfl (fun E _ _ hE B => x_X6_gapBehind B hE S a1 a2) h
abbrev rm_X6_metBy : Room := { frames := 3, cells := 0, slots := 0, locals := 69 }
theorem y_X6_metBy : yX6_metBy.cls = RX6 ∧ yX6_metBy.cls ≠ "java/lang/invoke/MethodHandle" ∧ yX6_metBy.cls ≠ "java/lang/invoke/VarHandle" ∧ (parseMethodDescriptor yX6_metBy.desc).map (fun d => d.parameters.length) = some 2 := by decide +kernel
set_option maxRecDepth 100000 in
set_option maxHeartbeats 4000000 in
theorem xL_X6_metBy_12 {E : zCx} {g : zGx} (B : zGood E (WX g) (zT g) cX6_metBy RX6 wsX6_metBy (some .int) rm_X6_metBy) (hE : E.2.2 = 7) (S : zSt) (a1 : Int32) (a2 : Int32) (x3_5 : Int64) (k : Int32 → Option Int32) (hk : ∀ (w5 : Int32), Xo E (WX g) (eI S) S 51 [(5, .int w5)] [] (k w5)) : ∀ (n : Nat) (v5_12 : Int32) (v6_12 : Int32), Xo E (WX g) (eI S) S 12 [(0, .ref (g.1 2)), (1, .int a1), (2, .int a2), (3, .long x3_5), (5, .int v5_12), (6, .int v6_12)] [] (L_X6_metBy_12 S a1 a2 x3_5 k n v5_12 v6_12) := by
  have nn3 : 3 + 1 < E.2.2 := by rw [hE]; decide
  have n5 : 5 < E.2.2 := by rw [hE]; decide
  have n6 : 6 < E.2.2 := by rw [hE]; decide
  intro n
  induction n with
  | zero =>
    intro _ _
    exact r_none
  | succ n ih =>
    intro v5_12 v6_12
    rw [L_X6_metBy_12]
    refine r_iload B 5 dX6_metBy_12 rfl ?_
    refine r_bipush B (60 : Int32) dX6_metBy_14 (by decide) ?_
    refine r_icmp_ge B 51 dX6_metBy_16 (by decide) (fun _ => ?_) (fun _ => ?_)
    · refine r_sub [4] rfl ?_
      exact hk v5_12
    · refine r_lload_n B 3 dX6_metBy_19 rfl rfl ?_
      refine r_iload B 5 dX6_metBy_20 rfl ?_
      refine r_cI (zrunS (As := [.long x3_5, .int v6_12]) (rest := []) B 2 (fun b hb => k_X6_isIn B.2.2.1 hb) gX6_metBy_X6_isIn rfl rfl rfl y_X6_isIn ⟨Nat.le_of_ble_eq_true rfl, Nat.le_of_ble_eq_true rfl⟩ rfl rfl (Nat.le_of_ble_eq_true rfl) dX6_metBy_22) (fun r22 => ?_)
      refine r_if_eq B 45 dX6_metBy_25 (by decide) (fun _ => ?_) (fun _ => ?_)
      · refine r_iinc (lv' := fun x6_45 => [(6, .int x6_45), (0, .ref (g.1 2)), (1, .int a1), (2, .int a2), (3, .long x3_5), (5, .int v5_12)]) B 5 (1 : Int32) dX6_metBy_45 rfl (by decide) n6 (fun _ => rfl) (fun x6_45 => ?_)
        refine r_goto B 12 dX6_metBy_48 (by decide) ?_
        refine r_sub [1, 2, 3, 4, 5, 0] rfl ?_
        exact ih v5_12 x6_45
      · refine r_aload_n B 0 dX6_metBy_28 rfl rfl ?_
        refine r_iload_n B 1 dX6_metBy_29 rfl rfl ?_
        refine r_iload B 5 dX6_metBy_30 rfl ?_
        refine r_cI (zrunV (As := [.int a1, .int v6_12]) (rest := []) B 2 2 (fun b hb => k_X6_gapBehind B.2.2.1 hb) gX6_metBy_X6_gapBehind rfl rfl rfl y_X6_gapBehind ⟨Nat.le_of_ble_eq_true rfl, Nat.le_of_ble_eq_true rfl⟩ (Nat.le_of_ble_eq_true rfl) rfl (cX_2 g _) rfl rfl rfl (Nat.le_of_ble_eq_true rfl) dX6_metBy_32) (fun r32 => ?_)
        refine r_iload_n B 2 dX6_metBy_35 rfl rfl ?_
        refine r_icmp_ne B 45 dX6_metBy_36 (by decide) (fun _ => ?_) (fun _ => ?_)
        · refine r_iinc (lv' := fun x6_45 => [(6, .int x6_45), (0, .ref (g.1 2)), (1, .int a1), (2, .int a2), (3, .long x3_5), (5, .int v5_12)]) B 5 (1 : Int32) dX6_metBy_45 rfl (by decide) n6 (fun _ => rfl) (fun x6_45 => ?_)
          refine r_goto B 12 dX6_metBy_48 (by decide) ?_
          refine r_sub [1, 2, 3, 4, 5, 0] rfl ?_
          exact ih v5_12 x6_45
        · refine r_iload B 4 dX6_metBy_39 rfl ?_
          refine r_iload_n B 2 dX6_metBy_41 rfl rfl ?_
          refine r_iadd B dX6_metBy_42 ?_
          refine r_istore (lv' := fun x5_43 => [(5, .int x5_43), (0, .ref (g.1 2)), (1, .int a1), (2, .int a2), (3, .long x3_5), (6, .int v6_12)]) B dX6_metBy_43 n5 (fun _ => rfl) (fun x5_43 => ?_)
          refine r_iinc (lv' := fun x6_45 => [(6, .int x6_45), (5, .int x5_43), (0, .ref (g.1 2)), (1, .int a1), (2, .int a2), (3, .long x3_5)]) B 5 (1 : Int32) dX6_metBy_45 rfl (by decide) n6 (fun _ => rfl) (fun x6_45 => ?_)
          refine r_goto B 12 dX6_metBy_48 (by decide) ?_
          refine r_sub [2, 3, 4, 5, 1, 0] rfl ?_
          exact ih x5_43 x6_45
set_option maxRecDepth 100000 in
set_option maxHeartbeats 4000000 in
theorem x_X6_metBy {E : zCx} {g : zGx} (B : zGood E (WX g) (zT g) cX6_metBy RX6 wsX6_metBy (some .int) rm_X6_metBy) (hE : E.2.2 = 7) (S : zSt) (a1 : Int32) (a2 : Int32) : Xo E (WX g) (eI S) S 0 [(0, .ref (g.1 2)), (1, .int a1), (2, .int a2)] [] (F_X6_metBy S a1 a2) := by
  have nn3 : 3 + 1 < E.2.2 := by rw [hE]; decide
  have n5 : 5 < E.2.2 := by rw [hE]; decide
  have n6 : 6 < E.2.2 := by rw [hE]; decide
  unfold F_X6_metBy
  refine r_aload_n B 0 dX6_metBy_0 rfl rfl ?_
  refine r_iload_n B 1 dX6_metBy_1 rfl rfl ?_
  refine r_cL (zrunV (As := [.int a1]) (rest := []) B 1 2 (fun b hb => k_X6_minutesOf B.2.2.1 hb) gX6_metBy_X6_minutesOf rfl rfl rfl y_X6_minutesOf ⟨Nat.le_of_ble_eq_true rfl, Nat.le_of_ble_eq_true rfl⟩ (Nat.le_of_ble_eq_true rfl) rfl (cX_2 g _) rfl rfl rfl (Nat.le_of_ble_eq_true rfl) dX6_metBy_2) (fun r2 => ?_)
  refine r_lstore_n (lv' := fun x3_5 => [(3, .long x3_5), (0, .ref (g.1 2)), (1, .int a1), (2, .int a2)]) B dX6_metBy_5 rfl nn3 (fun _ => rfl) (fun x3_5 => ?_)
  refine r_iconst B (0 : Int32) dX6_metBy_6 (by decide) ?_
  refine r_istore (lv' := fun x5_7 => [(5, .int x5_7), (3, .long x3_5), (0, .ref (g.1 2)), (1, .int a1), (2, .int a2)]) B dX6_metBy_7 n5 (fun _ => rfl) (fun x5_7 => ?_)
  refine r_iconst B (0 : Int32) dX6_metBy_9 (by decide) ?_
  refine r_istore (lv' := fun x6_10 => [(6, .int x6_10), (5, .int x5_7), (3, .long x3_5), (0, .ref (g.1 2)), (1, .int a1), (2, .int a2)]) B dX6_metBy_10 n6 (fun _ => rfl) (fun x6_10 => ?_)
  refine r_sub [3, 4, 5, 2, 1, 0] rfl ?_
  refine xL_X6_metBy_12 B hE S a1 a2 x3_5 _ ?_ 1000 x5_7 x6_10
  intro w5_12
  refine r_iload B 0 dX6_metBy_51 rfl ?_
  exact r_iret B dX6_metBy_53 rfl
set_option maxRecDepth 20000 in
theorem k_X6_metBy {l : Launch} {D : va_G} {g : zGx} (hz : zin (WX g)) {S : zSt} {a1 : Int32} {a2 : Int32} {b : Int32} (h : F_X6_metBy S a1 a2 = some b) : zMet l D (WX g) (zT g) yX6_metBy wsX6_metBy rm_X6_metBy S [.ref (g.1 2), .int a1, .int a2] ((eI S) b) := zmet_of (by decide +kernel) rfl hz (Nat.le_of_ble_eq_true rfl) rfl (fun E _ _ hE B => x_X6_metBy B hE S a1 a2) h
abbrev rm_X6_weightOf : Room := { frames := 1, cells := 0, slots := 0, locals := 20 }
theorem y_X6_weightOf : yX6_weightOf.cls ≠ "java/lang/invoke/MethodHandle" ∧ yX6_weightOf.cls ≠ "java/lang/invoke/VarHandle" ∧ (parseMethodDescriptor yX6_weightOf.desc).map (fun d => d.parameters.length) = some 2 := by decide +kernel
set_option maxRecDepth 100000 in
set_option maxHeartbeats 4000000 in
theorem x_X6_weightOf {E : zCx} {g : zGx} (B : zGood E (WX g) (zT g) cX6_weightOf RX6 wsX6_weightOf (some .int) rm_X6_weightOf) (hE : E.2.2 = 2) (S : zSt) (a0 : Int32) (a1 : Int32) : Xo E (WX g) (eI S) S 0 [(0, .int a0), (1, .int a1)] [] (F_X6_weightOf a0 a1) := by
  unfold F_X6_weightOf
  refine r_iload_n B 1 dX6_weightOf_0 rfl rfl ?_
  refine r_if_ne B 6 dX6_weightOf_1 (by decide) (fun _ => ?_) (fun _ => ?_)
  · refine r_iload_n B 1 dX6_weightOf_6 rfl rfl ?_
    refine r_iconst B (1 : Int32) dX6_weightOf_7 (by decide) ?_
    refine r_icmp_ne B 17 dX6_weightOf_8 (by decide) (fun _ => ?_) (fun _ => ?_)
    · refine r_iload_n B 0 dX6_weightOf_17 rfl rfl ?_
      refine r_cI (zrunS (As := [.int a0]) (rest := []) B 1 (fun b hb => k_X6_waitsIn B.2.2.1 hb) gX6_weightOf_X6_waitsIn rfl rfl rfl y_X6_waitsIn ⟨Nat.le_of_ble_eq_true rfl, Nat.le_of_ble_eq_true rfl⟩ rfl rfl (Nat.le_of_ble_eq_true rfl) dX6_weightOf_18) (fun r18 => ?_)
      exact r_iret B dX6_weightOf_21 rfl
    · refine r_iload_n B 0 dX6_weightOf_11 rfl rfl ?_
      refine r_iload_n B 0 dX6_weightOf_12 rfl rfl ?_
      refine r_imul B dX6_weightOf_13 ?_
      refine r_goto B 21 dX6_weightOf_14 (by decide) ?_
      exact r_iret B dX6_weightOf_21 rfl
  · refine r_iload_n B 0 dX6_weightOf_4 rfl rfl ?_
    exact r_iret B dX6_weightOf_5 rfl
set_option maxRecDepth 20000 in
theorem k_X6_weightOf {l : Launch} {D : va_G} {g : zGx} (hz : zin (WX g)) {S : zSt} {a0 : Int32} {a1 : Int32} {b : Int32} (h : F_X6_weightOf a0 a1 = some b) : zMet l D (WX g) (zT g) yX6_weightOf wsX6_weightOf rm_X6_weightOf S [.int a0, .int a1] ((eI S) b) := zmet_of (by decide +kernel) rfl hz (Nat.le_of_ble_eq_true rfl) rfl (fun E _ _ hE B => x_X6_weightOf B hE S a0 a1) h
abbrev rm_X6_sumOfGaps : Room := { frames := 3, cells := 0, slots := 0, locals := 69 }
theorem y_X6_sumOfGaps : yX6_sumOfGaps.cls = RX6 ∧ yX6_sumOfGaps.cls ≠ "java/lang/invoke/MethodHandle" ∧ yX6_sumOfGaps.cls ≠ "java/lang/invoke/VarHandle" ∧ (parseMethodDescriptor yX6_sumOfGaps.desc).map (fun d => d.parameters.length) = some 2 := by decide +kernel
set_option maxRecDepth 100000 in
set_option maxHeartbeats 4000000 in
theorem xL_X6_sumOfGaps_12 {E : zCx} {g : zGx} (B : zGood E (WX g) (zT g) cX6_sumOfGaps RX6 wsX6_sumOfGaps (some .int) rm_X6_sumOfGaps) (hE : E.2.2 = 7) (S : zSt) (a1 : Int32) (a2 : Int32) (x3_5 : Int64) (k : Int32 → Option Int32) (hk : ∀ (w5 : Int32), Xo E (WX g) (eI S) S 50 [(5, .int w5)] [] (k w5)) : ∀ (n : Nat) (v5_12 : Int32) (v6_12 : Int32), Xo E (WX g) (eI S) S 12 [(0, .ref (g.1 2)), (1, .int a1), (2, .int a2), (3, .long x3_5), (5, .int v5_12), (6, .int v6_12)] [] (L_X6_sumOfGaps_12 S a1 a2 x3_5 k n v5_12 v6_12) := by
  have nn3 : 3 + 1 < E.2.2 := by rw [hE]; decide
  have n5 : 5 < E.2.2 := by rw [hE]; decide
  have n6 : 6 < E.2.2 := by rw [hE]; decide
  intro n
  induction n with
  | zero =>
    intro _ _
    exact r_none
  | succ n ih =>
    intro v5_12 v6_12
    rw [L_X6_sumOfGaps_12]
    refine r_iload B 5 dX6_sumOfGaps_12 rfl ?_
    refine r_bipush B (60 : Int32) dX6_sumOfGaps_14 (by decide) ?_
    refine r_icmp_ge B 50 dX6_sumOfGaps_16 (by decide) (fun _ => ?_) (fun _ => ?_)
    · refine r_sub [4] rfl ?_
      exact hk v5_12
    · refine r_lload_n B 3 dX6_sumOfGaps_19 rfl rfl ?_
      refine r_iload B 5 dX6_sumOfGaps_20 rfl ?_
      refine r_cI (zrunS (As := [.long x3_5, .int v6_12]) (rest := []) B 2 (fun b hb => k_X6_isIn B.2.2.1 hb) gX6_sumOfGaps_X6_isIn rfl rfl rfl y_X6_isIn ⟨Nat.le_of_ble_eq_true rfl, Nat.le_of_ble_eq_true rfl⟩ rfl rfl (Nat.le_of_ble_eq_true rfl) dX6_sumOfGaps_22) (fun r22 => ?_)
      refine r_if_eq B 44 dX6_sumOfGaps_25 (by decide) (fun _ => ?_) (fun _ => ?_)
      · refine r_iinc (lv' := fun x6_44 => [(6, .int x6_44), (0, .ref (g.1 2)), (1, .int a1), (2, .int a2), (3, .long x3_5), (5, .int v5_12)]) B 5 (1 : Int32) dX6_sumOfGaps_44 rfl (by decide) n6 (fun _ => rfl) (fun x6_44 => ?_)
        refine r_goto B 12 dX6_sumOfGaps_47 (by decide) ?_
        refine r_sub [1, 2, 3, 4, 5, 0] rfl ?_
        exact ih v5_12 x6_44
      · refine r_iload B 4 dX6_sumOfGaps_28 rfl ?_
        refine r_aload_n B 0 dX6_sumOfGaps_30 rfl rfl ?_
        refine r_iload_n B 1 dX6_sumOfGaps_31 rfl rfl ?_
        refine r_iload B 5 dX6_sumOfGaps_32 rfl ?_
        refine r_cI (zrunV (As := [.int a1, .int v6_12]) (rest := [.int v5_12]) B 2 2 (fun b hb => k_X6_gapBehind B.2.2.1 hb) gX6_sumOfGaps_X6_gapBehind rfl rfl rfl y_X6_gapBehind ⟨Nat.le_of_ble_eq_true rfl, Nat.le_of_ble_eq_true rfl⟩ (Nat.le_of_ble_eq_true rfl) rfl (cX_2 g _) rfl rfl rfl (Nat.le_of_ble_eq_true rfl) dX6_sumOfGaps_34) (fun r34 => ?_)
        refine r_iload_n B 2 dX6_sumOfGaps_37 rfl rfl ?_
        refine r_cI (zrunS (As := [.int r34, .int a2]) (rest := [.int v5_12]) B 2 (fun b hb => k_X6_weightOf B.2.2.1 hb) gX6_sumOfGaps_X6_weightOf rfl rfl rfl y_X6_weightOf ⟨Nat.le_of_ble_eq_true rfl, Nat.le_of_ble_eq_true rfl⟩ rfl rfl (Nat.le_of_ble_eq_true rfl) dX6_sumOfGaps_38) (fun r38 => ?_)
        refine r_iadd B dX6_sumOfGaps_41 ?_
        refine r_istore (lv' := fun x5_42 => [(5, .int x5_42), (0, .ref (g.1 2)), (1, .int a1), (2, .int a2), (3, .long x3_5), (6, .int v6_12)]) B dX6_sumOfGaps_42 n5 (fun _ => rfl) (fun x5_42 => ?_)
        refine r_iinc (lv' := fun x6_44 => [(6, .int x6_44), (5, .int x5_42), (0, .ref (g.1 2)), (1, .int a1), (2, .int a2), (3, .long x3_5)]) B 5 (1 : Int32) dX6_sumOfGaps_44 rfl (by decide) n6 (fun _ => rfl) (fun x6_44 => ?_)
        refine r_goto B 12 dX6_sumOfGaps_47 (by decide) ?_
        refine r_sub [2, 3, 4, 5, 1, 0] rfl ?_
        exact ih x5_42 x6_44
set_option maxRecDepth 100000 in
set_option maxHeartbeats 4000000 in
theorem x_X6_sumOfGaps {E : zCx} {g : zGx} (B : zGood E (WX g) (zT g) cX6_sumOfGaps RX6 wsX6_sumOfGaps (some .int) rm_X6_sumOfGaps) (hE : E.2.2 = 7) (S : zSt) (a1 : Int32) (a2 : Int32) : Xo E (WX g) (eI S) S 0 [(0, .ref (g.1 2)), (1, .int a1), (2, .int a2)] [] (F_X6_sumOfGaps S a1 a2) := by
  have nn3 : 3 + 1 < E.2.2 := by rw [hE]; decide
  have n5 : 5 < E.2.2 := by rw [hE]; decide
  have n6 : 6 < E.2.2 := by rw [hE]; decide
  unfold F_X6_sumOfGaps
  refine r_aload_n B 0 dX6_sumOfGaps_0 rfl rfl ?_
  refine r_iload_n B 1 dX6_sumOfGaps_1 rfl rfl ?_
  refine r_cL (zrunV (As := [.int a1]) (rest := []) B 1 2 (fun b hb => k_X6_minutesOf B.2.2.1 hb) gX6_sumOfGaps_X6_minutesOf rfl rfl rfl y_X6_minutesOf ⟨Nat.le_of_ble_eq_true rfl, Nat.le_of_ble_eq_true rfl⟩ (Nat.le_of_ble_eq_true rfl) rfl (cX_2 g _) rfl rfl rfl (Nat.le_of_ble_eq_true rfl) dX6_sumOfGaps_2) (fun r2 => ?_)
  refine r_lstore_n (lv' := fun x3_5 => [(3, .long x3_5), (0, .ref (g.1 2)), (1, .int a1), (2, .int a2)]) B dX6_sumOfGaps_5 rfl nn3 (fun _ => rfl) (fun x3_5 => ?_)
  refine r_iconst B (0 : Int32) dX6_sumOfGaps_6 (by decide) ?_
  refine r_istore (lv' := fun x5_7 => [(5, .int x5_7), (3, .long x3_5), (0, .ref (g.1 2)), (1, .int a1), (2, .int a2)]) B dX6_sumOfGaps_7 n5 (fun _ => rfl) (fun x5_7 => ?_)
  refine r_iconst B (0 : Int32) dX6_sumOfGaps_9 (by decide) ?_
  refine r_istore (lv' := fun x6_10 => [(6, .int x6_10), (5, .int x5_7), (3, .long x3_5), (0, .ref (g.1 2)), (1, .int a1), (2, .int a2)]) B dX6_sumOfGaps_10 n6 (fun _ => rfl) (fun x6_10 => ?_)
  refine r_sub [3, 4, 5, 2, 1, 0] rfl ?_
  refine xL_X6_sumOfGaps_12 B hE S a1 a2 x3_5 _ ?_ 1000 x5_7 x6_10
  intro w5_12
  refine r_iload B 0 dX6_sumOfGaps_50 rfl ?_
  exact r_iret B dX6_sumOfGaps_52 rfl
set_option maxRecDepth 20000 in
theorem k_X6_sumOfGaps {l : Launch} {D : va_G} {g : zGx} (hz : zin (WX g)) {S : zSt} {a1 : Int32} {a2 : Int32} {b : Int32} (h : F_X6_sumOfGaps S a1 a2 = some b) : zMet l D (WX g) (zT g) yX6_sumOfGaps wsX6_sumOfGaps rm_X6_sumOfGaps S [.ref (g.1 2), .int a1, .int a2] ((eI S) b) := zmet_of (by decide +kernel) rfl hz (Nat.le_of_ble_eq_true rfl) rfl (fun E _ _ hE B => x_X6_sumOfGaps B hE S a1 a2) h
abbrev rm_X7_cannotBeNow : Room := { frames := 1, cells := 0, slots := 0, locals := 22 }
theorem y_X7_cannotBeNow : yX7_cannotBeNow.cls = RX7 ∧ yX7_cannotBeNow.cls ≠ "java/lang/invoke/MethodHandle" ∧ yX7_cannotBeNow.cls ≠ "java/lang/invoke/VarHandle" ∧ (parseMethodDescriptor yX7_cannotBeNow.desc).map (fun d => d.parameters.length) = some 1 := by decide +kernel
theorem m_X7_cannotBeNow_f25 : Cond.fieldLink RX7 25 "LongestMet$Survey" "now" "I" ∈ wsX7_cannotBeNow := List.mem_cons_of_mem _ (List.mem_append_left _ (List.mem_of_getElem? (i := 0) rfl))
theorem m_X7_cannotBeNow_inX7 : ∀ x ∈ u_ws RX7 TX7 6, x ∈ wsX7_cannotBeNow := fun _ h => List.mem_cons_of_mem _ (List.mem_append_right _ h)
theorem m_X7_cannotBeNow_iX10 : Cond.initialized RX10 ∈ wsX7_cannotBeNow := List.mem_cons_of_mem _ (List.mem_append_left _ (List.mem_of_getElem? (i := 2) rfl))
theorem m_X7_cannotBeNow_sX10_outside : Cond.static yX10_outside ∈ wsX7_cannotBeNow := List.mem_cons_of_mem _ (List.mem_append_left _ (List.mem_of_getElem? (i := 1) rfl))
set_option maxRecDepth 100000 in
set_option maxHeartbeats 4000000 in
theorem x_X7_cannotBeNow {E : zCx} {g : zGx} (B : zGood E (WX g) (zT g) cX7_cannotBeNow RX7 wsX7_cannotBeNow (some .boolean) rm_X7_cannotBeNow) (hE : E.2.2 = 2) (S : zSt) (a1 : Int32) : Xo E (WX g) (eI S) S 0 [(0, .ref (g.1 4)), (1, .int a1)] [] (F_X7_cannotBeNow S a1) := by
  unfold F_X7_cannotBeNow
  refine r_iload_n B 1 dX7_cannotBeNow_0 rfl rfl ?_
  refine r_aload_n B 0 dX7_cannotBeNow_1 rfl rfl ?_
  refine r_get B 4 6 4 (Nat.le_of_ble_eq_true rfl) rfl (cX_4 g _) rfl m_X7_cannotBeNow_inX7 (Nat.le_of_ble_eq_true rfl) m_X7_cannotBeNow_f25 rfl dX7_cannotBeNow_2 ?_
  refine r_sipush B (999 : Int32) dX7_cannotBeNow_5 (by decide) ?_
  refine r_cI (zrunSN (As := [.int a1, .int (zI S 5), .int (999 : Int32)]) (rest := []) B 3 (fun b hb => k_X10_outside B.2.2.1 hb) gX7_cannotBeNow_X10_outside_n31 rfl rfl rfl B.2.2.2.2.2.2.2.1 m_X7_cannotBeNow_iX10 m_X7_cannotBeNow_sX10_outside y_X10_outside ⟨Nat.le_of_ble_eq_true rfl, Nat.le_of_ble_eq_true rfl⟩ rfl rfl (Nat.le_of_ble_eq_true rfl) dX7_cannotBeNow_8) (fun r8 => ?_)
  exact r_zret B dX7_cannotBeNow_11 rfl
set_option maxRecDepth 20000 in
theorem k_X7_cannotBeNow {l : Launch} {D : va_G} {g : zGx} (hz : zin (WX g)) {S : zSt} {a1 : Int32} {b : Int32} (h : F_X7_cannotBeNow S a1 = some b) : zMet l D (WX g) (zT g) yX7_cannotBeNow wsX7_cannotBeNow rm_X7_cannotBeNow S [.ref (g.1 4), .int a1] ((eI S) b) := zmet_of (by decide +kernel) rfl hz (Nat.le_of_ble_eq_true rfl) rfl (fun E _ _ hE B => x_X7_cannotBeNow B hE S a1) h
abbrev rm_X7_answer : Room := { frames := 0, cells := 0, slots := 0, locals := 0 }
theorem y_X7_answer : yX7_answer.cls = RX7 ∧ yX7_answer.cls ≠ "java/lang/invoke/MethodHandle" ∧ yX7_answer.cls ≠ "java/lang/invoke/VarHandle" ∧ (parseMethodDescriptor yX7_answer.desc).map (fun d => d.parameters.length) = some 2 := by decide +kernel
theorem m_X7_answer_f21 : Cond.fieldLink RX7 21 "LongestMet$Survey" "told" "I" ∈ wsX7_answer := List.mem_cons_of_mem _ (List.mem_append_left _ (List.mem_of_getElem? (i := 0) rfl))
theorem m_X7_answer_inX7 : ∀ x ∈ u_ws RX7 TX7 6, x ∈ wsX7_answer := fun _ h => List.mem_cons_of_mem _ (List.mem_append_right _ h)
theorem m_X7_answer_f11 : Cond.fieldLink RX7 11 "LongestMet$Survey" "answers" "[I" ∈ wsX7_answer := List.mem_cons_of_mem _ (List.mem_append_left _ (List.mem_of_getElem? (i := 1) rfl))
theorem m_X7_answer_f15 : Cond.fieldLink RX7 15 "LongestMet$Survey" "toldAt" "[I" ∈ wsX7_answer := List.mem_cons_of_mem _ (List.mem_append_left _ (List.mem_of_getElem? (i := 2) rfl))
theorem m_X7_answer_f18 : Cond.fieldLink RX7 18 "LongestMet$Survey" "backAt" "[I" ∈ wsX7_answer := List.mem_cons_of_mem _ (List.mem_append_left _ (List.mem_of_getElem? (i := 3) rfl))
theorem m_X7_answer_f25 : Cond.fieldLink RX7 25 "LongestMet$Survey" "now" "I" ∈ wsX7_answer := List.mem_cons_of_mem _ (List.mem_append_left _ (List.mem_of_getElem? (i := 4) rfl))
set_option maxRecDepth 100000 in
set_option maxHeartbeats 4000000 in
theorem x_X7_answer {E : zCx} {g : zGx} (B : zGood E (WX g) (zT g) cX7_answer RX7 wsX7_answer (some .int) rm_X7_answer) (hE : E.2.2 = 3) (S : zSt) (a1 : Int32) (a2 : Int32) : Xo E (WX g) eIw S 0 [(0, .ref (g.1 4)), (1, .int a1), (2, .int a2)] [] (F_X7_answer S a1 a2) := by
  unfold F_X7_answer
  refine r_aload_n B 0 dX7_answer_0 rfl rfl ?_
  refine r_get B 4 6 3 (Nat.le_of_ble_eq_true rfl) rfl (cX_4 g _) rfl m_X7_answer_inX7 (Nat.le_of_ble_eq_true rfl) m_X7_answer_f21 rfl dX7_answer_1 ?_
  refine r_bipush B (40 : Int32) dX7_answer_4 (by decide) ?_
  refine r_icmp_lt B 12 dX7_answer_6 (by decide) (fun _ => ?_) (fun _ => ?_)
  · refine r_aload_n B 0 dX7_answer_12 rfl rfl ?_
    refine r_get B 4 6 0 (Nat.le_of_ble_eq_true rfl) rfl (cX_4 g _) rfl m_X7_answer_inX7 (Nat.le_of_ble_eq_true rfl) m_X7_answer_f11 rfl dX7_answer_13 ?_
    refine r_aload_n B 0 dX7_answer_16 rfl rfl ?_
    refine r_get B 4 6 3 (Nat.le_of_ble_eq_true rfl) rfl (cX_4 g _) rfl m_X7_answer_inX7 (Nat.le_of_ble_eq_true rfl) m_X7_answer_f21 rfl dX7_answer_17 ?_
    refine r_iload_n B 1 dX7_answer_20 rfl rfl ?_
    refine r_iast B 15 0 (Nat.le_of_ble_eq_true rfl) rfl (cX_15 g _) rfl (uX_15 g _ _) dX7_answer_21 (fun S21 => ?_)
    refine r_aload_n B 0 dX7_answer_22 rfl rfl ?_
    refine r_get B 4 6 1 (Nat.le_of_ble_eq_true rfl) rfl (cX_4 g _) rfl m_X7_answer_inX7 (Nat.le_of_ble_eq_true rfl) m_X7_answer_f15 rfl dX7_answer_23 ?_
    refine r_aload_n B 0 dX7_answer_26 rfl rfl ?_
    refine r_get B 4 6 3 (Nat.le_of_ble_eq_true rfl) rfl (cX_4 g _) rfl m_X7_answer_inX7 (Nat.le_of_ble_eq_true rfl) m_X7_answer_f21 rfl dX7_answer_27 ?_
    refine r_iload_n B 2 dX7_answer_30 rfl rfl ?_
    refine r_iast B 16 0 (Nat.le_of_ble_eq_true rfl) rfl (cX_16 g _) rfl (uX_16 g _ _) dX7_answer_31 (fun S31 => ?_)
    refine r_aload_n B 0 dX7_answer_32 rfl rfl ?_
    refine r_get B 4 6 2 (Nat.le_of_ble_eq_true rfl) rfl (cX_4 g _) rfl m_X7_answer_inX7 (Nat.le_of_ble_eq_true rfl) m_X7_answer_f18 rfl dX7_answer_33 ?_
    refine r_aload_n B 0 dX7_answer_36 rfl rfl ?_
    refine r_get B 4 6 3 (Nat.le_of_ble_eq_true rfl) rfl (cX_4 g _) rfl m_X7_answer_inX7 (Nat.le_of_ble_eq_true rfl) m_X7_answer_f21 rfl dX7_answer_37 ?_
    refine r_sipush B (1000 : Int32) dX7_answer_40 (by decide) ?_
    refine r_iast B 17 0 (Nat.le_of_ble_eq_true rfl) rfl (cX_17 g _) rfl (uX_17 g _ _) dX7_answer_43 (fun S43 => ?_)
    refine r_aload_n B 0 dX7_answer_44 rfl rfl ?_
    refine r_iload_n B 2 dX7_answer_45 rfl rfl ?_
    refine r_put (ty := .int) B 4 6 4 tyX7 tyX7_ok nmX7 (Nat.le_of_ble_eq_true rfl) rfl (cX_4 g _) rfl m_X7_answer_inX7 (Nat.le_of_ble_eq_true rfl) m_X7_answer_f25 rfl (by decide +kernel) rfl rfl (Nat.le_of_ble_eq_true rfl) (pX_4_4 g _ _) dX7_answer_46 (fun S46 => ?_)
    refine r_aload_n B 0 dX7_answer_49 rfl rfl ?_
    refine r_dup B rfl dX7_answer_50 ?_
    refine r_get B 4 6 3 (Nat.le_of_ble_eq_true rfl) rfl (cX_4 g _) rfl m_X7_answer_inX7 (Nat.le_of_ble_eq_true rfl) m_X7_answer_f21 rfl dX7_answer_51 ?_
    refine r_iconst B (1 : Int32) dX7_answer_54 (by decide) ?_
    refine r_iadd B dX7_answer_55 ?_
    refine r_put (ty := .int) B 4 6 3 tyX7 tyX7_ok nmX7 (Nat.le_of_ble_eq_true rfl) rfl (cX_4 g _) rfl m_X7_answer_inX7 (Nat.le_of_ble_eq_true rfl) m_X7_answer_f21 rfl (by decide +kernel) rfl rfl (Nat.le_of_ble_eq_true rfl) (pX_4_3 g _ _) dX7_answer_56 (fun S56 => ?_)
    refine r_aload_n B 0 dX7_answer_59 rfl rfl ?_
    refine r_get B 4 6 3 (Nat.le_of_ble_eq_true rfl) rfl (cX_4 g _) rfl m_X7_answer_inX7 (Nat.le_of_ble_eq_true rfl) m_X7_answer_f21 rfl dX7_answer_60 ?_
    refine r_iconst B (1 : Int32) dX7_answer_63 (by decide) ?_
    refine r_isub B dX7_answer_64 ?_
    exact r_iret B dX7_answer_65 rfl
  · refine r_bipush B (-4 : Int32) dX7_answer_9 (by decide) ?_
    exact r_iret B dX7_answer_11 rfl
set_option maxRecDepth 20000 in
theorem k_X7_answer {l : Launch} {D : va_G} {g : zGx} (hz : zin (WX g)) {S : zSt} {a1 : Int32} {a2 : Int32} {b : (Int32 × zSt)} (h : F_X7_answer S a1 a2 = some b) : zMet l D (WX g) (zT g) yX7_answer wsX7_answer rm_X7_answer S [.ref (g.1 4), .int a1, .int a2] (eIw b) := zmet_of (by decide +kernel) rfl hz (Nat.le_of_ble_eq_true rfl) rfl (fun E _ _ hE B => x_X7_answer B hE S a1 a2) h
abbrev rm_X7_answersTold : Room := { frames := 0, cells := 0, slots := 0, locals := 0 }
theorem y_X7_answersTold : yX7_answersTold.cls = RX7 ∧ yX7_answersTold.cls ≠ "java/lang/invoke/MethodHandle" ∧ yX7_answersTold.cls ≠ "java/lang/invoke/VarHandle" ∧ (parseMethodDescriptor yX7_answersTold.desc).map (fun d => d.parameters.length) = some 0 := by decide +kernel
theorem m_X7_answersTold_f21 : Cond.fieldLink RX7 21 "LongestMet$Survey" "told" "I" ∈ wsX7_answersTold := List.mem_cons_of_mem _ (List.mem_append_left _ (List.mem_of_getElem? (i := 0) rfl))
theorem m_X7_answersTold_inX7 : ∀ x ∈ u_ws RX7 TX7 6, x ∈ wsX7_answersTold := fun _ h => List.mem_cons_of_mem _ (List.mem_append_right _ h)
set_option maxRecDepth 100000 in
set_option maxHeartbeats 4000000 in
theorem x_X7_answersTold {E : zCx} {g : zGx} (B : zGood E (WX g) (zT g) cX7_answersTold RX7 wsX7_answersTold (some .int) rm_X7_answersTold) (hE : E.2.2 = 1) (S : zSt) : Xo E (WX g) (eI S) S 0 [(0, .ref (g.1 4))] [] (F_X7_answersTold S) := by
  unfold F_X7_answersTold
  refine r_aload_n B 0 dX7_answersTold_0 rfl rfl ?_
  refine r_get B 4 6 3 (Nat.le_of_ble_eq_true rfl) rfl (cX_4 g _) rfl m_X7_answersTold_inX7 (Nat.le_of_ble_eq_true rfl) m_X7_answersTold_f21 rfl dX7_answersTold_1 ?_
  exact r_iret B dX7_answersTold_4 rfl
set_option maxRecDepth 20000 in
theorem k_X7_answersTold {l : Launch} {D : va_G} {g : zGx} (hz : zin (WX g)) {S : zSt} {b : Int32} (h : F_X7_answersTold S = some b) : zMet l D (WX g) (zT g) yX7_answersTold wsX7_answersTold rm_X7_answersTold S [.ref (g.1 4)] ((eI S) b) := zmet_of (by decide +kernel) rfl hz (Nat.le_of_ble_eq_true rfl) rfl (fun E _ _ hE B => x_X7_answersTold B hE S) h
abbrev rm_X7_isTakenBack : Room := { frames := 0, cells := 0, slots := 0, locals := 0 }
theorem y_X7_isTakenBack : yX7_isTakenBack.cls = RX7 ∧ yX7_isTakenBack.cls ≠ "java/lang/invoke/MethodHandle" ∧ yX7_isTakenBack.cls ≠ "java/lang/invoke/VarHandle" ∧ (parseMethodDescriptor yX7_isTakenBack.desc).map (fun d => d.parameters.length) = some 1 := by decide +kernel
theorem m_X7_isTakenBack_f18 : Cond.fieldLink RX7 18 "LongestMet$Survey" "backAt" "[I" ∈ wsX7_isTakenBack := List.mem_cons_of_mem _ (List.mem_append_left _ (List.mem_of_getElem? (i := 0) rfl))
theorem m_X7_isTakenBack_inX7 : ∀ x ∈ u_ws RX7 TX7 6, x ∈ wsX7_isTakenBack := fun _ h => List.mem_cons_of_mem _ (List.mem_append_right _ h)
set_option maxRecDepth 100000 in
set_option maxHeartbeats 4000000 in
theorem x_X7_isTakenBack {E : zCx} {g : zGx} (B : zGood E (WX g) (zT g) cX7_isTakenBack RX7 wsX7_isTakenBack (some .boolean) rm_X7_isTakenBack) (hE : E.2.2 = 2) (S : zSt) (a1 : Int32) : Xo E (WX g) (eI S) S 0 [(0, .ref (g.1 4)), (1, .int a1)] [] (F_X7_isTakenBack S a1) := by
  unfold F_X7_isTakenBack
  refine r_aload_n B 0 dX7_isTakenBack_0 rfl rfl ?_
  refine r_get B 4 6 2 (Nat.le_of_ble_eq_true rfl) rfl (cX_4 g _) rfl m_X7_isTakenBack_inX7 (Nat.le_of_ble_eq_true rfl) m_X7_isTakenBack_f18 rfl dX7_isTakenBack_1 ?_
  refine r_iload_n B 1 dX7_isTakenBack_4 rfl rfl ?_
  refine r_iald B 17 0 (Nat.le_of_ble_eq_true rfl) rfl (cX_17 g _) rfl dX7_isTakenBack_5 ?_
  refine r_sipush B (1000 : Int32) dX7_isTakenBack_6 (by decide) ?_
  refine r_icmp_eq B 16 dX7_isTakenBack_9 (by decide) (fun _ => ?_) (fun _ => ?_)
  · refine r_iconst B (0 : Int32) dX7_isTakenBack_16 (by decide) ?_
    exact r_zret0 B dX7_isTakenBack_17 rfl
  · refine r_iconst B (1 : Int32) dX7_isTakenBack_12 (by decide) ?_
    refine r_goto B 17 dX7_isTakenBack_13 (by decide) ?_
    exact r_zret1 B dX7_isTakenBack_17 rfl
set_option maxRecDepth 20000 in
theorem k_X7_isTakenBack {l : Launch} {D : va_G} {g : zGx} (hz : zin (WX g)) {S : zSt} {a1 : Int32} {b : Int32} (h : F_X7_isTakenBack S a1 = some b) : zMet l D (WX g) (zT g) yX7_isTakenBack wsX7_isTakenBack rm_X7_isTakenBack S [.ref (g.1 4), .int a1] ((eI S) b) := zmet_of (by decide +kernel) rfl hz (Nat.le_of_ble_eq_true rfl) rfl (fun E _ _ hE B => x_X7_isTakenBack B hE S a1) h
abbrev rm_X7_forget : Room := { frames := 0, cells := 0, slots := 0, locals := 0 }
theorem y_X7_forget : yX7_forget.cls = RX7 ∧ yX7_forget.cls ≠ "java/lang/invoke/MethodHandle" ∧ yX7_forget.cls ≠ "java/lang/invoke/VarHandle" ∧ (parseMethodDescriptor yX7_forget.desc).map (fun d => d.parameters.length) = some 2 := by decide +kernel
theorem m_X7_forget_f18 : Cond.fieldLink RX7 18 "LongestMet$Survey" "backAt" "[I" ∈ wsX7_forget := List.mem_cons_of_mem _ (List.mem_append_left _ (List.mem_of_getElem? (i := 0) rfl))
theorem m_X7_forget_inX7 : ∀ x ∈ u_ws RX7 TX7 6, x ∈ wsX7_forget := fun _ h => List.mem_cons_of_mem _ (List.mem_append_right _ h)
theorem m_X7_forget_f25 : Cond.fieldLink RX7 25 "LongestMet$Survey" "now" "I" ∈ wsX7_forget := List.mem_cons_of_mem _ (List.mem_append_left _ (List.mem_of_getElem? (i := 1) rfl))
set_option maxRecDepth 100000 in
set_option maxHeartbeats 4000000 in
theorem x_X7_forget {E : zCx} {g : zGx} (B : zGood E (WX g) (zT g) cX7_forget RX7 wsX7_forget none rm_X7_forget) (hE : E.2.2 = 3) (S : zSt) (a1 : Int32) (a2 : Int32) : Xo E (WX g) eVw S 0 [(0, .ref (g.1 4)), (1, .int a1), (2, .int a2)] [] (F_X7_forget S a1 a2) := by
  unfold F_X7_forget
  refine r_aload_n B 0 dX7_forget_0 rfl rfl ?_
  refine r_get B 4 6 2 (Nat.le_of_ble_eq_true rfl) rfl (cX_4 g _) rfl m_X7_forget_inX7 (Nat.le_of_ble_eq_true rfl) m_X7_forget_f18 rfl dX7_forget_1 ?_
  refine r_iload_n B 1 dX7_forget_4 rfl rfl ?_
  refine r_iload_n B 2 dX7_forget_5 rfl rfl ?_
  refine r_iast B 17 0 (Nat.le_of_ble_eq_true rfl) rfl (cX_17 g _) rfl (uX_17 g _ _) dX7_forget_6 (fun S6 => ?_)
  refine r_aload_n B 0 dX7_forget_7 rfl rfl ?_
  refine r_iload_n B 2 dX7_forget_8 rfl rfl ?_
  refine r_put (ty := .int) B 4 6 4 tyX7 tyX7_ok nmX7 (Nat.le_of_ble_eq_true rfl) rfl (cX_4 g _) rfl m_X7_forget_inX7 (Nat.le_of_ble_eq_true rfl) m_X7_forget_f25 rfl (by decide +kernel) rfl rfl (Nat.le_of_ble_eq_true rfl) (pX_4_4 g _ _) dX7_forget_9 (fun S9 => ?_)
  exact r_vret B dX7_forget_12 rfl
set_option maxRecDepth 20000 in
theorem k_X7_forget {l : Launch} {D : va_G} {g : zGx} (hz : zin (WX g)) {S : zSt} {a1 : Int32} {a2 : Int32} {b : zSt} (h : F_X7_forget S a1 a2 = some b) : zMet l D (WX g) (zT g) yX7_forget wsX7_forget rm_X7_forget S [.ref (g.1 4), .int a1, .int a2] (eVw b) := zmet_of (by decide +kernel) rfl hz (Nat.le_of_ble_eq_true rfl) rfl (fun E _ _ hE B => x_X7_forget B hE S a1 a2) h
abbrev rm_X7_lookFrom : Room := { frames := 0, cells := 0, slots := 0, locals := 0 }
theorem y_X7_lookFrom : yX7_lookFrom.cls = RX7 ∧ yX7_lookFrom.cls ≠ "java/lang/invoke/MethodHandle" ∧ yX7_lookFrom.cls ≠ "java/lang/invoke/VarHandle" ∧ (parseMethodDescriptor yX7_lookFrom.desc).map (fun d => d.parameters.length) = some 1 := by decide +kernel
theorem m_X7_lookFrom_f28 : Cond.fieldLink RX7 28 "LongestMet$Survey" "seenFrom" "I" ∈ wsX7_lookFrom := List.mem_cons_of_mem _ (List.mem_append_left _ (List.mem_of_getElem? (i := 0) rfl))
theorem m_X7_lookFrom_inX7 : ∀ x ∈ u_ws RX7 TX7 6, x ∈ wsX7_lookFrom := fun _ h => List.mem_cons_of_mem _ (List.mem_append_right _ h)
set_option maxRecDepth 100000 in
set_option maxHeartbeats 4000000 in
theorem x_X7_lookFrom {E : zCx} {g : zGx} (B : zGood E (WX g) (zT g) cX7_lookFrom RX7 wsX7_lookFrom (some .int) rm_X7_lookFrom) (hE : E.2.2 = 3) (S : zSt) (a1 : Int32) : Xo E (WX g) eIw S 0 [(0, .ref (g.1 4)), (1, .int a1)] [] (F_X7_lookFrom S a1) := by
  have n2 : 2 < E.2.2 := by rw [hE]; decide
  unfold F_X7_lookFrom
  refine r_aload_n B 0 dX7_lookFrom_0 rfl rfl ?_
  refine r_get B 4 6 5 (Nat.le_of_ble_eq_true rfl) rfl (cX_4 g _) rfl m_X7_lookFrom_inX7 (Nat.le_of_ble_eq_true rfl) m_X7_lookFrom_f28 rfl dX7_lookFrom_1 ?_
  refine r_istore_n (lv' := fun x2_4 => [(2, .int x2_4), (0, .ref (g.1 4)), (1, .int a1)]) B dX7_lookFrom_4 rfl n2 (fun _ => rfl) (fun x2_4 => ?_)
  refine r_aload_n B 1 dX7_lookFrom_5 rfl rfl ?_
  refine r_iload_n B 2 dX7_lookFrom_6 rfl rfl ?_
  refine r_put (ty := .int) B 4 6 5 tyX7 tyX7_ok nmX7 (Nat.le_of_ble_eq_true rfl) rfl (cX_4 g _) rfl m_X7_lookFrom_inX7 (Nat.le_of_ble_eq_true rfl) m_X7_lookFrom_f28 rfl (by decide +kernel) rfl rfl (Nat.le_of_ble_eq_true rfl) (pX_4_5 g _ _) dX7_lookFrom_7 (fun S7 => ?_)
  refine r_iload_n B 0 dX7_lookFrom_10 rfl rfl ?_
  exact r_iret B dX7_lookFrom_11 rfl
set_option maxRecDepth 20000 in
theorem k_X7_lookFrom {l : Launch} {D : va_G} {g : zGx} (hz : zin (WX g)) {S : zSt} {a1 : Int32} {b : (Int32 × zSt)} (h : F_X7_lookFrom S a1 = some b) : zMet l D (WX g) (zT g) yX7_lookFrom wsX7_lookFrom rm_X7_lookFrom S [.ref (g.1 4), .int a1] (eIw b) := zmet_of (by decide +kernel) rfl hz (Nat.le_of_ble_eq_true rfl) rfl (fun E _ _ hE B => x_X7_lookFrom B hE S a1) h
abbrev rm_X7_childrenSaid : Room := { frames := 2, cells := 0, slots := 0, locals := 44 }
theorem y_X7_childrenSaid : yX7_childrenSaid.cls = RX7 ∧ yX7_childrenSaid.cls ≠ "java/lang/invoke/MethodHandle" ∧ yX7_childrenSaid.cls ≠ "java/lang/invoke/VarHandle" ∧ (parseMethodDescriptor yX7_childrenSaid.desc).map (fun d => d.parameters.length) = some 0 := by decide +kernel
set_option maxRecDepth 100000 in
set_option maxHeartbeats 4000000 in
theorem xL_X7_childrenSaid_4 {E : zCx} {g : zGx} (B : zGood E (WX g) (zT g) cX7_childrenSaid RX7 wsX7_childrenSaid (some .int) rm_X7_childrenSaid) (hE : E.2.2 = 3) (S : zSt) (k : Int32 → Option Int32) (hk : ∀ (w1 : Int32), Xo E (WX g) (eI S) S 26 [(1, .int w1)] [] (k w1)) : ∀ (n : Nat) (v1_4 : Int32) (v2_4 : Int32), Xo E (WX g) (eI S) S 4 [(0, .ref (g.1 4)), (1, .int v1_4), (2, .int v2_4)] [] (L_X7_childrenSaid_4 S k n v1_4 v2_4) := by
  have n1 : 1 < E.2.2 := by rw [hE]; decide
  have n2 : 2 < E.2.2 := by rw [hE]; decide
  intro n
  induction n with
  | zero =>
    intro _ _
    exact r_none
  | succ n ih =>
    intro v1_4 v2_4
    rw [L_X7_childrenSaid_4]
    refine r_iload_n B 2 dX7_childrenSaid_4 rfl rfl ?_
    refine r_bipush B (8 : Int32) dX7_childrenSaid_5 (by decide) ?_
    refine r_icmp_gt B 26 dX7_childrenSaid_7 (by decide) (fun _ => ?_) (fun _ => ?_)
    · refine r_sub [1] rfl ?_
      exact hk v1_4
    · refine r_iload_n B 1 dX7_childrenSaid_10 rfl rfl ?_
      refine r_iload_n B 2 dX7_childrenSaid_11 rfl rfl ?_
      refine r_aload_n B 0 dX7_childrenSaid_12 rfl rfl ?_
      refine r_iload_n B 2 dX7_childrenSaid_13 rfl rfl ?_
      refine r_cI (zrunV (As := [.int v2_4]) (rest := [.int v2_4, .int v1_4]) B 1 4 (fun b hb => k_X7_saying B.2.2.1 hb) gX7_childrenSaid_X7_saying rfl rfl rfl y_X7_saying ⟨Nat.le_of_ble_eq_true rfl, Nat.le_of_ble_eq_true rfl⟩ (Nat.le_of_ble_eq_true rfl) rfl (cX_4 g _) rfl rfl rfl (Nat.le_of_ble_eq_true rfl) dX7_childrenSaid_14) (fun r14 => ?_)
      refine r_imul B dX7_childrenSaid_17 ?_
      refine r_iadd B dX7_childrenSaid_18 ?_
      refine r_istore_n (lv' := fun x1_19 => [(1, .int x1_19), (0, .ref (g.1 4)), (2, .int v2_4)]) B dX7_childrenSaid_19 rfl n1 (fun _ => rfl) (fun x1_19 => ?_)
      refine r_iinc (lv' := fun x2_20 => [(2, .int x2_20), (1, .int x1_19), (0, .ref (g.1 4))]) B 2 (1 : Int32) dX7_childrenSaid_20 rfl (by decide) n2 (fun _ => rfl) (fun x2_20 => ?_)
      refine r_goto B 4 dX7_childrenSaid_23 (by decide) ?_
      refine r_sub [2, 1, 0] rfl ?_
      exact ih x1_19 x2_20
set_option maxRecDepth 100000 in
set_option maxHeartbeats 4000000 in
theorem x_X7_childrenSaid {E : zCx} {g : zGx} (B : zGood E (WX g) (zT g) cX7_childrenSaid RX7 wsX7_childrenSaid (some .int) rm_X7_childrenSaid) (hE : E.2.2 = 3) (S : zSt) : Xo E (WX g) (eI S) S 0 [(0, .ref (g.1 4))] [] (F_X7_childrenSaid S) := by
  have n1 : 1 < E.2.2 := by rw [hE]; decide
  have n2 : 2 < E.2.2 := by rw [hE]; decide
  unfold F_X7_childrenSaid
  refine r_iconst B (0 : Int32) dX7_childrenSaid_0 (by decide) ?_
  refine r_istore_n (lv' := fun x1_1 => [(1, .int x1_1), (0, .ref (g.1 4))]) B dX7_childrenSaid_1 rfl n1 (fun _ => rfl) (fun x1_1 => ?_)
  refine r_iconst B (1 : Int32) dX7_childrenSaid_2 (by decide) ?_
  refine r_istore_n (lv' := fun x2_3 => [(2, .int x2_3), (1, .int x1_1), (0, .ref (g.1 4))]) B dX7_childrenSaid_3 rfl n2 (fun _ => rfl) (fun x2_3 => ?_)
  refine r_sub [2, 1, 0] rfl ?_
  refine xL_X7_childrenSaid_4 B hE S _ ?_ 1000 x1_1 x2_3
  intro w1_4
  refine r_iload_n B 0 dX7_childrenSaid_26 rfl rfl ?_
  exact r_iret B dX7_childrenSaid_27 rfl
set_option maxRecDepth 20000 in
theorem k_X7_childrenSaid {l : Launch} {D : va_G} {g : zGx} (hz : zin (WX g)) {S : zSt} {b : Int32} (h : F_X7_childrenSaid S = some b) : zMet l D (WX g) (zT g) yX7_childrenSaid wsX7_childrenSaid rm_X7_childrenSaid S [.ref (g.1 4)] ((eI S) b) := zmet_of (by decide +kernel) rfl hz (Nat.le_of_ble_eq_true rfl) rfl (fun E _ _ hE B => x_X7_childrenSaid B hE S) h
abbrev rm_X7_familyParts : Room := { frames := 2, cells := 0, slots := 0, locals := 44 }
theorem y_X7_familyParts : yX7_familyParts.cls = RX7 ∧ yX7_familyParts.cls ≠ "java/lang/invoke/MethodHandle" ∧ yX7_familyParts.cls ≠ "java/lang/invoke/VarHandle" ∧ (parseMethodDescriptor yX7_familyParts.desc).map (fun d => d.parameters.length) = some 1 := by decide +kernel
set_option maxRecDepth 100000 in
set_option maxHeartbeats 4000000 in
theorem x_X7_familyParts {E : zCx} {g : zGx} (B : zGood E (WX g) (zT g) cX7_familyParts RX7 wsX7_familyParts (some .int) rm_X7_familyParts) (hE : E.2.2 = 2) (S : zSt) (a1 : Int32) : Xo E (WX g) (eI S) S 0 [(0, .ref (g.1 4)), (1, .int a1)] [] (F_X7_familyParts S a1) := by
  unfold F_X7_familyParts
  refine r_iload_n B 1 dX7_familyParts_0 rfl rfl ?_
  refine r_if_le B 18 dX7_familyParts_1 (by decide) (fun _ => ?_) (fun _ => ?_)
  · refine r_iconst B (0 : Int32) dX7_familyParts_18 (by decide) ?_
    exact r_iret B dX7_familyParts_19 rfl
  · refine r_aload_n B 0 dX7_familyParts_4 rfl rfl ?_
    refine r_iload_n B 1 dX7_familyParts_5 rfl rfl ?_
    refine r_cI (zrunV (As := [.int a1]) (rest := []) B 1 4 (fun b hb => k_X7_saying B.2.2.1 hb) gX7_familyParts_X7_saying rfl rfl rfl y_X7_saying ⟨Nat.le_of_ble_eq_true rfl, Nat.le_of_ble_eq_true rfl⟩ (Nat.le_of_ble_eq_true rfl) rfl (cX_4 g _) rfl rfl rfl (Nat.le_of_ble_eq_true rfl) dX7_familyParts_6) (fun r6 => ?_)
    refine r_sipush B (840 : Int32) dX7_familyParts_9 (by decide) ?_
    refine r_iload_n B 1 dX7_familyParts_12 rfl rfl ?_
    refine r_idiv B dX7_familyParts_13 (fun _ => ?_)
    refine r_imul B dX7_familyParts_14 ?_
    refine r_goto B 19 dX7_familyParts_15 (by decide) ?_
    exact r_iret B dX7_familyParts_19 rfl
set_option maxRecDepth 20000 in
theorem k_X7_familyParts {l : Launch} {D : va_G} {g : zGx} (hz : zin (WX g)) {S : zSt} {a1 : Int32} {b : Int32} (h : F_X7_familyParts S a1 = some b) : zMet l D (WX g) (zT g) yX7_familyParts wsX7_familyParts rm_X7_familyParts S [.ref (g.1 4), .int a1] ((eI S) b) := zmet_of (by decide +kernel) rfl hz (Nat.le_of_ble_eq_true rfl) rfl (fun E _ _ hE B => x_X7_familyParts B hE S a1) h
abbrev rm_X7_allFamilyParts : Room := { frames := 3, cells := 0, slots := 0, locals := 65 }
theorem y_X7_allFamilyParts : yX7_allFamilyParts.cls = RX7 ∧ yX7_allFamilyParts.cls ≠ "java/lang/invoke/MethodHandle" ∧ yX7_allFamilyParts.cls ≠ "java/lang/invoke/VarHandle" ∧ (parseMethodDescriptor yX7_allFamilyParts.desc).map (fun d => d.parameters.length) = some 0 := by decide +kernel
set_option maxRecDepth 100000 in
set_option maxHeartbeats 4000000 in
theorem xL_X7_allFamilyParts_4 {E : zCx} {g : zGx} (B : zGood E (WX g) (zT g) cX7_allFamilyParts RX7 wsX7_allFamilyParts (some .int) rm_X7_allFamilyParts) (hE : E.2.2 = 3) (S : zSt) (k : Int32 → Option Int32) (hk : ∀ (w1 : Int32), Xo E (WX g) (eI S) S 24 [(1, .int w1)] [] (k w1)) : ∀ (n : Nat) (v1_4 : Int32) (v2_4 : Int32), Xo E (WX g) (eI S) S 4 [(0, .ref (g.1 4)), (1, .int v1_4), (2, .int v2_4)] [] (L_X7_allFamilyParts_4 S k n v1_4 v2_4) := by
  have n1 : 1 < E.2.2 := by rw [hE]; decide
  have n2 : 2 < E.2.2 := by rw [hE]; decide
  intro n
  induction n with
  | zero =>
    intro _ _
    exact r_none
  | succ n ih =>
    intro v1_4 v2_4
    rw [L_X7_allFamilyParts_4]
    refine r_iload_n B 2 dX7_allFamilyParts_4 rfl rfl ?_
    refine r_bipush B (8 : Int32) dX7_allFamilyParts_5 (by decide) ?_
    refine r_icmp_gt B 24 dX7_allFamilyParts_7 (by decide) (fun _ => ?_) (fun _ => ?_)
    · refine r_sub [1] rfl ?_
      exact hk v1_4
    · refine r_iload_n B 1 dX7_allFamilyParts_10 rfl rfl ?_
      refine r_aload_n B 0 dX7_allFamilyParts_11 rfl rfl ?_
      refine r_iload_n B 2 dX7_allFamilyParts_12 rfl rfl ?_
      refine r_cI (zrunV (As := [.int v2_4]) (rest := [.int v1_4]) B 1 4 (fun b hb => k_X7_familyParts B.2.2.1 hb) gX7_allFamilyParts_X7_familyParts rfl rfl rfl y_X7_familyParts ⟨Nat.le_of_ble_eq_true rfl, Nat.le_of_ble_eq_true rfl⟩ (Nat.le_of_ble_eq_true rfl) rfl (cX_4 g _) rfl rfl rfl (Nat.le_of_ble_eq_true rfl) dX7_allFamilyParts_13) (fun r13 => ?_)
      refine r_iadd B dX7_allFamilyParts_16 ?_
      refine r_istore_n (lv' := fun x1_17 => [(1, .int x1_17), (0, .ref (g.1 4)), (2, .int v2_4)]) B dX7_allFamilyParts_17 rfl n1 (fun _ => rfl) (fun x1_17 => ?_)
      refine r_iinc (lv' := fun x2_18 => [(2, .int x2_18), (1, .int x1_17), (0, .ref (g.1 4))]) B 2 (1 : Int32) dX7_allFamilyParts_18 rfl (by decide) n2 (fun _ => rfl) (fun x2_18 => ?_)
      refine r_goto B 4 dX7_allFamilyParts_21 (by decide) ?_
      refine r_sub [2, 1, 0] rfl ?_
      exact ih x1_17 x2_18
set_option maxRecDepth 100000 in
set_option maxHeartbeats 4000000 in
theorem x_X7_allFamilyParts {E : zCx} {g : zGx} (B : zGood E (WX g) (zT g) cX7_allFamilyParts RX7 wsX7_allFamilyParts (some .int) rm_X7_allFamilyParts) (hE : E.2.2 = 3) (S : zSt) : Xo E (WX g) (eI S) S 0 [(0, .ref (g.1 4))] [] (F_X7_allFamilyParts S) := by
  have n1 : 1 < E.2.2 := by rw [hE]; decide
  have n2 : 2 < E.2.2 := by rw [hE]; decide
  unfold F_X7_allFamilyParts
  refine r_iconst B (0 : Int32) dX7_allFamilyParts_0 (by decide) ?_
  refine r_istore_n (lv' := fun x1_1 => [(1, .int x1_1), (0, .ref (g.1 4))]) B dX7_allFamilyParts_1 rfl n1 (fun _ => rfl) (fun x1_1 => ?_)
  refine r_iconst B (1 : Int32) dX7_allFamilyParts_2 (by decide) ?_
  refine r_istore_n (lv' := fun x2_3 => [(2, .int x2_3), (1, .int x1_1), (0, .ref (g.1 4))]) B dX7_allFamilyParts_3 rfl n2 (fun _ => rfl) (fun x2_3 => ?_)
  refine r_sub [2, 1, 0] rfl ?_
  refine xL_X7_allFamilyParts_4 B hE S _ ?_ 1000 x1_1 x2_3
  intro w1_4
  refine r_iload_n B 0 dX7_allFamilyParts_24 rfl rfl ?_
  exact r_iret B dX7_allFamilyParts_25 rfl
set_option maxRecDepth 20000 in
theorem k_X7_allFamilyParts {l : Launch} {D : va_G} {g : zGx} (hz : zin (WX g)) {S : zSt} {b : Int32} (h : F_X7_allFamilyParts S = some b) : zMet l D (WX g) (zT g) yX7_allFamilyParts wsX7_allFamilyParts rm_X7_allFamilyParts S [.ref (g.1 4)] ((eI S) b) := zmet_of (by decide +kernel) rfl hz (Nat.le_of_ble_eq_true rfl) rfl (fun E _ _ hE B => x_X7_allFamilyParts B hE S) h
abbrev rm_X8_append : Room := { frames := 0, cells := 0, slots := 0, locals := 0 }
theorem y_X8_append : yX8_append.cls = RX8 ∧ yX8_append.cls ≠ "java/lang/invoke/MethodHandle" ∧ yX8_append.cls ≠ "java/lang/invoke/VarHandle" ∧ (parseMethodDescriptor yX8_append.desc).map (fun d => d.parameters.length) = some 1 := by decide +kernel
theorem m_X8_append_f15 : Cond.fieldLink RX8 15 "LongestMet$Text" "length" "I" ∈ wsX8_append := List.mem_cons_of_mem _ (List.mem_append_left _ (List.mem_of_getElem? (i := 0) rfl))
theorem m_X8_append_inX8 : ∀ x ∈ u_ws RX8 TX8 4, x ∈ wsX8_append := fun _ h => List.mem_cons_of_mem _ (List.mem_append_right _ h)
theorem m_X8_append_f11 : Cond.fieldLink RX8 11 "LongestMet$Text" "bytes" "[I" ∈ wsX8_append := List.mem_cons_of_mem _ (List.mem_append_left _ (List.mem_of_getElem? (i := 1) rfl))
set_option maxRecDepth 100000 in
set_option maxHeartbeats 4000000 in
theorem x_X8_append {E : zCx} {g : zGx} (B : zGood E (WX g) (zT g) cX8_append RX8 wsX8_append (some .int) rm_X8_append) (hE : E.2.2 = 2) (S : zSt) (a1 : Int32) : Xo E (WX g) eIw S 0 [(0, .ref (g.1 1)), (1, .int a1)] [] (F_X8_append S a1) := by
  unfold F_X8_append
  refine r_aload_n B 0 dX8_append_0 rfl rfl ?_
  refine r_get B 1 7 1 (Nat.le_of_ble_eq_true rfl) rfl (cX_1 g _) rfl m_X8_append_inX8 (Nat.le_of_ble_eq_true rfl) m_X8_append_f15 rfl dX8_append_1 ?_
  refine r_bipush B (40 : Int32) dX8_append_4 (by decide) ?_
  refine r_icmp_lt B 12 dX8_append_6 (by decide) (fun _ => ?_) (fun _ => ?_)
  · refine r_aload_n B 0 dX8_append_12 rfl rfl ?_
    refine r_get B 1 7 0 (Nat.le_of_ble_eq_true rfl) rfl (cX_1 g _) rfl m_X8_append_inX8 (Nat.le_of_ble_eq_true rfl) m_X8_append_f11 rfl dX8_append_13 ?_
    refine r_aload_n B 0 dX8_append_16 rfl rfl ?_
    refine r_get B 1 7 1 (Nat.le_of_ble_eq_true rfl) rfl (cX_1 g _) rfl m_X8_append_inX8 (Nat.le_of_ble_eq_true rfl) m_X8_append_f15 rfl dX8_append_17 ?_
    refine r_iload_n B 1 dX8_append_20 rfl rfl ?_
    refine r_iast B 10 0 (Nat.le_of_ble_eq_true rfl) rfl (cX_10 g _) rfl (uX_10 g _ _) dX8_append_21 (fun S21 => ?_)
    refine r_aload_n B 0 dX8_append_22 rfl rfl ?_
    refine r_dup B rfl dX8_append_23 ?_
    refine r_get B 1 7 1 (Nat.le_of_ble_eq_true rfl) rfl (cX_1 g _) rfl m_X8_append_inX8 (Nat.le_of_ble_eq_true rfl) m_X8_append_f15 rfl dX8_append_24 ?_
    refine r_iconst B (1 : Int32) dX8_append_27 (by decide) ?_
    refine r_iadd B dX8_append_28 ?_
    refine r_put (ty := .int) B 1 7 1 tyX8 tyX8_ok nmX8 (Nat.le_of_ble_eq_true rfl) rfl (cX_1 g _) rfl m_X8_append_inX8 (Nat.le_of_ble_eq_true rfl) m_X8_append_f15 rfl (by decide +kernel) rfl rfl (Nat.le_of_ble_eq_true rfl) (pX_1_1 g _ _) dX8_append_29 (fun S29 => ?_)
    refine r_aload_n B 0 dX8_append_32 rfl rfl ?_
    refine r_get B 1 7 1 (Nat.le_of_ble_eq_true rfl) rfl (cX_1 g _) rfl m_X8_append_inX8 (Nat.le_of_ble_eq_true rfl) m_X8_append_f15 rfl dX8_append_33 ?_
    exact r_iret B dX8_append_36 rfl
  · refine r_bipush B (-4 : Int32) dX8_append_9 (by decide) ?_
    exact r_iret B dX8_append_11 rfl
set_option maxRecDepth 20000 in
theorem k_X8_append {l : Launch} {D : va_G} {g : zGx} (hz : zin (WX g)) {S : zSt} {a1 : Int32} {b : (Int32 × zSt)} (h : F_X8_append S a1 = some b) : zMet l D (WX g) (zT g) yX8_append wsX8_append rm_X8_append S [.ref (g.1 1), .int a1] (eIw b) := zmet_of (by decide +kernel) rfl hz (Nat.le_of_ble_eq_true rfl) rfl (fun E _ _ hE B => x_X8_append B hE S a1) h
abbrev rm_X8_empty : Room := { frames := 0, cells := 0, slots := 0, locals := 0 }
theorem y_X8_empty : yX8_empty.cls = RX8 ∧ yX8_empty.cls ≠ "java/lang/invoke/MethodHandle" ∧ yX8_empty.cls ≠ "java/lang/invoke/VarHandle" ∧ (parseMethodDescriptor yX8_empty.desc).map (fun d => d.parameters.length) = some 0 := by decide +kernel
theorem m_X8_empty_f15 : Cond.fieldLink RX8 15 "LongestMet$Text" "length" "I" ∈ wsX8_empty := List.mem_cons_of_mem _ (List.mem_append_left _ (List.mem_of_getElem? (i := 0) rfl))
theorem m_X8_empty_inX8 : ∀ x ∈ u_ws RX8 TX8 4, x ∈ wsX8_empty := fun _ h => List.mem_cons_of_mem _ (List.mem_append_right _ h)
set_option maxRecDepth 100000 in
set_option maxHeartbeats 4000000 in
theorem x_X8_empty {E : zCx} {g : zGx} (B : zGood E (WX g) (zT g) cX8_empty RX8 wsX8_empty (some .int) rm_X8_empty) (hE : E.2.2 = 2) (S : zSt) : Xo E (WX g) eIw S 0 [(0, .ref (g.1 1))] [] (F_X8_empty S) := by
  have n1 : 1 < E.2.2 := by rw [hE]; decide
  unfold F_X8_empty
  refine r_aload_n B 0 dX8_empty_0 rfl rfl ?_
  refine r_get B 1 7 1 (Nat.le_of_ble_eq_true rfl) rfl (cX_1 g _) rfl m_X8_empty_inX8 (Nat.le_of_ble_eq_true rfl) m_X8_empty_f15 rfl dX8_empty_1 ?_
  refine r_istore_n (lv' := fun x1_4 => [(1, .int x1_4), (0, .ref (g.1 1))]) B dX8_empty_4 rfl n1 (fun _ => rfl) (fun x1_4 => ?_)
  refine r_aload_n B 1 dX8_empty_5 rfl rfl ?_
  refine r_iconst B (0 : Int32) dX8_empty_6 (by decide) ?_
  refine r_put (ty := .int) B 1 7 1 tyX8 tyX8_ok nmX8 (Nat.le_of_ble_eq_true rfl) rfl (cX_1 g _) rfl m_X8_empty_inX8 (Nat.le_of_ble_eq_true rfl) m_X8_empty_f15 rfl (by decide +kernel) rfl rfl (Nat.le_of_ble_eq_true rfl) (pX_1_1 g _ _) dX8_empty_7 (fun S7 => ?_)
  refine r_iload_n B 0 dX8_empty_10 rfl rfl ?_
  exact r_iret B dX8_empty_11 rfl
set_option maxRecDepth 20000 in
theorem k_X8_empty {l : Launch} {D : va_G} {g : zGx} (hz : zin (WX g)) {S : zSt} {b : (Int32 × zSt)} (h : F_X8_empty S = some b) : zMet l D (WX g) (zT g) yX8_empty wsX8_empty rm_X8_empty S [.ref (g.1 1)] (eIw b) := zmet_of (by decide +kernel) rfl hz (Nat.le_of_ble_eq_true rfl) rfl (fun E _ _ hE B => x_X8_empty B hE S) h
abbrev rm_X8_bytesTyped : Room := { frames := 0, cells := 0, slots := 0, locals := 0 }
theorem y_X8_bytesTyped : yX8_bytesTyped.cls = RX8 ∧ yX8_bytesTyped.cls ≠ "java/lang/invoke/MethodHandle" ∧ yX8_bytesTyped.cls ≠ "java/lang/invoke/VarHandle" ∧ (parseMethodDescriptor yX8_bytesTyped.desc).map (fun d => d.parameters.length) = some 0 := by decide +kernel
theorem m_X8_bytesTyped_f15 : Cond.fieldLink RX8 15 "LongestMet$Text" "length" "I" ∈ wsX8_bytesTyped := List.mem_cons_of_mem _ (List.mem_append_left _ (List.mem_of_getElem? (i := 0) rfl))
theorem m_X8_bytesTyped_inX8 : ∀ x ∈ u_ws RX8 TX8 4, x ∈ wsX8_bytesTyped := fun _ h => List.mem_cons_of_mem _ (List.mem_append_right _ h)
set_option maxRecDepth 100000 in
set_option maxHeartbeats 4000000 in
theorem x_X8_bytesTyped {E : zCx} {g : zGx} (B : zGood E (WX g) (zT g) cX8_bytesTyped RX8 wsX8_bytesTyped (some .int) rm_X8_bytesTyped) (hE : E.2.2 = 1) (S : zSt) : Xo E (WX g) (eI S) S 0 [(0, .ref (g.1 1))] [] (F_X8_bytesTyped S) := by
  unfold F_X8_bytesTyped
  refine r_aload_n B 0 dX8_bytesTyped_0 rfl rfl ?_
  refine r_get B 1 7 1 (Nat.le_of_ble_eq_true rfl) rfl (cX_1 g _) rfl m_X8_bytesTyped_inX8 (Nat.le_of_ble_eq_true rfl) m_X8_bytesTyped_f15 rfl dX8_bytesTyped_1 ?_
  exact r_iret B dX8_bytesTyped_4 rfl
set_option maxRecDepth 20000 in
theorem k_X8_bytesTyped {l : Launch} {D : va_G} {g : zGx} (hz : zin (WX g)) {S : zSt} {b : Int32} (h : F_X8_bytesTyped S = some b) : zMet l D (WX g) (zT g) yX8_bytesTyped wsX8_bytesTyped rm_X8_bytesTyped S [.ref (g.1 1)] ((eI S) b) := zmet_of (by decide +kernel) rfl hz (Nat.le_of_ble_eq_true rfl) rfl (fun E _ _ hE B => x_X8_bytesTyped B hE S) h
abbrev rm_X8_minutesScanned : Room := { frames := 0, cells := 0, slots := 0, locals := 0 }
theorem y_X8_minutesScanned : yX8_minutesScanned.cls = RX8 ∧ yX8_minutesScanned.cls ≠ "java/lang/invoke/MethodHandle" ∧ yX8_minutesScanned.cls ≠ "java/lang/invoke/VarHandle" ∧ (parseMethodDescriptor yX8_minutesScanned.desc).map (fun d => d.parameters.length) = some 0 := by decide +kernel
theorem m_X8_minutesScanned_f22 : Cond.fieldLink RX8 22 "LongestMet$Text" "minutes" "J" ∈ wsX8_minutesScanned := List.mem_cons_of_mem _ (List.mem_append_left _ (List.mem_of_getElem? (i := 0) rfl))
theorem m_X8_minutesScanned_inX8 : ∀ x ∈ u_ws RX8 TX8 4, x ∈ wsX8_minutesScanned := fun _ h => List.mem_cons_of_mem _ (List.mem_append_right _ h)
set_option maxRecDepth 100000 in
set_option maxHeartbeats 4000000 in
theorem x_X8_minutesScanned {E : zCx} {g : zGx} (B : zGood E (WX g) (zT g) cX8_minutesScanned RX8 wsX8_minutesScanned (some .long) rm_X8_minutesScanned) (hE : E.2.2 = 1) (S : zSt) : Xo E (WX g) (eL S) S 0 [(0, .ref (g.1 1))] [] (F_X8_minutesScanned S) := by
  unfold F_X8_minutesScanned
  refine r_aload_n B 0 dX8_minutesScanned_0 rfl rfl ?_
  refine r_get B 1 7 3 (Nat.le_of_ble_eq_true rfl) rfl (cX_1 g _) rfl m_X8_minutesScanned_inX8 (Nat.le_of_ble_eq_true rfl) m_X8_minutesScanned_f22 rfl dX8_minutesScanned_1 ?_
  exact r_lret B dX8_minutesScanned_4 rfl
set_option maxRecDepth 20000 in
theorem k_X8_minutesScanned {l : Launch} {D : va_G} {g : zGx} (hz : zin (WX g)) {S : zSt} {b : Int64} (h : F_X8_minutesScanned S = some b) : zMet l D (WX g) (zT g) yX8_minutesScanned wsX8_minutesScanned rm_X8_minutesScanned S [.ref (g.1 1)] ((eL S) b) := zmet_of (by decide +kernel) rfl hz (Nat.le_of_ble_eq_true rfl) rfl (fun E _ _ hE B => x_X8_minutesScanned B hE S) h
abbrev rm_X8_ahead : Room := { frames := 0, cells := 0, slots := 0, locals := 0 }
theorem y_X8_ahead : yX8_ahead.cls = RX8 ∧ yX8_ahead.cls ≠ "java/lang/invoke/MethodHandle" ∧ yX8_ahead.cls ≠ "java/lang/invoke/VarHandle" ∧ (parseMethodDescriptor yX8_ahead.desc).map (fun d => d.parameters.length) = some 0 := by decide +kernel
theorem m_X8_ahead_f19 : Cond.fieldLink RX8 19 "LongestMet$Text" "place" "I" ∈ wsX8_ahead := List.mem_cons_of_mem _ (List.mem_append_left _ (List.mem_of_getElem? (i := 0) rfl))
theorem m_X8_ahead_inX8 : ∀ x ∈ u_ws RX8 TX8 4, x ∈ wsX8_ahead := fun _ h => List.mem_cons_of_mem _ (List.mem_append_right _ h)
theorem m_X8_ahead_f15 : Cond.fieldLink RX8 15 "LongestMet$Text" "length" "I" ∈ wsX8_ahead := List.mem_cons_of_mem _ (List.mem_append_left _ (List.mem_of_getElem? (i := 1) rfl))
theorem m_X8_ahead_f11 : Cond.fieldLink RX8 11 "LongestMet$Text" "bytes" "[I" ∈ wsX8_ahead := List.mem_cons_of_mem _ (List.mem_append_left _ (List.mem_of_getElem? (i := 2) rfl))
set_option maxRecDepth 100000 in
set_option maxHeartbeats 4000000 in
theorem x_X8_ahead {E : zCx} {g : zGx} (B : zGood E (WX g) (zT g) cX8_ahead RX8 wsX8_ahead (some .int) rm_X8_ahead) (hE : E.2.2 = 1) (S : zSt) : Xo E (WX g) (eI S) S 0 [(0, .ref (g.1 1))] [] (F_X8_ahead S) := by
  unfold F_X8_ahead
  refine r_aload_n B 0 dX8_ahead_0 rfl rfl ?_
  refine r_get B 1 7 2 (Nat.le_of_ble_eq_true rfl) rfl (cX_1 g _) rfl m_X8_ahead_inX8 (Nat.le_of_ble_eq_true rfl) m_X8_ahead_f19 rfl dX8_ahead_1 ?_
  refine r_aload_n B 0 dX8_ahead_4 rfl rfl ?_
  refine r_get B 1 7 1 (Nat.le_of_ble_eq_true rfl) rfl (cX_1 g _) rfl m_X8_ahead_inX8 (Nat.le_of_ble_eq_true rfl) m_X8_ahead_f15 rfl dX8_ahead_5 ?_
  refine r_icmp_ge B 23 dX8_ahead_8 (by decide) (fun _ => ?_) (fun _ => ?_)
  · refine r_iconst B (-1 : Int32) dX8_ahead_23 (by decide) ?_
    exact r_iret B dX8_ahead_24 rfl
  · refine r_aload_n B 0 dX8_ahead_11 rfl rfl ?_
    refine r_get B 1 7 0 (Nat.le_of_ble_eq_true rfl) rfl (cX_1 g _) rfl m_X8_ahead_inX8 (Nat.le_of_ble_eq_true rfl) m_X8_ahead_f11 rfl dX8_ahead_12 ?_
    refine r_aload_n B 0 dX8_ahead_15 rfl rfl ?_
    refine r_get B 1 7 2 (Nat.le_of_ble_eq_true rfl) rfl (cX_1 g _) rfl m_X8_ahead_inX8 (Nat.le_of_ble_eq_true rfl) m_X8_ahead_f19 rfl dX8_ahead_16 ?_
    refine r_iald B 10 0 (Nat.le_of_ble_eq_true rfl) rfl (cX_10 g _) rfl dX8_ahead_19 ?_
    refine r_goto B 24 dX8_ahead_20 (by decide) ?_
    exact r_iret B dX8_ahead_24 rfl
set_option maxRecDepth 20000 in
theorem k_X8_ahead {l : Launch} {D : va_G} {g : zGx} (hz : zin (WX g)) {S : zSt} {b : Int32} (h : F_X8_ahead S = some b) : zMet l D (WX g) (zT g) yX8_ahead wsX8_ahead rm_X8_ahead S [.ref (g.1 1)] ((eI S) b) := zmet_of (by decide +kernel) rfl hz (Nat.le_of_ble_eq_true rfl) rfl (fun E _ _ hE B => x_X8_ahead B hE S) h
abbrev rm_X8_scanNumber : Room := { frames := 1, cells := 0, slots := 0, locals := 22 }
theorem y_X8_scanNumber : yX8_scanNumber.cls = RX8 ∧ yX8_scanNumber.cls ≠ "java/lang/invoke/MethodHandle" ∧ yX8_scanNumber.cls ≠ "java/lang/invoke/VarHandle" ∧ (parseMethodDescriptor yX8_scanNumber.desc).map (fun d => d.parameters.length) = some 0 := by decide +kernel
theorem m_X8_scanNumber_iX10 : Cond.initialized RX10 ∈ wsX8_scanNumber := List.mem_cons_of_mem _ (List.mem_append_left _ (List.mem_of_getElem? (i := 13) rfl))
theorem m_X8_scanNumber_sX10_outside : Cond.static yX10_outside ∈ wsX8_scanNumber := List.mem_cons_of_mem _ (List.mem_append_left _ (List.mem_of_getElem? (i := 12) rfl))
theorem m_X8_scanNumber_q40 : Cond.methodLink RX8 40 Lib.Math.max.name ∈ wsX8_scanNumber := List.mem_cons_of_mem _ (List.mem_append_left _ (List.mem_of_getElem? (i := 0) rfl))
theorem m_X8_scanNumber_qsmax : Cond.static Lib.Math.max.name ∈ wsX8_scanNumber := List.mem_cons_of_mem _ (List.mem_append_left _ (List.mem_of_getElem? (i := 1) rfl))
theorem m_X8_scanNumber_qi : Cond.initialized "java/lang/Math" ∈ wsX8_scanNumber := List.mem_cons_of_mem _ (List.mem_append_left _ (List.mem_of_getElem? (i := 2) rfl))
theorem m_X8_scanNumber_qcmax : Cond.code Lib.Math.max.name Lib.Math.max.code 2 (some .int) ∈ wsX8_scanNumber := List.mem_cons_of_mem _ (List.mem_append_left _ (List.mem_of_getElem? (i := 3) rfl))
theorem m_X8_scanNumber_f19 : Cond.fieldLink RX8 19 "LongestMet$Text" "place" "I" ∈ wsX8_scanNumber := List.mem_cons_of_mem _ (List.mem_append_left _ (List.mem_of_getElem? (i := 4) rfl))
theorem m_X8_scanNumber_inX8 : ∀ x ∈ u_ws RX8 TX8 4, x ∈ wsX8_scanNumber := fun _ h => List.mem_cons_of_mem _ (List.mem_append_right _ h)
set_option maxRecDepth 100000 in
set_option maxHeartbeats 4000000 in
theorem xL_X8_scanNumber_4 {E : zCx} {g : zGx} (B : zGood E (WX g) (zT g) cX8_scanNumber RX8 wsX8_scanNumber (some .int) rm_X8_scanNumber) (hE : E.2.2 = 3)  (k : zSt → Int32 → Option (Int32 × zSt)) (hk : ∀ (S4x : zSt) (w1 : Int32), Xo E (WX g) eIw S4x 56 [(1, .int w1)] [] (k S4x w1)) : ∀ (n : Nat) (S4 : zSt) (v1_4 : Int32) (v2_4 : Int32), Xo E (WX g) eIw S4 4 [(0, .ref (g.1 1)), (1, .int v1_4), (2, .int v2_4)] [] (L_X8_scanNumber_4 k n S4 v1_4 v2_4) := by
  have n1 : 1 < E.2.2 := by rw [hE]; decide
  have n2 : 2 < E.2.2 := by rw [hE]; decide
  intro n
  induction n with
  | zero =>
    intro _ _ _
    exact r_none
  | succ n ih =>
    intro S4 v1_4 v2_4
    rw [L_X8_scanNumber_4]
    refine r_iload_n B 2 dX8_scanNumber_4 rfl rfl ?_
    refine r_iconst B (2 : Int32) dX8_scanNumber_5 (by decide) ?_
    refine r_icmp_ge B 56 dX8_scanNumber_6 (by decide) (fun _ => ?_) (fun _ => ?_)
    · refine r_sub [1] rfl ?_
      exact hk S4 v1_4
    · refine r_aload_n B 0 dX8_scanNumber_9 rfl rfl ?_
      refine r_cI (zrunV (As := []) (rest := []) B 0 1 (fun b hb => k_X8_ahead B.2.2.1 hb) gX8_scanNumber_X8_ahead rfl rfl rfl y_X8_ahead ⟨Nat.le_of_ble_eq_true rfl, Nat.le_of_ble_eq_true rfl⟩ (Nat.le_of_ble_eq_true rfl) rfl (cX_1 g _) rfl rfl rfl (Nat.le_of_ble_eq_true rfl) dX8_scanNumber_10) (fun r10 => ?_)
      refine r_bipush B (48 : Int32) dX8_scanNumber_13 (by decide) ?_
      refine r_bipush B (57 : Int32) dX8_scanNumber_15 (by decide) ?_
      refine r_cI (zrunSN (As := [.int r10, .int (48 : Int32), .int (57 : Int32)]) (rest := []) B 3 (fun b hb => k_X10_outside B.2.2.1 hb) gX8_scanNumber_X10_outside_n36 rfl rfl rfl B.2.2.2.2.2.2.1 m_X8_scanNumber_iX10 m_X8_scanNumber_sX10_outside y_X10_outside ⟨Nat.le_of_ble_eq_true rfl, Nat.le_of_ble_eq_true rfl⟩ rfl rfl (Nat.le_of_ble_eq_true rfl) dX8_scanNumber_17) (fun r17 => ?_)
      refine r_if_ne B 56 dX8_scanNumber_20 (by decide) (fun _ => ?_) (fun _ => ?_)
      · refine r_sub [1] rfl ?_
        exact hk S4 v1_4
      · refine r_bipush B (10 : Int32) dX8_scanNumber_23 (by decide) ?_
        refine r_iload_n B 1 dX8_scanNumber_25 rfl rfl ?_
        refine r_iconst B (0 : Int32) dX8_scanNumber_26 (by decide) ?_
        refine r_mmax B m_X8_scanNumber_q40 m_X8_scanNumber_qsmax m_X8_scanNumber_qi m_X8_scanNumber_qcmax (Nat.le_of_ble_eq_true rfl) (Nat.le_of_ble_eq_true rfl) dX8_scanNumber_27 ?_
        refine r_imul B dX8_scanNumber_30 ?_
        refine r_aload_n B 0 dX8_scanNumber_31 rfl rfl ?_
        refine r_cI (zrunV (As := []) (rest := [.int ((10 : Int32) * (zmax v1_4 (0 : Int32)))]) B 0 1 (fun b hb => k_X8_ahead B.2.2.1 hb) gX8_scanNumber_X8_ahead rfl rfl rfl y_X8_ahead ⟨Nat.le_of_ble_eq_true rfl, Nat.le_of_ble_eq_true rfl⟩ (Nat.le_of_ble_eq_true rfl) rfl (cX_1 g _) rfl rfl rfl (Nat.le_of_ble_eq_true rfl) dX8_scanNumber_32) (fun r32 => ?_)
        refine r_iadd B dX8_scanNumber_35 ?_
        refine r_bipush B (48 : Int32) dX8_scanNumber_36 (by decide) ?_
        refine r_isub B dX8_scanNumber_38 ?_
        refine r_istore_n (lv' := fun x1_39 => [(1, .int x1_39), (0, .ref (g.1 1)), (2, .int v2_4)]) B dX8_scanNumber_39 rfl n1 (fun _ => rfl) (fun x1_39 => ?_)
        refine r_aload_n B 1 dX8_scanNumber_40 rfl rfl ?_
        refine r_dup B rfl dX8_scanNumber_41 ?_
        refine r_get B 1 7 2 (Nat.le_of_ble_eq_true rfl) rfl (cX_1 g _) rfl m_X8_scanNumber_inX8 (Nat.le_of_ble_eq_true rfl) m_X8_scanNumber_f19 rfl dX8_scanNumber_42 ?_
        refine r_iconst B (1 : Int32) dX8_scanNumber_45 (by decide) ?_
        refine r_iadd B dX8_scanNumber_46 ?_
        refine r_put (ty := .int) B 1 7 2 tyX8 tyX8_ok nmX8 (Nat.le_of_ble_eq_true rfl) rfl (cX_1 g _) rfl m_X8_scanNumber_inX8 (Nat.le_of_ble_eq_true rfl) m_X8_scanNumber_f19 rfl (by decide +kernel) rfl rfl (Nat.le_of_ble_eq_true rfl) (pX_1_2 g _ _) dX8_scanNumber_47 (fun S47 => ?_)
        refine r_iinc (lv' := fun x2_50 => [(2, .int x2_50), (1, .int x1_39), (0, .ref (g.1 1))]) B 2 (1 : Int32) dX8_scanNumber_50 rfl (by decide) n2 (fun _ => rfl) (fun x2_50 => ?_)
        refine r_goto B 4 dX8_scanNumber_53 (by decide) ?_
        refine r_sub [2, 1, 0] rfl ?_
        exact ih S47 x1_39 x2_50
set_option maxRecDepth 100000 in
set_option maxHeartbeats 4000000 in
theorem x_X8_scanNumber {E : zCx} {g : zGx} (B : zGood E (WX g) (zT g) cX8_scanNumber RX8 wsX8_scanNumber (some .int) rm_X8_scanNumber) (hE : E.2.2 = 3) (S : zSt) : Xo E (WX g) eIw S 0 [(0, .ref (g.1 1))] [] (F_X8_scanNumber S) := by
  have n1 : 1 < E.2.2 := by rw [hE]; decide
  have n2 : 2 < E.2.2 := by rw [hE]; decide
  unfold F_X8_scanNumber
  refine r_iconst B (-1 : Int32) dX8_scanNumber_0 (by decide) ?_
  refine r_istore_n (lv' := fun x1_1 => [(1, .int x1_1), (0, .ref (g.1 1))]) B dX8_scanNumber_1 rfl n1 (fun _ => rfl) (fun x1_1 => ?_)
  refine r_iconst B (0 : Int32) dX8_scanNumber_2 (by decide) ?_
  refine r_istore_n (lv' := fun x2_3 => [(2, .int x2_3), (1, .int x1_1), (0, .ref (g.1 1))]) B dX8_scanNumber_3 rfl n2 (fun _ => rfl) (fun x2_3 => ?_)
  refine r_sub [2, 1, 0] rfl ?_
  refine xL_X8_scanNumber_4 B hE  _ ?_ 1000 S x1_1 x2_3
  intro S4x_4 w1_4
  refine r_iload_n B 0 dX8_scanNumber_56 rfl rfl ?_
  exact r_iret B dX8_scanNumber_57 rfl
set_option maxRecDepth 20000 in
theorem k_X8_scanNumber {l : Launch} {D : va_G} {g : zGx} (hz : zin (WX g)) {S : zSt} {b : (Int32 × zSt)} (h : F_X8_scanNumber S = some b) : zMet l D (WX g) (zT g) yX8_scanNumber wsX8_scanNumber rm_X8_scanNumber S [.ref (g.1 1)] (eIw b) := zmet_of (by decide +kernel) rfl hz (Nat.le_of_ble_eq_true rfl) rfl (fun E _ _ hE B => x_X8_scanNumber B hE S) h
abbrev rm_X8_scanPart : Room := { frames := 2, cells := 0, slots := 0, locals := 44 }
theorem y_X8_scanPart : yX8_scanPart.cls = RX8 ∧ yX8_scanPart.cls ≠ "java/lang/invoke/MethodHandle" ∧ yX8_scanPart.cls ≠ "java/lang/invoke/VarHandle" ∧ (parseMethodDescriptor yX8_scanPart.desc).map (fun d => d.parameters.length) = some 0 := by decide +kernel
theorem m_X8_scanPart_f19 : Cond.fieldLink RX8 19 "LongestMet$Text" "place" "I" ∈ wsX8_scanPart := List.mem_cons_of_mem _ (List.mem_append_left _ (List.mem_of_getElem? (i := 0) rfl))
theorem m_X8_scanPart_inX8 : ∀ x ∈ u_ws RX8 TX8 4, x ∈ wsX8_scanPart := fun _ h => List.mem_cons_of_mem _ (List.mem_append_right _ h)
theorem m_X8_scanPart_iX10 : Cond.initialized RX10 ∈ wsX8_scanPart := List.mem_cons_of_mem _ (List.mem_append_left _ (List.mem_of_getElem? (i := 18) rfl))
theorem m_X8_scanPart_sX10_outside : Cond.static yX10_outside ∈ wsX8_scanPart := List.mem_cons_of_mem _ (List.mem_append_left _ (List.mem_of_getElem? (i := 17) rfl))
theorem m_X8_scanPart_f22 : Cond.fieldLink RX8 22 "LongestMet$Text" "minutes" "J" ∈ wsX8_scanPart := List.mem_cons_of_mem _ (List.mem_append_left _ (List.mem_of_getElem? (i := 1) rfl))
set_option maxRecDepth 100000 in
set_option maxHeartbeats 4000000 in
theorem xL_X8_scanPart_80 {E : zCx} {g : zGx} (B : zGood E (WX g) (zT g) cX8_scanPart RX8 wsX8_scanPart (some .int) rm_X8_scanPart) (hE : E.2.2 = 5) (x3_64 : Int32) (k : zSt → Option (Int32 × zSt)) (hk : ∀ (S80x : zSt), Xo E (WX g) eIw S80x 109 [] [] (k S80x)) : ∀ (n : Nat) (S80 : zSt) (v4_80 : Int32), Xo E (WX g) eIw S80 80 [(0, .ref (g.1 1)), (3, .int x3_64), (4, .int v4_80)] [] (L_X8_scanPart_80 x3_64 k n S80 v4_80) := by
  have n1 : 1 < E.2.2 := by rw [hE]; decide
  have n2 : 2 < E.2.2 := by rw [hE]; decide
  have n3 : 3 < E.2.2 := by rw [hE]; decide
  have n4 : 4 < E.2.2 := by rw [hE]; decide
  intro n
  induction n with
  | zero =>
    intro _ _
    exact r_none
  | succ n ih =>
    intro S80 v4_80
    rw [L_X8_scanPart_80]
    refine r_iload B 2 dX8_scanPart_80 rfl ?_
    refine r_bipush B (60 : Int32) dX8_scanPart_82 (by decide) ?_
    refine r_icmp_ge B 109 dX8_scanPart_84 (by decide) (fun _ => ?_) (fun _ => ?_)
    · refine r_sub [] rfl ?_
      exact hk S80
    · refine r_aload_n B 0 dX8_scanPart_87 rfl rfl ?_
      refine r_dup B rfl dX8_scanPart_88 ?_
      refine r_get B 1 7 3 (Nat.le_of_ble_eq_true rfl) rfl (cX_1 g _) rfl m_X8_scanPart_inX8 (Nat.le_of_ble_eq_true rfl) m_X8_scanPart_f22 rfl dX8_scanPart_89 ?_
      refine r_lconst B (1 : Int64) dX8_scanPart_92 (by decide) ?_
      refine r_iload B 2 dX8_scanPart_93 rfl ?_
      refine r_lshl B dX8_scanPart_95 ?_
      refine r_lor B dX8_scanPart_96 ?_
      refine r_put (ty := .long) B 1 7 3 tyX8 tyX8_ok nmX8 (Nat.le_of_ble_eq_true rfl) rfl (cX_1 g _) rfl m_X8_scanPart_inX8 (Nat.le_of_ble_eq_true rfl) m_X8_scanPart_f22 rfl (by decide +kernel) rfl rfl (Nat.le_of_ble_eq_true rfl) (pX_1_3 g _ _) dX8_scanPart_97 (fun S97 => ?_)
      refine r_iload B 2 dX8_scanPart_100 rfl ?_
      refine r_iload_n B 1 dX8_scanPart_102 rfl rfl ?_
      refine r_iadd B dX8_scanPart_103 ?_
      refine r_istore (lv' := fun x4_104 => [(4, .int x4_104), (0, .ref (g.1 1)), (3, .int x3_64)]) B dX8_scanPart_104 n4 (fun _ => rfl) (fun x4_104 => ?_)
      refine r_goto B 80 dX8_scanPart_106 (by decide) ?_
      refine r_sub [1, 2, 0] rfl ?_
      exact ih S97 x4_104
set_option maxRecDepth 100000 in
set_option maxHeartbeats 4000000 in
theorem x_X8_scanPart {E : zCx} {g : zGx} (B : zGood E (WX g) (zT g) cX8_scanPart RX8 wsX8_scanPart (some .int) rm_X8_scanPart) (hE : E.2.2 = 5) (S : zSt) : Xo E (WX g) eIw S 0 [(0, .ref (g.1 1))] [] (F_X8_scanPart S) := by
  have n1 : 1 < E.2.2 := by rw [hE]; decide
  have n2 : 2 < E.2.2 := by rw [hE]; decide
  have n3 : 3 < E.2.2 := by rw [hE]; decide
  have n4 : 4 < E.2.2 := by rw [hE]; decide
  unfold F_X8_scanPart
  refine r_aload_n B 0 dX8_scanPart_0 rfl rfl ?_
  refine r_get B 1 7 2 (Nat.le_of_ble_eq_true rfl) rfl (cX_1 g _) rfl m_X8_scanPart_inX8 (Nat.le_of_ble_eq_true rfl) m_X8_scanPart_f19 rfl dX8_scanPart_1 ?_
  refine r_istore_n (lv' := fun x1_4 => [(1, .int x1_4), (0, .ref (g.1 1))]) B dX8_scanPart_4 rfl n1 (fun _ => rfl) (fun x1_4 => ?_)
  refine r_aload_n B 1 dX8_scanPart_5 rfl rfl ?_
  refine r_cIw (zrunV (As := []) (rest := []) B 0 1 (fun b hb => k_X8_scanNumber B.2.2.1 hb) gX8_scanPart_X8_scanNumber rfl rfl rfl y_X8_scanNumber ⟨Nat.le_of_ble_eq_true rfl, Nat.le_of_ble_eq_true rfl⟩ (Nat.le_of_ble_eq_true rfl) rfl (cX_1 g _) rfl rfl rfl (Nat.le_of_ble_eq_true rfl) dX8_scanPart_6) (fun r6 S6 => ?_)
  refine r_istore_n (lv' := fun x2_9 => [(2, .int x2_9), (1, .int x1_4), (0, .ref (g.1 1))]) B dX8_scanPart_9 rfl n2 (fun _ => rfl) (fun x2_9 => ?_)
  refine r_iload_n B 0 dX8_scanPart_10 rfl rfl ?_
  refine r_iconst B (0 : Int32) dX8_scanPart_11 (by decide) ?_
  refine r_bipush B (59 : Int32) dX8_scanPart_12 (by decide) ?_
  refine r_cI (zrunSN (As := [.int x2_9, .int (0 : Int32), .int (59 : Int32)]) (rest := []) B 3 (fun b hb => k_X10_outside B.2.2.1 hb) gX8_scanPart_X10_outside_n36 rfl rfl rfl B.2.2.2.2.2.2.1 m_X8_scanPart_iX10 m_X8_scanPart_sX10_outside y_X10_outside ⟨Nat.le_of_ble_eq_true rfl, Nat.le_of_ble_eq_true rfl⟩ rfl rfl (Nat.le_of_ble_eq_true rfl) dX8_scanPart_14) (fun r14 => ?_)
  refine r_if_eq B 22 dX8_scanPart_17 (by decide) (fun _ => ?_) (fun _ => ?_)
  · refine r_aload_n B 2 dX8_scanPart_22 rfl rfl ?_
    refine r_cI (zrunV (As := []) (rest := []) B 0 1 (fun b hb => k_X8_ahead B.2.2.1 hb) gX8_scanPart_X8_ahead rfl rfl rfl y_X8_ahead ⟨Nat.le_of_ble_eq_true rfl, Nat.le_of_ble_eq_true rfl⟩ (Nat.le_of_ble_eq_true rfl) rfl (cX_1 g _) rfl rfl rfl (Nat.le_of_ble_eq_true rfl) dX8_scanPart_23) (fun r23 => ?_)
    refine r_bipush B (43 : Int32) dX8_scanPart_26 (by decide) ?_
    refine r_icmp_eq B 45 dX8_scanPart_28 (by decide) (fun _ => ?_) (fun _ => ?_)
    · refine r_aload_n B 2 dX8_scanPart_45 rfl rfl ?_
      refine r_dup B rfl dX8_scanPart_46 ?_
      refine r_get B 1 7 2 (Nat.le_of_ble_eq_true rfl) rfl (cX_1 g _) rfl m_X8_scanPart_inX8 (Nat.le_of_ble_eq_true rfl) m_X8_scanPart_f19 rfl dX8_scanPart_47 ?_
      refine r_iconst B (1 : Int32) dX8_scanPart_50 (by decide) ?_
      refine r_iadd B dX8_scanPart_51 ?_
      refine r_put (ty := .int) B 1 7 2 tyX8 tyX8_ok nmX8 (Nat.le_of_ble_eq_true rfl) rfl (cX_1 g _) rfl m_X8_scanPart_inX8 (Nat.le_of_ble_eq_true rfl) m_X8_scanPart_f19 rfl (by decide +kernel) rfl rfl (Nat.le_of_ble_eq_true rfl) (pX_1_2 g _ _) dX8_scanPart_52 (fun S52 => ?_)
      refine r_aload_n B 2 dX8_scanPart_55 rfl rfl ?_
      refine r_get B 1 7 2 (Nat.le_of_ble_eq_true rfl) rfl (cX_1 g _) rfl m_X8_scanPart_inX8 (Nat.le_of_ble_eq_true rfl) m_X8_scanPart_f19 rfl dX8_scanPart_56 ?_
      refine r_istore_n (lv' := fun x1_59 => [(1, .int x1_59), (2, .int x2_9), (0, .ref (g.1 1))]) B dX8_scanPart_59 rfl n1 (fun _ => rfl) (fun x1_59 => ?_)
      refine r_aload_n B 2 dX8_scanPart_60 rfl rfl ?_
      refine r_cIw (zrunV (As := []) (rest := []) B 0 1 (fun b hb => k_X8_scanNumber B.2.2.1 hb) gX8_scanPart_X8_scanNumber rfl rfl rfl y_X8_scanNumber ⟨Nat.le_of_ble_eq_true rfl, Nat.le_of_ble_eq_true rfl⟩ (Nat.le_of_ble_eq_true rfl) rfl (cX_1 g _) rfl rfl rfl (Nat.le_of_ble_eq_true rfl) dX8_scanPart_61) (fun r61 S61 => ?_)
      refine r_istore_n (lv' := fun x3_64 => [(3, .int x3_64), (1, .int x1_59), (2, .int x2_9), (0, .ref (g.1 1))]) B dX8_scanPart_64 rfl n3 (fun _ => rfl) (fun x3_64 => ?_)
      refine r_iload_n B 0 dX8_scanPart_65 rfl rfl ?_
      refine r_iconst B (1 : Int32) dX8_scanPart_66 (by decide) ?_
      refine r_bipush B (59 : Int32) dX8_scanPart_67 (by decide) ?_
      refine r_cI (zrunSN (As := [.int x3_64, .int (1 : Int32), .int (59 : Int32)]) (rest := []) B 3 (fun b hb => k_X10_outside B.2.2.1 hb) gX8_scanPart_X10_outside_n36 rfl rfl rfl B.2.2.2.2.2.2.1 m_X8_scanPart_iX10 m_X8_scanPart_sX10_outside y_X10_outside ⟨Nat.le_of_ble_eq_true rfl, Nat.le_of_ble_eq_true rfl⟩ rfl rfl (Nat.le_of_ble_eq_true rfl) dX8_scanPart_69) (fun r69 => ?_)
      refine r_if_eq B 77 dX8_scanPart_72 (by decide) (fun _ => ?_) (fun _ => ?_)
      · refine r_iload_n B 2 dX8_scanPart_77 rfl rfl ?_
        refine r_istore (lv' := fun x4_78 => [(4, .int x4_78), (3, .int x3_64), (1, .int x1_59), (2, .int x2_9), (0, .ref (g.1 1))]) B dX8_scanPart_78 n4 (fun _ => rfl) (fun x4_78 => ?_)
        refine r_sub [4, 1, 0] rfl ?_
        refine xL_X8_scanPart_80 B hE x3_64 _ ?_ 1000 S61 x4_78
        intro S80x_80
        refine r_iconst B (-1 : Int32) dX8_scanPart_109 (by decide) ?_
        exact r_iret B dX8_scanPart_110 rfl
      · refine r_iload_n B 1 dX8_scanPart_75 rfl rfl ?_
        exact r_iret B dX8_scanPart_76 rfl
    · refine r_aload_n B 2 dX8_scanPart_31 rfl rfl ?_
      refine r_dup B rfl dX8_scanPart_32 ?_
      refine r_get B 1 7 3 (Nat.le_of_ble_eq_true rfl) rfl (cX_1 g _) rfl m_X8_scanPart_inX8 (Nat.le_of_ble_eq_true rfl) m_X8_scanPart_f22 rfl dX8_scanPart_33 ?_
      refine r_lconst B (1 : Int64) dX8_scanPart_36 (by decide) ?_
      refine r_iload_n B 0 dX8_scanPart_37 rfl rfl ?_
      refine r_lshl B dX8_scanPart_38 ?_
      refine r_lor B dX8_scanPart_39 ?_
      refine r_put (ty := .long) B 1 7 3 tyX8 tyX8_ok nmX8 (Nat.le_of_ble_eq_true rfl) rfl (cX_1 g _) rfl m_X8_scanPart_inX8 (Nat.le_of_ble_eq_true rfl) m_X8_scanPart_f22 rfl (by decide +kernel) rfl rfl (Nat.le_of_ble_eq_true rfl) (pX_1_3 g _ _) dX8_scanPart_40 (fun S40 => ?_)
      refine r_iconst B (-1 : Int32) dX8_scanPart_43 (by decide) ?_
      exact r_iret B dX8_scanPart_44 rfl
  · refine r_iload_n B 1 dX8_scanPart_20 rfl rfl ?_
    exact r_iret B dX8_scanPart_21 rfl
set_option maxRecDepth 20000 in
theorem k_X8_scanPart {l : Launch} {D : va_G} {g : zGx} (hz : zin (WX g)) {S : zSt} {b : (Int32 × zSt)} (h : F_X8_scanPart S = some b) : zMet l D (WX g) (zT g) yX8_scanPart wsX8_scanPart rm_X8_scanPart S [.ref (g.1 1)] (eIw b) := zmet_of (by decide +kernel) rfl hz (Nat.le_of_ble_eq_true rfl) rfl (fun E _ _ hE B => x_X8_scanPart B hE S) h
abbrev rm_X8_scan : Room := { frames := 3, cells := 0, slots := 0, locals := 68 }
theorem y_X8_scan : yX8_scan.cls = RX8 ∧ yX8_scan.cls ≠ "java/lang/invoke/MethodHandle" ∧ yX8_scan.cls ≠ "java/lang/invoke/VarHandle" ∧ (parseMethodDescriptor yX8_scan.desc).map (fun d => d.parameters.length) = some 0 := by decide +kernel
theorem m_X8_scan_f19 : Cond.fieldLink RX8 19 "LongestMet$Text" "place" "I" ∈ wsX8_scan := List.mem_cons_of_mem _ (List.mem_append_left _ (List.mem_of_getElem? (i := 0) rfl))
theorem m_X8_scan_inX8 : ∀ x ∈ u_ws RX8 TX8 4, x ∈ wsX8_scan := fun _ h => List.mem_cons_of_mem _ (List.mem_append_right _ h)
theorem m_X8_scan_f22 : Cond.fieldLink RX8 22 "LongestMet$Text" "minutes" "J" ∈ wsX8_scan := List.mem_cons_of_mem _ (List.mem_append_left _ (List.mem_of_getElem? (i := 1) rfl))
set_option maxRecDepth 100000 in
set_option maxHeartbeats 4000000 in
theorem xL_X8_scan_12 {E : zCx} {g : zGx} (B : zGood E (WX g) (zT g) cX8_scan RX8 wsX8_scan (some .int) rm_X8_scan) (hE : E.2.2 = 3)  (k : zSt → Option (Int32 × zSt)) (hk : ∀ (S12x : zSt), Xo E (WX g) eIw S12x 70 [(0, .ref (g.1 1))] [] (k S12x)) : ∀ (n : Nat) (S12 : zSt) (v1_12 : Int32), Xo E (WX g) eIw S12 12 [(0, .ref (g.1 1)), (1, .int v1_12)] [] (L_X8_scan_12 k n S12 v1_12) := by
  have n1 : 1 < E.2.2 := by rw [hE]; decide
  have n2 : 2 < E.2.2 := by rw [hE]; decide
  intro n
  induction n with
  | zero =>
    intro _ _
    exact r_none
  | succ n ih =>
    intro S12 v1_12
    rw [L_X8_scan_12]
    refine r_iload_n B 1 dX8_scan_12 rfl rfl ?_
    refine r_bipush B (40 : Int32) dX8_scan_13 (by decide) ?_
    refine r_icmp_gt B 70 dX8_scan_15 (by decide) (fun _ => ?_) (fun _ => ?_)
    · refine r_sub [0] rfl ?_
      exact hk S12
    · refine r_aload_n B 0 dX8_scan_18 rfl rfl ?_
      refine r_cIw (zrunV (As := []) (rest := []) B 0 1 (fun b hb => k_X8_scanPart B.2.2.1 hb) gX8_scan_X8_scanPart rfl rfl rfl y_X8_scanPart ⟨Nat.le_of_ble_eq_true rfl, Nat.le_of_ble_eq_true rfl⟩ (Nat.le_of_ble_eq_true rfl) rfl (cX_1 g _) rfl rfl rfl (Nat.le_of_ble_eq_true rfl) dX8_scan_19) (fun r19 S19 => ?_)
      refine r_istore_n (lv' := fun x2_22 => [(2, .int x2_22), (0, .ref (g.1 1)), (1, .int v1_12)]) B dX8_scan_22 rfl n2 (fun _ => rfl) (fun x2_22 => ?_)
      refine r_iload_n B 0 dX8_scan_23 rfl rfl ?_
      refine r_iconst B (-1 : Int32) dX8_scan_24 (by decide) ?_
      refine r_icmp_eq B 30 dX8_scan_25 (by decide) (fun _ => ?_) (fun _ => ?_)
      · refine r_aload_n B 1 dX8_scan_30 rfl rfl ?_
        refine r_cI (zrunV (As := []) (rest := []) B 0 1 (fun b hb => k_X8_ahead B.2.2.1 hb) gX8_scan_X8_ahead rfl rfl rfl y_X8_ahead ⟨Nat.le_of_ble_eq_true rfl, Nat.le_of_ble_eq_true rfl⟩ (Nat.le_of_ble_eq_true rfl) rfl (cX_1 g _) rfl rfl rfl (Nat.le_of_ble_eq_true rfl) dX8_scan_31) (fun r31 => ?_)
        refine r_iconst B (-1 : Int32) dX8_scan_34 (by decide) ?_
        refine r_icmp_ne B 40 dX8_scan_35 (by decide) (fun _ => ?_) (fun _ => ?_)
        · refine r_aload_n B 1 dX8_scan_40 rfl rfl ?_
          refine r_cI (zrunV (As := []) (rest := []) B 0 1 (fun b hb => k_X8_ahead B.2.2.1 hb) gX8_scan_X8_ahead rfl rfl rfl y_X8_ahead ⟨Nat.le_of_ble_eq_true rfl, Nat.le_of_ble_eq_true rfl⟩ (Nat.le_of_ble_eq_true rfl) rfl (cX_1 g _) rfl rfl rfl (Nat.le_of_ble_eq_true rfl) dX8_scan_41) (fun r41 => ?_)
          refine r_bipush B (44 : Int32) dX8_scan_44 (by decide) ?_
          refine r_icmp_eq B 54 dX8_scan_46 (by decide) (fun _ => ?_) (fun _ => ?_)
          · refine r_aload_n B 1 dX8_scan_54 rfl rfl ?_
            refine r_dup B rfl dX8_scan_55 ?_
            refine r_get B 1 7 2 (Nat.le_of_ble_eq_true rfl) rfl (cX_1 g _) rfl m_X8_scan_inX8 (Nat.le_of_ble_eq_true rfl) m_X8_scan_f19 rfl dX8_scan_56 ?_
            refine r_iconst B (1 : Int32) dX8_scan_59 (by decide) ?_
            refine r_iadd B dX8_scan_60 ?_
            refine r_put (ty := .int) B 1 7 2 tyX8 tyX8_ok nmX8 (Nat.le_of_ble_eq_true rfl) rfl (cX_1 g _) rfl m_X8_scan_inX8 (Nat.le_of_ble_eq_true rfl) m_X8_scan_f19 rfl (by decide +kernel) rfl rfl (Nat.le_of_ble_eq_true rfl) (pX_1_2 g _ _) dX8_scan_61 (fun S61 => ?_)
            refine r_iinc (lv' := fun x1_64 => [(1, .int x1_64), (2, .int x2_22), (0, .ref (g.1 1))]) B 2 (1 : Int32) dX8_scan_64 rfl (by decide) n1 (fun _ => rfl) (fun x1_64 => ?_)
            refine r_goto B 12 dX8_scan_67 (by decide) ?_
            refine r_sub [2, 0] rfl ?_
            exact ih S61 x1_64
          · refine r_aload_n B 1 dX8_scan_49 rfl rfl ?_
            refine r_get B 1 7 2 (Nat.le_of_ble_eq_true rfl) rfl (cX_1 g _) rfl m_X8_scan_inX8 (Nat.le_of_ble_eq_true rfl) m_X8_scan_f19 rfl dX8_scan_50 ?_
            exact r_iret B dX8_scan_53 rfl
        · refine r_iconst B (-1 : Int32) dX8_scan_38 (by decide) ?_
          exact r_iret B dX8_scan_39 rfl
      · refine r_iload_n B 0 dX8_scan_28 rfl rfl ?_
        exact r_iret B dX8_scan_29 rfl
set_option maxRecDepth 100000 in
set_option maxHeartbeats 4000000 in
theorem x_X8_scan {E : zCx} {g : zGx} (B : zGood E (WX g) (zT g) cX8_scan RX8 wsX8_scan (some .int) rm_X8_scan) (hE : E.2.2 = 3) (S : zSt) : Xo E (WX g) eIw S 0 [(0, .ref (g.1 1))] [] (F_X8_scan S) := by
  have n1 : 1 < E.2.2 := by rw [hE]; decide
  have n2 : 2 < E.2.2 := by rw [hE]; decide
  unfold F_X8_scan
  refine r_aload_n B 0 dX8_scan_0 rfl rfl ?_
  refine r_iconst B (0 : Int32) dX8_scan_1 (by decide) ?_
  refine r_put (ty := .int) B 1 7 2 tyX8 tyX8_ok nmX8 (Nat.le_of_ble_eq_true rfl) rfl (cX_1 g _) rfl m_X8_scan_inX8 (Nat.le_of_ble_eq_true rfl) m_X8_scan_f19 rfl (by decide +kernel) rfl rfl (Nat.le_of_ble_eq_true rfl) (pX_1_2 g _ _) dX8_scan_2 (fun S2 => ?_)
  refine r_aload_n B 0 dX8_scan_5 rfl rfl ?_
  refine r_lconst B (0 : Int64) dX8_scan_6 (by decide) ?_
  refine r_put (ty := .long) B 1 7 3 tyX8 tyX8_ok nmX8 (Nat.le_of_ble_eq_true rfl) rfl (cX_1 g _) rfl m_X8_scan_inX8 (Nat.le_of_ble_eq_true rfl) m_X8_scan_f22 rfl (by decide +kernel) rfl rfl (Nat.le_of_ble_eq_true rfl) (pX_1_3 g _ _) dX8_scan_7 (fun S7 => ?_)
  refine r_iconst B (0 : Int32) dX8_scan_10 (by decide) ?_
  refine r_istore_n (lv' := fun x1_11 => [(1, .int x1_11), (0, .ref (g.1 1))]) B dX8_scan_11 rfl n1 (fun _ => rfl) (fun x1_11 => ?_)
  refine r_sub [1, 0] rfl ?_
  refine xL_X8_scan_12 B hE  _ ?_ 1000 S7 x1_11
  intro S12x_12
  refine r_aload_n B 0 dX8_scan_70 rfl rfl ?_
  refine r_get B 1 7 2 (Nat.le_of_ble_eq_true rfl) rfl (cX_1 g _) rfl m_X8_scan_inX8 (Nat.le_of_ble_eq_true rfl) m_X8_scan_f19 rfl dX8_scan_71 ?_
  exact r_iret B dX8_scan_74 rfl
set_option maxRecDepth 20000 in
theorem k_X8_scan {l : Launch} {D : va_G} {g : zGx} (hz : zin (WX g)) {S : zSt} {b : (Int32 × zSt)} (h : F_X8_scan S = some b) : zMet l D (WX g) (zT g) yX8_scan wsX8_scan rm_X8_scan S [.ref (g.1 1)] (eIw b) := zmet_of (by decide +kernel) rfl hz (Nat.le_of_ble_eq_true rfl) rfl (fun E _ _ hE B => x_X8_scan B hE S) h
abbrev rm_X9_admit : Room := { frames := 0, cells := 0, slots := 0, locals := 0 }
theorem y_X9_admit : yX9_admit.cls = RX9 ∧ yX9_admit.cls ≠ "java/lang/invoke/MethodHandle" ∧ yX9_admit.cls ≠ "java/lang/invoke/VarHandle" ∧ (parseMethodDescriptor yX9_admit.desc).map (fun d => d.parameters.length) = some 2 := by decide +kernel
theorem m_X9_admit_f18 : Cond.fieldLink RX9 18 "LongestMet$Ward" "stays" "I" ∈ wsX9_admit := List.mem_cons_of_mem _ (List.mem_append_left _ (List.mem_of_getElem? (i := 0) rfl))
theorem m_X9_admit_inX9 : ∀ x ∈ u_ws RX9 TX9 3, x ∈ wsX9_admit := fun _ h => List.mem_cons_of_mem _ (List.mem_append_right _ h)
theorem m_X9_admit_f11 : Cond.fieldLink RX9 11 "LongestMet$Ward" "first" "[I" ∈ wsX9_admit := List.mem_cons_of_mem _ (List.mem_append_left _ (List.mem_of_getElem? (i := 1) rfl))
theorem m_X9_admit_f15 : Cond.fieldLink RX9 15 "LongestMet$Ward" "last" "[I" ∈ wsX9_admit := List.mem_cons_of_mem _ (List.mem_append_left _ (List.mem_of_getElem? (i := 2) rfl))
set_option maxRecDepth 100000 in
set_option maxHeartbeats 4000000 in
theorem x_X9_admit {E : zCx} {g : zGx} (B : zGood E (WX g) (zT g) cX9_admit RX9 wsX9_admit (some .int) rm_X9_admit) (hE : E.2.2 = 3) (S : zSt) (a1 : Int32) (a2 : Int32) : Xo E (WX g) eIw S 0 [(0, .ref (g.1 6)), (1, .int a1), (2, .int a2)] [] (F_X9_admit S a1 a2) := by
  unfold F_X9_admit
  refine r_aload_n B 0 dX9_admit_0 rfl rfl ?_
  refine r_get B 6 8 2 (Nat.le_of_ble_eq_true rfl) rfl (cX_6 g _) rfl m_X9_admit_inX9 (Nat.le_of_ble_eq_true rfl) m_X9_admit_f18 rfl dX9_admit_1 ?_
  refine r_bipush B (24 : Int32) dX9_admit_4 (by decide) ?_
  refine r_icmp_lt B 12 dX9_admit_6 (by decide) (fun _ => ?_) (fun _ => ?_)
  · refine r_aload_n B 0 dX9_admit_12 rfl rfl ?_
    refine r_get B 6 8 0 (Nat.le_of_ble_eq_true rfl) rfl (cX_6 g _) rfl m_X9_admit_inX9 (Nat.le_of_ble_eq_true rfl) m_X9_admit_f11 rfl dX9_admit_13 ?_
    refine r_aload_n B 0 dX9_admit_16 rfl rfl ?_
    refine r_get B 6 8 2 (Nat.le_of_ble_eq_true rfl) rfl (cX_6 g _) rfl m_X9_admit_inX9 (Nat.le_of_ble_eq_true rfl) m_X9_admit_f18 rfl dX9_admit_17 ?_
    refine r_iload_n B 1 dX9_admit_20 rfl rfl ?_
    refine r_iast B 19 0 (Nat.le_of_ble_eq_true rfl) rfl (cX_19 g _) rfl (uX_19 g _ _) dX9_admit_21 (fun S21 => ?_)
    refine r_aload_n B 0 dX9_admit_22 rfl rfl ?_
    refine r_get B 6 8 1 (Nat.le_of_ble_eq_true rfl) rfl (cX_6 g _) rfl m_X9_admit_inX9 (Nat.le_of_ble_eq_true rfl) m_X9_admit_f15 rfl dX9_admit_23 ?_
    refine r_aload_n B 0 dX9_admit_26 rfl rfl ?_
    refine r_get B 6 8 2 (Nat.le_of_ble_eq_true rfl) rfl (cX_6 g _) rfl m_X9_admit_inX9 (Nat.le_of_ble_eq_true rfl) m_X9_admit_f18 rfl dX9_admit_27 ?_
    refine r_iload_n B 2 dX9_admit_30 rfl rfl ?_
    refine r_iast B 20 0 (Nat.le_of_ble_eq_true rfl) rfl (cX_20 g _) rfl (uX_20 g _ _) dX9_admit_31 (fun S31 => ?_)
    refine r_aload_n B 0 dX9_admit_32 rfl rfl ?_
    refine r_dup B rfl dX9_admit_33 ?_
    refine r_get B 6 8 2 (Nat.le_of_ble_eq_true rfl) rfl (cX_6 g _) rfl m_X9_admit_inX9 (Nat.le_of_ble_eq_true rfl) m_X9_admit_f18 rfl dX9_admit_34 ?_
    refine r_iconst B (1 : Int32) dX9_admit_37 (by decide) ?_
    refine r_iadd B dX9_admit_38 ?_
    refine r_put (ty := .int) B 6 8 2 tyX9 tyX9_ok nmX9 (Nat.le_of_ble_eq_true rfl) rfl (cX_6 g _) rfl m_X9_admit_inX9 (Nat.le_of_ble_eq_true rfl) m_X9_admit_f18 rfl (by decide +kernel) rfl rfl (Nat.le_of_ble_eq_true rfl) (pX_6_2 g _ _) dX9_admit_39 (fun S39 => ?_)
    refine r_aload_n B 0 dX9_admit_42 rfl rfl ?_
    refine r_get B 6 8 2 (Nat.le_of_ble_eq_true rfl) rfl (cX_6 g _) rfl m_X9_admit_inX9 (Nat.le_of_ble_eq_true rfl) m_X9_admit_f18 rfl dX9_admit_43 ?_
    refine r_iconst B (1 : Int32) dX9_admit_46 (by decide) ?_
    refine r_isub B dX9_admit_47 ?_
    exact r_iret B dX9_admit_48 rfl
  · refine r_bipush B (-4 : Int32) dX9_admit_9 (by decide) ?_
    exact r_iret B dX9_admit_11 rfl
set_option maxRecDepth 20000 in
theorem k_X9_admit {l : Launch} {D : va_G} {g : zGx} (hz : zin (WX g)) {S : zSt} {a1 : Int32} {a2 : Int32} {b : (Int32 × zSt)} (h : F_X9_admit S a1 a2 = some b) : zMet l D (WX g) (zT g) yX9_admit wsX9_admit rm_X9_admit S [.ref (g.1 6), .int a1, .int a2] (eIw b) := zmet_of (by decide +kernel) rfl hz (Nat.le_of_ble_eq_true rfl) rfl (fun E _ _ hE B => x_X9_admit B hE S a1 a2) h
abbrev rm_X9_staysTold : Room := { frames := 0, cells := 0, slots := 0, locals := 0 }
theorem y_X9_staysTold : yX9_staysTold.cls = RX9 ∧ yX9_staysTold.cls ≠ "java/lang/invoke/MethodHandle" ∧ yX9_staysTold.cls ≠ "java/lang/invoke/VarHandle" ∧ (parseMethodDescriptor yX9_staysTold.desc).map (fun d => d.parameters.length) = some 0 := by decide +kernel
theorem m_X9_staysTold_f18 : Cond.fieldLink RX9 18 "LongestMet$Ward" "stays" "I" ∈ wsX9_staysTold := List.mem_cons_of_mem _ (List.mem_append_left _ (List.mem_of_getElem? (i := 0) rfl))
theorem m_X9_staysTold_inX9 : ∀ x ∈ u_ws RX9 TX9 3, x ∈ wsX9_staysTold := fun _ h => List.mem_cons_of_mem _ (List.mem_append_right _ h)
set_option maxRecDepth 100000 in
set_option maxHeartbeats 4000000 in
theorem x_X9_staysTold {E : zCx} {g : zGx} (B : zGood E (WX g) (zT g) cX9_staysTold RX9 wsX9_staysTold (some .int) rm_X9_staysTold) (hE : E.2.2 = 1) (S : zSt) : Xo E (WX g) (eI S) S 0 [(0, .ref (g.1 6))] [] (F_X9_staysTold S) := by
  unfold F_X9_staysTold
  refine r_aload_n B 0 dX9_staysTold_0 rfl rfl ?_
  refine r_get B 6 8 2 (Nat.le_of_ble_eq_true rfl) rfl (cX_6 g _) rfl m_X9_staysTold_inX9 (Nat.le_of_ble_eq_true rfl) m_X9_staysTold_f18 rfl dX9_staysTold_1 ?_
  exact r_iret B dX9_staysTold_4 rfl
set_option maxRecDepth 20000 in
theorem k_X9_staysTold {l : Launch} {D : va_G} {g : zGx} (hz : zin (WX g)) {S : zSt} {b : Int32} (h : F_X9_staysTold S = some b) : zMet l D (WX g) (zT g) yX9_staysTold wsX9_staysTold rm_X9_staysTold S [.ref (g.1 6)] ((eI S) b) := zmet_of (by decide +kernel) rfl hz (Nat.le_of_ble_eq_true rfl) rfl (fun E _ _ hE B => x_X9_staysTold B hE S) h
abbrev rm_X9_firstDay : Room := { frames := 0, cells := 0, slots := 0, locals := 0 }
theorem y_X9_firstDay : yX9_firstDay.cls = RX9 ∧ yX9_firstDay.cls ≠ "java/lang/invoke/MethodHandle" ∧ yX9_firstDay.cls ≠ "java/lang/invoke/VarHandle" ∧ (parseMethodDescriptor yX9_firstDay.desc).map (fun d => d.parameters.length) = some 1 := by decide +kernel
theorem m_X9_firstDay_f11 : Cond.fieldLink RX9 11 "LongestMet$Ward" "first" "[I" ∈ wsX9_firstDay := List.mem_cons_of_mem _ (List.mem_append_left _ (List.mem_of_getElem? (i := 0) rfl))
theorem m_X9_firstDay_inX9 : ∀ x ∈ u_ws RX9 TX9 3, x ∈ wsX9_firstDay := fun _ h => List.mem_cons_of_mem _ (List.mem_append_right _ h)
set_option maxRecDepth 100000 in
set_option maxHeartbeats 4000000 in
theorem x_X9_firstDay {E : zCx} {g : zGx} (B : zGood E (WX g) (zT g) cX9_firstDay RX9 wsX9_firstDay (some .int) rm_X9_firstDay) (hE : E.2.2 = 2) (S : zSt) (a1 : Int32) : Xo E (WX g) (eI S) S 0 [(0, .ref (g.1 6)), (1, .int a1)] [] (F_X9_firstDay S a1) := by
  unfold F_X9_firstDay
  refine r_aload_n B 0 dX9_firstDay_0 rfl rfl ?_
  refine r_get B 6 8 0 (Nat.le_of_ble_eq_true rfl) rfl (cX_6 g _) rfl m_X9_firstDay_inX9 (Nat.le_of_ble_eq_true rfl) m_X9_firstDay_f11 rfl dX9_firstDay_1 ?_
  refine r_iload_n B 1 dX9_firstDay_4 rfl rfl ?_
  refine r_iald B 19 0 (Nat.le_of_ble_eq_true rfl) rfl (cX_19 g _) rfl dX9_firstDay_5 ?_
  exact r_iret B dX9_firstDay_6 rfl
set_option maxRecDepth 20000 in
theorem k_X9_firstDay {l : Launch} {D : va_G} {g : zGx} (hz : zin (WX g)) {S : zSt} {a1 : Int32} {b : Int32} (h : F_X9_firstDay S a1 = some b) : zMet l D (WX g) (zT g) yX9_firstDay wsX9_firstDay rm_X9_firstDay S [.ref (g.1 6), .int a1] ((eI S) b) := zmet_of (by decide +kernel) rfl hz (Nat.le_of_ble_eq_true rfl) rfl (fun E _ _ hE B => x_X9_firstDay B hE S a1) h
abbrev rm_X9_endOn : Room := { frames := 0, cells := 0, slots := 0, locals := 0 }
theorem y_X9_endOn : yX9_endOn.cls = RX9 ∧ yX9_endOn.cls ≠ "java/lang/invoke/MethodHandle" ∧ yX9_endOn.cls ≠ "java/lang/invoke/VarHandle" ∧ (parseMethodDescriptor yX9_endOn.desc).map (fun d => d.parameters.length) = some 2 := by decide +kernel
theorem m_X9_endOn_f15 : Cond.fieldLink RX9 15 "LongestMet$Ward" "last" "[I" ∈ wsX9_endOn := List.mem_cons_of_mem _ (List.mem_append_left _ (List.mem_of_getElem? (i := 0) rfl))
theorem m_X9_endOn_inX9 : ∀ x ∈ u_ws RX9 TX9 3, x ∈ wsX9_endOn := fun _ h => List.mem_cons_of_mem _ (List.mem_append_right _ h)
set_option maxRecDepth 100000 in
set_option maxHeartbeats 4000000 in
theorem x_X9_endOn {E : zCx} {g : zGx} (B : zGood E (WX g) (zT g) cX9_endOn RX9 wsX9_endOn (some .int) rm_X9_endOn) (hE : E.2.2 = 4) (S : zSt) (a1 : Int32) (a2 : Int32) : Xo E (WX g) eIw S 0 [(0, .ref (g.1 6)), (1, .int a1), (2, .int a2)] [] (F_X9_endOn S a1 a2) := by
  have n3 : 3 < E.2.2 := by rw [hE]; decide
  unfold F_X9_endOn
  refine r_aload_n B 0 dX9_endOn_0 rfl rfl ?_
  refine r_get B 6 8 1 (Nat.le_of_ble_eq_true rfl) rfl (cX_6 g _) rfl m_X9_endOn_inX9 (Nat.le_of_ble_eq_true rfl) m_X9_endOn_f15 rfl dX9_endOn_1 ?_
  refine r_iload_n B 1 dX9_endOn_4 rfl rfl ?_
  refine r_iald B 20 0 (Nat.le_of_ble_eq_true rfl) rfl (cX_20 g _) rfl dX9_endOn_5 ?_
  refine r_istore_n (lv' := fun x3_6 => [(3, .int x3_6), (0, .ref (g.1 6)), (1, .int a1), (2, .int a2)]) B dX9_endOn_6 rfl n3 (fun _ => rfl) (fun x3_6 => ?_)
  refine r_aload_n B 1 dX9_endOn_7 rfl rfl ?_
  refine r_get B 6 8 1 (Nat.le_of_ble_eq_true rfl) rfl (cX_6 g _) rfl m_X9_endOn_inX9 (Nat.le_of_ble_eq_true rfl) m_X9_endOn_f15 rfl dX9_endOn_8 ?_
  refine r_iload_n B 2 dX9_endOn_11 rfl rfl ?_
  refine r_iload_n B 3 dX9_endOn_12 rfl rfl ?_
  refine r_iast B 20 0 (Nat.le_of_ble_eq_true rfl) rfl (cX_20 g _) rfl (uX_20 g _ _) dX9_endOn_13 (fun S13 => ?_)
  refine r_iload_n B 0 dX9_endOn_14 rfl rfl ?_
  exact r_iret B dX9_endOn_15 rfl
set_option maxRecDepth 20000 in
theorem k_X9_endOn {l : Launch} {D : va_G} {g : zGx} (hz : zin (WX g)) {S : zSt} {a1 : Int32} {a2 : Int32} {b : (Int32 × zSt)} (h : F_X9_endOn S a1 a2 = some b) : zMet l D (WX g) (zT g) yX9_endOn wsX9_endOn rm_X9_endOn S [.ref (g.1 6), .int a1, .int a2] (eIw b) := zmet_of (by decide +kernel) rfl hz (Nat.le_of_ble_eq_true rfl) rfl (fun E _ _ hE B => x_X9_endOn B hE S a1 a2) h
