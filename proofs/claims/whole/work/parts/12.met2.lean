set_option maxRecDepth 100000 in
def F_X10_piece (S : zSt) (a1 : Int32) : Option (Int32 × zSt) :=
 (F_X10_outside a1 (1 : Int32) (20 : Int32)).bind (fun r4 : Int32 =>
 if r4 = 0 then (b2 (F_X4_lengthen S a1) (fun (r18 : Int32) (S18 : zSt) =>
 some (r18, S18))) else
 (some ((-2 : Int32), S)))
set_option maxRecDepth 100000 in
def F_X10_snap (S : zSt) : Option (Int32 × zSt) :=
 b2 (F_X4_clear S) (fun (r4 : Int32) (S4 : zSt) =>
 some (r4, S4))
set_option maxRecDepth 100000 in
def F_X10_hit (S : zSt) (a1 : Int32) (a2 : Int32) (a3 : Int32) : Option Int64 :=
 (F_X4_piecesTold S).bind (fun r6 : Int32 =>
 (F_X10_outside a1 (0 : Int32) (r6 - (1 : Int32))).bind (fun r11 : Int32 =>
 jn ((F_X2_refused (-2 : Int32)).bind (fun r37 : Int64 =>
 some r37)) (fun j35 : Option Int64 =>
 if r11 = 0 then ((F_X10_outside a2 (1 : Int32) (5 : Int32)).bind (fun r20 : Int32 =>
 if r20 = 0 then ((F_X10_outside a3 (0 : Int32) (1 : Int32)).bind (fun r29 : Int32 =>
 if r29 = 0 then ((F_X4_waysToHit S a1 a2).bind (fun r47 : Int64 =>
 (F_X4_ways S a2).bind (fun r55 : Int64 =>
 (F_X2_told r47 r55 a3).bind (fun r59 : Int64 =>
 some r59)))) else
 (j35))) else
 (j35))) else
 (j35))))
set_option maxRecDepth 100000 in
def F_X10_stick (S : zSt) (a1 : Int32) (a2 : Int32) (a3 : Int32) : Option Int64 :=
 (F_X10_outside a1 (0 : Int32) (2 : Int32)).bind (fun r3 : Int32 =>
 jn ((F_X2_refused (-2 : Int32)).bind (fun r37 : Int64 =>
 some r37)) (fun j35 : Option Int64 =>
 if r3 = 0 then (jn (fun (y0_20 : Int32) =>
 (F_X10_outside a2 (1 : Int32) y0_20).bind (fun r20 : Int32 =>
 if r20 = 0 then ((F_X10_outside a3 (0 : Int32) (1 : Int32)).bind (fun r29 : Int32 =>
 if r29 = 0 then (if a1 = 0 then ((F_X4_squares S).bind (fun r49 : Int32 =>
 (F_X4_lengthInAll S).bind (fun r57 : Int32 =>
 (F_X2_told (r49.toInt64) (r57.toInt64) a3).bind (fun r62 : Int64 =>
 some r62)))) else
 (if a1 = (1 : Int32) then ((F_X4_allWaysToHit S a2).bind (fun r76 : Int64 =>
 (F_X4_ways S a2).bind (fun r84 : Int64 =>
 (F_X2_told r76 r84 a3).bind (fun r88 : Int64 =>
 some r88)))) else
 ((F_X4_waysToHitAll S a2).bind (fun r97 : Int64 =>
 (F_X4_ways S a2).bind (fun r105 : Int64 =>
 (F_X2_told r97 r105 a3).bind (fun r109 : Int64 =>
 some r109)))))) else
 (j35))) else
 (j35))) (fun j20 : Int32 → Option Int64 =>
 if a1 = 0 then (j20 (1 : Int32)) else
 (j20 (5 : Int32)))) else
 (j35)))
set_option maxRecDepth 100000 in
def F_X10_sheet (S : zSt) (a1 : Int32) (a2 : Int32) (a3 : Int32) : Option (Int32 × zSt) :=
 (F_X10_outside a1 (0 : Int32) (3 : Int32)).bind (fun r3 : Int32 =>
 if r3 = 0 then ((F_X10_outside a2 (0 : Int32) (2 : Int32)).bind (fun r12 : Int32 =>
 if r12 = 0 then (if a3 ≤ (60 : Int32) then (if 0 ≤ a3 then ((F_X5_renew S a1 a2 a3).bind (fun S47 : zSt =>
 some (a3, S47))) else
 (b2 (F_X5_finding S (5 : Int32)) (fun (r36 : Int32) (S36 : zSt) =>
 some (r36, S36)))) else
 (some ((-2 : Int32), S))) else
 (some ((-2 : Int32), S)))) else
 (some ((-2 : Int32), S)))
set_option maxRecDepth 100000 in
def F_X10_lose (S : zSt) (a1 : Int32) : Option (Int32 × zSt) :=
 (F_X10_outside a1 (0 : Int32) (3 : Int32)).bind (fun r3 : Int32 =>
 if r3 = 0 then ((F_X5_isLost S a1).bind (fun r17 : Int32 =>
 if r17 = 0 then (b2 (F_X5_drop S a1) (fun (r37 : Int32) (S37 : zSt) =>
 some (r37, S37))) else
 (b2 (F_X5_finding S (1 : Int32)) (fun (r28 : Int32) (S28 : zSt) =>
 some (r28, S28))))) else
 (some ((-2 : Int32), S)))
set_option maxRecDepth 100000 in
def F_X10_put (S : zSt) (a1 : Int32) (a2 : Int32) (a3 : Int32) (a4 : Int32) : Option (Int32 × zSt) :=
 (F_X10_outside a1 (0 : Int32) (3 : Int32)).bind (fun r3 : Int32 =>
 if r3 = 0 then ((F_X10_outside a2 (0 : Int32) (2 : Int32)).bind (fun r12 : Int32 =>
 if r12 = 0 then ((F_X5_faultOf S a1 a2 a3).bind (fun r28 : Int32 =>
 lt r28 (fun x5_31 : Int32 =>
 if x5_31 = 0 then ((F_X5_setItem S a1 a3 a4).bind (fun S56 : zSt =>
 some ((1 : Int32), S56))) else
 (b2 (F_X5_finding S x5_31) (fun (r44 : Int32) (S44 : zSt) =>
 some (r44, S44)))))) else
 (some ((-2 : Int32), S)))) else
 (some ((-2 : Int32), S)))
set_option maxRecDepth 100000 in
def F_X10_get (S : zSt) (a1 : Int32) (a2 : Int32) (a3 : Int32) : Option (Int32 × zSt) :=
 (F_X10_outside a1 (0 : Int32) (3 : Int32)).bind (fun r3 : Int32 =>
 if r3 = 0 then ((F_X10_outside a2 (0 : Int32) (2 : Int32)).bind (fun r12 : Int32 =>
 if r12 = 0 then ((F_X5_faultOf S a1 a2 a3).bind (fun r29 : Int32 =>
 lt r29 (fun x4_32 : Int32 =>
 if x4_32 = 0 then ((F_X5_itemAt S a1 a3).bind (fun r59 : Int32 =>
 some (r59, S))) else
 (b2 (F_X5_finding S x4_32) (fun (r45 : Int32) (S45 : zSt) =>
 some ((-2147483648 : Int32), S45)))))) else
 (some ((-2147483648 : Int32), S)))) else
 (some ((-2147483648 : Int32), S)))
set_option maxRecDepth 100000 in
def F_X10_copy (S : zSt) (a1 : Int32) (a2 : Int32) (a3 : Int32) (a4 : Int32) (a5 : Int32) : Option (Int32 × zSt) :=
 (F_X10_outside a1 (0 : Int32) (3 : Int32)).bind (fun r3 : Int32 =>
 if r3 = 0 then ((F_X10_outside a3 (0 : Int32) (3 : Int32)).bind (fun r12 : Int32 =>
 if r12 = 0 then ((F_X5_isLost S a1).bind (fun r26 : Int32 =>
 jn (b2 (F_X5_finding S (1 : Int32)) (fun (r48 : Int32) (S48 : zSt) =>
 some (r48, S48))) (fun j43 : Option (Int32 × zSt) =>
 if r26 = 0 then ((F_X5_isLost S a3).bind (fun r37 : Int32 =>
 if r37 = 0 then ((F_X5_areUnlike S a1 a3).bind (fun r58 : Int32 =>
 if r58 = 0 then ((F_X5_hasNotSoMany S a1 a2 a5).bind (fun r81 : Int32 =>
 jn (b2 (F_X5_finding S (2 : Int32)) (fun (r107 : Int32) (S107 : zSt) =>
 some (r107, S107))) (fun j102 : Option (Int32 × zSt) =>
 if r81 = 0 then ((F_X5_hasNotSoMany S a3 a4 a5).bind (fun r96 : Int32 =>
 if r96 = 0 then ((F_X5_move S a1 a2 a3 a4 a5).bind (fun S122 : zSt =>
 some ((1 : Int32), S122))) else
 (j102))) else
 (j102)))) else
 (b2 (F_X5_finding S (4 : Int32)) (fun (r69 : Int32) (S69 : zSt) =>
 some (r69, S69))))) else
 (j43))) else
 (j43)))) else
 (some ((-2 : Int32), S)))) else
 (some ((-2 : Int32), S)))
set_option maxRecDepth 100000 in
def L_X10_write_67 (a1 : Int32) (a2 : Int32) (x3_63 : Int32) (k : zSt → Option (Int32 × zSt)) : Nat → zSt → Int32 → Option (Int32 × zSt)
  | 0, _, _ => none
  | n + 1, S67, v4_67 =>
    (if x3_63 ≤ v4_67 then (k S67) else
 ((F_X6_waitAt S67 a1 v4_67).bind (fun r87 : Int32 =>
 (F_X5_setItem S67 a2 v4_67 r87).bind (fun S90 : zSt =>
 lt (v4_67 + (1 : Int32)) (fun x4_93 : Int32 =>
 L_X10_write_67 a1 a2 x3_63 k n S90 x4_93)))))
set_option maxRecDepth 100000 in
def F_X10_write (S : zSt) (a1 : Int32) (a2 : Int32) : Option (Int32 × zSt) :=
 (F_X10_outside a1 (0 : Int32) (2 : Int32)).bind (fun r3 : Int32 =>
 if r3 = 0 then ((F_X10_outside a2 (0 : Int32) (3 : Int32)).bind (fun r12 : Int32 =>
 if r12 = 0 then ((F_X5_isLost S a2).bind (fun r26 : Int32 =>
 if r26 = 0 then ((F_X6_busesOf S a1).bind (fun r46 : Int32 =>
 if r46 = 0 then (some ((-3 : Int32), S)) else
 ((F_X5_itemsOf S a2).bind (fun r60 : Int32 =>
 lt r60 (fun x3_63 : Int32 =>
 lt (0 : Int32) (fun x4_65 : Int32 =>
 L_X10_write_67 a1 a2 x3_63 (fun (S67x_67 : zSt) =>
 some (x3_63, S67x_67)) 1000 S x4_65)))))) else
 (b2 (F_X5_finding S (1 : Int32)) (fun (r37 : Int32) (S37 : zSt) =>
 some (r37, S37))))) else
 (some ((-2 : Int32), S)))) else
 (some ((-2 : Int32), S)))
set_option maxRecDepth 100000 in
def F_X10_count (S : zSt) (a1 : Int32) : Option Int32 :=
 if a1 = (0 : Int32) then ((F_X6_busesOf S a1).bind (fun r57 : Int32 =>
 some r57)) else
 if a1 = (1 : Int32) then ((F_X6_busesOf S a1).bind (fun r57 : Int32 =>
 some r57)) else
 if a1 = (2 : Int32) then ((F_X8_bytesTyped S).bind (fun r65 : Int32 =>
 some r65)) else
 if a1 = (3 : Int32) then ((F_X7_answersTold S).bind (fun r73 : Int32 =>
 some r73)) else
 if a1 = (4 : Int32) then ((F_X7_counting S).bind (fun r81 : Int32 =>
 some r81)) else
 if a1 = (5 : Int32) then ((F_X9_staysTold S).bind (fun r89 : Int32 =>
 some r89)) else
 if a1 = (6 : Int32) then ((F_X0_tellings S).bind (fun r97 : Int32 =>
 nz (2 : Int32) (some (r97 / (2 : Int32))))) else
 if a1 = (7 : Int32) then ((F_X4_lengthInAll S).bind (fun r107 : Int32 =>
 some r107)) else
 if a1 = (8 : Int32) then ((F_X5_latestFinding S).bind (fun r115 : Int32 =>
 some r115)) else
 (some (-2 : Int32))
set_option maxRecDepth 100000 in
def F_X10_behind (a0 : Int64) (a2 : Int64) : Option Int64 :=
 some (((31 : Int64) * a0) + a2)
set_option maxRecDepth 100000 in
def L_X10_digest_6 (S : zSt) (k : Int64 → Option (Int64 × zSt)) : Nat → Int64 → Int32 → Option (Int64 × zSt)
  | 0, _, _ => none
  | n + 1, v1_6, v3_6 =>
    (if (7 : Int32) < v3_6 then (k v1_6) else
 ((F_X10_count S v3_6).bind (fun r15 : Int32 =>
 (F_X10_behind v1_6 (r15.toInt64)).bind (fun r19 : Int64 =>
 lt r19 (fun x1_22 : Int64 =>
 lt (v3_6 + (1 : Int32)) (fun x3_23 : Int32 =>
 L_X10_digest_6 S k n x1_22 x3_23))))))
set_option maxRecDepth 100000 in
def L_X10_digest_58 (S31 : zSt) (v3_41 : Int32) (v4_49 : Int32) (k : Int64 → Option (Int64 × zSt)) : Nat → Int64 → Int32 → Option (Int64 × zSt)
  | 0, _, _ => none
  | n + 1, v1_58, v5_58 =>
    (if (1 : Int32) < v5_58 then (k v1_58) else
 ((F_X10_gaps S31 v3_41 v4_49 v5_58).bind (fun r71 : Int64 =>
 (F_X10_behind v1_58 r71).bind (fun r74 : Int64 =>
 lt r74 (fun x1_77 : Int64 =>
 lt (v5_58 + (1 : Int32)) (fun x5_78 : Int32 =>
 L_X10_digest_58 S31 v3_41 v4_49 k n x1_77 x5_78))))))
set_option maxRecDepth 100000 in
def L_X10_digest_49 (S31 : zSt) (v3_41 : Int32) (k : Int64 → Option (Int64 × zSt)) : Nat → Int64 → Int32 → Option (Int64 × zSt)
  | 0, _, _ => none
  | n + 1, v1_49, v4_49 =>
    (if (2 : Int32) < v4_49 then (k v1_49) else
 (lt (0 : Int32) (fun x5_56 : Int32 =>
 L_X10_digest_58 S31 v3_41 v4_49 (fun (w1_58 : Int64) =>
 lt (v4_49 + (1 : Int32)) (fun x4_84 : Int32 =>
 L_X10_digest_49 S31 v3_41 k n w1_58 x4_84)) 1000 v1_49 x5_56)))
set_option maxRecDepth 100000 in
def L_X10_digest_41 (S31 : zSt) (k : Int64 → Option (Int64 × zSt)) : Nat → Int64 → Int32 → Option (Int64 × zSt)
  | 0, _, _ => none
  | n + 1, v1_41, v3_41 =>
    (if (2 : Int32) < v3_41 then (k v1_41) else
 (lt (0 : Int32) (fun x4_47 : Int32 =>
 L_X10_digest_49 S31 v3_41 (fun (w1_49 : Int64) =>
 lt (v3_41 + (1 : Int32)) (fun x3_90 : Int32 =>
 L_X10_digest_41 S31 k n w1_49 x3_90)) 1000 v1_41 x4_47)))
set_option maxRecDepth 100000 in
def L_X10_digest_98  (k : zSt → Int64 → Option (Int64 × zSt)) : Nat → zSt → Int64 → Int32 → Option (Int64 × zSt)
  | 0, _, _, _ => none
  | n + 1, S98, v1_98, v3_98 =>
    (if (2 : Int32) ≤ v3_98 then (k S98 v1_98) else
 (b2 (F_X10_held S98 v3_98 (2 : Int32) (-1 : Int32)) (fun (r108 : Int32) (S108 : zSt) =>
 (F_X10_behind v1_98 (r108.toInt64)).bind (fun r112 : Int64 =>
 lt r112 (fun x1_115 : Int64 =>
 lt (v3_98 + (1 : Int32)) (fun x3_116 : Int32 =>
 L_X10_digest_98 k n S108 x1_115 x3_116))))))
set_option maxRecDepth 100000 in
def L_X10_digest_132 (S98x_98 : zSt) (v3_124 : Int32) (k : Int64 → Option (Int64 × zSt)) : Nat → Int64 → Int32 → Option (Int64 × zSt)
  | 0, _, _ => none
  | n + 1, v1_132, v4_132 =>
    (if (1 : Int32) < v4_132 then (k v1_132) else
 ((F_X10_size S98x_98 v3_124 v4_132).bind (fun r143 : Int64 =>
 (F_X10_behind v1_132 r143).bind (fun r146 : Int64 =>
 lt r146 (fun x1_149 : Int64 =>
 lt (v4_132 + (1 : Int32)) (fun x4_150 : Int32 =>
 L_X10_digest_132 S98x_98 v3_124 k n x1_149 x4_150))))))
set_option maxRecDepth 100000 in
def L_X10_digest_124 (S98x_98 : zSt) (k : Int64 → Option (Int64 × zSt)) : Nat → Int64 → Int32 → Option (Int64 × zSt)
  | 0, _, _ => none
  | n + 1, v1_124, v3_124 =>
    (if (1 : Int32) < v3_124 then (k v1_124) else
 (lt (0 : Int32) (fun x4_130 : Int32 =>
 L_X10_digest_132 S98x_98 v3_124 (fun (w1_132 : Int64) =>
 lt (v3_124 + (1 : Int32)) (fun x3_156 : Int32 =>
 L_X10_digest_124 S98x_98 k n w1_132 x3_156)) 1000 v1_124 x4_130)))
set_option maxRecDepth 100000 in
def L_X10_digest_174 (S98x_98 : zSt) (k : Int64 → Option (Int64 × zSt)) : Nat → Int64 → Int32 → Option (Int64 × zSt)
  | 0, _, _ => none
  | n + 1, v1_174, v3_174 =>
    (if (3 : Int32) < v3_174 then (k v1_174) else
 ((F_X10_ward S98x_98 (10 : Int32) (30 : Int32) v3_174).bind (fun r186 : Int32 =>
 (F_X10_behind v1_174 (r186.toInt64)).bind (fun r190 : Int64 =>
 lt r190 (fun x1_193 : Int64 =>
 lt (v3_174 + (1 : Int32)) (fun x3_194 : Int32 =>
 L_X10_digest_174 S98x_98 k n x1_193 x3_194))))))
set_option maxRecDepth 100000 in
def L_X10_digest_210 (S98x_98 : zSt) (v3_202 : Int32) (k : Int64 → Option (Int64 × zSt)) : Nat → Int64 → Int32 → Option (Int64 × zSt)
  | 0, _, _ => none
  | n + 1, v1_210, v4_210 =>
    (if (1 : Int32) < v4_210 then (k v1_210) else
 ((F_X10_means S98x_98 (10 : Int32) (30 : Int32) v3_202 v4_210).bind (fun r225 : Int64 =>
 (F_X10_behind v1_210 r225).bind (fun r228 : Int64 =>
 lt r228 (fun x1_231 : Int64 =>
 lt (v4_210 + (1 : Int32)) (fun x4_232 : Int32 =>
 L_X10_digest_210 S98x_98 v3_202 k n x1_231 x4_232))))))
set_option maxRecDepth 100000 in
def L_X10_digest_202 (S98x_98 : zSt) (k : Int64 → Option (Int64 × zSt)) : Nat → Int64 → Int32 → Option (Int64 × zSt)
  | 0, _, _ => none
  | n + 1, v1_202, v3_202 =>
    (if (5 : Int32) < v3_202 then (k v1_202) else
 (lt (0 : Int32) (fun x4_208 : Int32 =>
 L_X10_digest_210 S98x_98 v3_202 (fun (w1_210 : Int64) =>
 lt (v3_202 + (1 : Int32)) (fun x3_238 : Int32 =>
 L_X10_digest_202 S98x_98 k n w1_210 x3_238)) 1000 v1_202 x4_208)))
set_option maxRecDepth 100000 in
def L_X10_digest_246 (S98x_98 : zSt) (k : Int64 → Option (Int64 × zSt)) : Nat → Int64 → Int32 → Option (Int64 × zSt)
  | 0, _, _ => none
  | n + 1, v1_246, v3_246 =>
    (if (2 : Int32) < v3_246 then (k v1_246) else
 ((F_X10_fullest S98x_98 v3_246).bind (fun r254 : Int32 =>
 (F_X10_behind v1_246 (r254.toInt64)).bind (fun r258 : Int64 =>
 lt r258 (fun x1_261 : Int64 =>
 lt (v3_246 + (1 : Int32)) (fun x3_262 : Int32 =>
 L_X10_digest_246 S98x_98 k n x1_261 x3_262))))))
set_option maxRecDepth 100000 in
def L_X10_digest_278 (S98x_98 : zSt) (v3_270 : Int32) (k : Int64 → Option (Int64 × zSt)) : Nat → Int64 → Int32 → Option (Int64 × zSt)
  | 0, _, _ => none
  | n + 1, v1_278, v4_278 =>
    (if (1 : Int32) < v4_278 then (k v1_278) else
 ((F_X10_mean S98x_98 v3_270 v4_278).bind (fun r289 : Int64 =>
 (F_X10_behind v1_278 r289).bind (fun r292 : Int64 =>
 lt r292 (fun x1_295 : Int64 =>
 lt (v4_278 + (1 : Int32)) (fun x4_296 : Int32 =>
 L_X10_digest_278 S98x_98 v3_270 k n x1_295 x4_296))))))
set_option maxRecDepth 100000 in
def L_X10_digest_270 (S98x_98 : zSt) (k : Int64 → Option (Int64 × zSt)) : Nat → Int64 → Int32 → Option (Int64 × zSt)
  | 0, _, _ => none
  | n + 1, v1_270, v3_270 =>
    (if (2 : Int32) < v3_270 then (k v1_270) else
 (lt (0 : Int32) (fun x4_276 : Int32 =>
 L_X10_digest_278 S98x_98 v3_270 (fun (w1_278 : Int64) =>
 lt (v3_270 + (1 : Int32)) (fun x3_302 : Int32 =>
 L_X10_digest_270 S98x_98 k n w1_278 x3_302)) 1000 v1_270 x4_276)))
set_option maxRecDepth 100000 in
def L_X10_digest_340 (S98x_98 : zSt) (v3_332 : Int32) (k : Int64 → Option (Int64 × zSt)) : Nat → Int64 → Int32 → Option (Int64 × zSt)
  | 0, _, _ => none
  | n + 1, v1_340, v4_340 =>
    (if (1 : Int32) < v4_340 then (k v1_340) else
 ((F_X10_stick S98x_98 v3_332 (1 : Int32) v4_340).bind (fun r352 : Int64 =>
 (F_X10_behind v1_340 r352).bind (fun r355 : Int64 =>
 lt r355 (fun x1_358 : Int64 =>
 lt (v4_340 + (1 : Int32)) (fun x4_359 : Int32 =>
 L_X10_digest_340 S98x_98 v3_332 k n x1_358 x4_359))))))
set_option maxRecDepth 100000 in
def L_X10_digest_332 (S98x_98 : zSt) (k : Int64 → Option (Int64 × zSt)) : Nat → Int64 → Int32 → Option (Int64 × zSt)
  | 0, _, _ => none
  | n + 1, v1_332, v3_332 =>
    (if (2 : Int32) < v3_332 then (k v1_332) else
 (lt (0 : Int32) (fun x4_338 : Int32 =>
 L_X10_digest_340 S98x_98 v3_332 (fun (w1_340 : Int64) =>
 lt (v3_332 + (1 : Int32)) (fun x3_365 : Int32 =>
 L_X10_digest_332 S98x_98 k n w1_340 x3_365)) 1000 v1_332 x4_338)))
set_option maxRecDepth 100000 in
def F_X10_digest (S : zSt) : Option (Int64 × zSt) :=
 lt (17 : Int64) (fun x1_3 : Int64 =>
 lt (0 : Int32) (fun x3_5 : Int32 =>
 L_X10_digest_6 S (fun (w1_6 : Int64) =>
 b2 (F_X10_fault S) (fun (r31 : Int32) (S31 : zSt) =>
 (F_X10_behind w1_6 (r31.toInt64)).bind (fun r35 : Int64 =>
 lt r35 (fun x1_38 : Int64 =>
 lt (0 : Int32) (fun x3_40 : Int32 =>
 L_X10_digest_41 S31 (fun (w1_41 : Int64) =>
 lt (0 : Int32) (fun x3_97 : Int32 =>
 L_X10_digest_98 (fun (S98x_98 : zSt) (w1_98 : Int64) =>
 lt (0 : Int32) (fun x3_123 : Int32 =>
 L_X10_digest_124 S98x_98 (fun (w1_124 : Int64) =>
 (F_X10_likeliest S98x_98).bind (fun r164 : Int32 =>
 (F_X10_behind w1_124 (r164.toInt64)).bind (fun r168 : Int64 =>
 lt r168 (fun x1_171 : Int64 =>
 lt (0 : Int32) (fun x3_173 : Int32 =>
 L_X10_digest_174 S98x_98 (fun (w1_174 : Int64) =>
 lt (0 : Int32) (fun x3_201 : Int32 =>
 L_X10_digest_202 S98x_98 (fun (w1_202 : Int64) =>
 lt (0 : Int32) (fun x3_245 : Int32 =>
 L_X10_digest_246 S98x_98 (fun (w1_246 : Int64) =>
 lt (0 : Int32) (fun x3_269 : Int32 =>
 L_X10_digest_270 S98x_98 (fun (w1_270 : Int64) =>
 (F_X10_fewer S98x_98).bind (fun r310 : Int32 =>
 (F_X10_behind w1_270 (r310.toInt64)).bind (fun r314 : Int64 =>
 lt r314 (fun x1_317 : Int64 =>
 (F_X10_best S98x_98 (2 : Int32) (0 : Int32)).bind (fun r322 : Int32 =>
 (F_X10_behind x1_317 (r322.toInt64)).bind (fun r326 : Int64 =>
 lt r326 (fun x1_329 : Int64 =>
 lt (0 : Int32) (fun x3_331 : Int32 =>
 L_X10_digest_332 S98x_98 (fun (w1_332 : Int64) =>
 some (w1_332, S98x_98)) 1000 x1_329 x3_331)))))))) 1000 w1_246 x3_269)) 1000 w1_202 x3_245)) 1000 w1_174 x3_201)) 1000 x1_171 x3_173))))) 1000 w1_98 x3_123)) 1000 S31 w1_41 x3_97)) 1000 x1_38 x3_40))))) 1000 x1_3 x3_5))
abbrev rm_X10_piece : Room := { frames := 1, cells := 0, slots := 0, locals := 22 }
theorem y_X10_piece : yX10_piece.cls = RX10 ∧ yX10_piece.cls ≠ "java/lang/invoke/MethodHandle" ∧ yX10_piece.cls ≠ "java/lang/invoke/VarHandle" ∧ (parseMethodDescriptor yX10_piece.desc).map (fun d => d.parameters.length) = some 1 := by decide +kernel
theorem m_X10_piece_f61 : Cond.fieldLink RX10 61 "LongestMet" "rod" "LLongestMet$Rod;" ∈ wsX10_piece := List.mem_cons_of_mem _ (List.mem_append_left _ (List.mem_append_left _ (List.mem_of_getElem? (i := 0) rfl)))
theorem m_X10_piece_inX10 : ∀ x ∈ u_ws RX10 TX10 9, x ∈ wsX10_piece := fun _ h => List.mem_cons_of_mem _ (List.mem_append_left _ (List.mem_append_right _ h))
set_option maxRecDepth 100000 in
set_option maxHeartbeats 4000000 in
theorem x_X10_piece {E : zCx} {g : zGx} (B : zGood E (WX g) (zT g) cX10_piece RX10 wsX10_piece (some .int) rm_X10_piece) (hE : E.2.2 = 2) (S : zSt) (a1 : Int32) : Xo E (WX g) eIw S 0 [(0, .ref (g.1 0)), (1, .int a1)] [] (F_X10_piece S a1) := by
  unfold F_X10_piece
  refine r_iload_n B 1 dX10_piece_0 rfl rfl ?_
  refine r_iconst B (1 : Int32) dX10_piece_1 (by decide) ?_
  refine r_bipush B (20 : Int32) dX10_piece_2 (by decide) ?_
  refine r_cI (zrunS (As := [.int a1, .int (1 : Int32), .int (20 : Int32)]) (rest := []) B 3 (fun b hb => k_X10_outside B.2.2.1 hb) gX10_piece_X10_outside rfl rfl rfl y_X10_outside ⟨Nat.le_of_ble_eq_true rfl, Nat.le_of_ble_eq_true rfl⟩ rfl rfl (Nat.le_of_ble_eq_true rfl) dX10_piece_4) (fun r4 => ?_)
  refine r_if_eq B 13 dX10_piece_7 (by decide) (fun _ => ?_) (fun _ => ?_)
  · refine r_aload_n B 0 dX10_piece_13 rfl rfl ?_
    refine r_get B 0 9 7 (Nat.le_of_ble_eq_true rfl) rfl (cX_0 g _) rfl m_X10_piece_inX10 (Nat.le_of_ble_eq_true rfl) m_X10_piece_f61 rfl dX10_piece_14 ?_
    refine r_iload_n B 1 dX10_piece_17 rfl rfl ?_
    refine r_cIw (zrunV (As := [.int a1]) (rest := []) B 1 8 (fun b hb => k_X4_lengthen B.2.2.1 hb) gX10_piece_X4_lengthen rfl rfl rfl y_X4_lengthen ⟨Nat.le_of_ble_eq_true rfl, Nat.le_of_ble_eq_true rfl⟩ (Nat.le_of_ble_eq_true rfl) rfl (cX_8 g _) rfl rfl rfl (Nat.le_of_ble_eq_true rfl) dX10_piece_18) (fun r18 S18 => ?_)
    exact r_iret B dX10_piece_21 rfl
  · refine r_bipush B (-2 : Int32) dX10_piece_10 (by decide) ?_
    exact r_iret B dX10_piece_12 rfl
set_option maxRecDepth 20000 in
theorem k_X10_piece {l : Launch} {D : va_G} {g : zGx} (hz : zin (WX g)) {S : zSt} {a1 : Int32} {b : (Int32 × zSt)} (h : F_X10_piece S a1 = some b) : zMet l D (WX g) (zT g) yX10_piece wsX10_piece rm_X10_piece S [.ref (g.1 0), .int a1] (eIw b) := zmet_of (by decide +kernel) rfl hz (Nat.le_of_ble_eq_true rfl) rfl (fun E _ _ hE B => x_X10_piece B hE S a1) h
abbrev rm_X10_snap : Room := { frames := 1, cells := 0, slots := 0, locals := 21 }
theorem y_X10_snap : yX10_snap.cls = RX10 ∧ yX10_snap.cls ≠ "java/lang/invoke/MethodHandle" ∧ yX10_snap.cls ≠ "java/lang/invoke/VarHandle" ∧ (parseMethodDescriptor yX10_snap.desc).map (fun d => d.parameters.length) = some 0 := by decide +kernel
theorem m_X10_snap_f61 : Cond.fieldLink RX10 61 "LongestMet" "rod" "LLongestMet$Rod;" ∈ wsX10_snap := List.mem_cons_of_mem _ (List.mem_append_left _ (List.mem_append_left _ (List.mem_of_getElem? (i := 0) rfl)))
theorem m_X10_snap_inX10 : ∀ x ∈ u_ws RX10 TX10 9, x ∈ wsX10_snap := fun _ h => List.mem_cons_of_mem _ (List.mem_append_left _ (List.mem_append_right _ h))
set_option maxRecDepth 100000 in
set_option maxHeartbeats 4000000 in
theorem x_X10_snap {E : zCx} {g : zGx} (B : zGood E (WX g) (zT g) cX10_snap RX10 wsX10_snap (some .int) rm_X10_snap) (hE : E.2.2 = 1) (S : zSt) : Xo E (WX g) eIw S 0 [(0, .ref (g.1 0))] [] (F_X10_snap S) := by
  unfold F_X10_snap
  refine r_aload_n B 0 dX10_snap_0 rfl rfl ?_
  refine r_get B 0 9 7 (Nat.le_of_ble_eq_true rfl) rfl (cX_0 g _) rfl m_X10_snap_inX10 (Nat.le_of_ble_eq_true rfl) m_X10_snap_f61 rfl dX10_snap_1 ?_
  refine r_cIw (zrunV (As := []) (rest := []) B 0 8 (fun b hb => k_X4_clear B.2.2.1 hb) gX10_snap_X4_clear rfl rfl rfl y_X4_clear ⟨Nat.le_of_ble_eq_true rfl, Nat.le_of_ble_eq_true rfl⟩ (Nat.le_of_ble_eq_true rfl) rfl (cX_8 g _) rfl rfl rfl (Nat.le_of_ble_eq_true rfl) dX10_snap_4) (fun r4 S4 => ?_)
  exact r_iret B dX10_snap_7 rfl
set_option maxRecDepth 20000 in
theorem k_X10_snap {l : Launch} {D : va_G} {g : zGx} (hz : zin (WX g)) {S : zSt} {b : (Int32 × zSt)} (h : F_X10_snap S = some b) : zMet l D (WX g) (zT g) yX10_snap wsX10_snap rm_X10_snap S [.ref (g.1 0)] (eIw b) := zmet_of (by decide +kernel) rfl hz (Nat.le_of_ble_eq_true rfl) rfl (fun E _ _ hE B => x_X10_snap B hE S) h
abbrev rm_X10_hit : Room := { frames := 3, cells := 0, slots := 0, locals := 68 }
theorem y_X10_hit : yX10_hit.cls = RX10 ∧ yX10_hit.cls ≠ "java/lang/invoke/MethodHandle" ∧ yX10_hit.cls ≠ "java/lang/invoke/VarHandle" ∧ (parseMethodDescriptor yX10_hit.desc).map (fun d => d.parameters.length) = some 3 := by decide +kernel
theorem m_X10_hit_f61 : Cond.fieldLink RX10 61 "LongestMet" "rod" "LLongestMet$Rod;" ∈ wsX10_hit := List.mem_cons_of_mem _ (List.mem_append_left _ (List.mem_append_left _ (List.mem_append_left _ (List.mem_of_getElem? (i := 0) rfl))))
theorem m_X10_hit_inX10 : ∀ x ∈ u_ws RX10 TX10 9, x ∈ wsX10_hit := fun _ h => List.mem_cons_of_mem _ (List.mem_append_left _ (List.mem_append_right _ h))
set_option maxRecDepth 100000 in
set_option maxHeartbeats 4000000 in
theorem x_X10_hit {E : zCx} {g : zGx} (B : zGood E (WX g) (zT g) cX10_hit RX10 wsX10_hit (some .long) rm_X10_hit) (hE : E.2.2 = 4) (S : zSt) (a1 : Int32) (a2 : Int32) (a3 : Int32) : Xo E (WX g) (eL S) S 0 [(0, .ref (g.1 0)), (1, .int a1), (2, .int a2), (3, .int a3)] [] (F_X10_hit S a1 a2 a3) := by
  unfold F_X10_hit
  refine r_iload_n B 1 dX10_hit_0 rfl rfl ?_
  refine r_iconst B (0 : Int32) dX10_hit_1 (by decide) ?_
  refine r_aload_n B 0 dX10_hit_2 rfl rfl ?_
  refine r_get B 0 9 7 (Nat.le_of_ble_eq_true rfl) rfl (cX_0 g _) rfl m_X10_hit_inX10 (Nat.le_of_ble_eq_true rfl) m_X10_hit_f61 rfl dX10_hit_3 ?_
  refine r_cI (zrunV (As := []) (rest := [.int (0 : Int32), .int a1]) B 0 8 (fun b hb => k_X4_piecesTold B.2.2.1 hb) gX10_hit_X4_piecesTold rfl rfl rfl y_X4_piecesTold ⟨Nat.le_of_ble_eq_true rfl, Nat.le_of_ble_eq_true rfl⟩ (Nat.le_of_ble_eq_true rfl) rfl (cX_8 g _) rfl rfl rfl (Nat.le_of_ble_eq_true rfl) dX10_hit_6) (fun r6 => ?_)
  refine r_iconst B (1 : Int32) dX10_hit_9 (by decide) ?_
  refine r_isub B dX10_hit_10 ?_
  refine r_cI (zrunS (As := [.int a1, .int (0 : Int32), .int (r6 - (1 : Int32))]) (rest := []) B 3 (fun b hb => k_X10_outside B.2.2.1 hb) gX10_hit_X10_outside rfl rfl rfl y_X10_outside ⟨Nat.le_of_ble_eq_true rfl, Nat.le_of_ble_eq_true rfl⟩ rfl rfl (Nat.le_of_ble_eq_true rfl) dX10_hit_11) (fun r11 => ?_)
  refine r_jn2 (P := fun j35 : Option Int64 => Xo E (WX g) (eL S) S 35 [] [] (j35)) ?_ (fun j35 hj35 => ?_)
  · refine r_bipush B (-2 : Int32) dX10_hit_35 (by decide) ?_
    refine r_cL (zrunS (As := [.int (-2 : Int32)]) (rest := []) B 1 (fun b hb => k_X2_refused B.2.2.1 hb) gX10_hit_X2_refused rfl rfl rfl y_X2_refused ⟨Nat.le_of_ble_eq_true rfl, Nat.le_of_ble_eq_true rfl⟩ rfl rfl (Nat.le_of_ble_eq_true rfl) dX10_hit_37) (fun r37 => ?_)
    exact r_lret B dX10_hit_40 rfl
  refine r_if_ne B 35 dX10_hit_14 (by decide) (fun _ => ?_) (fun _ => ?_)
  · refine r_sub [] rfl ?_
    exact hj35
  · refine r_iload_n B 2 dX10_hit_17 rfl rfl ?_
    refine r_iconst B (1 : Int32) dX10_hit_18 (by decide) ?_
    refine r_iconst B (5 : Int32) dX10_hit_19 (by decide) ?_
    refine r_cI (zrunS (As := [.int a2, .int (1 : Int32), .int (5 : Int32)]) (rest := []) B 3 (fun b hb => k_X10_outside B.2.2.1 hb) gX10_hit_X10_outside rfl rfl rfl y_X10_outside ⟨Nat.le_of_ble_eq_true rfl, Nat.le_of_ble_eq_true rfl⟩ rfl rfl (Nat.le_of_ble_eq_true rfl) dX10_hit_20) (fun r20 => ?_)
    refine r_if_ne B 35 dX10_hit_23 (by decide) (fun _ => ?_) (fun _ => ?_)
    · refine r_sub [] rfl ?_
      exact hj35
    · refine r_iload_n B 3 dX10_hit_26 rfl rfl ?_
      refine r_iconst B (0 : Int32) dX10_hit_27 (by decide) ?_
      refine r_iconst B (1 : Int32) dX10_hit_28 (by decide) ?_
      refine r_cI (zrunS (As := [.int a3, .int (0 : Int32), .int (1 : Int32)]) (rest := []) B 3 (fun b hb => k_X10_outside B.2.2.1 hb) gX10_hit_X10_outside rfl rfl rfl y_X10_outside ⟨Nat.le_of_ble_eq_true rfl, Nat.le_of_ble_eq_true rfl⟩ rfl rfl (Nat.le_of_ble_eq_true rfl) dX10_hit_29) (fun r29 => ?_)
      refine r_if_eq B 41 dX10_hit_32 (by decide) (fun _ => ?_) (fun _ => ?_)
      · refine r_aload_n B 0 dX10_hit_41 rfl rfl ?_
        refine r_get B 0 9 7 (Nat.le_of_ble_eq_true rfl) rfl (cX_0 g _) rfl m_X10_hit_inX10 (Nat.le_of_ble_eq_true rfl) m_X10_hit_f61 rfl dX10_hit_42 ?_
        refine r_iload_n B 1 dX10_hit_45 rfl rfl ?_
        refine r_iload_n B 2 dX10_hit_46 rfl rfl ?_
        refine r_cL (zrunV (As := [.int a1, .int a2]) (rest := []) B 2 8 (fun b hb => k_X4_waysToHit B.2.2.1 hb) gX10_hit_X4_waysToHit rfl rfl rfl y_X4_waysToHit ⟨Nat.le_of_ble_eq_true rfl, Nat.le_of_ble_eq_true rfl⟩ (Nat.le_of_ble_eq_true rfl) rfl (cX_8 g _) rfl rfl rfl (Nat.le_of_ble_eq_true rfl) dX10_hit_47) (fun r47 => ?_)
        refine r_aload_n B 0 dX10_hit_50 rfl rfl ?_
        refine r_get B 0 9 7 (Nat.le_of_ble_eq_true rfl) rfl (cX_0 g _) rfl m_X10_hit_inX10 (Nat.le_of_ble_eq_true rfl) m_X10_hit_f61 rfl dX10_hit_51 ?_
        refine r_iload_n B 2 dX10_hit_54 rfl rfl ?_
        refine r_cL (zrunV (As := [.int a2]) (rest := [.long r47]) B 1 8 (fun b hb => k_X4_ways B.2.2.1 hb) gX10_hit_X4_ways rfl rfl rfl y_X4_ways ⟨Nat.le_of_ble_eq_true rfl, Nat.le_of_ble_eq_true rfl⟩ (Nat.le_of_ble_eq_true rfl) rfl (cX_8 g _) rfl rfl rfl (Nat.le_of_ble_eq_true rfl) dX10_hit_55) (fun r55 => ?_)
        refine r_iload_n B 3 dX10_hit_58 rfl rfl ?_
        refine r_cL (zrunS (As := [.long r47, .long r55, .int a3]) (rest := []) B 3 (fun b hb => k_X2_told B.2.2.1 hb) gX10_hit_X2_told rfl rfl rfl y_X2_told ⟨Nat.le_of_ble_eq_true rfl, Nat.le_of_ble_eq_true rfl⟩ rfl rfl (Nat.le_of_ble_eq_true rfl) dX10_hit_59) (fun r59 => ?_)
        exact r_lret B dX10_hit_62 rfl
      · refine r_sub [] rfl ?_
        exact hj35
set_option maxRecDepth 20000 in
theorem k_X10_hit {l : Launch} {D : va_G} {g : zGx} (hz : zin (WX g)) {S : zSt} {a1 : Int32} {a2 : Int32} {a3 : Int32} {b : Int64} (h : F_X10_hit S a1 a2 a3 = some b) : zMet l D (WX g) (zT g) yX10_hit wsX10_hit rm_X10_hit S [.ref (g.1 0), .int a1, .int a2, .int a3] ((eL S) b) := zmet_of (by decide +kernel) rfl hz (Nat.le_of_ble_eq_true rfl) rfl (fun E _ _ hE B => x_X10_hit B hE S a1 a2 a3) h
abbrev rm_X10_stick : Room := { frames := 4, cells := 0, slots := 0, locals := 92 }
theorem y_X10_stick : yX10_stick.cls = RX10 ∧ yX10_stick.cls ≠ "java/lang/invoke/MethodHandle" ∧ yX10_stick.cls ≠ "java/lang/invoke/VarHandle" ∧ (parseMethodDescriptor yX10_stick.desc).map (fun d => d.parameters.length) = some 3 := by decide +kernel
theorem m_X10_stick_f61 : Cond.fieldLink RX10 61 "LongestMet" "rod" "LLongestMet$Rod;" ∈ wsX10_stick := List.mem_cons_of_mem _ (List.mem_append_left _ (List.mem_append_left _ (List.mem_append_left _ (List.mem_of_getElem? (i := 0) rfl))))
theorem m_X10_stick_inX10 : ∀ x ∈ u_ws RX10 TX10 9, x ∈ wsX10_stick := fun _ h => List.mem_cons_of_mem _ (List.mem_append_left _ (List.mem_append_right _ h))
set_option maxRecDepth 100000 in
set_option maxHeartbeats 4000000 in
theorem x_X10_stick {E : zCx} {g : zGx} (B : zGood E (WX g) (zT g) cX10_stick RX10 wsX10_stick (some .long) rm_X10_stick) (hE : E.2.2 = 4) (S : zSt) (a1 : Int32) (a2 : Int32) (a3 : Int32) : Xo E (WX g) (eL S) S 0 [(0, .ref (g.1 0)), (1, .int a1), (2, .int a2), (3, .int a3)] [] (F_X10_stick S a1 a2 a3) := by
  unfold F_X10_stick
  refine r_iload_n B 1 dX10_stick_0 rfl rfl ?_
  refine r_iconst B (0 : Int32) dX10_stick_1 (by decide) ?_
  refine r_iconst B (2 : Int32) dX10_stick_2 (by decide) ?_
  refine r_cI (zrunS (As := [.int a1, .int (0 : Int32), .int (2 : Int32)]) (rest := []) B 3 (fun b hb => k_X10_outside B.2.2.1 hb) gX10_stick_X10_outside rfl rfl rfl y_X10_outside ⟨Nat.le_of_ble_eq_true rfl, Nat.le_of_ble_eq_true rfl⟩ rfl rfl (Nat.le_of_ble_eq_true rfl) dX10_stick_3) (fun r3 => ?_)
  refine r_jn2 (P := fun j35 : Option Int64 => Xo E (WX g) (eL S) S 35 [] [] (j35)) ?_ (fun j35 hj35 => ?_)
  · refine r_bipush B (-2 : Int32) dX10_stick_35 (by decide) ?_
    refine r_cL (zrunS (As := [.int (-2 : Int32)]) (rest := []) B 1 (fun b hb => k_X2_refused B.2.2.1 hb) gX10_stick_X2_refused rfl rfl rfl y_X2_refused ⟨Nat.le_of_ble_eq_true rfl, Nat.le_of_ble_eq_true rfl⟩ rfl rfl (Nat.le_of_ble_eq_true rfl) dX10_stick_37) (fun r37 => ?_)
    exact r_lret B dX10_stick_40 rfl
  refine r_if_ne B 35 dX10_stick_6 (by decide) (fun _ => ?_) (fun _ => ?_)
  · refine r_sub [] rfl ?_
    exact hj35
  · refine r_iload_n B 2 dX10_stick_9 rfl rfl ?_
    refine r_iconst B (1 : Int32) dX10_stick_10 (by decide) ?_
    refine r_iload_n B 1 dX10_stick_11 rfl rfl ?_
    refine r_jn2 (P := fun j20 : Int32 → Option Int64 => ∀ (y0_20 : Int32), Xo E (WX g) (eL S) S 20 [(0, .ref (g.1 0)), (1, .int a1), (2, .int a2), (3, .int a3)] [.int y0_20, .int (1 : Int32), .int a2] (j20 y0_20)) ?_ (fun j20 hj20 => ?_)
    · intro y0_20
      refine r_cI (zrunS (As := [.int a2, .int (1 : Int32), .int y0_20]) (rest := []) B 3 (fun b hb => k_X10_outside B.2.2.1 hb) gX10_stick_X10_outside rfl rfl rfl y_X10_outside ⟨Nat.le_of_ble_eq_true rfl, Nat.le_of_ble_eq_true rfl⟩ rfl rfl (Nat.le_of_ble_eq_true rfl) dX10_stick_20) (fun r20 => ?_)
      refine r_if_ne B 35 dX10_stick_23 (by decide) (fun _ => ?_) (fun _ => ?_)
      · refine r_sub [] rfl ?_
        exact hj35
      · refine r_iload_n B 3 dX10_stick_26 rfl rfl ?_
        refine r_iconst B (0 : Int32) dX10_stick_27 (by decide) ?_
        refine r_iconst B (1 : Int32) dX10_stick_28 (by decide) ?_
        refine r_cI (zrunS (As := [.int a3, .int (0 : Int32), .int (1 : Int32)]) (rest := []) B 3 (fun b hb => k_X10_outside B.2.2.1 hb) gX10_stick_X10_outside rfl rfl rfl y_X10_outside ⟨Nat.le_of_ble_eq_true rfl, Nat.le_of_ble_eq_true rfl⟩ rfl rfl (Nat.le_of_ble_eq_true rfl) dX10_stick_29) (fun r29 => ?_)
        refine r_if_eq B 41 dX10_stick_32 (by decide) (fun _ => ?_) (fun _ => ?_)
        · refine r_iload_n B 1 dX10_stick_41 rfl rfl ?_
          refine r_if_ne B 66 dX10_stick_42 (by decide) (fun _ => ?_) (fun _ => ?_)
          · refine r_iload_n B 1 dX10_stick_66 rfl rfl ?_
            refine r_iconst B (1 : Int32) dX10_stick_67 (by decide) ?_
            refine r_icmp_ne B 92 dX10_stick_68 (by decide) (fun _ => ?_) (fun _ => ?_)
            · refine r_aload_n B 0 dX10_stick_92 rfl rfl ?_
              refine r_get B 0 9 7 (Nat.le_of_ble_eq_true rfl) rfl (cX_0 g _) rfl m_X10_stick_inX10 (Nat.le_of_ble_eq_true rfl) m_X10_stick_f61 rfl dX10_stick_93 ?_
              refine r_iload_n B 2 dX10_stick_96 rfl rfl ?_
              refine r_cL (zrunV (As := [.int a2]) (rest := []) B 1 8 (fun b hb => k_X4_waysToHitAll B.2.2.1 hb) gX10_stick_X4_waysToHitAll rfl rfl rfl y_X4_waysToHitAll ⟨Nat.le_of_ble_eq_true rfl, Nat.le_of_ble_eq_true rfl⟩ (Nat.le_of_ble_eq_true rfl) rfl (cX_8 g _) rfl rfl rfl (Nat.le_of_ble_eq_true rfl) dX10_stick_97) (fun r97 => ?_)
              refine r_aload_n B 0 dX10_stick_100 rfl rfl ?_
              refine r_get B 0 9 7 (Nat.le_of_ble_eq_true rfl) rfl (cX_0 g _) rfl m_X10_stick_inX10 (Nat.le_of_ble_eq_true rfl) m_X10_stick_f61 rfl dX10_stick_101 ?_
              refine r_iload_n B 2 dX10_stick_104 rfl rfl ?_
              refine r_cL (zrunV (As := [.int a2]) (rest := [.long r97]) B 1 8 (fun b hb => k_X4_ways B.2.2.1 hb) gX10_stick_X4_ways rfl rfl rfl y_X4_ways ⟨Nat.le_of_ble_eq_true rfl, Nat.le_of_ble_eq_true rfl⟩ (Nat.le_of_ble_eq_true rfl) rfl (cX_8 g _) rfl rfl rfl (Nat.le_of_ble_eq_true rfl) dX10_stick_105) (fun r105 => ?_)
              refine r_iload_n B 3 dX10_stick_108 rfl rfl ?_
              refine r_cL (zrunS (As := [.long r97, .long r105, .int a3]) (rest := []) B 3 (fun b hb => k_X2_told B.2.2.1 hb) gX10_stick_X2_told rfl rfl rfl y_X2_told ⟨Nat.le_of_ble_eq_true rfl, Nat.le_of_ble_eq_true rfl⟩ rfl rfl (Nat.le_of_ble_eq_true rfl) dX10_stick_109) (fun r109 => ?_)
              exact r_lret B dX10_stick_112 rfl
            · refine r_aload_n B 0 dX10_stick_71 rfl rfl ?_
              refine r_get B 0 9 7 (Nat.le_of_ble_eq_true rfl) rfl (cX_0 g _) rfl m_X10_stick_inX10 (Nat.le_of_ble_eq_true rfl) m_X10_stick_f61 rfl dX10_stick_72 ?_
              refine r_iload_n B 2 dX10_stick_75 rfl rfl ?_
              refine r_cL (zrunV (As := [.int a2]) (rest := []) B 1 8 (fun b hb => k_X4_allWaysToHit B.2.2.1 hb) gX10_stick_X4_allWaysToHit rfl rfl rfl y_X4_allWaysToHit ⟨Nat.le_of_ble_eq_true rfl, Nat.le_of_ble_eq_true rfl⟩ (Nat.le_of_ble_eq_true rfl) rfl (cX_8 g _) rfl rfl rfl (Nat.le_of_ble_eq_true rfl) dX10_stick_76) (fun r76 => ?_)
              refine r_aload_n B 0 dX10_stick_79 rfl rfl ?_
              refine r_get B 0 9 7 (Nat.le_of_ble_eq_true rfl) rfl (cX_0 g _) rfl m_X10_stick_inX10 (Nat.le_of_ble_eq_true rfl) m_X10_stick_f61 rfl dX10_stick_80 ?_
              refine r_iload_n B 2 dX10_stick_83 rfl rfl ?_
              refine r_cL (zrunV (As := [.int a2]) (rest := [.long r76]) B 1 8 (fun b hb => k_X4_ways B.2.2.1 hb) gX10_stick_X4_ways rfl rfl rfl y_X4_ways ⟨Nat.le_of_ble_eq_true rfl, Nat.le_of_ble_eq_true rfl⟩ (Nat.le_of_ble_eq_true rfl) rfl (cX_8 g _) rfl rfl rfl (Nat.le_of_ble_eq_true rfl) dX10_stick_84) (fun r84 => ?_)
              refine r_iload_n B 3 dX10_stick_87 rfl rfl ?_
              refine r_cL (zrunS (As := [.long r76, .long r84, .int a3]) (rest := []) B 3 (fun b hb => k_X2_told B.2.2.1 hb) gX10_stick_X2_told rfl rfl rfl y_X2_told ⟨Nat.le_of_ble_eq_true rfl, Nat.le_of_ble_eq_true rfl⟩ rfl rfl (Nat.le_of_ble_eq_true rfl) dX10_stick_88) (fun r88 => ?_)
              exact r_lret B dX10_stick_91 rfl
          · refine r_aload_n B 0 dX10_stick_45 rfl rfl ?_
            refine r_get B 0 9 7 (Nat.le_of_ble_eq_true rfl) rfl (cX_0 g _) rfl m_X10_stick_inX10 (Nat.le_of_ble_eq_true rfl) m_X10_stick_f61 rfl dX10_stick_46 ?_
            refine r_cI (zrunV (As := []) (rest := []) B 0 8 (fun b hb => k_X4_squares B.2.2.1 hb) gX10_stick_X4_squares rfl rfl rfl y_X4_squares ⟨Nat.le_of_ble_eq_true rfl, Nat.le_of_ble_eq_true rfl⟩ (Nat.le_of_ble_eq_true rfl) rfl (cX_8 g _) rfl rfl rfl (Nat.le_of_ble_eq_true rfl) dX10_stick_49) (fun r49 => ?_)
            refine r_i2l B dX10_stick_52 ?_
            refine r_aload_n B 0 dX10_stick_53 rfl rfl ?_
            refine r_get B 0 9 7 (Nat.le_of_ble_eq_true rfl) rfl (cX_0 g _) rfl m_X10_stick_inX10 (Nat.le_of_ble_eq_true rfl) m_X10_stick_f61 rfl dX10_stick_54 ?_
            refine r_cI (zrunV (As := []) (rest := [.long (r49.toInt64)]) B 0 8 (fun b hb => k_X4_lengthInAll B.2.2.1 hb) gX10_stick_X4_lengthInAll rfl rfl rfl y_X4_lengthInAll ⟨Nat.le_of_ble_eq_true rfl, Nat.le_of_ble_eq_true rfl⟩ (Nat.le_of_ble_eq_true rfl) rfl (cX_8 g _) rfl rfl rfl (Nat.le_of_ble_eq_true rfl) dX10_stick_57) (fun r57 => ?_)
            refine r_i2l B dX10_stick_60 ?_
            refine r_iload_n B 3 dX10_stick_61 rfl rfl ?_
            refine r_cL (zrunS (As := [.long (r49.toInt64), .long (r57.toInt64), .int a3]) (rest := []) B 3 (fun b hb => k_X2_told B.2.2.1 hb) gX10_stick_X2_told rfl rfl rfl y_X2_told ⟨Nat.le_of_ble_eq_true rfl, Nat.le_of_ble_eq_true rfl⟩ rfl rfl (Nat.le_of_ble_eq_true rfl) dX10_stick_62) (fun r62 => ?_)
            exact r_lret B dX10_stick_65 rfl
        · refine r_sub [] rfl ?_
          exact hj35
    refine r_if_ne B 19 dX10_stick_12 (by decide) (fun _ => ?_) (fun _ => ?_)
    · refine r_iconst B (5 : Int32) dX10_stick_19 (by decide) ?_
      exact hj20 (5 : Int32)
    · refine r_iconst B (1 : Int32) dX10_stick_15 (by decide) ?_
      refine r_goto B 20 dX10_stick_16 (by decide) ?_
      exact hj20 (1 : Int32)
set_option maxRecDepth 20000 in
theorem k_X10_stick {l : Launch} {D : va_G} {g : zGx} (hz : zin (WX g)) {S : zSt} {a1 : Int32} {a2 : Int32} {a3 : Int32} {b : Int64} (h : F_X10_stick S a1 a2 a3 = some b) : zMet l D (WX g) (zT g) yX10_stick wsX10_stick rm_X10_stick S [.ref (g.1 0), .int a1, .int a2, .int a3] ((eL S) b) := zmet_of (by decide +kernel) rfl hz (Nat.le_of_ble_eq_true rfl) rfl (fun E _ _ hE B => x_X10_stick B hE S a1 a2 a3) h
abbrev rm_X10_sheet : Room := { frames := 1, cells := 0, slots := 0, locals := 24 }
theorem y_X10_sheet : yX10_sheet.cls = RX10 ∧ yX10_sheet.cls ≠ "java/lang/invoke/MethodHandle" ∧ yX10_sheet.cls ≠ "java/lang/invoke/VarHandle" ∧ (parseMethodDescriptor yX10_sheet.desc).map (fun d => d.parameters.length) = some 3 := by decide +kernel
theorem m_X10_sheet_f68 : Cond.fieldLink RX10 68 "LongestMet" "sheets" "LLongestMet$Sheets;" ∈ wsX10_sheet := List.mem_cons_of_mem _ (List.mem_append_left _ (List.mem_append_left _ (List.mem_of_getElem? (i := 0) rfl)))
theorem m_X10_sheet_inX10 : ∀ x ∈ u_ws RX10 TX10 9, x ∈ wsX10_sheet := fun _ h => List.mem_cons_of_mem _ (List.mem_append_left _ (List.mem_append_right _ h))
set_option maxRecDepth 100000 in
set_option maxHeartbeats 4000000 in
theorem x_X10_sheet {E : zCx} {g : zGx} (B : zGood E (WX g) (zT g) cX10_sheet RX10 wsX10_sheet (some .int) rm_X10_sheet) (hE : E.2.2 = 4) (S : zSt) (a1 : Int32) (a2 : Int32) (a3 : Int32) : Xo E (WX g) eIw S 0 [(0, .ref (g.1 0)), (1, .int a1), (2, .int a2), (3, .int a3)] [] (F_X10_sheet S a1 a2 a3) := by
  unfold F_X10_sheet
  refine r_iload_n B 1 dX10_sheet_0 rfl rfl ?_
  refine r_iconst B (0 : Int32) dX10_sheet_1 (by decide) ?_
  refine r_iconst B (3 : Int32) dX10_sheet_2 (by decide) ?_
  refine r_cI (zrunS (As := [.int a1, .int (0 : Int32), .int (3 : Int32)]) (rest := []) B 3 (fun b hb => k_X10_outside B.2.2.1 hb) gX10_sheet_X10_outside rfl rfl rfl y_X10_outside ⟨Nat.le_of_ble_eq_true rfl, Nat.le_of_ble_eq_true rfl⟩ rfl rfl (Nat.le_of_ble_eq_true rfl) dX10_sheet_3) (fun r3 => ?_)
  refine r_if_ne B 24 dX10_sheet_6 (by decide) (fun _ => ?_) (fun _ => ?_)
  · refine r_bipush B (-2 : Int32) dX10_sheet_24 (by decide) ?_
    exact r_iret B dX10_sheet_26 rfl
  · refine r_iload_n B 2 dX10_sheet_9 rfl rfl ?_
    refine r_iconst B (0 : Int32) dX10_sheet_10 (by decide) ?_
    refine r_iconst B (2 : Int32) dX10_sheet_11 (by decide) ?_
    refine r_cI (zrunS (As := [.int a2, .int (0 : Int32), .int (2 : Int32)]) (rest := []) B 3 (fun b hb => k_X10_outside B.2.2.1 hb) gX10_sheet_X10_outside rfl rfl rfl y_X10_outside ⟨Nat.le_of_ble_eq_true rfl, Nat.le_of_ble_eq_true rfl⟩ rfl rfl (Nat.le_of_ble_eq_true rfl) dX10_sheet_12) (fun r12 => ?_)
    refine r_if_ne B 24 dX10_sheet_15 (by decide) (fun _ => ?_) (fun _ => ?_)
    · refine r_bipush B (-2 : Int32) dX10_sheet_24 (by decide) ?_
      exact r_iret B dX10_sheet_26 rfl
    · refine r_iload_n B 3 dX10_sheet_18 rfl rfl ?_
      refine r_bipush B (60 : Int32) dX10_sheet_19 (by decide) ?_
      refine r_icmp_le B 27 dX10_sheet_21 (by decide) (fun _ => ?_) (fun _ => ?_)
      · refine r_iload_n B 3 dX10_sheet_27 rfl rfl ?_
        refine r_if_ge B 40 dX10_sheet_28 (by decide) (fun _ => ?_) (fun _ => ?_)
        · refine r_aload_n B 0 dX10_sheet_40 rfl rfl ?_
          refine r_get B 0 9 8 (Nat.le_of_ble_eq_true rfl) rfl (cX_0 g _) rfl m_X10_sheet_inX10 (Nat.le_of_ble_eq_true rfl) m_X10_sheet_f68 rfl dX10_sheet_41 ?_
          refine r_iload_n B 1 dX10_sheet_44 rfl rfl ?_
          refine r_iload_n B 2 dX10_sheet_45 rfl rfl ?_
          refine r_iload_n B 3 dX10_sheet_46 rfl rfl ?_
          refine r_cVw (zrunV (As := [.int a1, .int a2, .int a3]) (rest := []) B 3 9 (fun b hb => k_X5_renew B.2.2.1 hb) gX10_sheet_X5_renew rfl rfl rfl y_X5_renew ⟨Nat.le_of_ble_eq_true rfl, Nat.le_of_ble_eq_true rfl⟩ (Nat.le_of_ble_eq_true rfl) rfl (cX_9 g _) rfl rfl rfl (Nat.le_of_ble_eq_true rfl) dX10_sheet_47) (fun S47 => ?_)
          refine r_iload_n B 3 dX10_sheet_50 rfl rfl ?_
          exact r_iret B dX10_sheet_51 rfl
        · refine r_aload_n B 0 dX10_sheet_31 rfl rfl ?_
          refine r_get B 0 9 8 (Nat.le_of_ble_eq_true rfl) rfl (cX_0 g _) rfl m_X10_sheet_inX10 (Nat.le_of_ble_eq_true rfl) m_X10_sheet_f68 rfl dX10_sheet_32 ?_
          refine r_iconst B (5 : Int32) dX10_sheet_35 (by decide) ?_
          refine r_cIw (zrunV (As := [.int (5 : Int32)]) (rest := []) B 1 9 (fun b hb => k_X5_finding B.2.2.1 hb) gX10_sheet_X5_finding rfl rfl rfl y_X5_finding ⟨Nat.le_of_ble_eq_true rfl, Nat.le_of_ble_eq_true rfl⟩ (Nat.le_of_ble_eq_true rfl) rfl (cX_9 g _) rfl rfl rfl (Nat.le_of_ble_eq_true rfl) dX10_sheet_36) (fun r36 S36 => ?_)
          exact r_iret B dX10_sheet_39 rfl
      · refine r_bipush B (-2 : Int32) dX10_sheet_24 (by decide) ?_
        exact r_iret B dX10_sheet_26 rfl
set_option maxRecDepth 20000 in
theorem k_X10_sheet {l : Launch} {D : va_G} {g : zGx} (hz : zin (WX g)) {S : zSt} {a1 : Int32} {a2 : Int32} {a3 : Int32} {b : (Int32 × zSt)} (h : F_X10_sheet S a1 a2 a3 = some b) : zMet l D (WX g) (zT g) yX10_sheet wsX10_sheet rm_X10_sheet S [.ref (g.1 0), .int a1, .int a2, .int a3] (eIw b) := zmet_of (by decide +kernel) rfl hz (Nat.le_of_ble_eq_true rfl) rfl (fun E _ _ hE B => x_X10_sheet B hE S a1 a2 a3) h
abbrev rm_X10_lose : Room := { frames := 1, cells := 0, slots := 0, locals := 22 }
theorem y_X10_lose : yX10_lose.cls = RX10 ∧ yX10_lose.cls ≠ "java/lang/invoke/MethodHandle" ∧ yX10_lose.cls ≠ "java/lang/invoke/VarHandle" ∧ (parseMethodDescriptor yX10_lose.desc).map (fun d => d.parameters.length) = some 1 := by decide +kernel
theorem m_X10_lose_f68 : Cond.fieldLink RX10 68 "LongestMet" "sheets" "LLongestMet$Sheets;" ∈ wsX10_lose := List.mem_cons_of_mem _ (List.mem_append_left _ (List.mem_append_left _ (List.mem_of_getElem? (i := 0) rfl)))
theorem m_X10_lose_inX10 : ∀ x ∈ u_ws RX10 TX10 9, x ∈ wsX10_lose := fun _ h => List.mem_cons_of_mem _ (List.mem_append_left _ (List.mem_append_right _ h))
set_option maxRecDepth 100000 in
set_option maxHeartbeats 4000000 in
theorem x_X10_lose {E : zCx} {g : zGx} (B : zGood E (WX g) (zT g) cX10_lose RX10 wsX10_lose (some .int) rm_X10_lose) (hE : E.2.2 = 2) (S : zSt) (a1 : Int32) : Xo E (WX g) eIw S 0 [(0, .ref (g.1 0)), (1, .int a1)] [] (F_X10_lose S a1) := by
  unfold F_X10_lose
  refine r_iload_n B 1 dX10_lose_0 rfl rfl ?_
  refine r_iconst B (0 : Int32) dX10_lose_1 (by decide) ?_
  refine r_iconst B (3 : Int32) dX10_lose_2 (by decide) ?_
  refine r_cI (zrunS (As := [.int a1, .int (0 : Int32), .int (3 : Int32)]) (rest := []) B 3 (fun b hb => k_X10_outside B.2.2.1 hb) gX10_lose_X10_outside rfl rfl rfl y_X10_outside ⟨Nat.le_of_ble_eq_true rfl, Nat.le_of_ble_eq_true rfl⟩ rfl rfl (Nat.le_of_ble_eq_true rfl) dX10_lose_3) (fun r3 => ?_)
  refine r_if_eq B 12 dX10_lose_6 (by decide) (fun _ => ?_) (fun _ => ?_)
  · refine r_aload_n B 0 dX10_lose_12 rfl rfl ?_
    refine r_get B 0 9 8 (Nat.le_of_ble_eq_true rfl) rfl (cX_0 g _) rfl m_X10_lose_inX10 (Nat.le_of_ble_eq_true rfl) m_X10_lose_f68 rfl dX10_lose_13 ?_
    refine r_iload_n B 1 dX10_lose_16 rfl rfl ?_
    refine r_cI (zrunV (As := [.int a1]) (rest := []) B 1 9 (fun b hb => k_X5_isLost B.2.2.1 hb) gX10_lose_X5_isLost rfl rfl rfl y_X5_isLost ⟨Nat.le_of_ble_eq_true rfl, Nat.le_of_ble_eq_true rfl⟩ (Nat.le_of_ble_eq_true rfl) rfl (cX_9 g _) rfl rfl rfl (Nat.le_of_ble_eq_true rfl) dX10_lose_17) (fun r17 => ?_)
    refine r_if_eq B 32 dX10_lose_20 (by decide) (fun _ => ?_) (fun _ => ?_)
    · refine r_aload_n B 0 dX10_lose_32 rfl rfl ?_
      refine r_get B 0 9 8 (Nat.le_of_ble_eq_true rfl) rfl (cX_0 g _) rfl m_X10_lose_inX10 (Nat.le_of_ble_eq_true rfl) m_X10_lose_f68 rfl dX10_lose_33 ?_
      refine r_iload_n B 1 dX10_lose_36 rfl rfl ?_
      refine r_cIw (zrunV (As := [.int a1]) (rest := []) B 1 9 (fun b hb => k_X5_drop B.2.2.1 hb) gX10_lose_X5_drop rfl rfl rfl y_X5_drop ⟨Nat.le_of_ble_eq_true rfl, Nat.le_of_ble_eq_true rfl⟩ (Nat.le_of_ble_eq_true rfl) rfl (cX_9 g _) rfl rfl rfl (Nat.le_of_ble_eq_true rfl) dX10_lose_37) (fun r37 S37 => ?_)
      exact r_iret B dX10_lose_40 rfl
    · refine r_aload_n B 0 dX10_lose_23 rfl rfl ?_
      refine r_get B 0 9 8 (Nat.le_of_ble_eq_true rfl) rfl (cX_0 g _) rfl m_X10_lose_inX10 (Nat.le_of_ble_eq_true rfl) m_X10_lose_f68 rfl dX10_lose_24 ?_
      refine r_iconst B (1 : Int32) dX10_lose_27 (by decide) ?_
      refine r_cIw (zrunV (As := [.int (1 : Int32)]) (rest := []) B 1 9 (fun b hb => k_X5_finding B.2.2.1 hb) gX10_lose_X5_finding rfl rfl rfl y_X5_finding ⟨Nat.le_of_ble_eq_true rfl, Nat.le_of_ble_eq_true rfl⟩ (Nat.le_of_ble_eq_true rfl) rfl (cX_9 g _) rfl rfl rfl (Nat.le_of_ble_eq_true rfl) dX10_lose_28) (fun r28 S28 => ?_)
      exact r_iret B dX10_lose_31 rfl
  · refine r_bipush B (-2 : Int32) dX10_lose_9 (by decide) ?_
    exact r_iret B dX10_lose_11 rfl
set_option maxRecDepth 20000 in
theorem k_X10_lose {l : Launch} {D : va_G} {g : zGx} (hz : zin (WX g)) {S : zSt} {a1 : Int32} {b : (Int32 × zSt)} (h : F_X10_lose S a1 = some b) : zMet l D (WX g) (zT g) yX10_lose wsX10_lose rm_X10_lose S [.ref (g.1 0), .int a1] (eIw b) := zmet_of (by decide +kernel) rfl hz (Nat.le_of_ble_eq_true rfl) rfl (fun E _ _ hE B => x_X10_lose B hE S a1) h
abbrev rm_X10_put : Room := { frames := 2, cells := 0, slots := 0, locals := 45 }
theorem y_X10_put : yX10_put.cls = RX10 ∧ yX10_put.cls ≠ "java/lang/invoke/MethodHandle" ∧ yX10_put.cls ≠ "java/lang/invoke/VarHandle" ∧ (parseMethodDescriptor yX10_put.desc).map (fun d => d.parameters.length) = some 4 := by decide +kernel
theorem m_X10_put_f68 : Cond.fieldLink RX10 68 "LongestMet" "sheets" "LLongestMet$Sheets;" ∈ wsX10_put := List.mem_cons_of_mem _ (List.mem_append_left _ (List.mem_append_left _ (List.mem_append_left _ (List.mem_of_getElem? (i := 0) rfl))))
theorem m_X10_put_inX10 : ∀ x ∈ u_ws RX10 TX10 9, x ∈ wsX10_put := fun _ h => List.mem_cons_of_mem _ (List.mem_append_left _ (List.mem_append_right _ h))
set_option maxRecDepth 100000 in
set_option maxHeartbeats 4000000 in
theorem x_X10_put {E : zCx} {g : zGx} (B : zGood E (WX g) (zT g) cX10_put RX10 wsX10_put (some .int) rm_X10_put) (hE : E.2.2 = 6) (S : zSt) (a1 : Int32) (a2 : Int32) (a3 : Int32) (a4 : Int32) : Xo E (WX g) eIw S 0 [(0, .ref (g.1 0)), (1, .int a1), (2, .int a2), (3, .int a3), (4, .int a4)] [] (F_X10_put S a1 a2 a3 a4) := by
  have n5 : 5 < E.2.2 := by rw [hE]; decide
  unfold F_X10_put
  refine r_iload_n B 1 dX10_put_0 rfl rfl ?_
  refine r_iconst B (0 : Int32) dX10_put_1 (by decide) ?_
  refine r_iconst B (3 : Int32) dX10_put_2 (by decide) ?_
  refine r_cI (zrunS (As := [.int a1, .int (0 : Int32), .int (3 : Int32)]) (rest := []) B 3 (fun b hb => k_X10_outside B.2.2.1 hb) gX10_put_X10_outside rfl rfl rfl y_X10_outside ⟨Nat.le_of_ble_eq_true rfl, Nat.le_of_ble_eq_true rfl⟩ rfl rfl (Nat.le_of_ble_eq_true rfl) dX10_put_3) (fun r3 => ?_)
  refine r_if_ne B 18 dX10_put_6 (by decide) (fun _ => ?_) (fun _ => ?_)
  · refine r_bipush B (-2 : Int32) dX10_put_18 (by decide) ?_
    exact r_iret B dX10_put_20 rfl
  · refine r_iload_n B 2 dX10_put_9 rfl rfl ?_
    refine r_iconst B (0 : Int32) dX10_put_10 (by decide) ?_
    refine r_iconst B (2 : Int32) dX10_put_11 (by decide) ?_
    refine r_cI (zrunS (As := [.int a2, .int (0 : Int32), .int (2 : Int32)]) (rest := []) B 3 (fun b hb => k_X10_outside B.2.2.1 hb) gX10_put_X10_outside rfl rfl rfl y_X10_outside ⟨Nat.le_of_ble_eq_true rfl, Nat.le_of_ble_eq_true rfl⟩ rfl rfl (Nat.le_of_ble_eq_true rfl) dX10_put_12) (fun r12 => ?_)
    refine r_if_eq B 21 dX10_put_15 (by decide) (fun _ => ?_) (fun _ => ?_)
    · refine r_aload_n B 0 dX10_put_21 rfl rfl ?_
      refine r_get B 0 9 8 (Nat.le_of_ble_eq_true rfl) rfl (cX_0 g _) rfl m_X10_put_inX10 (Nat.le_of_ble_eq_true rfl) m_X10_put_f68 rfl dX10_put_22 ?_
      refine r_iload_n B 1 dX10_put_25 rfl rfl ?_
      refine r_iload_n B 2 dX10_put_26 rfl rfl ?_
      refine r_iload_n B 3 dX10_put_27 rfl rfl ?_
      refine r_cI (zrunV (As := [.int a1, .int a2, .int a3]) (rest := []) B 3 9 (fun b hb => k_X5_faultOf B.2.2.1 hb) gX10_put_X5_faultOf rfl rfl rfl y_X5_faultOf ⟨Nat.le_of_ble_eq_true rfl, Nat.le_of_ble_eq_true rfl⟩ (Nat.le_of_ble_eq_true rfl) rfl (cX_9 g _) rfl rfl rfl (Nat.le_of_ble_eq_true rfl) dX10_put_28) (fun r28 => ?_)
      refine r_istore (lv' := fun x5_31 => [(5, .int x5_31), (0, .ref (g.1 0)), (1, .int a1), (2, .int a2), (3, .int a3), (4, .int a4)]) B dX10_put_31 n5 (fun _ => rfl) (fun x5_31 => ?_)
      refine r_iload B 0 dX10_put_33 rfl ?_
      refine r_if_eq B 48 dX10_put_35 (by decide) (fun _ => ?_) (fun _ => ?_)
      · refine r_aload_n B 1 dX10_put_48 rfl rfl ?_
        refine r_get B 0 9 8 (Nat.le_of_ble_eq_true rfl) rfl (cX_0 g _) rfl m_X10_put_inX10 (Nat.le_of_ble_eq_true rfl) m_X10_put_f68 rfl dX10_put_49 ?_
        refine r_iload_n B 2 dX10_put_52 rfl rfl ?_
        refine r_iload_n B 4 dX10_put_53 rfl rfl ?_
        refine r_iload B 5 dX10_put_54 rfl ?_
        refine r_cVw (zrunV (As := [.int a1, .int a3, .int a4]) (rest := []) B 3 9 (fun b hb => k_X5_setItem B.2.2.1 hb) gX10_put_X5_setItem rfl rfl rfl y_X5_setItem ⟨Nat.le_of_ble_eq_true rfl, Nat.le_of_ble_eq_true rfl⟩ (Nat.le_of_ble_eq_true rfl) rfl (cX_9 g _) rfl rfl rfl (Nat.le_of_ble_eq_true rfl) dX10_put_56) (fun S56 => ?_)
        refine r_iconst B (1 : Int32) dX10_put_59 (by decide) ?_
        exact r_iret B dX10_put_60 rfl
      · refine r_aload_n B 1 dX10_put_38 rfl rfl ?_
        refine r_get B 0 9 8 (Nat.le_of_ble_eq_true rfl) rfl (cX_0 g _) rfl m_X10_put_inX10 (Nat.le_of_ble_eq_true rfl) m_X10_put_f68 rfl dX10_put_39 ?_
        refine r_iload B 0 dX10_put_42 rfl ?_
        refine r_cIw (zrunV (As := [.int x5_31]) (rest := []) B 1 9 (fun b hb => k_X5_finding B.2.2.1 hb) gX10_put_X5_finding rfl rfl rfl y_X5_finding ⟨Nat.le_of_ble_eq_true rfl, Nat.le_of_ble_eq_true rfl⟩ (Nat.le_of_ble_eq_true rfl) rfl (cX_9 g _) rfl rfl rfl (Nat.le_of_ble_eq_true rfl) dX10_put_44) (fun r44 S44 => ?_)
        exact r_iret B dX10_put_47 rfl
    · refine r_bipush B (-2 : Int32) dX10_put_18 (by decide) ?_
      exact r_iret B dX10_put_20 rfl
set_option maxRecDepth 20000 in
theorem k_X10_put {l : Launch} {D : va_G} {g : zGx} (hz : zin (WX g)) {S : zSt} {a1 : Int32} {a2 : Int32} {a3 : Int32} {a4 : Int32} {b : (Int32 × zSt)} (h : F_X10_put S a1 a2 a3 a4 = some b) : zMet l D (WX g) (zT g) yX10_put wsX10_put rm_X10_put S [.ref (g.1 0), .int a1, .int a2, .int a3, .int a4] (eIw b) := zmet_of (by decide +kernel) rfl hz (Nat.le_of_ble_eq_true rfl) rfl (fun E _ _ hE B => x_X10_put B hE S a1 a2 a3 a4) h
abbrev rm_X10_get : Room := { frames := 2, cells := 0, slots := 0, locals := 45 }
theorem y_X10_get : yX10_get.cls = RX10 ∧ yX10_get.cls ≠ "java/lang/invoke/MethodHandle" ∧ yX10_get.cls ≠ "java/lang/invoke/VarHandle" ∧ (parseMethodDescriptor yX10_get.desc).map (fun d => d.parameters.length) = some 3 := by decide +kernel
theorem m_X10_get_c308 : Cond.constant RX10 308 (-2147483648) ∈ wsX10_get := List.mem_cons_of_mem _ (List.mem_append_left _ (List.mem_append_left _ (List.mem_append_left _ (List.mem_of_getElem? (i := 0) rfl))))
theorem m_X10_get_f68 : Cond.fieldLink RX10 68 "LongestMet" "sheets" "LLongestMet$Sheets;" ∈ wsX10_get := List.mem_cons_of_mem _ (List.mem_append_left _ (List.mem_append_left _ (List.mem_append_left _ (List.mem_of_getElem? (i := 1) rfl))))
theorem m_X10_get_inX10 : ∀ x ∈ u_ws RX10 TX10 9, x ∈ wsX10_get := fun _ h => List.mem_cons_of_mem _ (List.mem_append_left _ (List.mem_append_right _ h))
set_option maxRecDepth 100000 in
set_option maxHeartbeats 4000000 in
theorem x_X10_get {E : zCx} {g : zGx} (B : zGood E (WX g) (zT g) cX10_get RX10 wsX10_get (some .int) rm_X10_get) (hE : E.2.2 = 5) (S : zSt) (a1 : Int32) (a2 : Int32) (a3 : Int32) : Xo E (WX g) eIw S 0 [(0, .ref (g.1 0)), (1, .int a1), (2, .int a2), (3, .int a3)] [] (F_X10_get S a1 a2 a3) := by
  have n4 : 4 < E.2.2 := by rw [hE]; decide
  unfold F_X10_get
  refine r_iload_n B 1 dX10_get_0 rfl rfl ?_
  refine r_iconst B (0 : Int32) dX10_get_1 (by decide) ?_
  refine r_iconst B (3 : Int32) dX10_get_2 (by decide) ?_
  refine r_cI (zrunS (As := [.int a1, .int (0 : Int32), .int (3 : Int32)]) (rest := []) B 3 (fun b hb => k_X10_outside B.2.2.1 hb) gX10_get_X10_outside rfl rfl rfl y_X10_outside ⟨Nat.le_of_ble_eq_true rfl, Nat.le_of_ble_eq_true rfl⟩ rfl rfl (Nat.le_of_ble_eq_true rfl) dX10_get_3) (fun r3 => ?_)
  refine r_if_ne B 18 dX10_get_6 (by decide) (fun _ => ?_) (fun _ => ?_)
  · refine r_ldcw B (-2147483648 : Int32) m_X10_get_c308 dX10_get_18 ?_
    exact r_iret B dX10_get_21 rfl
  · refine r_iload_n B 2 dX10_get_9 rfl rfl ?_
    refine r_iconst B (0 : Int32) dX10_get_10 (by decide) ?_
    refine r_iconst B (2 : Int32) dX10_get_11 (by decide) ?_
    refine r_cI (zrunS (As := [.int a2, .int (0 : Int32), .int (2 : Int32)]) (rest := []) B 3 (fun b hb => k_X10_outside B.2.2.1 hb) gX10_get_X10_outside rfl rfl rfl y_X10_outside ⟨Nat.le_of_ble_eq_true rfl, Nat.le_of_ble_eq_true rfl⟩ rfl rfl (Nat.le_of_ble_eq_true rfl) dX10_get_12) (fun r12 => ?_)
    refine r_if_eq B 22 dX10_get_15 (by decide) (fun _ => ?_) (fun _ => ?_)
    · refine r_aload_n B 0 dX10_get_22 rfl rfl ?_
      refine r_get B 0 9 8 (Nat.le_of_ble_eq_true rfl) rfl (cX_0 g _) rfl m_X10_get_inX10 (Nat.le_of_ble_eq_true rfl) m_X10_get_f68 rfl dX10_get_23 ?_
      refine r_iload_n B 1 dX10_get_26 rfl rfl ?_
      refine r_iload_n B 2 dX10_get_27 rfl rfl ?_
      refine r_iload_n B 3 dX10_get_28 rfl rfl ?_
      refine r_cI (zrunV (As := [.int a1, .int a2, .int a3]) (rest := []) B 3 9 (fun b hb => k_X5_faultOf B.2.2.1 hb) gX10_get_X5_faultOf rfl rfl rfl y_X5_faultOf ⟨Nat.le_of_ble_eq_true rfl, Nat.le_of_ble_eq_true rfl⟩ (Nat.le_of_ble_eq_true rfl) rfl (cX_9 g _) rfl rfl rfl (Nat.le_of_ble_eq_true rfl) dX10_get_29) (fun r29 => ?_)
      refine r_istore (lv' := fun x4_32 => [(4, .int x4_32), (0, .ref (g.1 0)), (1, .int a1), (2, .int a2), (3, .int a3)]) B dX10_get_32 n4 (fun _ => rfl) (fun x4_32 => ?_)
      refine r_iload B 0 dX10_get_34 rfl ?_
      refine r_if_eq B 53 dX10_get_36 (by decide) (fun _ => ?_) (fun _ => ?_)
      · refine r_aload_n B 1 dX10_get_53 rfl rfl ?_
        refine r_get B 0 9 8 (Nat.le_of_ble_eq_true rfl) rfl (cX_0 g _) rfl m_X10_get_inX10 (Nat.le_of_ble_eq_true rfl) m_X10_get_f68 rfl dX10_get_54 ?_
        refine r_iload_n B 2 dX10_get_57 rfl rfl ?_
        refine r_iload_n B 4 dX10_get_58 rfl rfl ?_
        refine r_cI (zrunV (As := [.int a1, .int a3]) (rest := []) B 2 9 (fun b hb => k_X5_itemAt B.2.2.1 hb) gX10_get_X5_itemAt rfl rfl rfl y_X5_itemAt ⟨Nat.le_of_ble_eq_true rfl, Nat.le_of_ble_eq_true rfl⟩ (Nat.le_of_ble_eq_true rfl) rfl (cX_9 g _) rfl rfl rfl (Nat.le_of_ble_eq_true rfl) dX10_get_59) (fun r59 => ?_)
        exact r_iret B dX10_get_62 rfl
      · refine r_aload_n B 1 dX10_get_39 rfl rfl ?_
        refine r_get B 0 9 8 (Nat.le_of_ble_eq_true rfl) rfl (cX_0 g _) rfl m_X10_get_inX10 (Nat.le_of_ble_eq_true rfl) m_X10_get_f68 rfl dX10_get_40 ?_
        refine r_iload B 0 dX10_get_43 rfl ?_
        refine r_cIw (zrunV (As := [.int x4_32]) (rest := []) B 1 9 (fun b hb => k_X5_finding B.2.2.1 hb) gX10_get_X5_finding rfl rfl rfl y_X5_finding ⟨Nat.le_of_ble_eq_true rfl, Nat.le_of_ble_eq_true rfl⟩ (Nat.le_of_ble_eq_true rfl) rfl (cX_9 g _) rfl rfl rfl (Nat.le_of_ble_eq_true rfl) dX10_get_45) (fun r45 S45 => ?_)
        refine r_pop B rfl dX10_get_48 ?_
        refine r_ldcw B (-2147483648 : Int32) m_X10_get_c308 dX10_get_49 ?_
        exact r_iret B dX10_get_52 rfl
    · refine r_ldcw B (-2147483648 : Int32) m_X10_get_c308 dX10_get_18 ?_
      exact r_iret B dX10_get_21 rfl
set_option maxRecDepth 20000 in
theorem k_X10_get {l : Launch} {D : va_G} {g : zGx} (hz : zin (WX g)) {S : zSt} {a1 : Int32} {a2 : Int32} {a3 : Int32} {b : (Int32 × zSt)} (h : F_X10_get S a1 a2 a3 = some b) : zMet l D (WX g) (zT g) yX10_get wsX10_get rm_X10_get S [.ref (g.1 0), .int a1, .int a2, .int a3] (eIw b) := zmet_of (by decide +kernel) rfl hz (Nat.le_of_ble_eq_true rfl) rfl (fun E _ _ hE B => x_X10_get B hE S a1 a2 a3) h
abbrev rm_X10_copy : Room := { frames := 2, cells := 0, slots := 0, locals := 65 }
theorem y_X10_copy : yX10_copy.cls = RX10 ∧ yX10_copy.cls ≠ "java/lang/invoke/MethodHandle" ∧ yX10_copy.cls ≠ "java/lang/invoke/VarHandle" ∧ (parseMethodDescriptor yX10_copy.desc).map (fun d => d.parameters.length) = some 5 := by decide +kernel
theorem m_X10_copy_f68 : Cond.fieldLink RX10 68 "LongestMet" "sheets" "LLongestMet$Sheets;" ∈ wsX10_copy := List.mem_cons_of_mem _ (List.mem_append_left _ (List.mem_append_left _ (List.mem_append_left _ (List.mem_of_getElem? (i := 0) rfl))))
theorem m_X10_copy_inX10 : ∀ x ∈ u_ws RX10 TX10 9, x ∈ wsX10_copy := fun _ h => List.mem_cons_of_mem _ (List.mem_append_left _ (List.mem_append_right _ h))
set_option maxRecDepth 100000 in
set_option maxHeartbeats 4000000 in
theorem x_X10_copy {E : zCx} {g : zGx} (B : zGood E (WX g) (zT g) cX10_copy RX10 wsX10_copy (some .int) rm_X10_copy) (hE : E.2.2 = 6) (S : zSt) (a1 : Int32) (a2 : Int32) (a3 : Int32) (a4 : Int32) (a5 : Int32) : Xo E (WX g) eIw S 0 [(0, .ref (g.1 0)), (1, .int a1), (2, .int a2), (3, .int a3), (4, .int a4), (5, .int a5)] [] (F_X10_copy S a1 a2 a3 a4 a5) := by
  unfold F_X10_copy
  refine r_iload_n B 1 dX10_copy_0 rfl rfl ?_
  refine r_iconst B (0 : Int32) dX10_copy_1 (by decide) ?_
  refine r_iconst B (3 : Int32) dX10_copy_2 (by decide) ?_
  refine r_cI (zrunS (As := [.int a1, .int (0 : Int32), .int (3 : Int32)]) (rest := []) B 3 (fun b hb => k_X10_outside B.2.2.1 hb) gX10_copy_X10_outside rfl rfl rfl y_X10_outside ⟨Nat.le_of_ble_eq_true rfl, Nat.le_of_ble_eq_true rfl⟩ rfl rfl (Nat.le_of_ble_eq_true rfl) dX10_copy_3) (fun r3 => ?_)
  refine r_if_ne B 18 dX10_copy_6 (by decide) (fun _ => ?_) (fun _ => ?_)
  · refine r_bipush B (-2 : Int32) dX10_copy_18 (by decide) ?_
    exact r_iret B dX10_copy_20 rfl
  · refine r_iload_n B 3 dX10_copy_9 rfl rfl ?_
    refine r_iconst B (0 : Int32) dX10_copy_10 (by decide) ?_
    refine r_iconst B (3 : Int32) dX10_copy_11 (by decide) ?_
    refine r_cI (zrunS (As := [.int a3, .int (0 : Int32), .int (3 : Int32)]) (rest := []) B 3 (fun b hb => k_X10_outside B.2.2.1 hb) gX10_copy_X10_outside rfl rfl rfl y_X10_outside ⟨Nat.le_of_ble_eq_true rfl, Nat.le_of_ble_eq_true rfl⟩ rfl rfl (Nat.le_of_ble_eq_true rfl) dX10_copy_12) (fun r12 => ?_)
    refine r_if_eq B 21 dX10_copy_15 (by decide) (fun _ => ?_) (fun _ => ?_)
    · refine r_aload_n B 0 dX10_copy_21 rfl rfl ?_
      refine r_get B 0 9 8 (Nat.le_of_ble_eq_true rfl) rfl (cX_0 g _) rfl m_X10_copy_inX10 (Nat.le_of_ble_eq_true rfl) m_X10_copy_f68 rfl dX10_copy_22 ?_
      refine r_iload_n B 1 dX10_copy_25 rfl rfl ?_
      refine r_cI (zrunV (As := [.int a1]) (rest := []) B 1 9 (fun b hb => k_X5_isLost B.2.2.1 hb) gX10_copy_X5_isLost rfl rfl rfl y_X5_isLost ⟨Nat.le_of_ble_eq_true rfl, Nat.le_of_ble_eq_true rfl⟩ (Nat.le_of_ble_eq_true rfl) rfl (cX_9 g _) rfl rfl rfl (Nat.le_of_ble_eq_true rfl) dX10_copy_26) (fun r26 => ?_)
      refine r_jn2 (P := fun j43 : Option (Int32 × zSt) => Xo E (WX g) eIw S 43 [(0, .ref (g.1 0))] [] (j43)) ?_ (fun j43 hj43 => ?_)
      · refine r_aload_n B 0 dX10_copy_43 rfl rfl ?_
        refine r_get B 0 9 8 (Nat.le_of_ble_eq_true rfl) rfl (cX_0 g _) rfl m_X10_copy_inX10 (Nat.le_of_ble_eq_true rfl) m_X10_copy_f68 rfl dX10_copy_44 ?_
        refine r_iconst B (1 : Int32) dX10_copy_47 (by decide) ?_
        refine r_cIw (zrunV (As := [.int (1 : Int32)]) (rest := []) B 1 9 (fun b hb => k_X5_finding B.2.2.1 hb) gX10_copy_X5_finding rfl rfl rfl y_X5_finding ⟨Nat.le_of_ble_eq_true rfl, Nat.le_of_ble_eq_true rfl⟩ (Nat.le_of_ble_eq_true rfl) rfl (cX_9 g _) rfl rfl rfl (Nat.le_of_ble_eq_true rfl) dX10_copy_48) (fun r48 S48 => ?_)
        exact r_iret B dX10_copy_51 rfl
      refine r_if_ne B 43 dX10_copy_29 (by decide) (fun _ => ?_) (fun _ => ?_)
      · refine r_sub [0] rfl ?_
        exact hj43
      · refine r_aload_n B 0 dX10_copy_32 rfl rfl ?_
        refine r_get B 0 9 8 (Nat.le_of_ble_eq_true rfl) rfl (cX_0 g _) rfl m_X10_copy_inX10 (Nat.le_of_ble_eq_true rfl) m_X10_copy_f68 rfl dX10_copy_33 ?_
        refine r_iload_n B 3 dX10_copy_36 rfl rfl ?_
        refine r_cI (zrunV (As := [.int a3]) (rest := []) B 1 9 (fun b hb => k_X5_isLost B.2.2.1 hb) gX10_copy_X5_isLost rfl rfl rfl y_X5_isLost ⟨Nat.le_of_ble_eq_true rfl, Nat.le_of_ble_eq_true rfl⟩ (Nat.le_of_ble_eq_true rfl) rfl (cX_9 g _) rfl rfl rfl (Nat.le_of_ble_eq_true rfl) dX10_copy_37) (fun r37 => ?_)
        refine r_if_eq B 52 dX10_copy_40 (by decide) (fun _ => ?_) (fun _ => ?_)
        · refine r_aload_n B 0 dX10_copy_52 rfl rfl ?_
          refine r_get B 0 9 8 (Nat.le_of_ble_eq_true rfl) rfl (cX_0 g _) rfl m_X10_copy_inX10 (Nat.le_of_ble_eq_true rfl) m_X10_copy_f68 rfl dX10_copy_53 ?_
          refine r_iload_n B 1 dX10_copy_56 rfl rfl ?_
          refine r_iload_n B 3 dX10_copy_57 rfl rfl ?_
          refine r_cI (zrunV (As := [.int a1, .int a3]) (rest := []) B 2 9 (fun b hb => k_X5_areUnlike B.2.2.1 hb) gX10_copy_X5_areUnlike rfl rfl rfl y_X5_areUnlike ⟨Nat.le_of_ble_eq_true rfl, Nat.le_of_ble_eq_true rfl⟩ (Nat.le_of_ble_eq_true rfl) rfl (cX_9 g _) rfl rfl rfl (Nat.le_of_ble_eq_true rfl) dX10_copy_58) (fun r58 => ?_)
          refine r_if_eq B 73 dX10_copy_61 (by decide) (fun _ => ?_) (fun _ => ?_)
          · refine r_aload_n B 0 dX10_copy_73 rfl rfl ?_
            refine r_get B 0 9 8 (Nat.le_of_ble_eq_true rfl) rfl (cX_0 g _) rfl m_X10_copy_inX10 (Nat.le_of_ble_eq_true rfl) m_X10_copy_f68 rfl dX10_copy_74 ?_
            refine r_iload_n B 1 dX10_copy_77 rfl rfl ?_
            refine r_iload_n B 2 dX10_copy_78 rfl rfl ?_
            refine r_iload B 5 dX10_copy_79 rfl ?_
            refine r_cI (zrunV (As := [.int a1, .int a2, .int a5]) (rest := []) B 3 9 (fun b hb => k_X5_hasNotSoMany B.2.2.1 hb) gX10_copy_X5_hasNotSoMany rfl rfl rfl y_X5_hasNotSoMany ⟨Nat.le_of_ble_eq_true rfl, Nat.le_of_ble_eq_true rfl⟩ (Nat.le_of_ble_eq_true rfl) rfl (cX_9 g _) rfl rfl rfl (Nat.le_of_ble_eq_true rfl) dX10_copy_81) (fun r81 => ?_)
            refine r_jn2 (P := fun j102 : Option (Int32 × zSt) => Xo E (WX g) eIw S 102 [(0, .ref (g.1 0))] [] (j102)) ?_ (fun j102 hj102 => ?_)
            · refine r_aload_n B 0 dX10_copy_102 rfl rfl ?_
              refine r_get B 0 9 8 (Nat.le_of_ble_eq_true rfl) rfl (cX_0 g _) rfl m_X10_copy_inX10 (Nat.le_of_ble_eq_true rfl) m_X10_copy_f68 rfl dX10_copy_103 ?_
              refine r_iconst B (2 : Int32) dX10_copy_106 (by decide) ?_
              refine r_cIw (zrunV (As := [.int (2 : Int32)]) (rest := []) B 1 9 (fun b hb => k_X5_finding B.2.2.1 hb) gX10_copy_X5_finding rfl rfl rfl y_X5_finding ⟨Nat.le_of_ble_eq_true rfl, Nat.le_of_ble_eq_true rfl⟩ (Nat.le_of_ble_eq_true rfl) rfl (cX_9 g _) rfl rfl rfl (Nat.le_of_ble_eq_true rfl) dX10_copy_107) (fun r107 S107 => ?_)
              exact r_iret B dX10_copy_110 rfl
            refine r_if_ne B 102 dX10_copy_84 (by decide) (fun _ => ?_) (fun _ => ?_)
            · refine r_sub [0] rfl ?_
              exact hj102
            · refine r_aload_n B 0 dX10_copy_87 rfl rfl ?_
              refine r_get B 0 9 8 (Nat.le_of_ble_eq_true rfl) rfl (cX_0 g _) rfl m_X10_copy_inX10 (Nat.le_of_ble_eq_true rfl) m_X10_copy_f68 rfl dX10_copy_88 ?_
              refine r_iload_n B 3 dX10_copy_91 rfl rfl ?_
              refine r_iload B 4 dX10_copy_92 rfl ?_
              refine r_iload B 5 dX10_copy_94 rfl ?_
              refine r_cI (zrunV (As := [.int a3, .int a4, .int a5]) (rest := []) B 3 9 (fun b hb => k_X5_hasNotSoMany B.2.2.1 hb) gX10_copy_X5_hasNotSoMany rfl rfl rfl y_X5_hasNotSoMany ⟨Nat.le_of_ble_eq_true rfl, Nat.le_of_ble_eq_true rfl⟩ (Nat.le_of_ble_eq_true rfl) rfl (cX_9 g _) rfl rfl rfl (Nat.le_of_ble_eq_true rfl) dX10_copy_96) (fun r96 => ?_)
              refine r_if_eq B 111 dX10_copy_99 (by decide) (fun _ => ?_) (fun _ => ?_)
              · refine r_aload_n B 0 dX10_copy_111 rfl rfl ?_
                refine r_get B 0 9 8 (Nat.le_of_ble_eq_true rfl) rfl (cX_0 g _) rfl m_X10_copy_inX10 (Nat.le_of_ble_eq_true rfl) m_X10_copy_f68 rfl dX10_copy_112 ?_
                refine r_iload_n B 1 dX10_copy_115 rfl rfl ?_
                refine r_iload_n B 2 dX10_copy_116 rfl rfl ?_
                refine r_iload_n B 3 dX10_copy_117 rfl rfl ?_
                refine r_iload B 4 dX10_copy_118 rfl ?_
                refine r_iload B 5 dX10_copy_120 rfl ?_
                refine r_cVw (zrunV (As := [.int a1, .int a2, .int a3, .int a4, .int a5]) (rest := []) B 5 9 (fun b hb => k_X5_move B.2.2.1 hb) gX10_copy_X5_move rfl rfl rfl y_X5_move ⟨Nat.le_of_ble_eq_true rfl, Nat.le_of_ble_eq_true rfl⟩ (Nat.le_of_ble_eq_true rfl) rfl (cX_9 g _) rfl rfl rfl (Nat.le_of_ble_eq_true rfl) dX10_copy_122) (fun S122 => ?_)
                refine r_iconst B (1 : Int32) dX10_copy_125 (by decide) ?_
                exact r_iret B dX10_copy_126 rfl
              · refine r_sub [0] rfl ?_
                exact hj102
          · refine r_aload_n B 0 dX10_copy_64 rfl rfl ?_
            refine r_get B 0 9 8 (Nat.le_of_ble_eq_true rfl) rfl (cX_0 g _) rfl m_X10_copy_inX10 (Nat.le_of_ble_eq_true rfl) m_X10_copy_f68 rfl dX10_copy_65 ?_
            refine r_iconst B (4 : Int32) dX10_copy_68 (by decide) ?_
            refine r_cIw (zrunV (As := [.int (4 : Int32)]) (rest := []) B 1 9 (fun b hb => k_X5_finding B.2.2.1 hb) gX10_copy_X5_finding rfl rfl rfl y_X5_finding ⟨Nat.le_of_ble_eq_true rfl, Nat.le_of_ble_eq_true rfl⟩ (Nat.le_of_ble_eq_true rfl) rfl (cX_9 g _) rfl rfl rfl (Nat.le_of_ble_eq_true rfl) dX10_copy_69) (fun r69 S69 => ?_)
            exact r_iret B dX10_copy_72 rfl
        · refine r_sub [0] rfl ?_
          exact hj43
    · refine r_bipush B (-2 : Int32) dX10_copy_18 (by decide) ?_
      exact r_iret B dX10_copy_20 rfl
set_option maxRecDepth 20000 in
theorem k_X10_copy {l : Launch} {D : va_G} {g : zGx} (hz : zin (WX g)) {S : zSt} {a1 : Int32} {a2 : Int32} {a3 : Int32} {a4 : Int32} {a5 : Int32} {b : (Int32 × zSt)} (h : F_X10_copy S a1 a2 a3 a4 a5 = some b) : zMet l D (WX g) (zT g) yX10_copy wsX10_copy rm_X10_copy S [.ref (g.1 0), .int a1, .int a2, .int a3, .int a4, .int a5] (eIw b) := zmet_of (by decide +kernel) rfl hz (Nat.le_of_ble_eq_true rfl) rfl (fun E _ _ hE B => x_X10_copy B hE S a1 a2 a3 a4 a5) h
abbrev rm_X10_write : Room := { frames := 2, cells := 0, slots := 0, locals := 47 }
theorem y_X10_write : yX10_write.cls = RX10 ∧ yX10_write.cls ≠ "java/lang/invoke/MethodHandle" ∧ yX10_write.cls ≠ "java/lang/invoke/VarHandle" ∧ (parseMethodDescriptor yX10_write.desc).map (fun d => d.parameters.length) = some 2 := by decide +kernel
theorem m_X10_write_f68 : Cond.fieldLink RX10 68 "LongestMet" "sheets" "LLongestMet$Sheets;" ∈ wsX10_write := List.mem_cons_of_mem _ (List.mem_append_left _ (List.mem_append_left _ (List.mem_append_left _ (List.mem_append_left _ (List.mem_of_getElem? (i := 0) rfl)))))
theorem m_X10_write_inX10 : ∀ x ∈ u_ws RX10 TX10 9, x ∈ wsX10_write := fun _ h => List.mem_cons_of_mem _ (List.mem_append_left _ (List.mem_append_left _ (List.mem_append_right _ h)))
theorem m_X10_write_f19 : Cond.fieldLink RX10 19 "LongestMet" "stop" "LLongestMet$Stop;" ∈ wsX10_write := List.mem_cons_of_mem _ (List.mem_append_left _ (List.mem_append_left _ (List.mem_append_left _ (List.mem_append_left _ (List.mem_of_getElem? (i := 1) rfl)))))
set_option maxRecDepth 100000 in
set_option maxHeartbeats 4000000 in
theorem xL_X10_write_67 {E : zCx} {g : zGx} (B : zGood E (WX g) (zT g) cX10_write RX10 wsX10_write (some .int) rm_X10_write) (hE : E.2.2 = 5) (a1 : Int32) (a2 : Int32) (x3_63 : Int32) (k : zSt → Option (Int32 × zSt)) (hk : ∀ (S67x : zSt), Xo E (WX g) eIw S67x 99 [(3, .int x3_63)] [] (k S67x)) : ∀ (n : Nat) (S67 : zSt) (v4_67 : Int32), Xo E (WX g) eIw S67 67 [(0, .ref (g.1 0)), (1, .int a1), (2, .int a2), (3, .int x3_63), (4, .int v4_67)] [] (L_X10_write_67 a1 a2 x3_63 k n S67 v4_67) := by
  have n3 : 3 < E.2.2 := by rw [hE]; decide
  have n4 : 4 < E.2.2 := by rw [hE]; decide
  intro n
  induction n with
  | zero =>
    intro _ _
    exact r_none
  | succ n ih =>
    intro S67 v4_67
    rw [L_X10_write_67]
    refine r_iload B 4 dX10_write_67 rfl ?_
    refine r_iload_n B 3 dX10_write_69 rfl rfl ?_
    refine r_icmp_ge B 99 dX10_write_70 (by decide) (fun _ => ?_) (fun _ => ?_)
    · refine r_sub [3] rfl ?_
      exact hk S67
    · refine r_aload_n B 0 dX10_write_73 rfl rfl ?_
      refine r_get B 0 9 8 (Nat.le_of_ble_eq_true rfl) rfl (cX_0 g _) rfl m_X10_write_inX10 (Nat.le_of_ble_eq_true rfl) m_X10_write_f68 rfl dX10_write_74 ?_
      refine r_iload_n B 2 dX10_write_77 rfl rfl ?_
      refine r_iload B 4 dX10_write_78 rfl ?_
      refine r_aload_n B 0 dX10_write_80 rfl rfl ?_
      refine r_get B 0 9 1 (Nat.le_of_ble_eq_true rfl) rfl (cX_0 g _) rfl m_X10_write_inX10 (Nat.le_of_ble_eq_true rfl) m_X10_write_f19 rfl dX10_write_81 ?_
      refine r_iload_n B 1 dX10_write_84 rfl rfl ?_
      refine r_iload B 4 dX10_write_85 rfl ?_
      refine r_cI (zrunV (As := [.int a1, .int v4_67]) (rest := [.int v4_67, .int a2, .ref (g.1 9)]) B 2 2 (fun b hb => k_X6_waitAt B.2.2.1 hb) gX10_write_X6_waitAt rfl rfl rfl y_X6_waitAt ⟨Nat.le_of_ble_eq_true rfl, Nat.le_of_ble_eq_true rfl⟩ (Nat.le_of_ble_eq_true rfl) rfl (cX_2 g _) rfl rfl rfl (Nat.le_of_ble_eq_true rfl) dX10_write_87) (fun r87 => ?_)
      refine r_cVw (zrunV (As := [.int a2, .int v4_67, .int r87]) (rest := []) B 3 9 (fun b hb => k_X5_setItem B.2.2.1 hb) gX10_write_X5_setItem rfl rfl rfl y_X5_setItem ⟨Nat.le_of_ble_eq_true rfl, Nat.le_of_ble_eq_true rfl⟩ (Nat.le_of_ble_eq_true rfl) rfl (cX_9 g _) rfl rfl rfl (Nat.le_of_ble_eq_true rfl) dX10_write_90) (fun S90 => ?_)
      refine r_iinc (lv' := fun x4_93 => [(4, .int x4_93), (0, .ref (g.1 0)), (1, .int a1), (2, .int a2), (3, .int x3_63)]) B 4 (1 : Int32) dX10_write_93 rfl (by decide) n4 (fun _ => rfl) (fun x4_93 => ?_)
      refine r_goto B 67 dX10_write_96 (by decide) ?_
      refine r_sub [1, 2, 3, 4, 0] rfl ?_
      exact ih S90 x4_93
set_option maxRecDepth 100000 in
set_option maxHeartbeats 4000000 in
theorem x_X10_write {E : zCx} {g : zGx} (B : zGood E (WX g) (zT g) cX10_write RX10 wsX10_write (some .int) rm_X10_write) (hE : E.2.2 = 5) (S : zSt) (a1 : Int32) (a2 : Int32) : Xo E (WX g) eIw S 0 [(0, .ref (g.1 0)), (1, .int a1), (2, .int a2)] [] (F_X10_write S a1 a2) := by
  have n3 : 3 < E.2.2 := by rw [hE]; decide
  have n4 : 4 < E.2.2 := by rw [hE]; decide
  unfold F_X10_write
  refine r_iload_n B 1 dX10_write_0 rfl rfl ?_
  refine r_iconst B (0 : Int32) dX10_write_1 (by decide) ?_
  refine r_iconst B (2 : Int32) dX10_write_2 (by decide) ?_
  refine r_cI (zrunS (As := [.int a1, .int (0 : Int32), .int (2 : Int32)]) (rest := []) B 3 (fun b hb => k_X10_outside B.2.2.1 hb) gX10_write_X10_outside rfl rfl rfl y_X10_outside ⟨Nat.le_of_ble_eq_true rfl, Nat.le_of_ble_eq_true rfl⟩ rfl rfl (Nat.le_of_ble_eq_true rfl) dX10_write_3) (fun r3 => ?_)
  refine r_if_ne B 18 dX10_write_6 (by decide) (fun _ => ?_) (fun _ => ?_)
  · refine r_bipush B (-2 : Int32) dX10_write_18 (by decide) ?_
    exact r_iret B dX10_write_20 rfl
  · refine r_iload_n B 2 dX10_write_9 rfl rfl ?_
    refine r_iconst B (0 : Int32) dX10_write_10 (by decide) ?_
    refine r_iconst B (3 : Int32) dX10_write_11 (by decide) ?_
    refine r_cI (zrunS (As := [.int a2, .int (0 : Int32), .int (3 : Int32)]) (rest := []) B 3 (fun b hb => k_X10_outside B.2.2.1 hb) gX10_write_X10_outside rfl rfl rfl y_X10_outside ⟨Nat.le_of_ble_eq_true rfl, Nat.le_of_ble_eq_true rfl⟩ rfl rfl (Nat.le_of_ble_eq_true rfl) dX10_write_12) (fun r12 => ?_)
    refine r_if_eq B 21 dX10_write_15 (by decide) (fun _ => ?_) (fun _ => ?_)
    · refine r_aload_n B 0 dX10_write_21 rfl rfl ?_
      refine r_get B 0 9 8 (Nat.le_of_ble_eq_true rfl) rfl (cX_0 g _) rfl m_X10_write_inX10 (Nat.le_of_ble_eq_true rfl) m_X10_write_f68 rfl dX10_write_22 ?_
      refine r_iload_n B 2 dX10_write_25 rfl rfl ?_
      refine r_cI (zrunV (As := [.int a2]) (rest := []) B 1 9 (fun b hb => k_X5_isLost B.2.2.1 hb) gX10_write_X5_isLost rfl rfl rfl y_X5_isLost ⟨Nat.le_of_ble_eq_true rfl, Nat.le_of_ble_eq_true rfl⟩ (Nat.le_of_ble_eq_true rfl) rfl (cX_9 g _) rfl rfl rfl (Nat.le_of_ble_eq_true rfl) dX10_write_26) (fun r26 => ?_)
      refine r_if_eq B 41 dX10_write_29 (by decide) (fun _ => ?_) (fun _ => ?_)
      · refine r_aload_n B 0 dX10_write_41 rfl rfl ?_
        refine r_get B 0 9 1 (Nat.le_of_ble_eq_true rfl) rfl (cX_0 g _) rfl m_X10_write_inX10 (Nat.le_of_ble_eq_true rfl) m_X10_write_f19 rfl dX10_write_42 ?_
        refine r_iload_n B 1 dX10_write_45 rfl rfl ?_
        refine r_cI (zrunV (As := [.int a1]) (rest := []) B 1 2 (fun b hb => k_X6_busesOf B.2.2.1 hb) gX10_write_X6_busesOf rfl rfl rfl y_X6_busesOf ⟨Nat.le_of_ble_eq_true rfl, Nat.le_of_ble_eq_true rfl⟩ (Nat.le_of_ble_eq_true rfl) rfl (cX_2 g _) rfl rfl rfl (Nat.le_of_ble_eq_true rfl) dX10_write_46) (fun r46 => ?_)
        refine r_if_ne B 55 dX10_write_49 (by decide) (fun _ => ?_) (fun _ => ?_)
        · refine r_aload_n B 0 dX10_write_55 rfl rfl ?_
          refine r_get B 0 9 8 (Nat.le_of_ble_eq_true rfl) rfl (cX_0 g _) rfl m_X10_write_inX10 (Nat.le_of_ble_eq_true rfl) m_X10_write_f68 rfl dX10_write_56 ?_
          refine r_iload_n B 2 dX10_write_59 rfl rfl ?_
          refine r_cI (zrunV (As := [.int a2]) (rest := []) B 1 9 (fun b hb => k_X5_itemsOf B.2.2.1 hb) gX10_write_X5_itemsOf rfl rfl rfl y_X5_itemsOf ⟨Nat.le_of_ble_eq_true rfl, Nat.le_of_ble_eq_true rfl⟩ (Nat.le_of_ble_eq_true rfl) rfl (cX_9 g _) rfl rfl rfl (Nat.le_of_ble_eq_true rfl) dX10_write_60) (fun r60 => ?_)
          refine r_istore_n (lv' := fun x3_63 => [(3, .int x3_63), (0, .ref (g.1 0)), (1, .int a1), (2, .int a2)]) B dX10_write_63 rfl n3 (fun _ => rfl) (fun x3_63 => ?_)
          refine r_iconst B (0 : Int32) dX10_write_64 (by decide) ?_
          refine r_istore (lv' := fun x4_65 => [(4, .int x4_65), (3, .int x3_63), (0, .ref (g.1 0)), (1, .int a1), (2, .int a2)]) B dX10_write_65 n4 (fun _ => rfl) (fun x4_65 => ?_)
          refine r_sub [2, 3, 4, 1, 0] rfl ?_
          refine xL_X10_write_67 B hE a1 a2 x3_63 _ ?_ 1000 S x4_65
          intro S67x_67
          refine r_iload_n B 0 dX10_write_99 rfl rfl ?_
          exact r_iret B dX10_write_100 rfl
        · refine r_bipush B (-3 : Int32) dX10_write_52 (by decide) ?_
          exact r_iret B dX10_write_54 rfl
      · refine r_aload_n B 0 dX10_write_32 rfl rfl ?_
        refine r_get B 0 9 8 (Nat.le_of_ble_eq_true rfl) rfl (cX_0 g _) rfl m_X10_write_inX10 (Nat.le_of_ble_eq_true rfl) m_X10_write_f68 rfl dX10_write_33 ?_
        refine r_iconst B (1 : Int32) dX10_write_36 (by decide) ?_
        refine r_cIw (zrunV (As := [.int (1 : Int32)]) (rest := []) B 1 9 (fun b hb => k_X5_finding B.2.2.1 hb) gX10_write_X5_finding rfl rfl rfl y_X5_finding ⟨Nat.le_of_ble_eq_true rfl, Nat.le_of_ble_eq_true rfl⟩ (Nat.le_of_ble_eq_true rfl) rfl (cX_9 g _) rfl rfl rfl (Nat.le_of_ble_eq_true rfl) dX10_write_37) (fun r37 S37 => ?_)
        exact r_iret B dX10_write_40 rfl
    · refine r_bipush B (-2 : Int32) dX10_write_18 (by decide) ?_
      exact r_iret B dX10_write_20 rfl
set_option maxRecDepth 20000 in
theorem k_X10_write {l : Launch} {D : va_G} {g : zGx} (hz : zin (WX g)) {S : zSt} {a1 : Int32} {a2 : Int32} {b : (Int32 × zSt)} (h : F_X10_write S a1 a2 = some b) : zMet l D (WX g) (zT g) yX10_write wsX10_write rm_X10_write S [.ref (g.1 0), .int a1, .int a2] (eIw b) := zmet_of (by decide +kernel) rfl hz (Nat.le_of_ble_eq_true rfl) rfl (fun E _ _ hE B => x_X10_write B hE S a1 a2) h
abbrev rm_X10_count : Room := { frames := 3, cells := 0, slots := 0, locals := 63 }
theorem y_X10_count : yX10_count.cls = RX10 ∧ yX10_count.cls ≠ "java/lang/invoke/MethodHandle" ∧ yX10_count.cls ≠ "java/lang/invoke/VarHandle" ∧ (parseMethodDescriptor yX10_count.desc).map (fun d => d.parameters.length) = some 1 := by decide +kernel
theorem m_X10_count_f19 : Cond.fieldLink RX10 19 "LongestMet" "stop" "LLongestMet$Stop;" ∈ wsX10_count := List.mem_cons_of_mem _ (List.mem_append_left _ (List.mem_append_left _ (List.mem_append_left _ (List.mem_append_left _ (List.mem_append_left _ (List.mem_append_left _ (List.mem_append_left _ (List.mem_append_left _ (List.mem_append_left _ (List.mem_of_getElem? (i := 0) rfl))))))))))
theorem m_X10_count_inX10 : ∀ x ∈ u_ws RX10 TX10 9, x ∈ wsX10_count := fun _ h => List.mem_cons_of_mem _ (List.mem_append_left _ (List.mem_append_left _ (List.mem_append_left _ (List.mem_append_left _ (List.mem_append_left _ (List.mem_append_left _ (List.mem_append_left _ (List.mem_append_right _ h))))))))
theorem m_X10_count_f10 : Cond.fieldLink RX10 10 "LongestMet" "text" "LLongestMet$Text;" ∈ wsX10_count := List.mem_cons_of_mem _ (List.mem_append_left _ (List.mem_append_left _ (List.mem_append_left _ (List.mem_append_left _ (List.mem_append_left _ (List.mem_append_left _ (List.mem_append_left _ (List.mem_append_left _ (List.mem_append_left _ (List.mem_of_getElem? (i := 1) rfl))))))))))
theorem m_X10_count_f33 : Cond.fieldLink RX10 33 "LongestMet" "survey" "LLongestMet$Survey;" ∈ wsX10_count := List.mem_cons_of_mem _ (List.mem_append_left _ (List.mem_append_left _ (List.mem_append_left _ (List.mem_append_left _ (List.mem_append_left _ (List.mem_append_left _ (List.mem_append_left _ (List.mem_append_left _ (List.mem_append_left _ (List.mem_of_getElem? (i := 2) rfl))))))))))
theorem m_X10_count_f47 : Cond.fieldLink RX10 47 "LongestMet" "beds" "LLongestMet$Ward;" ∈ wsX10_count := List.mem_cons_of_mem _ (List.mem_append_left _ (List.mem_append_left _ (List.mem_append_left _ (List.mem_append_left _ (List.mem_append_left _ (List.mem_append_left _ (List.mem_append_left _ (List.mem_append_left _ (List.mem_append_left _ (List.mem_of_getElem? (i := 3) rfl))))))))))
theorem m_X10_count_f54 : Cond.fieldLink RX10 54 "LongestMet" "circle" "LLongestMet$Circle;" ∈ wsX10_count := List.mem_cons_of_mem _ (List.mem_append_left _ (List.mem_append_left _ (List.mem_append_left _ (List.mem_append_left _ (List.mem_append_left _ (List.mem_append_left _ (List.mem_append_left _ (List.mem_append_left _ (List.mem_append_left _ (List.mem_of_getElem? (i := 4) rfl))))))))))
theorem m_X10_count_f61 : Cond.fieldLink RX10 61 "LongestMet" "rod" "LLongestMet$Rod;" ∈ wsX10_count := List.mem_cons_of_mem _ (List.mem_append_left _ (List.mem_append_left _ (List.mem_append_left _ (List.mem_append_left _ (List.mem_append_left _ (List.mem_append_left _ (List.mem_append_left _ (List.mem_append_left _ (List.mem_append_left _ (List.mem_of_getElem? (i := 5) rfl))))))))))
theorem m_X10_count_f68 : Cond.fieldLink RX10 68 "LongestMet" "sheets" "LLongestMet$Sheets;" ∈ wsX10_count := List.mem_cons_of_mem _ (List.mem_append_left _ (List.mem_append_left _ (List.mem_append_left _ (List.mem_append_left _ (List.mem_append_left _ (List.mem_append_left _ (List.mem_append_left _ (List.mem_append_left _ (List.mem_append_left _ (List.mem_of_getElem? (i := 6) rfl))))))))))
set_option maxRecDepth 100000 in
set_option maxHeartbeats 4000000 in
theorem x_X10_count {E : zCx} {g : zGx} (B : zGood E (WX g) (zT g) cX10_count RX10 wsX10_count (some .int) rm_X10_count) (hE : E.2.2 = 2) (S : zSt) (a1 : Int32) : Xo E (WX g) (eI S) S 0 [(0, .ref (g.1 0)), (1, .int a1)] [] (F_X10_count S a1) := by
  unfold F_X10_count
  refine r_iload_n B 1 dX10_count_0 rfl rfl ?_
  refine r_swc (0 : Int32) ?_ (fun h1_0 => ?_)
  · refine r_tabIn B 52 dX10_count_1 (by decide) (by decide) rfl (by decide) ?_
    refine r_aload_n B 0 dX10_count_52 rfl rfl ?_
    refine r_get B 0 9 1 (Nat.le_of_ble_eq_true rfl) rfl (cX_0 g _) rfl m_X10_count_inX10 (Nat.le_of_ble_eq_true rfl) m_X10_count_f19 rfl dX10_count_53 ?_
    refine r_iload_n B 1 dX10_count_56 rfl rfl ?_
    refine r_cI (zrunV (As := [.int a1]) (rest := []) B 1 2 (fun b hb => k_X6_busesOf B.2.2.1 hb) gX10_count_X6_busesOf rfl rfl rfl y_X6_busesOf ⟨Nat.le_of_ble_eq_true rfl, Nat.le_of_ble_eq_true rfl⟩ (Nat.le_of_ble_eq_true rfl) rfl (cX_2 g _) rfl rfl rfl (Nat.le_of_ble_eq_true rfl) dX10_count_57) (fun r57 => ?_)
    exact r_iret B dX10_count_60 rfl
  refine r_swc (1 : Int32) ?_ (fun h1_1 => ?_)
  · refine r_tabIn B 52 dX10_count_1 (by decide) (by decide) rfl (by decide) ?_
    refine r_aload_n B 0 dX10_count_52 rfl rfl ?_
    refine r_get B 0 9 1 (Nat.le_of_ble_eq_true rfl) rfl (cX_0 g _) rfl m_X10_count_inX10 (Nat.le_of_ble_eq_true rfl) m_X10_count_f19 rfl dX10_count_53 ?_
    refine r_iload_n B 1 dX10_count_56 rfl rfl ?_
    refine r_cI (zrunV (As := [.int a1]) (rest := []) B 1 2 (fun b hb => k_X6_busesOf B.2.2.1 hb) gX10_count_X6_busesOf rfl rfl rfl y_X6_busesOf ⟨Nat.le_of_ble_eq_true rfl, Nat.le_of_ble_eq_true rfl⟩ (Nat.le_of_ble_eq_true rfl) rfl (cX_2 g _) rfl rfl rfl (Nat.le_of_ble_eq_true rfl) dX10_count_57) (fun r57 => ?_)
    exact r_iret B dX10_count_60 rfl
  refine r_swc (2 : Int32) ?_ (fun h1_2 => ?_)
  · refine r_tabIn B 61 dX10_count_1 (by decide) (by decide) rfl (by decide) ?_
    refine r_aload_n B 0 dX10_count_61 rfl rfl ?_
    refine r_get B 0 9 0 (Nat.le_of_ble_eq_true rfl) rfl (cX_0 g _) rfl m_X10_count_inX10 (Nat.le_of_ble_eq_true rfl) m_X10_count_f10 rfl dX10_count_62 ?_
    refine r_cI (zrunV (As := []) (rest := []) B 0 1 (fun b hb => k_X8_bytesTyped B.2.2.1 hb) gX10_count_X8_bytesTyped rfl rfl rfl y_X8_bytesTyped ⟨Nat.le_of_ble_eq_true rfl, Nat.le_of_ble_eq_true rfl⟩ (Nat.le_of_ble_eq_true rfl) rfl (cX_1 g _) rfl rfl rfl (Nat.le_of_ble_eq_true rfl) dX10_count_65) (fun r65 => ?_)
    exact r_iret B dX10_count_68 rfl
  refine r_swc (3 : Int32) ?_ (fun h1_3 => ?_)
  · refine r_tabIn B 69 dX10_count_1 (by decide) (by decide) rfl (by decide) ?_
    refine r_aload_n B 0 dX10_count_69 rfl rfl ?_
    refine r_get B 0 9 3 (Nat.le_of_ble_eq_true rfl) rfl (cX_0 g _) rfl m_X10_count_inX10 (Nat.le_of_ble_eq_true rfl) m_X10_count_f33 rfl dX10_count_70 ?_
    refine r_cI (zrunV (As := []) (rest := []) B 0 4 (fun b hb => k_X7_answersTold B.2.2.1 hb) gX10_count_X7_answersTold rfl rfl rfl y_X7_answersTold ⟨Nat.le_of_ble_eq_true rfl, Nat.le_of_ble_eq_true rfl⟩ (Nat.le_of_ble_eq_true rfl) rfl (cX_4 g _) rfl rfl rfl (Nat.le_of_ble_eq_true rfl) dX10_count_73) (fun r73 => ?_)
    exact r_iret B dX10_count_76 rfl
  refine r_swc (4 : Int32) ?_ (fun h1_4 => ?_)
  · refine r_tabIn B 77 dX10_count_1 (by decide) (by decide) rfl (by decide) ?_
    refine r_aload_n B 0 dX10_count_77 rfl rfl ?_
    refine r_get B 0 9 3 (Nat.le_of_ble_eq_true rfl) rfl (cX_0 g _) rfl m_X10_count_inX10 (Nat.le_of_ble_eq_true rfl) m_X10_count_f33 rfl dX10_count_78 ?_
    refine r_cI (zrunV (As := []) (rest := []) B 0 4 (fun b hb => k_X7_counting B.2.2.1 hb) gX10_count_X7_counting rfl rfl rfl y_X7_counting ⟨Nat.le_of_ble_eq_true rfl, Nat.le_of_ble_eq_true rfl⟩ (Nat.le_of_ble_eq_true rfl) rfl (cX_4 g _) rfl rfl rfl (Nat.le_of_ble_eq_true rfl) dX10_count_81) (fun r81 => ?_)
    exact r_iret B dX10_count_84 rfl
  refine r_swc (5 : Int32) ?_ (fun h1_5 => ?_)
  · refine r_tabIn B 85 dX10_count_1 (by decide) (by decide) rfl (by decide) ?_
    refine r_aload_n B 0 dX10_count_85 rfl rfl ?_
    refine r_get B 0 9 5 (Nat.le_of_ble_eq_true rfl) rfl (cX_0 g _) rfl m_X10_count_inX10 (Nat.le_of_ble_eq_true rfl) m_X10_count_f47 rfl dX10_count_86 ?_
    refine r_cI (zrunV (As := []) (rest := []) B 0 6 (fun b hb => k_X9_staysTold B.2.2.1 hb) gX10_count_X9_staysTold rfl rfl rfl y_X9_staysTold ⟨Nat.le_of_ble_eq_true rfl, Nat.le_of_ble_eq_true rfl⟩ (Nat.le_of_ble_eq_true rfl) rfl (cX_6 g _) rfl rfl rfl (Nat.le_of_ble_eq_true rfl) dX10_count_89) (fun r89 => ?_)
    exact r_iret B dX10_count_92 rfl
  refine r_swc (6 : Int32) ?_ (fun h1_6 => ?_)
  · refine r_tabIn B 93 dX10_count_1 (by decide) (by decide) rfl (by decide) ?_
    refine r_aload_n B 0 dX10_count_93 rfl rfl ?_
    refine r_get B 0 9 6 (Nat.le_of_ble_eq_true rfl) rfl (cX_0 g _) rfl m_X10_count_inX10 (Nat.le_of_ble_eq_true rfl) m_X10_count_f54 rfl dX10_count_94 ?_
    refine r_cI (zrunV (As := []) (rest := []) B 0 7 (fun b hb => k_X0_tellings B.2.2.1 hb) gX10_count_X0_tellings rfl rfl rfl y_X0_tellings ⟨Nat.le_of_ble_eq_true rfl, Nat.le_of_ble_eq_true rfl⟩ (Nat.le_of_ble_eq_true rfl) rfl (cX_7 g _) rfl rfl rfl (Nat.le_of_ble_eq_true rfl) dX10_count_97) (fun r97 => ?_)
    refine r_iconst B (2 : Int32) dX10_count_100 (by decide) ?_
    refine r_idiv B dX10_count_101 (fun _ => ?_)
    exact r_iret B dX10_count_102 rfl
  refine r_swc (7 : Int32) ?_ (fun h1_7 => ?_)
  · refine r_tabIn B 103 dX10_count_1 (by decide) (by decide) rfl (by decide) ?_
    refine r_aload_n B 0 dX10_count_103 rfl rfl ?_
    refine r_get B 0 9 7 (Nat.le_of_ble_eq_true rfl) rfl (cX_0 g _) rfl m_X10_count_inX10 (Nat.le_of_ble_eq_true rfl) m_X10_count_f61 rfl dX10_count_104 ?_
    refine r_cI (zrunV (As := []) (rest := []) B 0 8 (fun b hb => k_X4_lengthInAll B.2.2.1 hb) gX10_count_X4_lengthInAll rfl rfl rfl y_X4_lengthInAll ⟨Nat.le_of_ble_eq_true rfl, Nat.le_of_ble_eq_true rfl⟩ (Nat.le_of_ble_eq_true rfl) rfl (cX_8 g _) rfl rfl rfl (Nat.le_of_ble_eq_true rfl) dX10_count_107) (fun r107 => ?_)
    exact r_iret B dX10_count_110 rfl
  refine r_swc (8 : Int32) ?_ (fun h1_8 => ?_)
  · refine r_tabIn B 111 dX10_count_1 (by decide) (by decide) rfl (by decide) ?_
    refine r_aload_n B 0 dX10_count_111 rfl rfl ?_
    refine r_get B 0 9 8 (Nat.le_of_ble_eq_true rfl) rfl (cX_0 g _) rfl m_X10_count_inX10 (Nat.le_of_ble_eq_true rfl) m_X10_count_f68 rfl dX10_count_112 ?_
    refine r_cI (zrunV (As := []) (rest := []) B 0 9 (fun b hb => k_X5_latestFinding B.2.2.1 hb) gX10_count_X5_latestFinding rfl rfl rfl y_X5_latestFinding ⟨Nat.le_of_ble_eq_true rfl, Nat.le_of_ble_eq_true rfl⟩ (Nat.le_of_ble_eq_true rfl) rfl (cX_9 g _) rfl rfl rfl (Nat.le_of_ble_eq_true rfl) dX10_count_115) (fun r115 => ?_)
    exact r_iret B dX10_count_118 rfl
  refine r_tabOut B 119 dX10_count_1 (by have z0 := lv_neT h1_0 (a := 0) (by decide); have z1 := lv_neT h1_1 (a := 1) (by decide); have z2 := lv_neT h1_2 (a := 2) (by decide); have z3 := lv_neT h1_3 (a := 3) (by decide); have z4 := lv_neT h1_4 (a := 4) (by decide); have z5 := lv_neT h1_5 (a := 5) (by decide); have z6 := lv_neT h1_6 (a := 6) (by decide); have z7 := lv_neT h1_7 (a := 7) (by decide); have z8 := lv_neT h1_8 (a := 8) (by decide); omega) (by decide) ?_
  refine r_bipush B (-2 : Int32) dX10_count_119 (by decide) ?_
  exact r_iret B dX10_count_121 rfl
set_option maxRecDepth 20000 in
theorem k_X10_count {l : Launch} {D : va_G} {g : zGx} (hz : zin (WX g)) {S : zSt} {a1 : Int32} {b : Int32} (h : F_X10_count S a1 = some b) : zMet l D (WX g) (zT g) yX10_count wsX10_count rm_X10_count S [.ref (g.1 0), .int a1] ((eI S) b) := zmet_of (by decide +kernel) rfl hz (Nat.le_of_ble_eq_true rfl) rfl (fun E _ _ hE B => x_X10_count B hE S a1) h
abbrev rm_X10_behind : Room := { frames := 0, cells := 0, slots := 0, locals := 0 }
theorem y_X10_behind : yX10_behind.cls ≠ "java/lang/invoke/MethodHandle" ∧ yX10_behind.cls ≠ "java/lang/invoke/VarHandle" ∧ (parseMethodDescriptor yX10_behind.desc).map (fun d => d.parameters.length) = some 2 := by decide +kernel
theorem m_X10_behind_c371 : Cond.constantLong RX10 371 (31) ∈ wsX10_behind := List.mem_cons_of_mem _ (List.mem_of_getElem? (i := 0) rfl)
set_option maxRecDepth 100000 in
set_option maxHeartbeats 4000000 in
theorem x_X10_behind {E : zCx} {g : zGx} (B : zGood E (WX g) (zT g) cX10_behind RX10 wsX10_behind (some .long) rm_X10_behind) (hE : E.2.2 = 4) (S : zSt) (a0 : Int64) (a2 : Int64) : Xo E (WX g) (eL S) S 0 [(0, .long a0), (2, .long a2)] [] (F_X10_behind a0 a2) := by
  unfold F_X10_behind
  refine r_ldc2 B (31 : Int64) m_X10_behind_c371 dX10_behind_0 ?_
  refine r_lload_n B 0 dX10_behind_3 rfl rfl ?_
  refine r_lmul B dX10_behind_4 ?_
  refine r_lload_n B 1 dX10_behind_5 rfl rfl ?_
  refine r_ladd B dX10_behind_6 ?_
  exact r_lret B dX10_behind_7 rfl
set_option maxRecDepth 20000 in
theorem k_X10_behind {l : Launch} {D : va_G} {g : zGx} (hz : zin (WX g)) {S : zSt} {a0 : Int64} {a2 : Int64} {b : Int64} (h : F_X10_behind a0 a2 = some b) : zMet l D (WX g) (zT g) yX10_behind wsX10_behind rm_X10_behind S [.long a0, .long a2] ((eL S) b) := zmet_of (by decide +kernel) rfl hz (Nat.le_of_ble_eq_true rfl) rfl (fun E _ _ hE B => x_X10_behind B hE S a0 a2) h
abbrev rm_X10_digest : Room := { frames := 6, cells := 0, slots := 0, locals := 146 }
theorem y_X10_digest : yX10_digest.cls = RX10 ∧ yX10_digest.cls ≠ "java/lang/invoke/MethodHandle" ∧ yX10_digest.cls ≠ "java/lang/invoke/VarHandle" ∧ (parseMethodDescriptor yX10_digest.desc).map (fun d => d.parameters.length) = some 0 := by decide +kernel
theorem m_X10_digest_c325 : Cond.constantLong RX10 325 (17) ∈ wsX10_digest := List.mem_cons_of_mem _ (List.mem_append_left _ (List.mem_append_left _ (List.mem_append_left _ (List.mem_append_left _ (List.mem_append_left _ (List.mem_append_left _ (List.mem_append_left _ (List.mem_append_left _ (List.mem_append_left _ (List.mem_append_left _ (List.mem_append_left _ (List.mem_of_getElem? (i := 0) rfl))))))))))))
set_option maxRecDepth 100000 in
set_option maxHeartbeats 4000000 in
theorem xL_X10_digest_6 {E : zCx} {g : zGx} (B : zGood E (WX g) (zT g) cX10_digest RX10 wsX10_digest (some .long) rm_X10_digest) (hE : E.2.2 = 6) (S : zSt) (k : Int64 → Option (Int64 × zSt)) (hk : ∀ (w1 : Int64), Xo E (WX g) eLw S 29 [(0, .ref (g.1 0)), (1, .long w1)] [] (k w1)) : ∀ (n : Nat) (v1_6 : Int64) (v3_6 : Int32), Xo E (WX g) eLw S 6 [(0, .ref (g.1 0)), (1, .long v1_6), (3, .int v3_6)] [] (L_X10_digest_6 S k n v1_6 v3_6) := by
  have nn1 : 1 + 1 < E.2.2 := by rw [hE]; decide
  have n3 : 3 < E.2.2 := by rw [hE]; decide
  have n4 : 4 < E.2.2 := by rw [hE]; decide
  have n5 : 5 < E.2.2 := by rw [hE]; decide
  intro n
  induction n with
  | zero =>
    intro _ _
    exact r_none
  | succ n ih =>
    intro v1_6 v3_6
    rw [L_X10_digest_6]
    refine r_iload_n B 2 dX10_digest_6 rfl rfl ?_
    refine r_bipush B (7 : Int32) dX10_digest_7 (by decide) ?_
    refine r_icmp_gt B 29 dX10_digest_9 (by decide) (fun _ => ?_) (fun _ => ?_)
    · refine r_sub [0, 1] rfl ?_
      exact hk v1_6
    · refine r_lload_n B 1 dX10_digest_12 rfl rfl ?_
      refine r_aload_n B 0 dX10_digest_13 rfl rfl ?_
      refine r_iload_n B 2 dX10_digest_14 rfl rfl ?_
      refine r_cI (zrunV (As := [.int v3_6]) (rest := [.long v1_6]) B 1 0 (fun b hb => k_X10_count B.2.2.1 hb) gX10_digest_X10_count rfl rfl rfl y_X10_count ⟨Nat.le_of_ble_eq_true rfl, Nat.le_of_ble_eq_true rfl⟩ (Nat.le_of_ble_eq_true rfl) rfl (cX_0 g _) rfl rfl rfl (Nat.le_of_ble_eq_true rfl) dX10_digest_15) (fun r15 => ?_)
      refine r_i2l B dX10_digest_18 ?_
      refine r_cL (zrunS (As := [.long v1_6, .long (r15.toInt64)]) (rest := []) B 2 (fun b hb => k_X10_behind B.2.2.1 hb) gX10_digest_X10_behind rfl rfl rfl y_X10_behind ⟨Nat.le_of_ble_eq_true rfl, Nat.le_of_ble_eq_true rfl⟩ rfl rfl (Nat.le_of_ble_eq_true rfl) dX10_digest_19) (fun r19 => ?_)
      refine r_lstore_n (lv' := fun x1_22 => [(1, .long x1_22), (0, .ref (g.1 0)), (3, .int v3_6)]) B dX10_digest_22 rfl nn1 (fun _ => rfl) (fun x1_22 => ?_)
      refine r_iinc (lv' := fun x3_23 => [(3, .int x3_23), (1, .long x1_22), (0, .ref (g.1 0))]) B 2 (1 : Int32) dX10_digest_23 rfl (by decide) n3 (fun _ => rfl) (fun x3_23 => ?_)
      refine r_goto B 6 dX10_digest_26 (by decide) ?_
      refine r_sub [2, 1, 0] rfl ?_
      exact ih x1_22 x3_23
set_option maxRecDepth 100000 in
set_option maxHeartbeats 4000000 in
theorem xL_X10_digest_58 {E : zCx} {g : zGx} (B : zGood E (WX g) (zT g) cX10_digest RX10 wsX10_digest (some .long) rm_X10_digest) (hE : E.2.2 = 6) (S31 : zSt) (v3_41 : Int32) (v4_49 : Int32) (k : Int64 → Option (Int64 × zSt)) (hk : ∀ (w1 : Int64), Xo E (WX g) eLw S31 84 [(0, .ref (g.1 0)), (1, .long w1), (3, .int v3_41), (4, .int v4_49)] [] (k w1)) : ∀ (n : Nat) (v1_58 : Int64) (v5_58 : Int32), Xo E (WX g) eLw S31 58 [(0, .ref (g.1 0)), (1, .long v1_58), (3, .int v3_41), (4, .int v4_49), (5, .int v5_58)] [] (L_X10_digest_58 S31 v3_41 v4_49 k n v1_58 v5_58) := by
  have nn1 : 1 + 1 < E.2.2 := by rw [hE]; decide
  have n3 : 3 < E.2.2 := by rw [hE]; decide
  have n4 : 4 < E.2.2 := by rw [hE]; decide
  have n5 : 5 < E.2.2 := by rw [hE]; decide
  intro n
  induction n with
  | zero =>
    intro _ _
    exact r_none
  | succ n ih =>
    intro v1_58 v5_58
    rw [L_X10_digest_58]
    refine r_iload B 4 dX10_digest_58 rfl ?_
    refine r_iconst B (1 : Int32) dX10_digest_60 (by decide) ?_
    refine r_icmp_gt B 84 dX10_digest_61 (by decide) (fun _ => ?_) (fun _ => ?_)
    · refine r_sub [0, 1, 2, 3] rfl ?_
      exact hk v1_58
    · refine r_lload_n B 1 dX10_digest_64 rfl rfl ?_
      refine r_aload_n B 0 dX10_digest_65 rfl rfl ?_
      refine r_iload_n B 2 dX10_digest_66 rfl rfl ?_
      refine r_iload B 3 dX10_digest_67 rfl ?_
      refine r_iload B 4 dX10_digest_69 rfl ?_
      refine r_cL (zrunV (As := [.int v3_41, .int v4_49, .int v5_58]) (rest := [.long v1_58]) B 3 0 (fun b hb => k_X10_gaps B.2.2.1 hb) gX10_digest_X10_gaps rfl rfl rfl y_X10_gaps ⟨Nat.le_of_ble_eq_true rfl, Nat.le_of_ble_eq_true rfl⟩ (Nat.le_of_ble_eq_true rfl) rfl (cX_0 g _) rfl rfl rfl (Nat.le_of_ble_eq_true rfl) dX10_digest_71) (fun r71 => ?_)
      refine r_cL (zrunS (As := [.long v1_58, .long r71]) (rest := []) B 2 (fun b hb => k_X10_behind B.2.2.1 hb) gX10_digest_X10_behind rfl rfl rfl y_X10_behind ⟨Nat.le_of_ble_eq_true rfl, Nat.le_of_ble_eq_true rfl⟩ rfl rfl (Nat.le_of_ble_eq_true rfl) dX10_digest_74) (fun r74 => ?_)
      refine r_lstore_n (lv' := fun x1_77 => [(1, .long x1_77), (0, .ref (g.1 0)), (3, .int v3_41), (4, .int v4_49), (5, .int v5_58)]) B dX10_digest_77 rfl nn1 (fun _ => rfl) (fun x1_77 => ?_)
      refine r_iinc (lv' := fun x5_78 => [(5, .int x5_78), (1, .long x1_77), (0, .ref (g.1 0)), (3, .int v3_41), (4, .int v4_49)]) B 4 (1 : Int32) dX10_digest_78 rfl (by decide) n5 (fun _ => rfl) (fun x5_78 => ?_)
      refine r_goto B 58 dX10_digest_81 (by decide) ?_
      refine r_sub [2, 1, 3, 4, 0] rfl ?_
      exact ih x1_77 x5_78
set_option maxRecDepth 100000 in
set_option maxHeartbeats 4000000 in
theorem xL_X10_digest_49 {E : zCx} {g : zGx} (B : zGood E (WX g) (zT g) cX10_digest RX10 wsX10_digest (some .long) rm_X10_digest) (hE : E.2.2 = 6) (S31 : zSt) (v3_41 : Int32) (k : Int64 → Option (Int64 × zSt)) (hk : ∀ (w1 : Int64), Xo E (WX g) eLw S31 90 [(0, .ref (g.1 0)), (1, .long w1), (3, .int v3_41)] [] (k w1)) : ∀ (n : Nat) (v1_49 : Int64) (v4_49 : Int32), Xo E (WX g) eLw S31 49 [(0, .ref (g.1 0)), (1, .long v1_49), (3, .int v3_41), (4, .int v4_49)] [] (L_X10_digest_49 S31 v3_41 k n v1_49 v4_49) := by
  have nn1 : 1 + 1 < E.2.2 := by rw [hE]; decide
  have n3 : 3 < E.2.2 := by rw [hE]; decide
  have n4 : 4 < E.2.2 := by rw [hE]; decide
  have n5 : 5 < E.2.2 := by rw [hE]; decide
  intro n
  induction n with
  | zero =>
    intro _ _
    exact r_none
  | succ n ih =>
    intro v1_49 v4_49
    rw [L_X10_digest_49]
    refine r_iload B 3 dX10_digest_49 rfl ?_
    refine r_iconst B (2 : Int32) dX10_digest_51 (by decide) ?_
    refine r_icmp_gt B 90 dX10_digest_52 (by decide) (fun _ => ?_) (fun _ => ?_)
    · refine r_sub [0, 1, 2] rfl ?_
      exact hk v1_49
    · refine r_iconst B (0 : Int32) dX10_digest_55 (by decide) ?_
      refine r_istore (lv' := fun x5_56 => [(5, .int x5_56), (0, .ref (g.1 0)), (1, .long v1_49), (3, .int v3_41), (4, .int v4_49)]) B dX10_digest_56 n5 (fun _ => rfl) (fun x5_56 => ?_)
      refine r_sub [1, 2, 3, 4, 0] rfl ?_
      refine xL_X10_digest_58 B hE S31 v3_41 v4_49 _ ?_ 1000 v1_49 x5_56
      intro w1_58
      refine r_iinc (lv' := fun x4_84 => [(4, .int x4_84), (0, .ref (g.1 0)), (1, .long w1_58), (3, .int v3_41)]) B 3 (1 : Int32) dX10_digest_84 rfl (by decide) n4 (fun _ => rfl) (fun x4_84 => ?_)
      refine r_goto B 49 dX10_digest_87 (by decide) ?_
      refine r_sub [1, 2, 3, 0] rfl ?_
      exact ih w1_58 x4_84
set_option maxRecDepth 100000 in
set_option maxHeartbeats 4000000 in
theorem xL_X10_digest_41 {E : zCx} {g : zGx} (B : zGood E (WX g) (zT g) cX10_digest RX10 wsX10_digest (some .long) rm_X10_digest) (hE : E.2.2 = 6) (S31 : zSt) (k : Int64 → Option (Int64 × zSt)) (hk : ∀ (w1 : Int64), Xo E (WX g) eLw S31 96 [(0, .ref (g.1 0)), (1, .long w1)] [] (k w1)) : ∀ (n : Nat) (v1_41 : Int64) (v3_41 : Int32), Xo E (WX g) eLw S31 41 [(0, .ref (g.1 0)), (1, .long v1_41), (3, .int v3_41)] [] (L_X10_digest_41 S31 k n v1_41 v3_41) := by
  have nn1 : 1 + 1 < E.2.2 := by rw [hE]; decide
  have n3 : 3 < E.2.2 := by rw [hE]; decide
  have n4 : 4 < E.2.2 := by rw [hE]; decide
  have n5 : 5 < E.2.2 := by rw [hE]; decide
  intro n
  induction n with
  | zero =>
    intro _ _
    exact r_none
  | succ n ih =>
    intro v1_41 v3_41
    rw [L_X10_digest_41]
    refine r_iload_n B 2 dX10_digest_41 rfl rfl ?_
    refine r_iconst B (2 : Int32) dX10_digest_42 (by decide) ?_
    refine r_icmp_gt B 96 dX10_digest_43 (by decide) (fun _ => ?_) (fun _ => ?_)
    · refine r_sub [0, 1] rfl ?_
      exact hk v1_41
    · refine r_iconst B (0 : Int32) dX10_digest_46 (by decide) ?_
      refine r_istore (lv' := fun x4_47 => [(4, .int x4_47), (0, .ref (g.1 0)), (1, .long v1_41), (3, .int v3_41)]) B dX10_digest_47 n4 (fun _ => rfl) (fun x4_47 => ?_)
      refine r_sub [1, 2, 3, 0] rfl ?_
      refine xL_X10_digest_49 B hE S31 v3_41 _ ?_ 1000 v1_41 x4_47
      intro w1_49
      refine r_iinc (lv' := fun x3_90 => [(3, .int x3_90), (0, .ref (g.1 0)), (1, .long w1_49)]) B 2 (1 : Int32) dX10_digest_90 rfl (by decide) n3 (fun _ => rfl) (fun x3_90 => ?_)
      refine r_goto B 41 dX10_digest_93 (by decide) ?_
      refine r_sub [1, 2, 0] rfl ?_
      exact ih w1_49 x3_90
set_option maxRecDepth 100000 in
set_option maxHeartbeats 4000000 in
theorem xL_X10_digest_98 {E : zCx} {g : zGx} (B : zGood E (WX g) (zT g) cX10_digest RX10 wsX10_digest (some .long) rm_X10_digest) (hE : E.2.2 = 6)  (k : zSt → Int64 → Option (Int64 × zSt)) (hk : ∀ (S98x : zSt) (w1 : Int64), Xo E (WX g) eLw S98x 122 [(0, .ref (g.1 0)), (1, .long w1)] [] (k S98x w1)) : ∀ (n : Nat) (S98 : zSt) (v1_98 : Int64) (v3_98 : Int32), Xo E (WX g) eLw S98 98 [(0, .ref (g.1 0)), (1, .long v1_98), (3, .int v3_98)] [] (L_X10_digest_98 k n S98 v1_98 v3_98) := by
  have nn1 : 1 + 1 < E.2.2 := by rw [hE]; decide
  have n3 : 3 < E.2.2 := by rw [hE]; decide
  have n4 : 4 < E.2.2 := by rw [hE]; decide
  have n5 : 5 < E.2.2 := by rw [hE]; decide
  intro n
  induction n with
  | zero =>
    intro _ _ _
    exact r_none
  | succ n ih =>
    intro S98 v1_98 v3_98
    rw [L_X10_digest_98]
    refine r_iload_n B 2 dX10_digest_98 rfl rfl ?_
    refine r_iconst B (2 : Int32) dX10_digest_99 (by decide) ?_
    refine r_icmp_ge B 122 dX10_digest_100 (by decide) (fun _ => ?_) (fun _ => ?_)
    · refine r_sub [0, 1] rfl ?_
      exact hk S98 v1_98
    · refine r_lload_n B 1 dX10_digest_103 rfl rfl ?_
      refine r_aload_n B 0 dX10_digest_104 rfl rfl ?_
      refine r_iload_n B 2 dX10_digest_105 rfl rfl ?_
      refine r_iconst B (2 : Int32) dX10_digest_106 (by decide) ?_
      refine r_iconst B (-1 : Int32) dX10_digest_107 (by decide) ?_
      refine r_cIw (zrunV (As := [.int v3_98, .int (2 : Int32), .int (-1 : Int32)]) (rest := [.long v1_98]) B 3 0 (fun b hb => k_X10_held B.2.2.1 hb) gX10_digest_X10_held rfl rfl rfl y_X10_held ⟨Nat.le_of_ble_eq_true rfl, Nat.le_of_ble_eq_true rfl⟩ (Nat.le_of_ble_eq_true rfl) rfl (cX_0 g _) rfl rfl rfl (Nat.le_of_ble_eq_true rfl) dX10_digest_108) (fun r108 S108 => ?_)
      refine r_i2l B dX10_digest_111 ?_
      refine r_cL (zrunS (As := [.long v1_98, .long (r108.toInt64)]) (rest := []) B 2 (fun b hb => k_X10_behind B.2.2.1 hb) gX10_digest_X10_behind rfl rfl rfl y_X10_behind ⟨Nat.le_of_ble_eq_true rfl, Nat.le_of_ble_eq_true rfl⟩ rfl rfl (Nat.le_of_ble_eq_true rfl) dX10_digest_112) (fun r112 => ?_)
      refine r_lstore_n (lv' := fun x1_115 => [(1, .long x1_115), (0, .ref (g.1 0)), (3, .int v3_98)]) B dX10_digest_115 rfl nn1 (fun _ => rfl) (fun x1_115 => ?_)
      refine r_iinc (lv' := fun x3_116 => [(3, .int x3_116), (1, .long x1_115), (0, .ref (g.1 0))]) B 2 (1 : Int32) dX10_digest_116 rfl (by decide) n3 (fun _ => rfl) (fun x3_116 => ?_)
      refine r_goto B 98 dX10_digest_119 (by decide) ?_
      refine r_sub [2, 1, 0] rfl ?_
      exact ih S108 x1_115 x3_116
set_option maxRecDepth 100000 in
set_option maxHeartbeats 4000000 in
theorem xL_X10_digest_132 {E : zCx} {g : zGx} (B : zGood E (WX g) (zT g) cX10_digest RX10 wsX10_digest (some .long) rm_X10_digest) (hE : E.2.2 = 6) (S98x_98 : zSt) (v3_124 : Int32) (k : Int64 → Option (Int64 × zSt)) (hk : ∀ (w1 : Int64), Xo E (WX g) eLw S98x_98 156 [(0, .ref (g.1 0)), (1, .long w1), (3, .int v3_124)] [] (k w1)) : ∀ (n : Nat) (v1_132 : Int64) (v4_132 : Int32), Xo E (WX g) eLw S98x_98 132 [(0, .ref (g.1 0)), (1, .long v1_132), (3, .int v3_124), (4, .int v4_132)] [] (L_X10_digest_132 S98x_98 v3_124 k n v1_132 v4_132) := by
  have nn1 : 1 + 1 < E.2.2 := by rw [hE]; decide
  have n3 : 3 < E.2.2 := by rw [hE]; decide
  have n4 : 4 < E.2.2 := by rw [hE]; decide
  have n5 : 5 < E.2.2 := by rw [hE]; decide
  intro n
  induction n with
  | zero =>
    intro _ _
    exact r_none
  | succ n ih =>
    intro v1_132 v4_132
    rw [L_X10_digest_132]
    refine r_iload B 3 dX10_digest_132 rfl ?_
    refine r_iconst B (1 : Int32) dX10_digest_134 (by decide) ?_
    refine r_icmp_gt B 156 dX10_digest_135 (by decide) (fun _ => ?_) (fun _ => ?_)
    · refine r_sub [0, 1, 2] rfl ?_
      exact hk v1_132
    · refine r_lload_n B 1 dX10_digest_138 rfl rfl ?_
      refine r_aload_n B 0 dX10_digest_139 rfl rfl ?_
      refine r_iload_n B 2 dX10_digest_140 rfl rfl ?_
      refine r_iload B 3 dX10_digest_141 rfl ?_
      refine r_cL (zrunV (As := [.int v3_124, .int v4_132]) (rest := [.long v1_132]) B 2 0 (fun b hb => k_X10_size B.2.2.1 hb) gX10_digest_X10_size rfl rfl rfl y_X10_size ⟨Nat.le_of_ble_eq_true rfl, Nat.le_of_ble_eq_true rfl⟩ (Nat.le_of_ble_eq_true rfl) rfl (cX_0 g _) rfl rfl rfl (Nat.le_of_ble_eq_true rfl) dX10_digest_143) (fun r143 => ?_)
      refine r_cL (zrunS (As := [.long v1_132, .long r143]) (rest := []) B 2 (fun b hb => k_X10_behind B.2.2.1 hb) gX10_digest_X10_behind rfl rfl rfl y_X10_behind ⟨Nat.le_of_ble_eq_true rfl, Nat.le_of_ble_eq_true rfl⟩ rfl rfl (Nat.le_of_ble_eq_true rfl) dX10_digest_146) (fun r146 => ?_)
      refine r_lstore_n (lv' := fun x1_149 => [(1, .long x1_149), (0, .ref (g.1 0)), (3, .int v3_124), (4, .int v4_132)]) B dX10_digest_149 rfl nn1 (fun _ => rfl) (fun x1_149 => ?_)
      refine r_iinc (lv' := fun x4_150 => [(4, .int x4_150), (1, .long x1_149), (0, .ref (g.1 0)), (3, .int v3_124)]) B 3 (1 : Int32) dX10_digest_150 rfl (by decide) n4 (fun _ => rfl) (fun x4_150 => ?_)
      refine r_goto B 132 dX10_digest_153 (by decide) ?_
      refine r_sub [2, 1, 3, 0] rfl ?_
      exact ih x1_149 x4_150
set_option maxRecDepth 100000 in
set_option maxHeartbeats 4000000 in
theorem xL_X10_digest_124 {E : zCx} {g : zGx} (B : zGood E (WX g) (zT g) cX10_digest RX10 wsX10_digest (some .long) rm_X10_digest) (hE : E.2.2 = 6) (S98x_98 : zSt) (k : Int64 → Option (Int64 × zSt)) (hk : ∀ (w1 : Int64), Xo E (WX g) eLw S98x_98 162 [(0, .ref (g.1 0)), (1, .long w1)] [] (k w1)) : ∀ (n : Nat) (v1_124 : Int64) (v3_124 : Int32), Xo E (WX g) eLw S98x_98 124 [(0, .ref (g.1 0)), (1, .long v1_124), (3, .int v3_124)] [] (L_X10_digest_124 S98x_98 k n v1_124 v3_124) := by
  have nn1 : 1 + 1 < E.2.2 := by rw [hE]; decide
  have n3 : 3 < E.2.2 := by rw [hE]; decide
  have n4 : 4 < E.2.2 := by rw [hE]; decide
  have n5 : 5 < E.2.2 := by rw [hE]; decide
  intro n
  induction n with
  | zero =>
    intro _ _
    exact r_none
  | succ n ih =>
    intro v1_124 v3_124
    rw [L_X10_digest_124]
    refine r_iload_n B 2 dX10_digest_124 rfl rfl ?_
    refine r_iconst B (1 : Int32) dX10_digest_125 (by decide) ?_
    refine r_icmp_gt B 162 dX10_digest_126 (by decide) (fun _ => ?_) (fun _ => ?_)
    · refine r_sub [0, 1] rfl ?_
      exact hk v1_124
    · refine r_iconst B (0 : Int32) dX10_digest_129 (by decide) ?_
      refine r_istore (lv' := fun x4_130 => [(4, .int x4_130), (0, .ref (g.1 0)), (1, .long v1_124), (3, .int v3_124)]) B dX10_digest_130 n4 (fun _ => rfl) (fun x4_130 => ?_)
      refine r_sub [1, 2, 3, 0] rfl ?_
      refine xL_X10_digest_132 B hE S98x_98 v3_124 _ ?_ 1000 v1_124 x4_130
      intro w1_132
      refine r_iinc (lv' := fun x3_156 => [(3, .int x3_156), (0, .ref (g.1 0)), (1, .long w1_132)]) B 2 (1 : Int32) dX10_digest_156 rfl (by decide) n3 (fun _ => rfl) (fun x3_156 => ?_)
      refine r_goto B 124 dX10_digest_159 (by decide) ?_
      refine r_sub [1, 2, 0] rfl ?_
      exact ih w1_132 x3_156
set_option maxRecDepth 100000 in
set_option maxHeartbeats 4000000 in
theorem xL_X10_digest_174 {E : zCx} {g : zGx} (B : zGood E (WX g) (zT g) cX10_digest RX10 wsX10_digest (some .long) rm_X10_digest) (hE : E.2.2 = 6) (S98x_98 : zSt) (k : Int64 → Option (Int64 × zSt)) (hk : ∀ (w1 : Int64), Xo E (WX g) eLw S98x_98 200 [(0, .ref (g.1 0)), (1, .long w1)] [] (k w1)) : ∀ (n : Nat) (v1_174 : Int64) (v3_174 : Int32), Xo E (WX g) eLw S98x_98 174 [(0, .ref (g.1 0)), (1, .long v1_174), (3, .int v3_174)] [] (L_X10_digest_174 S98x_98 k n v1_174 v3_174) := by
  have nn1 : 1 + 1 < E.2.2 := by rw [hE]; decide
  have n3 : 3 < E.2.2 := by rw [hE]; decide
  have n4 : 4 < E.2.2 := by rw [hE]; decide
  have n5 : 5 < E.2.2 := by rw [hE]; decide
  intro n
  induction n with
  | zero =>
    intro _ _
    exact r_none
  | succ n ih =>
    intro v1_174 v3_174
    rw [L_X10_digest_174]
    refine r_iload_n B 2 dX10_digest_174 rfl rfl ?_
    refine r_iconst B (3 : Int32) dX10_digest_175 (by decide) ?_
    refine r_icmp_gt B 200 dX10_digest_176 (by decide) (fun _ => ?_) (fun _ => ?_)
    · refine r_sub [0, 1] rfl ?_
      exact hk v1_174
    · refine r_lload_n B 1 dX10_digest_179 rfl rfl ?_
      refine r_aload_n B 0 dX10_digest_180 rfl rfl ?_
      refine r_bipush B (10 : Int32) dX10_digest_181 (by decide) ?_
      refine r_bipush B (30 : Int32) dX10_digest_183 (by decide) ?_
      refine r_iload_n B 2 dX10_digest_185 rfl rfl ?_
      refine r_cI (zrunV (As := [.int (10 : Int32), .int (30 : Int32), .int v3_174]) (rest := [.long v1_174]) B 3 0 (fun b hb => k_X10_ward B.2.2.1 hb) gX10_digest_X10_ward rfl rfl rfl y_X10_ward ⟨Nat.le_of_ble_eq_true rfl, Nat.le_of_ble_eq_true rfl⟩ (Nat.le_of_ble_eq_true rfl) rfl (cX_0 g _) rfl rfl rfl (Nat.le_of_ble_eq_true rfl) dX10_digest_186) (fun r186 => ?_)
      refine r_i2l B dX10_digest_189 ?_
      refine r_cL (zrunS (As := [.long v1_174, .long (r186.toInt64)]) (rest := []) B 2 (fun b hb => k_X10_behind B.2.2.1 hb) gX10_digest_X10_behind rfl rfl rfl y_X10_behind ⟨Nat.le_of_ble_eq_true rfl, Nat.le_of_ble_eq_true rfl⟩ rfl rfl (Nat.le_of_ble_eq_true rfl) dX10_digest_190) (fun r190 => ?_)
      refine r_lstore_n (lv' := fun x1_193 => [(1, .long x1_193), (0, .ref (g.1 0)), (3, .int v3_174)]) B dX10_digest_193 rfl nn1 (fun _ => rfl) (fun x1_193 => ?_)
      refine r_iinc (lv' := fun x3_194 => [(3, .int x3_194), (1, .long x1_193), (0, .ref (g.1 0))]) B 2 (1 : Int32) dX10_digest_194 rfl (by decide) n3 (fun _ => rfl) (fun x3_194 => ?_)
      refine r_goto B 174 dX10_digest_197 (by decide) ?_
      refine r_sub [2, 1, 0] rfl ?_
      exact ih x1_193 x3_194
set_option maxRecDepth 100000 in
set_option maxHeartbeats 4000000 in
theorem xL_X10_digest_210 {E : zCx} {g : zGx} (B : zGood E (WX g) (zT g) cX10_digest RX10 wsX10_digest (some .long) rm_X10_digest) (hE : E.2.2 = 6) (S98x_98 : zSt) (v3_202 : Int32) (k : Int64 → Option (Int64 × zSt)) (hk : ∀ (w1 : Int64), Xo E (WX g) eLw S98x_98 238 [(0, .ref (g.1 0)), (1, .long w1), (3, .int v3_202)] [] (k w1)) : ∀ (n : Nat) (v1_210 : Int64) (v4_210 : Int32), Xo E (WX g) eLw S98x_98 210 [(0, .ref (g.1 0)), (1, .long v1_210), (3, .int v3_202), (4, .int v4_210)] [] (L_X10_digest_210 S98x_98 v3_202 k n v1_210 v4_210) := by
  have nn1 : 1 + 1 < E.2.2 := by rw [hE]; decide
  have n3 : 3 < E.2.2 := by rw [hE]; decide
  have n4 : 4 < E.2.2 := by rw [hE]; decide
  have n5 : 5 < E.2.2 := by rw [hE]; decide
  intro n
  induction n with
  | zero =>
    intro _ _
    exact r_none
  | succ n ih =>
    intro v1_210 v4_210
    rw [L_X10_digest_210]
    refine r_iload B 3 dX10_digest_210 rfl ?_
    refine r_iconst B (1 : Int32) dX10_digest_212 (by decide) ?_
    refine r_icmp_gt B 238 dX10_digest_213 (by decide) (fun _ => ?_) (fun _ => ?_)
    · refine r_sub [0, 1, 2] rfl ?_
      exact hk v1_210
    · refine r_lload_n B 1 dX10_digest_216 rfl rfl ?_
      refine r_aload_n B 0 dX10_digest_217 rfl rfl ?_
      refine r_bipush B (10 : Int32) dX10_digest_218 (by decide) ?_
      refine r_bipush B (30 : Int32) dX10_digest_220 (by decide) ?_
      refine r_iload_n B 2 dX10_digest_222 rfl rfl ?_
      refine r_iload B 3 dX10_digest_223 rfl ?_
      refine r_cL (zrunV (As := [.int (10 : Int32), .int (30 : Int32), .int v3_202, .int v4_210]) (rest := [.long v1_210]) B 4 0 (fun b hb => k_X10_means B.2.2.1 hb) gX10_digest_X10_means rfl rfl rfl y_X10_means ⟨Nat.le_of_ble_eq_true rfl, Nat.le_of_ble_eq_true rfl⟩ (Nat.le_of_ble_eq_true rfl) rfl (cX_0 g _) rfl rfl rfl (Nat.le_of_ble_eq_true rfl) dX10_digest_225) (fun r225 => ?_)
      refine r_cL (zrunS (As := [.long v1_210, .long r225]) (rest := []) B 2 (fun b hb => k_X10_behind B.2.2.1 hb) gX10_digest_X10_behind rfl rfl rfl y_X10_behind ⟨Nat.le_of_ble_eq_true rfl, Nat.le_of_ble_eq_true rfl⟩ rfl rfl (Nat.le_of_ble_eq_true rfl) dX10_digest_228) (fun r228 => ?_)
      refine r_lstore_n (lv' := fun x1_231 => [(1, .long x1_231), (0, .ref (g.1 0)), (3, .int v3_202), (4, .int v4_210)]) B dX10_digest_231 rfl nn1 (fun _ => rfl) (fun x1_231 => ?_)
      refine r_iinc (lv' := fun x4_232 => [(4, .int x4_232), (1, .long x1_231), (0, .ref (g.1 0)), (3, .int v3_202)]) B 3 (1 : Int32) dX10_digest_232 rfl (by decide) n4 (fun _ => rfl) (fun x4_232 => ?_)
      refine r_goto B 210 dX10_digest_235 (by decide) ?_
      refine r_sub [2, 1, 3, 0] rfl ?_
      exact ih x1_231 x4_232
set_option maxRecDepth 100000 in
set_option maxHeartbeats 4000000 in
theorem xL_X10_digest_202 {E : zCx} {g : zGx} (B : zGood E (WX g) (zT g) cX10_digest RX10 wsX10_digest (some .long) rm_X10_digest) (hE : E.2.2 = 6) (S98x_98 : zSt) (k : Int64 → Option (Int64 × zSt)) (hk : ∀ (w1 : Int64), Xo E (WX g) eLw S98x_98 244 [(0, .ref (g.1 0)), (1, .long w1)] [] (k w1)) : ∀ (n : Nat) (v1_202 : Int64) (v3_202 : Int32), Xo E (WX g) eLw S98x_98 202 [(0, .ref (g.1 0)), (1, .long v1_202), (3, .int v3_202)] [] (L_X10_digest_202 S98x_98 k n v1_202 v3_202) := by
  have nn1 : 1 + 1 < E.2.2 := by rw [hE]; decide
  have n3 : 3 < E.2.2 := by rw [hE]; decide
  have n4 : 4 < E.2.2 := by rw [hE]; decide
  have n5 : 5 < E.2.2 := by rw [hE]; decide
  intro n
  induction n with
  | zero =>
    intro _ _
    exact r_none
  | succ n ih =>
    intro v1_202 v3_202
    rw [L_X10_digest_202]
    refine r_iload_n B 2 dX10_digest_202 rfl rfl ?_
    refine r_iconst B (5 : Int32) dX10_digest_203 (by decide) ?_
    refine r_icmp_gt B 244 dX10_digest_204 (by decide) (fun _ => ?_) (fun _ => ?_)
    · refine r_sub [0, 1] rfl ?_
      exact hk v1_202
    · refine r_iconst B (0 : Int32) dX10_digest_207 (by decide) ?_
      refine r_istore (lv' := fun x4_208 => [(4, .int x4_208), (0, .ref (g.1 0)), (1, .long v1_202), (3, .int v3_202)]) B dX10_digest_208 n4 (fun _ => rfl) (fun x4_208 => ?_)
      refine r_sub [1, 2, 3, 0] rfl ?_
      refine xL_X10_digest_210 B hE S98x_98 v3_202 _ ?_ 1000 v1_202 x4_208
      intro w1_210
      refine r_iinc (lv' := fun x3_238 => [(3, .int x3_238), (0, .ref (g.1 0)), (1, .long w1_210)]) B 2 (1 : Int32) dX10_digest_238 rfl (by decide) n3 (fun _ => rfl) (fun x3_238 => ?_)
      refine r_goto B 202 dX10_digest_241 (by decide) ?_
      refine r_sub [1, 2, 0] rfl ?_
      exact ih w1_210 x3_238
set_option maxRecDepth 100000 in
set_option maxHeartbeats 4000000 in
theorem xL_X10_digest_246 {E : zCx} {g : zGx} (B : zGood E (WX g) (zT g) cX10_digest RX10 wsX10_digest (some .long) rm_X10_digest) (hE : E.2.2 = 6) (S98x_98 : zSt) (k : Int64 → Option (Int64 × zSt)) (hk : ∀ (w1 : Int64), Xo E (WX g) eLw S98x_98 268 [(0, .ref (g.1 0)), (1, .long w1)] [] (k w1)) : ∀ (n : Nat) (v1_246 : Int64) (v3_246 : Int32), Xo E (WX g) eLw S98x_98 246 [(0, .ref (g.1 0)), (1, .long v1_246), (3, .int v3_246)] [] (L_X10_digest_246 S98x_98 k n v1_246 v3_246) := by
  have nn1 : 1 + 1 < E.2.2 := by rw [hE]; decide
  have n3 : 3 < E.2.2 := by rw [hE]; decide
  have n4 : 4 < E.2.2 := by rw [hE]; decide
  have n5 : 5 < E.2.2 := by rw [hE]; decide
  intro n
  induction n with
  | zero =>
    intro _ _
    exact r_none
  | succ n ih =>
    intro v1_246 v3_246
    rw [L_X10_digest_246]
    refine r_iload_n B 2 dX10_digest_246 rfl rfl ?_
    refine r_iconst B (2 : Int32) dX10_digest_247 (by decide) ?_
    refine r_icmp_gt B 268 dX10_digest_248 (by decide) (fun _ => ?_) (fun _ => ?_)
    · refine r_sub [0, 1] rfl ?_
      exact hk v1_246
    · refine r_lload_n B 1 dX10_digest_251 rfl rfl ?_
      refine r_aload_n B 0 dX10_digest_252 rfl rfl ?_
      refine r_iload_n B 2 dX10_digest_253 rfl rfl ?_
      refine r_cI (zrunV (As := [.int v3_246]) (rest := [.long v1_246]) B 1 0 (fun b hb => k_X10_fullest B.2.2.1 hb) gX10_digest_X10_fullest rfl rfl rfl y_X10_fullest ⟨Nat.le_of_ble_eq_true rfl, Nat.le_of_ble_eq_true rfl⟩ (Nat.le_of_ble_eq_true rfl) rfl (cX_0 g _) rfl rfl rfl (Nat.le_of_ble_eq_true rfl) dX10_digest_254) (fun r254 => ?_)
      refine r_i2l B dX10_digest_257 ?_
      refine r_cL (zrunS (As := [.long v1_246, .long (r254.toInt64)]) (rest := []) B 2 (fun b hb => k_X10_behind B.2.2.1 hb) gX10_digest_X10_behind rfl rfl rfl y_X10_behind ⟨Nat.le_of_ble_eq_true rfl, Nat.le_of_ble_eq_true rfl⟩ rfl rfl (Nat.le_of_ble_eq_true rfl) dX10_digest_258) (fun r258 => ?_)
      refine r_lstore_n (lv' := fun x1_261 => [(1, .long x1_261), (0, .ref (g.1 0)), (3, .int v3_246)]) B dX10_digest_261 rfl nn1 (fun _ => rfl) (fun x1_261 => ?_)
      refine r_iinc (lv' := fun x3_262 => [(3, .int x3_262), (1, .long x1_261), (0, .ref (g.1 0))]) B 2 (1 : Int32) dX10_digest_262 rfl (by decide) n3 (fun _ => rfl) (fun x3_262 => ?_)
      refine r_goto B 246 dX10_digest_265 (by decide) ?_
      refine r_sub [2, 1, 0] rfl ?_
      exact ih x1_261 x3_262
set_option maxRecDepth 100000 in
set_option maxHeartbeats 4000000 in
theorem xL_X10_digest_278 {E : zCx} {g : zGx} (B : zGood E (WX g) (zT g) cX10_digest RX10 wsX10_digest (some .long) rm_X10_digest) (hE : E.2.2 = 6) (S98x_98 : zSt) (v3_270 : Int32) (k : Int64 → Option (Int64 × zSt)) (hk : ∀ (w1 : Int64), Xo E (WX g) eLw S98x_98 302 [(0, .ref (g.1 0)), (1, .long w1), (3, .int v3_270)] [] (k w1)) : ∀ (n : Nat) (v1_278 : Int64) (v4_278 : Int32), Xo E (WX g) eLw S98x_98 278 [(0, .ref (g.1 0)), (1, .long v1_278), (3, .int v3_270), (4, .int v4_278)] [] (L_X10_digest_278 S98x_98 v3_270 k n v1_278 v4_278) := by
  have nn1 : 1 + 1 < E.2.2 := by rw [hE]; decide
  have n3 : 3 < E.2.2 := by rw [hE]; decide
  have n4 : 4 < E.2.2 := by rw [hE]; decide
  have n5 : 5 < E.2.2 := by rw [hE]; decide
  intro n
  induction n with
  | zero =>
    intro _ _
    exact r_none
  | succ n ih =>
    intro v1_278 v4_278
    rw [L_X10_digest_278]
    refine r_iload B 3 dX10_digest_278 rfl ?_
    refine r_iconst B (1 : Int32) dX10_digest_280 (by decide) ?_
    refine r_icmp_gt B 302 dX10_digest_281 (by decide) (fun _ => ?_) (fun _ => ?_)
    · refine r_sub [0, 1, 2] rfl ?_
      exact hk v1_278
    · refine r_lload_n B 1 dX10_digest_284 rfl rfl ?_
      refine r_aload_n B 0 dX10_digest_285 rfl rfl ?_
      refine r_iload_n B 2 dX10_digest_286 rfl rfl ?_
      refine r_iload B 3 dX10_digest_287 rfl ?_
      refine r_cL (zrunV (As := [.int v3_270, .int v4_278]) (rest := [.long v1_278]) B 2 0 (fun b hb => k_X10_mean B.2.2.1 hb) gX10_digest_X10_mean rfl rfl rfl y_X10_mean ⟨Nat.le_of_ble_eq_true rfl, Nat.le_of_ble_eq_true rfl⟩ (Nat.le_of_ble_eq_true rfl) rfl (cX_0 g _) rfl rfl rfl (Nat.le_of_ble_eq_true rfl) dX10_digest_289) (fun r289 => ?_)
      refine r_cL (zrunS (As := [.long v1_278, .long r289]) (rest := []) B 2 (fun b hb => k_X10_behind B.2.2.1 hb) gX10_digest_X10_behind rfl rfl rfl y_X10_behind ⟨Nat.le_of_ble_eq_true rfl, Nat.le_of_ble_eq_true rfl⟩ rfl rfl (Nat.le_of_ble_eq_true rfl) dX10_digest_292) (fun r292 => ?_)
      refine r_lstore_n (lv' := fun x1_295 => [(1, .long x1_295), (0, .ref (g.1 0)), (3, .int v3_270), (4, .int v4_278)]) B dX10_digest_295 rfl nn1 (fun _ => rfl) (fun x1_295 => ?_)
      refine r_iinc (lv' := fun x4_296 => [(4, .int x4_296), (1, .long x1_295), (0, .ref (g.1 0)), (3, .int v3_270)]) B 3 (1 : Int32) dX10_digest_296 rfl (by decide) n4 (fun _ => rfl) (fun x4_296 => ?_)
      refine r_goto B 278 dX10_digest_299 (by decide) ?_
      refine r_sub [2, 1, 3, 0] rfl ?_
      exact ih x1_295 x4_296
set_option maxRecDepth 100000 in
set_option maxHeartbeats 4000000 in
theorem xL_X10_digest_270 {E : zCx} {g : zGx} (B : zGood E (WX g) (zT g) cX10_digest RX10 wsX10_digest (some .long) rm_X10_digest) (hE : E.2.2 = 6) (S98x_98 : zSt) (k : Int64 → Option (Int64 × zSt)) (hk : ∀ (w1 : Int64), Xo E (WX g) eLw S98x_98 308 [(0, .ref (g.1 0)), (1, .long w1)] [] (k w1)) : ∀ (n : Nat) (v1_270 : Int64) (v3_270 : Int32), Xo E (WX g) eLw S98x_98 270 [(0, .ref (g.1 0)), (1, .long v1_270), (3, .int v3_270)] [] (L_X10_digest_270 S98x_98 k n v1_270 v3_270) := by
  have nn1 : 1 + 1 < E.2.2 := by rw [hE]; decide
  have n3 : 3 < E.2.2 := by rw [hE]; decide
  have n4 : 4 < E.2.2 := by rw [hE]; decide
  have n5 : 5 < E.2.2 := by rw [hE]; decide
  intro n
  induction n with
  | zero =>
    intro _ _
    exact r_none
  | succ n ih =>
    intro v1_270 v3_270
    rw [L_X10_digest_270]
    refine r_iload_n B 2 dX10_digest_270 rfl rfl ?_
    refine r_iconst B (2 : Int32) dX10_digest_271 (by decide) ?_
    refine r_icmp_gt B 308 dX10_digest_272 (by decide) (fun _ => ?_) (fun _ => ?_)
    · refine r_sub [0, 1] rfl ?_
      exact hk v1_270
    · refine r_iconst B (0 : Int32) dX10_digest_275 (by decide) ?_
      refine r_istore (lv' := fun x4_276 => [(4, .int x4_276), (0, .ref (g.1 0)), (1, .long v1_270), (3, .int v3_270)]) B dX10_digest_276 n4 (fun _ => rfl) (fun x4_276 => ?_)
      refine r_sub [1, 2, 3, 0] rfl ?_
      refine xL_X10_digest_278 B hE S98x_98 v3_270 _ ?_ 1000 v1_270 x4_276
      intro w1_278
      refine r_iinc (lv' := fun x3_302 => [(3, .int x3_302), (0, .ref (g.1 0)), (1, .long w1_278)]) B 2 (1 : Int32) dX10_digest_302 rfl (by decide) n3 (fun _ => rfl) (fun x3_302 => ?_)
      refine r_goto B 270 dX10_digest_305 (by decide) ?_
      refine r_sub [1, 2, 0] rfl ?_
      exact ih w1_278 x3_302
set_option maxRecDepth 100000 in
set_option maxHeartbeats 4000000 in
theorem xL_X10_digest_340 {E : zCx} {g : zGx} (B : zGood E (WX g) (zT g) cX10_digest RX10 wsX10_digest (some .long) rm_X10_digest) (hE : E.2.2 = 6) (S98x_98 : zSt) (v3_332 : Int32) (k : Int64 → Option (Int64 × zSt)) (hk : ∀ (w1 : Int64), Xo E (WX g) eLw S98x_98 365 [(0, .ref (g.1 0)), (1, .long w1), (3, .int v3_332)] [] (k w1)) : ∀ (n : Nat) (v1_340 : Int64) (v4_340 : Int32), Xo E (WX g) eLw S98x_98 340 [(0, .ref (g.1 0)), (1, .long v1_340), (3, .int v3_332), (4, .int v4_340)] [] (L_X10_digest_340 S98x_98 v3_332 k n v1_340 v4_340) := by
  have nn1 : 1 + 1 < E.2.2 := by rw [hE]; decide
  have n3 : 3 < E.2.2 := by rw [hE]; decide
  have n4 : 4 < E.2.2 := by rw [hE]; decide
  have n5 : 5 < E.2.2 := by rw [hE]; decide
  intro n
  induction n with
  | zero =>
    intro _ _
    exact r_none
  | succ n ih =>
    intro v1_340 v4_340
    rw [L_X10_digest_340]
    refine r_iload B 3 dX10_digest_340 rfl ?_
    refine r_iconst B (1 : Int32) dX10_digest_342 (by decide) ?_
    refine r_icmp_gt B 365 dX10_digest_343 (by decide) (fun _ => ?_) (fun _ => ?_)
    · refine r_sub [0, 1, 2] rfl ?_
      exact hk v1_340
    · refine r_lload_n B 1 dX10_digest_346 rfl rfl ?_
      refine r_aload_n B 0 dX10_digest_347 rfl rfl ?_
      refine r_iload_n B 2 dX10_digest_348 rfl rfl ?_
      refine r_iconst B (1 : Int32) dX10_digest_349 (by decide) ?_
      refine r_iload B 3 dX10_digest_350 rfl ?_
      refine r_cL (zrunV (As := [.int v3_332, .int (1 : Int32), .int v4_340]) (rest := [.long v1_340]) B 3 0 (fun b hb => k_X10_stick B.2.2.1 hb) gX10_digest_X10_stick rfl rfl rfl y_X10_stick ⟨Nat.le_of_ble_eq_true rfl, Nat.le_of_ble_eq_true rfl⟩ (Nat.le_of_ble_eq_true rfl) rfl (cX_0 g _) rfl rfl rfl (Nat.le_of_ble_eq_true rfl) dX10_digest_352) (fun r352 => ?_)
      refine r_cL (zrunS (As := [.long v1_340, .long r352]) (rest := []) B 2 (fun b hb => k_X10_behind B.2.2.1 hb) gX10_digest_X10_behind rfl rfl rfl y_X10_behind ⟨Nat.le_of_ble_eq_true rfl, Nat.le_of_ble_eq_true rfl⟩ rfl rfl (Nat.le_of_ble_eq_true rfl) dX10_digest_355) (fun r355 => ?_)
      refine r_lstore_n (lv' := fun x1_358 => [(1, .long x1_358), (0, .ref (g.1 0)), (3, .int v3_332), (4, .int v4_340)]) B dX10_digest_358 rfl nn1 (fun _ => rfl) (fun x1_358 => ?_)
      refine r_iinc (lv' := fun x4_359 => [(4, .int x4_359), (1, .long x1_358), (0, .ref (g.1 0)), (3, .int v3_332)]) B 3 (1 : Int32) dX10_digest_359 rfl (by decide) n4 (fun _ => rfl) (fun x4_359 => ?_)
      refine r_goto B 340 dX10_digest_362 (by decide) ?_
      refine r_sub [2, 1, 3, 0] rfl ?_
      exact ih x1_358 x4_359
set_option maxRecDepth 100000 in
set_option maxHeartbeats 4000000 in
theorem xL_X10_digest_332 {E : zCx} {g : zGx} (B : zGood E (WX g) (zT g) cX10_digest RX10 wsX10_digest (some .long) rm_X10_digest) (hE : E.2.2 = 6) (S98x_98 : zSt) (k : Int64 → Option (Int64 × zSt)) (hk : ∀ (w1 : Int64), Xo E (WX g) eLw S98x_98 371 [(1, .long w1)] [] (k w1)) : ∀ (n : Nat) (v1_332 : Int64) (v3_332 : Int32), Xo E (WX g) eLw S98x_98 332 [(0, .ref (g.1 0)), (1, .long v1_332), (3, .int v3_332)] [] (L_X10_digest_332 S98x_98 k n v1_332 v3_332) := by
  have nn1 : 1 + 1 < E.2.2 := by rw [hE]; decide
  have n3 : 3 < E.2.2 := by rw [hE]; decide
  have n4 : 4 < E.2.2 := by rw [hE]; decide
  have n5 : 5 < E.2.2 := by rw [hE]; decide
  intro n
  induction n with
  | zero =>
    intro _ _
    exact r_none
  | succ n ih =>
    intro v1_332 v3_332
    rw [L_X10_digest_332]
    refine r_iload_n B 2 dX10_digest_332 rfl rfl ?_
    refine r_iconst B (2 : Int32) dX10_digest_333 (by decide) ?_
    refine r_icmp_gt B 371 dX10_digest_334 (by decide) (fun _ => ?_) (fun _ => ?_)
    · refine r_sub [1] rfl ?_
      exact hk v1_332
    · refine r_iconst B (0 : Int32) dX10_digest_337 (by decide) ?_
      refine r_istore (lv' := fun x4_338 => [(4, .int x4_338), (0, .ref (g.1 0)), (1, .long v1_332), (3, .int v3_332)]) B dX10_digest_338 n4 (fun _ => rfl) (fun x4_338 => ?_)
      refine r_sub [1, 2, 3, 0] rfl ?_
      refine xL_X10_digest_340 B hE S98x_98 v3_332 _ ?_ 1000 v1_332 x4_338
      intro w1_340
      refine r_iinc (lv' := fun x3_365 => [(3, .int x3_365), (0, .ref (g.1 0)), (1, .long w1_340)]) B 2 (1 : Int32) dX10_digest_365 rfl (by decide) n3 (fun _ => rfl) (fun x3_365 => ?_)
      refine r_goto B 332 dX10_digest_368 (by decide) ?_
      refine r_sub [1, 2, 0] rfl ?_
      exact ih w1_340 x3_365
set_option maxRecDepth 100000 in
set_option maxHeartbeats 4000000 in
theorem x_X10_digest {E : zCx} {g : zGx} (B : zGood E (WX g) (zT g) cX10_digest RX10 wsX10_digest (some .long) rm_X10_digest) (hE : E.2.2 = 6) (S : zSt) : Xo E (WX g) eLw S 0 [(0, .ref (g.1 0))] [] (F_X10_digest S) := by
  have nn1 : 1 + 1 < E.2.2 := by rw [hE]; decide
  have n3 : 3 < E.2.2 := by rw [hE]; decide
  have n4 : 4 < E.2.2 := by rw [hE]; decide
  have n5 : 5 < E.2.2 := by rw [hE]; decide
  unfold F_X10_digest
  refine r_ldc2 B (17 : Int64) m_X10_digest_c325 dX10_digest_0 ?_
  refine r_lstore_n (lv' := fun x1_3 => [(1, .long x1_3), (0, .ref (g.1 0))]) B dX10_digest_3 rfl nn1 (fun _ => rfl) (fun x1_3 => ?_)
  refine r_iconst B (0 : Int32) dX10_digest_4 (by decide) ?_
  refine r_istore_n (lv' := fun x3_5 => [(3, .int x3_5), (1, .long x1_3), (0, .ref (g.1 0))]) B dX10_digest_5 rfl n3 (fun _ => rfl) (fun x3_5 => ?_)
  refine r_sub [2, 1, 0] rfl ?_
  refine xL_X10_digest_6 B hE S _ ?_ 1000 x1_3 x3_5
  intro w1_6
  refine r_lload_n B 1 dX10_digest_29 rfl rfl ?_
  refine r_aload_n B 0 dX10_digest_30 rfl rfl ?_
  refine r_cIw (zrunV (As := []) (rest := [.long w1_6]) B 0 0 (fun b hb => k_X10_fault B.2.2.1 hb) gX10_digest_X10_fault rfl rfl rfl y_X10_fault ⟨Nat.le_of_ble_eq_true rfl, Nat.le_of_ble_eq_true rfl⟩ (Nat.le_of_ble_eq_true rfl) rfl (cX_0 g _) rfl rfl rfl (Nat.le_of_ble_eq_true rfl) dX10_digest_31) (fun r31 S31 => ?_)
  refine r_i2l B dX10_digest_34 ?_
  refine r_cL (zrunS (As := [.long w1_6, .long (r31.toInt64)]) (rest := []) B 2 (fun b hb => k_X10_behind B.2.2.1 hb) gX10_digest_X10_behind rfl rfl rfl y_X10_behind ⟨Nat.le_of_ble_eq_true rfl, Nat.le_of_ble_eq_true rfl⟩ rfl rfl (Nat.le_of_ble_eq_true rfl) dX10_digest_35) (fun r35 => ?_)
  refine r_lstore_n (lv' := fun x1_38 => [(1, .long x1_38), (0, .ref (g.1 0))]) B dX10_digest_38 rfl nn1 (fun _ => rfl) (fun x1_38 => ?_)
  refine r_iconst B (0 : Int32) dX10_digest_39 (by decide) ?_
  refine r_istore_n (lv' := fun x3_40 => [(3, .int x3_40), (1, .long x1_38), (0, .ref (g.1 0))]) B dX10_digest_40 rfl n3 (fun _ => rfl) (fun x3_40 => ?_)
  refine r_sub [2, 1, 0] rfl ?_
  refine xL_X10_digest_41 B hE S31 _ ?_ 1000 x1_38 x3_40
  intro w1_41
  refine r_iconst B (0 : Int32) dX10_digest_96 (by decide) ?_
  refine r_istore_n (lv' := fun x3_97 => [(3, .int x3_97), (0, .ref (g.1 0)), (1, .long w1_41)]) B dX10_digest_97 rfl n3 (fun _ => rfl) (fun x3_97 => ?_)
  refine r_sub [1, 2, 0] rfl ?_
  refine xL_X10_digest_98 B hE  _ ?_ 1000 S31 w1_41 x3_97
  intro S98x_98 w1_98
  refine r_iconst B (0 : Int32) dX10_digest_122 (by decide) ?_
  refine r_istore_n (lv' := fun x3_123 => [(3, .int x3_123), (0, .ref (g.1 0)), (1, .long w1_98)]) B dX10_digest_123 rfl n3 (fun _ => rfl) (fun x3_123 => ?_)
  refine r_sub [1, 2, 0] rfl ?_
  refine xL_X10_digest_124 B hE S98x_98 _ ?_ 1000 w1_98 x3_123
  intro w1_124
  refine r_lload_n B 1 dX10_digest_162 rfl rfl ?_
  refine r_aload_n B 0 dX10_digest_163 rfl rfl ?_
  refine r_cI (zrunV (As := []) (rest := [.long w1_124]) B 0 0 (fun b hb => k_X10_likeliest B.2.2.1 hb) gX10_digest_X10_likeliest rfl rfl rfl y_X10_likeliest ⟨Nat.le_of_ble_eq_true rfl, Nat.le_of_ble_eq_true rfl⟩ (Nat.le_of_ble_eq_true rfl) rfl (cX_0 g _) rfl rfl rfl (Nat.le_of_ble_eq_true rfl) dX10_digest_164) (fun r164 => ?_)
  refine r_i2l B dX10_digest_167 ?_
  refine r_cL (zrunS (As := [.long w1_124, .long (r164.toInt64)]) (rest := []) B 2 (fun b hb => k_X10_behind B.2.2.1 hb) gX10_digest_X10_behind rfl rfl rfl y_X10_behind ⟨Nat.le_of_ble_eq_true rfl, Nat.le_of_ble_eq_true rfl⟩ rfl rfl (Nat.le_of_ble_eq_true rfl) dX10_digest_168) (fun r168 => ?_)
  refine r_lstore_n (lv' := fun x1_171 => [(1, .long x1_171), (0, .ref (g.1 0))]) B dX10_digest_171 rfl nn1 (fun _ => rfl) (fun x1_171 => ?_)
  refine r_iconst B (0 : Int32) dX10_digest_172 (by decide) ?_
  refine r_istore_n (lv' := fun x3_173 => [(3, .int x3_173), (1, .long x1_171), (0, .ref (g.1 0))]) B dX10_digest_173 rfl n3 (fun _ => rfl) (fun x3_173 => ?_)
  refine r_sub [2, 1, 0] rfl ?_
  refine xL_X10_digest_174 B hE S98x_98 _ ?_ 1000 x1_171 x3_173
  intro w1_174
  refine r_iconst B (0 : Int32) dX10_digest_200 (by decide) ?_
  refine r_istore_n (lv' := fun x3_201 => [(3, .int x3_201), (0, .ref (g.1 0)), (1, .long w1_174)]) B dX10_digest_201 rfl n3 (fun _ => rfl) (fun x3_201 => ?_)
  refine r_sub [1, 2, 0] rfl ?_
  refine xL_X10_digest_202 B hE S98x_98 _ ?_ 1000 w1_174 x3_201
  intro w1_202
  refine r_iconst B (0 : Int32) dX10_digest_244 (by decide) ?_
  refine r_istore_n (lv' := fun x3_245 => [(3, .int x3_245), (0, .ref (g.1 0)), (1, .long w1_202)]) B dX10_digest_245 rfl n3 (fun _ => rfl) (fun x3_245 => ?_)
  refine r_sub [1, 2, 0] rfl ?_
  refine xL_X10_digest_246 B hE S98x_98 _ ?_ 1000 w1_202 x3_245
  intro w1_246
  refine r_iconst B (0 : Int32) dX10_digest_268 (by decide) ?_
  refine r_istore_n (lv' := fun x3_269 => [(3, .int x3_269), (0, .ref (g.1 0)), (1, .long w1_246)]) B dX10_digest_269 rfl n3 (fun _ => rfl) (fun x3_269 => ?_)
  refine r_sub [1, 2, 0] rfl ?_
  refine xL_X10_digest_270 B hE S98x_98 _ ?_ 1000 w1_246 x3_269
  intro w1_270
  refine r_lload_n B 1 dX10_digest_308 rfl rfl ?_
  refine r_aload_n B 0 dX10_digest_309 rfl rfl ?_
  refine r_cI (zrunV (As := []) (rest := [.long w1_270]) B 0 0 (fun b hb => k_X10_fewer B.2.2.1 hb) gX10_digest_X10_fewer rfl rfl rfl y_X10_fewer ⟨Nat.le_of_ble_eq_true rfl, Nat.le_of_ble_eq_true rfl⟩ (Nat.le_of_ble_eq_true rfl) rfl (cX_0 g _) rfl rfl rfl (Nat.le_of_ble_eq_true rfl) dX10_digest_310) (fun r310 => ?_)
  refine r_i2l B dX10_digest_313 ?_
  refine r_cL (zrunS (As := [.long w1_270, .long (r310.toInt64)]) (rest := []) B 2 (fun b hb => k_X10_behind B.2.2.1 hb) gX10_digest_X10_behind rfl rfl rfl y_X10_behind ⟨Nat.le_of_ble_eq_true rfl, Nat.le_of_ble_eq_true rfl⟩ rfl rfl (Nat.le_of_ble_eq_true rfl) dX10_digest_314) (fun r314 => ?_)
  refine r_lstore_n (lv' := fun x1_317 => [(1, .long x1_317), (0, .ref (g.1 0))]) B dX10_digest_317 rfl nn1 (fun _ => rfl) (fun x1_317 => ?_)
  refine r_lload_n B 0 dX10_digest_318 rfl rfl ?_
  refine r_aload_n B 1 dX10_digest_319 rfl rfl ?_
  refine r_iconst B (2 : Int32) dX10_digest_320 (by decide) ?_
  refine r_iconst B (0 : Int32) dX10_digest_321 (by decide) ?_
  refine r_cI (zrunV (As := [.int (2 : Int32), .int (0 : Int32)]) (rest := [.long x1_317]) B 2 0 (fun b hb => k_X10_best B.2.2.1 hb) gX10_digest_X10_best rfl rfl rfl y_X10_best ⟨Nat.le_of_ble_eq_true rfl, Nat.le_of_ble_eq_true rfl⟩ (Nat.le_of_ble_eq_true rfl) rfl (cX_0 g _) rfl rfl rfl (Nat.le_of_ble_eq_true rfl) dX10_digest_322) (fun r322 => ?_)
  refine r_i2l B dX10_digest_325 ?_
  refine r_cL (zrunS (As := [.long x1_317, .long (r322.toInt64)]) (rest := []) B 2 (fun b hb => k_X10_behind B.2.2.1 hb) gX10_digest_X10_behind rfl rfl rfl y_X10_behind ⟨Nat.le_of_ble_eq_true rfl, Nat.le_of_ble_eq_true rfl⟩ rfl rfl (Nat.le_of_ble_eq_true rfl) dX10_digest_326) (fun r326 => ?_)
  refine r_lstore_n (lv' := fun x1_329 => [(1, .long x1_329), (0, .ref (g.1 0))]) B dX10_digest_329 rfl nn1 (fun _ => rfl) (fun x1_329 => ?_)
  refine r_iconst B (0 : Int32) dX10_digest_330 (by decide) ?_
  refine r_istore_n (lv' := fun x3_331 => [(3, .int x3_331), (1, .long x1_329), (0, .ref (g.1 0))]) B dX10_digest_331 rfl n3 (fun _ => rfl) (fun x3_331 => ?_)
  refine r_sub [2, 1, 0] rfl ?_
  refine xL_X10_digest_332 B hE S98x_98 _ ?_ 1000 x1_329 x3_331
  intro w1_332
  refine r_lload_n B 0 dX10_digest_371 rfl rfl ?_
  exact r_lret B dX10_digest_372 rfl
set_option maxRecDepth 20000 in
theorem k_X10_digest {l : Launch} {D : va_G} {g : zGx} (hz : zin (WX g)) {S : zSt} {b : (Int64 × zSt)} (h : F_X10_digest S = some b) : zMet l D (WX g) (zT g) yX10_digest wsX10_digest rm_X10_digest S [.ref (g.1 0)] (eLw b) := zmet_of (by decide +kernel) rfl hz (Nat.le_of_ble_eq_true rfl) rfl (fun E _ _ hE B => x_X10_digest B hE S) h
