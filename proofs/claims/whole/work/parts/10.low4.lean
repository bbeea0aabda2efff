set_option maxRecDepth 100000 in
def F_X9_weight (S : zSt) (a1 : Int32) (a2 : Int32) (a3 : Int32) (a4 : Int32) : Option Int64 :=
 ibd a1 24 (ibd a1 24 (lt (((zA S 20 a1.toNatClampNeg) - (zA S 19 a1.toNatClampNeg)) + (1 : Int32)) (fun x5_15 : Int32 =>
 ibd a1 24 (ibd a1 24 (lt (((zmin (zA S 20 a1.toNatClampNeg) a3) - (zmax (zA S 19 a1.toNatClampNeg) a2)) + (1 : Int32)) (fun x6_40 : Int32 =>
 if x6_40 ≤ 0 then (some (0 : Int64)) else
 (if 0 < x5_15 then (ibd a1 24 (jn (fun (y0_69 : Int32) =>
 lt y0_69 (fun x7_69 : Int32 =>
 if a4 = (0 : Int32) then (if x7_69 = 0 then (some (0 : Int64)) else
 (some (1 : Int64))) else
 if a4 = (1 : Int32) then (some (1 : Int64)) else
 if a4 = (2 : Int32) then (some (x6_40.toInt64)) else
 if a4 = (3 : Int32) then (if x7_69 = 0 then (some (0 : Int64)) else
 (some (x5_15.toInt64))) else
 if a4 = (4 : Int32) then (some (x5_15.toInt64)) else
 if a4 = (5 : Int32) then (some ((x6_40 * x5_15).toInt64)) else
 (nzl (x5_15.toInt64) (some ((x6_40.toInt64) * ((232792560 : Int64) / (x5_15.toInt64))))))) (fun j69 : Int32 → Option Int64 =>
 if (zA S 19 a1.toNatClampNeg) < a2 then (j69 (0 : Int32)) else
 (j69 (1 : Int32))))) else
 (some (0 : Int64)))))))))
set_option maxRecDepth 100000 in
def L_X9_sum_6 (S : zSt) (a1 : Int32) (a2 : Int32) (a3 : Int32) (k : Int64 → Option Int64) : Nat → Int64 → Int32 → Option Int64
  | 0, _, _ => none
  | n + 1, v4_6, v6_6 =>
    (if (zI S 7) ≤ v6_6 then (k v4_6) else
 ((F_X9_weight S v6_6 a1 a2 a3).bind (fun r23 : Int64 =>
 lt (v4_6 + r23) (fun x4_27 : Int64 =>
 lt (v6_6 + (1 : Int32)) (fun x6_29 : Int32 =>
 L_X9_sum_6 S a1 a2 a3 k n x4_27 x6_29)))))
set_option maxRecDepth 100000 in
def F_X9_sum (S : zSt) (a1 : Int32) (a2 : Int32) (a3 : Int32) : Option Int64 :=
 lt (0 : Int64) (fun x4_1 : Int64 =>
 lt (0 : Int32) (fun x6_4 : Int32 =>
 L_X9_sum_6 S a1 a2 a3 (fun (w4_6 : Int64) =>
 some w4_6) 1000 x4_1 x6_4))
set_option maxRecDepth 100000 in
def F_X9_above (S : zSt) (a1 : Int32) (a2 : Int32) (a3 : Int32) : Option Int64 :=
 if a3 = (0 : Int32) then ((F_X9_sum S a1 a2 (3 : Int32)).bind (fun r40 : Int64 =>
 some r40)) else
 if a3 = (1 : Int32) then ((F_X9_sum S a1 a2 (4 : Int32)).bind (fun r48 : Int64 =>
 some r48)) else
 if a3 = (2 : Int32) then ((F_X9_sum S a1 a2 (5 : Int32)).bind (fun r56 : Int64 =>
 some r56)) else
 if a3 = (3 : Int32) then ((F_X9_sum S a1 a2 (2 : Int32)).bind (fun r64 : Int64 =>
 some (r64 * (232792560 : Int64)))) else
 if a3 = (4 : Int32) then ((F_X9_sum S a1 a2 (0 : Int32)).bind (fun r76 : Int64 =>
 some r76)) else
 ((F_X9_sum S a1 a2 (2 : Int32)).bind (fun r84 : Int64 =>
 some r84))
set_option maxRecDepth 100000 in
def F_X9_below (S : zSt) (a1 : Int32) (a2 : Int32) (a3 : Int32) : Option Int64 :=
 if a3 = (0 : Int32) then ((F_X9_sum S a1 a2 (0 : Int32)).bind (fun r36 : Int64 =>
 some r36)) else
 if a3 = (1 : Int32) then ((F_X9_sum S a1 a2 (1 : Int32)).bind (fun r44 : Int64 =>
 some r44)) else
 if a3 = (2 : Int32) then ((F_X9_sum S a1 a2 (2 : Int32)).bind (fun r52 : Int64 =>
 some r52)) else
 if a3 = (3 : Int32) then ((F_X9_sum S a1 a2 (6 : Int32)).bind (fun r61 : Int64 =>
 some r61)) else
 (some (((a2 - a1) + (1 : Int32)).toInt64))
set_option maxRecDepth 100000 in
def F_X9_lyingOn (S : zSt) (a1 : Int32) : Option Int32 :=
 (F_X9_sum S a1 a1 (1 : Int32)).bind (fun r4 : Int64 =>
 some (r4.toInt32))
set_option maxRecDepth 100000 in
def L_X9_fullestDay_6 (S : zSt) (k : Int32 → Option Int32) : Nat → Int32 → Int32 → Int32 → Option Int32
  | 0, _, _, _ => none
  | n + 1, v1_6, v2_6, v3_6 =>
    (if (99 : Int32) < v3_6 then (k v1_6) else
 ((F_X9_lyingOn S v3_6).bind (fun r14 : Int32 =>
 lt r14 (fun x4_17 : Int32 =>
 if x4_17 ≤ v2_6 then (lt (v3_6 + (1 : Int32)) (fun x3_30 : Int32 =>
 L_X9_fullestDay_6 S k n v1_6 v2_6 x3_30)) else
 (lt v3_6 (fun x1_26 : Int32 =>
 lt x4_17 (fun x2_29 : Int32 =>
 lt (v3_6 + (1 : Int32)) (fun x3_30 : Int32 =>
 L_X9_fullestDay_6 S k n x1_26 x2_29 x3_30))))))))
set_option maxRecDepth 100000 in
def F_X9_fullestDay (S : zSt) : Option Int32 :=
 lt (0 : Int32) (fun x1_1 : Int32 =>
 lt (0 : Int32) (fun x2_3 : Int32 =>
 lt (0 : Int32) (fun x3_5 : Int32 =>
 L_X9_fullestDay_6 S (fun (w1_6 : Int32) =>
 some w1_6) 1000 x1_1 x2_3 x3_5)))
set_option maxRecDepth 100000 in
def L_X9_firstEnd_4 (S : zSt) (a1 : Int32) (k : Int32 → Option Int32) : Nat → Int32 → Int32 → Option Int32
  | 0, _, _ => none
  | n + 1, v2_4, v3_4 =>
    (if (zI S 7) ≤ v3_4 then (k v2_4) else
 (ibd v3_4 24 (if (zA S 19 v3_4.toNatClampNeg) < a1 then (lt (v3_4 + (1 : Int32)) (fun x3_44 : Int32 =>
 L_X9_firstEnd_4 S a1 k n v2_4 x3_44)) else
 (if v2_4 = (-1 : Int32) then (ibd v3_4 24 (lt (zA S 20 v3_4.toNatClampNeg) (fun x2_43 : Int32 =>
 lt (v3_4 + (1 : Int32)) (fun x3_44 : Int32 =>
 L_X9_firstEnd_4 S a1 k n x2_43 x3_44)))) else
 (ibd v3_4 24 (if v2_4 ≤ (zA S 20 v3_4.toNatClampNeg) then (lt (v3_4 + (1 : Int32)) (fun x3_44 : Int32 =>
 L_X9_firstEnd_4 S a1 k n v2_4 x3_44)) else
 (ibd v3_4 24 (lt (zA S 20 v3_4.toNatClampNeg) (fun x2_43 : Int32 =>
 lt (v3_4 + (1 : Int32)) (fun x3_44 : Int32 =>
 L_X9_firstEnd_4 S a1 k n x2_43 x3_44))))))))))
set_option maxRecDepth 100000 in
def F_X9_firstEnd (S : zSt) (a1 : Int32) : Option Int32 :=
 lt (-1 : Int32) (fun x2_1 : Int32 =>
 lt (0 : Int32) (fun x3_3 : Int32 =>
 L_X9_firstEnd_4 S a1 (fun (w2_4 : Int32) =>
 some w2_4) 1000 x2_1 x3_3))
set_option maxRecDepth 100000 in
def L_X9_mostApart_6 (S : zSt) (k : Int32 → Option Int32) : Nat → Int32 → Int32 → Int32 → Option Int32
  | 0, _, _, _ => none
  | n + 1, v1_6, v2_6, v3_6 =>
    (if (24 : Int32) ≤ v3_6 then (k v1_6) else
 ((F_X9_firstEnd S v2_6).bind (fun r14 : Int32 =>
 lt r14 (fun x4_17 : Int32 =>
 if x4_17 = (-1 : Int32) then (some v1_6) else
 (lt (v1_6 + (1 : Int32)) (fun x1_27 : Int32 =>
 lt (x4_17 + (1 : Int32)) (fun x2_34 : Int32 =>
 lt (v3_6 + (1 : Int32)) (fun x3_35 : Int32 =>
 L_X9_mostApart_6 S k n x1_27 x2_34 x3_35))))))))
set_option maxRecDepth 100000 in
def F_X9_mostApart (S : zSt) : Option Int32 :=
 lt (0 : Int32) (fun x1_1 : Int32 =>
 lt (0 : Int32) (fun x2_3 : Int32 =>
 lt (0 : Int32) (fun x3_5 : Int32 =>
 L_X9_mostApart_6 S (fun (w1_6 : Int32) =>
 some w1_6) 1000 x1_1 x2_3 x3_5)))
abbrev rm_X9_weight : Room := { frames := 1, cells := 0, slots := 0, locals := 21 }
theorem y_X9_weight : yX9_weight.cls = RX9 ∧ yX9_weight.cls ≠ "java/lang/invoke/MethodHandle" ∧ yX9_weight.cls ≠ "java/lang/invoke/VarHandle" ∧ (parseMethodDescriptor yX9_weight.desc).map (fun d => d.parameters.length) = some 4 := by decide +kernel
theorem m_X9_weight_f15 : Cond.fieldLink RX9 15 "LongestMet$Ward" "last" "[I" ∈ wsX9_weight := List.mem_cons_of_mem _ (List.mem_append_left _ (List.mem_of_getElem? (i := 0) rfl))
theorem m_X9_weight_inX9 : ∀ x ∈ u_ws RX9 TX9 3, x ∈ wsX9_weight := fun _ h => List.mem_cons_of_mem _ (List.mem_append_right _ h)
theorem m_X9_weight_f11 : Cond.fieldLink RX9 11 "LongestMet$Ward" "first" "[I" ∈ wsX9_weight := List.mem_cons_of_mem _ (List.mem_append_left _ (List.mem_of_getElem? (i := 1) rfl))
theorem m_X9_weight_q26 : Cond.methodLink RX9 26 Lib.Math.min.name ∈ wsX9_weight := List.mem_cons_of_mem _ (List.mem_append_left _ (List.mem_of_getElem? (i := 2) rfl))
theorem m_X9_weight_qsmin : Cond.static Lib.Math.min.name ∈ wsX9_weight := List.mem_cons_of_mem _ (List.mem_append_left _ (List.mem_of_getElem? (i := 3) rfl))
theorem m_X9_weight_qi : Cond.initialized "java/lang/Math" ∈ wsX9_weight := List.mem_cons_of_mem _ (List.mem_append_left _ (List.mem_of_getElem? (i := 4) rfl))
theorem m_X9_weight_qcmin : Cond.code Lib.Math.min.name Lib.Math.min.code 2 (some .int) ∈ wsX9_weight := List.mem_cons_of_mem _ (List.mem_append_left _ (List.mem_of_getElem? (i := 5) rfl))
theorem m_X9_weight_q32 : Cond.methodLink RX9 32 Lib.Math.max.name ∈ wsX9_weight := List.mem_cons_of_mem _ (List.mem_append_left _ (List.mem_of_getElem? (i := 6) rfl))
theorem m_X9_weight_qsmax : Cond.static Lib.Math.max.name ∈ wsX9_weight := List.mem_cons_of_mem _ (List.mem_append_left _ (List.mem_of_getElem? (i := 7) rfl))
theorem m_X9_weight_qcmax : Cond.code Lib.Math.max.name Lib.Math.max.code 2 (some .int) ∈ wsX9_weight := List.mem_cons_of_mem _ (List.mem_append_left _ (List.mem_of_getElem? (i := 8) rfl))
theorem m_X9_weight_c35 : Cond.constantLong RX9 35 (232792560) ∈ wsX9_weight := List.mem_cons_of_mem _ (List.mem_append_left _ (List.mem_of_getElem? (i := 9) rfl))
set_option maxRecDepth 100000 in
set_option maxHeartbeats 4000000 in
theorem x_X9_weight {E : zCx} {g : zGx} (B : zGood E (WX g) (zT g) cX9_weight RX9 wsX9_weight (some .long) rm_X9_weight) (hE : E.2.2 = 8) (S : zSt) (a1 : Int32) (a2 : Int32) (a3 : Int32) (a4 : Int32) : Xo E (WX g) (eL S) S 0 [(0, .ref (g.1 6)), (1, .int a1), (2, .int a2), (3, .int a3), (4, .int a4)] [] (F_X9_weight S a1 a2 a3 a4) := by
  have n5 : 5 < E.2.2 := by rw [hE]; decide
  have n6 : 6 < E.2.2 := by rw [hE]; decide
  have n7 : 7 < E.2.2 := by rw [hE]; decide
  unfold F_X9_weight
  refine r_aload_n B 0 dX9_weight_0 rfl rfl ?_
  refine r_get B 6 8 1 (Nat.le_of_ble_eq_true rfl) rfl (cX_6 g _) rfl m_X9_weight_inX9 (Nat.le_of_ble_eq_true rfl) m_X9_weight_f15 rfl dX9_weight_1 ?_
  refine r_iload_n B 1 dX9_weight_4 rfl rfl ?_
  refine r_iald B 20 0 (Nat.le_of_ble_eq_true rfl) rfl (cX_20 g _) rfl dX9_weight_5 ?_
  refine r_aload_n B 0 dX9_weight_6 rfl rfl ?_
  refine r_get B 6 8 0 (Nat.le_of_ble_eq_true rfl) rfl (cX_6 g _) rfl m_X9_weight_inX9 (Nat.le_of_ble_eq_true rfl) m_X9_weight_f11 rfl dX9_weight_7 ?_
  refine r_iload_n B 1 dX9_weight_10 rfl rfl ?_
  refine r_iald B 19 0 (Nat.le_of_ble_eq_true rfl) rfl (cX_19 g _) rfl dX9_weight_11 ?_
  refine r_isub B dX9_weight_12 ?_
  refine r_iconst B (1 : Int32) dX9_weight_13 (by decide) ?_
  refine r_iadd B dX9_weight_14 ?_
  refine r_istore (lv' := fun x5_15 => [(5, .int x5_15), (0, .ref (g.1 6)), (1, .int a1), (2, .int a2), (3, .int a3), (4, .int a4)]) B dX9_weight_15 n5 (fun _ => rfl) (fun x5_15 => ?_)
  refine r_aload_n B 1 dX9_weight_17 rfl rfl ?_
  refine r_get B 6 8 1 (Nat.le_of_ble_eq_true rfl) rfl (cX_6 g _) rfl m_X9_weight_inX9 (Nat.le_of_ble_eq_true rfl) m_X9_weight_f15 rfl dX9_weight_18 ?_
  refine r_iload_n B 2 dX9_weight_21 rfl rfl ?_
  refine r_iald B 20 0 (Nat.le_of_ble_eq_true rfl) rfl (cX_20 g _) rfl dX9_weight_22 ?_
  refine r_iload_n B 4 dX9_weight_23 rfl rfl ?_
  refine r_mmin B m_X9_weight_q26 m_X9_weight_qsmin m_X9_weight_qi m_X9_weight_qcmin (Nat.le_of_ble_eq_true rfl) (Nat.le_of_ble_eq_true rfl) dX9_weight_24 ?_
  refine r_aload_n B 1 dX9_weight_27 rfl rfl ?_
  refine r_get B 6 8 0 (Nat.le_of_ble_eq_true rfl) rfl (cX_6 g _) rfl m_X9_weight_inX9 (Nat.le_of_ble_eq_true rfl) m_X9_weight_f11 rfl dX9_weight_28 ?_
  refine r_iload_n B 2 dX9_weight_31 rfl rfl ?_
  refine r_iald B 19 0 (Nat.le_of_ble_eq_true rfl) rfl (cX_19 g _) rfl dX9_weight_32 ?_
  refine r_iload_n B 3 dX9_weight_33 rfl rfl ?_
  refine r_mmax B m_X9_weight_q32 m_X9_weight_qsmax m_X9_weight_qi m_X9_weight_qcmax (Nat.le_of_ble_eq_true rfl) (Nat.le_of_ble_eq_true rfl) dX9_weight_34 ?_
  refine r_isub B dX9_weight_37 ?_
  refine r_iconst B (1 : Int32) dX9_weight_38 (by decide) ?_
  refine r_iadd B dX9_weight_39 ?_
  refine r_istore (lv' := fun x6_40 => [(6, .int x6_40), (5, .int x5_15), (0, .ref (g.1 6)), (1, .int a1), (2, .int a2), (3, .int a3), (4, .int a4)]) B dX9_weight_40 n6 (fun _ => rfl) (fun x6_40 => ?_)
  refine r_iload B 0 dX9_weight_42 rfl ?_
  refine r_if_le B 52 dX9_weight_44 (by decide) (fun _ => ?_) (fun _ => ?_)
  · refine r_lconst B (0 : Int64) dX9_weight_52 (by decide) ?_
    exact r_lret B dX9_weight_53 rfl
  · refine r_iload B 1 dX9_weight_47 rfl ?_
    refine r_if_gt B 54 dX9_weight_49 (by decide) (fun _ => ?_) (fun _ => ?_)
    · refine r_aload_n B 2 dX9_weight_54 rfl rfl ?_
      refine r_get B 6 8 0 (Nat.le_of_ble_eq_true rfl) rfl (cX_6 g _) rfl m_X9_weight_inX9 (Nat.le_of_ble_eq_true rfl) m_X9_weight_f11 rfl dX9_weight_55 ?_
      refine r_iload_n B 3 dX9_weight_58 rfl rfl ?_
      refine r_iald B 19 0 (Nat.le_of_ble_eq_true rfl) rfl (cX_19 g _) rfl dX9_weight_59 ?_
      refine r_iload_n B 4 dX9_weight_60 rfl rfl ?_
      refine r_jn2 (P := fun j69 : Int32 → Option Int64 => ∀ (y0_69 : Int32), Xo E (WX g) (eL S) S 69 [(4, .int a4), (5, .int x5_15), (6, .int x6_40)] [.int y0_69] (j69 y0_69)) ?_ (fun j69 hj69 => ?_)
      · intro y0_69
        refine r_istore (lv' := fun x7_69 => [(7, .int x7_69), (4, .int a4), (5, .int x5_15), (6, .int x6_40)]) B dX9_weight_69 n7 (fun _ => rfl) (fun x7_69 => ?_)
        refine r_iload B 1 dX9_weight_71 rfl ?_
        refine r_swc (0 : Int32) ?_ (fun h73_0 => ?_)
        · refine r_tabIn B 112 dX9_weight_73 (by decide) (by decide) rfl (by decide) ?_
          refine r_iload B 0 dX9_weight_112 rfl ?_
          refine r_if_eq B 121 dX9_weight_114 (by decide) (fun _ => ?_) (fun _ => ?_)
          · refine r_lconst B (0 : Int64) dX9_weight_121 (by decide) ?_
            exact r_lret B dX9_weight_122 rfl
          · refine r_lconst B (1 : Int64) dX9_weight_117 (by decide) ?_
            refine r_goto B 122 dX9_weight_118 (by decide) ?_
            exact r_lret B dX9_weight_122 rfl
        refine r_swc (1 : Int32) ?_ (fun h73_1 => ?_)
        · refine r_tabIn B 123 dX9_weight_73 (by decide) (by decide) rfl (by decide) ?_
          refine r_lconst B (1 : Int64) dX9_weight_123 (by decide) ?_
          exact r_lret B dX9_weight_124 rfl
        refine r_swc (2 : Int32) ?_ (fun h73_2 => ?_)
        · refine r_tabIn B 125 dX9_weight_73 (by decide) (by decide) rfl (by decide) ?_
          refine r_iload B 3 dX9_weight_125 rfl ?_
          refine r_i2l B dX9_weight_127 ?_
          exact r_lret B dX9_weight_128 rfl
        refine r_swc (3 : Int32) ?_ (fun h73_3 => ?_)
        · refine r_tabIn B 129 dX9_weight_73 (by decide) (by decide) rfl (by decide) ?_
          refine r_iload B 0 dX9_weight_129 rfl ?_
          refine r_if_eq B 140 dX9_weight_131 (by decide) (fun _ => ?_) (fun _ => ?_)
          · refine r_lconst B (0 : Int64) dX9_weight_140 (by decide) ?_
            exact r_lret B dX9_weight_141 rfl
          · refine r_iload B 2 dX9_weight_134 rfl ?_
            refine r_i2l B dX9_weight_136 ?_
            refine r_goto B 141 dX9_weight_137 (by decide) ?_
            exact r_lret B dX9_weight_141 rfl
        refine r_swc (4 : Int32) ?_ (fun h73_4 => ?_)
        · refine r_tabIn B 142 dX9_weight_73 (by decide) (by decide) rfl (by decide) ?_
          refine r_iload B 2 dX9_weight_142 rfl ?_
          refine r_i2l B dX9_weight_144 ?_
          exact r_lret B dX9_weight_145 rfl
        refine r_swc (5 : Int32) ?_ (fun h73_5 => ?_)
        · refine r_tabIn B 146 dX9_weight_73 (by decide) (by decide) rfl (by decide) ?_
          refine r_iload B 3 dX9_weight_146 rfl ?_
          refine r_iload B 2 dX9_weight_148 rfl ?_
          refine r_imul B dX9_weight_150 ?_
          refine r_i2l B dX9_weight_151 ?_
          exact r_lret B dX9_weight_152 rfl
        refine r_tabOut B 153 dX9_weight_73 (by have z0 := lv_neT h73_0 (a := 0) (by decide); have z1 := lv_neT h73_1 (a := 1) (by decide); have z2 := lv_neT h73_2 (a := 2) (by decide); have z3 := lv_neT h73_3 (a := 3) (by decide); have z4 := lv_neT h73_4 (a := 4) (by decide); have z5 := lv_neT h73_5 (a := 5) (by decide); omega) (by decide) ?_
        refine r_iload B 3 dX9_weight_153 rfl ?_
        refine r_i2l B dX9_weight_155 ?_
        refine r_ldc2 B (232792560 : Int64) m_X9_weight_c35 dX9_weight_156 ?_
        refine r_iload B 2 dX9_weight_159 rfl ?_
        refine r_i2l B dX9_weight_161 ?_
        refine r_ldiv B dX9_weight_162 (fun _ => ?_)
        refine r_lmul B dX9_weight_163 ?_
        exact r_lret B dX9_weight_164 rfl
      refine r_icmp_lt B 68 dX9_weight_61 (by decide) (fun _ => ?_) (fun _ => ?_)
      · refine r_iconst B (0 : Int32) dX9_weight_68 (by decide) ?_
        refine r_sub [6, 1, 0] rfl ?_
        exact hj69 (0 : Int32)
      · refine r_iconst B (1 : Int32) dX9_weight_64 (by decide) ?_
        refine r_goto B 69 dX9_weight_65 (by decide) ?_
        refine r_sub [6, 1, 0] rfl ?_
        exact hj69 (1 : Int32)
    · refine r_lconst B (0 : Int64) dX9_weight_52 (by decide) ?_
      exact r_lret B dX9_weight_53 rfl
set_option maxRecDepth 20000 in
theorem k_X9_weight {l : Launch} {D : va_G} {g : zGx} (hz : zin (WX g)) {S : zSt} {a1 : Int32} {a2 : Int32} {a3 : Int32} {a4 : Int32} {b : Int64} (h : F_X9_weight S a1 a2 a3 a4 = some b) : zMet l D (WX g) (zT g) yX9_weight wsX9_weight rm_X9_weight S [.ref (g.1 6), .int a1, .int a2, .int a3, .int a4] ((eL S) b) := zmet_of (by decide +kernel) rfl hz (Nat.le_of_ble_eq_true rfl) rfl (fun E _ _ hE B => x_X9_weight B hE S a1 a2 a3 a4) h
abbrev rm_X9_sum : Room := { frames := 2, cells := 0, slots := 0, locals := 48 }
theorem y_X9_sum : yX9_sum.cls = RX9 ∧ yX9_sum.cls ≠ "java/lang/invoke/MethodHandle" ∧ yX9_sum.cls ≠ "java/lang/invoke/VarHandle" ∧ (parseMethodDescriptor yX9_sum.desc).map (fun d => d.parameters.length) = some 3 := by decide +kernel
theorem m_X9_sum_f18 : Cond.fieldLink RX9 18 "LongestMet$Ward" "stays" "I" ∈ wsX9_sum := List.mem_cons_of_mem _ (List.mem_append_left _ (List.mem_of_getElem? (i := 0) rfl))
theorem m_X9_sum_inX9 : ∀ x ∈ u_ws RX9 TX9 3, x ∈ wsX9_sum := fun _ h => List.mem_cons_of_mem _ (List.mem_append_right _ h)
set_option maxRecDepth 100000 in
set_option maxHeartbeats 4000000 in
theorem xL_X9_sum_6 {E : zCx} {g : zGx} (B : zGood E (WX g) (zT g) cX9_sum RX9 wsX9_sum (some .long) rm_X9_sum) (hE : E.2.2 = 7) (S : zSt) (a1 : Int32) (a2 : Int32) (a3 : Int32) (k : Int64 → Option Int64) (hk : ∀ (w4 : Int64), Xo E (WX g) (eL S) S 35 [(4, .long w4)] [] (k w4)) : ∀ (n : Nat) (v4_6 : Int64) (v6_6 : Int32), Xo E (WX g) (eL S) S 6 [(0, .ref (g.1 6)), (1, .int a1), (2, .int a2), (3, .int a3), (4, .long v4_6), (6, .int v6_6)] [] (L_X9_sum_6 S a1 a2 a3 k n v4_6 v6_6) := by
  have nn4 : 4 + 1 < E.2.2 := by rw [hE]; decide
  have n6 : 6 < E.2.2 := by rw [hE]; decide
  intro n
  induction n with
  | zero =>
    intro _ _
    exact r_none
  | succ n ih =>
    intro v4_6 v6_6
    rw [L_X9_sum_6]
    refine r_iload B 5 dX9_sum_6 rfl ?_
    refine r_aload_n B 0 dX9_sum_8 rfl rfl ?_
    refine r_get B 6 8 2 (Nat.le_of_ble_eq_true rfl) rfl (cX_6 g _) rfl m_X9_sum_inX9 (Nat.le_of_ble_eq_true rfl) m_X9_sum_f18 rfl dX9_sum_9 ?_
    refine r_icmp_ge B 35 dX9_sum_12 (by decide) (fun _ => ?_) (fun _ => ?_)
    · refine r_sub [4] rfl ?_
      exact hk v4_6
    · refine r_lload B 4 dX9_sum_15 rfl ?_
      refine r_aload_n B 0 dX9_sum_17 rfl rfl ?_
      refine r_iload B 5 dX9_sum_18 rfl ?_
      refine r_iload_n B 1 dX9_sum_20 rfl rfl ?_
      refine r_iload_n B 2 dX9_sum_21 rfl rfl ?_
      refine r_iload_n B 3 dX9_sum_22 rfl rfl ?_
      refine r_cL (zrunV (As := [.int v6_6, .int a1, .int a2, .int a3]) (rest := [.long v4_6]) B 4 6 (fun b hb => k_X9_weight B.2.2.1 hb) gX9_sum_X9_weight rfl rfl rfl y_X9_weight ⟨Nat.le_of_ble_eq_true rfl, Nat.le_of_ble_eq_true rfl⟩ (Nat.le_of_ble_eq_true rfl) rfl (cX_6 g _) rfl rfl rfl (Nat.le_of_ble_eq_true rfl) dX9_sum_23) (fun r23 => ?_)
      refine r_ladd B dX9_sum_26 ?_
      refine r_lstore (lv' := fun x4_27 => [(4, .long x4_27), (0, .ref (g.1 6)), (1, .int a1), (2, .int a2), (3, .int a3), (6, .int v6_6)]) B dX9_sum_27 nn4 (fun _ => rfl) (fun x4_27 => ?_)
      refine r_iinc (lv' := fun x6_29 => [(6, .int x6_29), (4, .long x4_27), (0, .ref (g.1 6)), (1, .int a1), (2, .int a2), (3, .int a3)]) B 5 (1 : Int32) dX9_sum_29 rfl (by decide) n6 (fun _ => rfl) (fun x6_29 => ?_)
      refine r_goto B 6 dX9_sum_32 (by decide) ?_
      refine r_sub [2, 3, 4, 5, 1, 0] rfl ?_
      exact ih x4_27 x6_29
set_option maxRecDepth 100000 in
set_option maxHeartbeats 4000000 in
theorem x_X9_sum {E : zCx} {g : zGx} (B : zGood E (WX g) (zT g) cX9_sum RX9 wsX9_sum (some .long) rm_X9_sum) (hE : E.2.2 = 7) (S : zSt) (a1 : Int32) (a2 : Int32) (a3 : Int32) : Xo E (WX g) (eL S) S 0 [(0, .ref (g.1 6)), (1, .int a1), (2, .int a2), (3, .int a3)] [] (F_X9_sum S a1 a2 a3) := by
  have nn4 : 4 + 1 < E.2.2 := by rw [hE]; decide
  have n6 : 6 < E.2.2 := by rw [hE]; decide
  unfold F_X9_sum
  refine r_lconst B (0 : Int64) dX9_sum_0 (by decide) ?_
  refine r_lstore (lv' := fun x4_1 => [(4, .long x4_1), (0, .ref (g.1 6)), (1, .int a1), (2, .int a2), (3, .int a3)]) B dX9_sum_1 nn4 (fun _ => rfl) (fun x4_1 => ?_)
  refine r_iconst B (0 : Int32) dX9_sum_3 (by decide) ?_
  refine r_istore (lv' := fun x6_4 => [(6, .int x6_4), (4, .long x4_1), (0, .ref (g.1 6)), (1, .int a1), (2, .int a2), (3, .int a3)]) B dX9_sum_4 n6 (fun _ => rfl) (fun x6_4 => ?_)
  refine r_sub [2, 3, 4, 5, 1, 0] rfl ?_
  refine xL_X9_sum_6 B hE S a1 a2 a3 _ ?_ 1000 x4_1 x6_4
  intro w4_6
  refine r_lload B 0 dX9_sum_35 rfl ?_
  exact r_lret B dX9_sum_37 rfl
set_option maxRecDepth 20000 in
theorem k_X9_sum {l : Launch} {D : va_G} {g : zGx} (hz : zin (WX g)) {S : zSt} {a1 : Int32} {a2 : Int32} {a3 : Int32} {b : Int64} (h : F_X9_sum S a1 a2 a3 = some b) : zMet l D (WX g) (zT g) yX9_sum wsX9_sum rm_X9_sum S [.ref (g.1 6), .int a1, .int a2, .int a3] ((eL S) b) := zmet_of (by decide +kernel) rfl hz (Nat.le_of_ble_eq_true rfl) rfl (fun E _ _ hE B => x_X9_sum B hE S a1 a2 a3) h
abbrev rm_X9_above : Room := { frames := 3, cells := 0, slots := 0, locals := 74 }
theorem y_X9_above : yX9_above.cls = RX9 ∧ yX9_above.cls ≠ "java/lang/invoke/MethodHandle" ∧ yX9_above.cls ≠ "java/lang/invoke/VarHandle" ∧ (parseMethodDescriptor yX9_above.desc).map (fun d => d.parameters.length) = some 3 := by decide +kernel
theorem m_X9_above_c35 : Cond.constantLong RX9 35 (232792560) ∈ wsX9_above := List.mem_cons_of_mem _ (List.mem_append_left _ (List.mem_of_getElem? (i := 0) rfl))
set_option maxRecDepth 100000 in
set_option maxHeartbeats 4000000 in
theorem x_X9_above {E : zCx} {g : zGx} (B : zGood E (WX g) (zT g) cX9_above RX9 wsX9_above (some .long) rm_X9_above) (hE : E.2.2 = 4) (S : zSt) (a1 : Int32) (a2 : Int32) (a3 : Int32) : Xo E (WX g) (eL S) S 0 [(0, .ref (g.1 6)), (1, .int a1), (2, .int a2), (3, .int a3)] [] (F_X9_above S a1 a2 a3) := by
  unfold F_X9_above
  refine r_iload_n B 3 dX9_above_0 rfl rfl ?_
  refine r_swc (0 : Int32) ?_ (fun h1_0 => ?_)
  · refine r_tabIn B 36 dX9_above_1 (by decide) (by decide) rfl (by decide) ?_
    refine r_aload_n B 0 dX9_above_36 rfl rfl ?_
    refine r_iload_n B 1 dX9_above_37 rfl rfl ?_
    refine r_iload_n B 2 dX9_above_38 rfl rfl ?_
    refine r_iconst B (3 : Int32) dX9_above_39 (by decide) ?_
    refine r_cL (zrunV (As := [.int a1, .int a2, .int (3 : Int32)]) (rest := []) B 3 6 (fun b hb => k_X9_sum B.2.2.1 hb) gX9_above_X9_sum rfl rfl rfl y_X9_sum ⟨Nat.le_of_ble_eq_true rfl, Nat.le_of_ble_eq_true rfl⟩ (Nat.le_of_ble_eq_true rfl) rfl (cX_6 g _) rfl rfl rfl (Nat.le_of_ble_eq_true rfl) dX9_above_40) (fun r40 => ?_)
    exact r_lret B dX9_above_43 rfl
  refine r_swc (1 : Int32) ?_ (fun h1_1 => ?_)
  · refine r_tabIn B 44 dX9_above_1 (by decide) (by decide) rfl (by decide) ?_
    refine r_aload_n B 0 dX9_above_44 rfl rfl ?_
    refine r_iload_n B 1 dX9_above_45 rfl rfl ?_
    refine r_iload_n B 2 dX9_above_46 rfl rfl ?_
    refine r_iconst B (4 : Int32) dX9_above_47 (by decide) ?_
    refine r_cL (zrunV (As := [.int a1, .int a2, .int (4 : Int32)]) (rest := []) B 3 6 (fun b hb => k_X9_sum B.2.2.1 hb) gX9_above_X9_sum rfl rfl rfl y_X9_sum ⟨Nat.le_of_ble_eq_true rfl, Nat.le_of_ble_eq_true rfl⟩ (Nat.le_of_ble_eq_true rfl) rfl (cX_6 g _) rfl rfl rfl (Nat.le_of_ble_eq_true rfl) dX9_above_48) (fun r48 => ?_)
    exact r_lret B dX9_above_51 rfl
  refine r_swc (2 : Int32) ?_ (fun h1_2 => ?_)
  · refine r_tabIn B 52 dX9_above_1 (by decide) (by decide) rfl (by decide) ?_
    refine r_aload_n B 0 dX9_above_52 rfl rfl ?_
    refine r_iload_n B 1 dX9_above_53 rfl rfl ?_
    refine r_iload_n B 2 dX9_above_54 rfl rfl ?_
    refine r_iconst B (5 : Int32) dX9_above_55 (by decide) ?_
    refine r_cL (zrunV (As := [.int a1, .int a2, .int (5 : Int32)]) (rest := []) B 3 6 (fun b hb => k_X9_sum B.2.2.1 hb) gX9_above_X9_sum rfl rfl rfl y_X9_sum ⟨Nat.le_of_ble_eq_true rfl, Nat.le_of_ble_eq_true rfl⟩ (Nat.le_of_ble_eq_true rfl) rfl (cX_6 g _) rfl rfl rfl (Nat.le_of_ble_eq_true rfl) dX9_above_56) (fun r56 => ?_)
    exact r_lret B dX9_above_59 rfl
  refine r_swc (3 : Int32) ?_ (fun h1_3 => ?_)
  · refine r_tabIn B 60 dX9_above_1 (by decide) (by decide) rfl (by decide) ?_
    refine r_aload_n B 0 dX9_above_60 rfl rfl ?_
    refine r_iload_n B 1 dX9_above_61 rfl rfl ?_
    refine r_iload_n B 2 dX9_above_62 rfl rfl ?_
    refine r_iconst B (2 : Int32) dX9_above_63 (by decide) ?_
    refine r_cL (zrunV (As := [.int a1, .int a2, .int (2 : Int32)]) (rest := []) B 3 6 (fun b hb => k_X9_sum B.2.2.1 hb) gX9_above_X9_sum rfl rfl rfl y_X9_sum ⟨Nat.le_of_ble_eq_true rfl, Nat.le_of_ble_eq_true rfl⟩ (Nat.le_of_ble_eq_true rfl) rfl (cX_6 g _) rfl rfl rfl (Nat.le_of_ble_eq_true rfl) dX9_above_64) (fun r64 => ?_)
    refine r_ldc2 B (232792560 : Int64) m_X9_above_c35 dX9_above_67 ?_
    refine r_lmul B dX9_above_70 ?_
    exact r_lret B dX9_above_71 rfl
  refine r_swc (4 : Int32) ?_ (fun h1_4 => ?_)
  · refine r_tabIn B 72 dX9_above_1 (by decide) (by decide) rfl (by decide) ?_
    refine r_aload_n B 0 dX9_above_72 rfl rfl ?_
    refine r_iload_n B 1 dX9_above_73 rfl rfl ?_
    refine r_iload_n B 2 dX9_above_74 rfl rfl ?_
    refine r_iconst B (0 : Int32) dX9_above_75 (by decide) ?_
    refine r_cL (zrunV (As := [.int a1, .int a2, .int (0 : Int32)]) (rest := []) B 3 6 (fun b hb => k_X9_sum B.2.2.1 hb) gX9_above_X9_sum rfl rfl rfl y_X9_sum ⟨Nat.le_of_ble_eq_true rfl, Nat.le_of_ble_eq_true rfl⟩ (Nat.le_of_ble_eq_true rfl) rfl (cX_6 g _) rfl rfl rfl (Nat.le_of_ble_eq_true rfl) dX9_above_76) (fun r76 => ?_)
    exact r_lret B dX9_above_79 rfl
  refine r_tabOut B 80 dX9_above_1 (by have z0 := lv_neT h1_0 (a := 0) (by decide); have z1 := lv_neT h1_1 (a := 1) (by decide); have z2 := lv_neT h1_2 (a := 2) (by decide); have z3 := lv_neT h1_3 (a := 3) (by decide); have z4 := lv_neT h1_4 (a := 4) (by decide); omega) (by decide) ?_
  refine r_aload_n B 0 dX9_above_80 rfl rfl ?_
  refine r_iload_n B 1 dX9_above_81 rfl rfl ?_
  refine r_iload_n B 2 dX9_above_82 rfl rfl ?_
  refine r_iconst B (2 : Int32) dX9_above_83 (by decide) ?_
  refine r_cL (zrunV (As := [.int a1, .int a2, .int (2 : Int32)]) (rest := []) B 3 6 (fun b hb => k_X9_sum B.2.2.1 hb) gX9_above_X9_sum rfl rfl rfl y_X9_sum ⟨Nat.le_of_ble_eq_true rfl, Nat.le_of_ble_eq_true rfl⟩ (Nat.le_of_ble_eq_true rfl) rfl (cX_6 g _) rfl rfl rfl (Nat.le_of_ble_eq_true rfl) dX9_above_84) (fun r84 => ?_)
  exact r_lret B dX9_above_87 rfl
set_option maxRecDepth 20000 in
theorem k_X9_above {l : Launch} {D : va_G} {g : zGx} (hz : zin (WX g)) {S : zSt} {a1 : Int32} {a2 : Int32} {a3 : Int32} {b : Int64} (h : F_X9_above S a1 a2 a3 = some b) : zMet l D (WX g) (zT g) yX9_above wsX9_above rm_X9_above S [.ref (g.1 6), .int a1, .int a2, .int a3] ((eL S) b) := zmet_of (by decide +kernel) rfl hz (Nat.le_of_ble_eq_true rfl) rfl (fun E _ _ hE B => x_X9_above B hE S a1 a2 a3) h
abbrev rm_X9_below : Room := { frames := 3, cells := 0, slots := 0, locals := 74 }
theorem y_X9_below : yX9_below.cls = RX9 ∧ yX9_below.cls ≠ "java/lang/invoke/MethodHandle" ∧ yX9_below.cls ≠ "java/lang/invoke/VarHandle" ∧ (parseMethodDescriptor yX9_below.desc).map (fun d => d.parameters.length) = some 3 := by decide +kernel
set_option maxRecDepth 100000 in
set_option maxHeartbeats 4000000 in
theorem x_X9_below {E : zCx} {g : zGx} (B : zGood E (WX g) (zT g) cX9_below RX9 wsX9_below (some .long) rm_X9_below) (hE : E.2.2 = 4) (S : zSt) (a1 : Int32) (a2 : Int32) (a3 : Int32) : Xo E (WX g) (eL S) S 0 [(0, .ref (g.1 6)), (1, .int a1), (2, .int a2), (3, .int a3)] [] (F_X9_below S a1 a2 a3) := by
  unfold F_X9_below
  refine r_iload_n B 3 dX9_below_0 rfl rfl ?_
  refine r_swc (0 : Int32) ?_ (fun h1_0 => ?_)
  · refine r_tabIn B 32 dX9_below_1 (by decide) (by decide) rfl (by decide) ?_
    refine r_aload_n B 0 dX9_below_32 rfl rfl ?_
    refine r_iload_n B 1 dX9_below_33 rfl rfl ?_
    refine r_iload_n B 2 dX9_below_34 rfl rfl ?_
    refine r_iconst B (0 : Int32) dX9_below_35 (by decide) ?_
    refine r_cL (zrunV (As := [.int a1, .int a2, .int (0 : Int32)]) (rest := []) B 3 6 (fun b hb => k_X9_sum B.2.2.1 hb) gX9_below_X9_sum rfl rfl rfl y_X9_sum ⟨Nat.le_of_ble_eq_true rfl, Nat.le_of_ble_eq_true rfl⟩ (Nat.le_of_ble_eq_true rfl) rfl (cX_6 g _) rfl rfl rfl (Nat.le_of_ble_eq_true rfl) dX9_below_36) (fun r36 => ?_)
    exact r_lret B dX9_below_39 rfl
  refine r_swc (1 : Int32) ?_ (fun h1_1 => ?_)
  · refine r_tabIn B 40 dX9_below_1 (by decide) (by decide) rfl (by decide) ?_
    refine r_aload_n B 0 dX9_below_40 rfl rfl ?_
    refine r_iload_n B 1 dX9_below_41 rfl rfl ?_
    refine r_iload_n B 2 dX9_below_42 rfl rfl ?_
    refine r_iconst B (1 : Int32) dX9_below_43 (by decide) ?_
    refine r_cL (zrunV (As := [.int a1, .int a2, .int (1 : Int32)]) (rest := []) B 3 6 (fun b hb => k_X9_sum B.2.2.1 hb) gX9_below_X9_sum rfl rfl rfl y_X9_sum ⟨Nat.le_of_ble_eq_true rfl, Nat.le_of_ble_eq_true rfl⟩ (Nat.le_of_ble_eq_true rfl) rfl (cX_6 g _) rfl rfl rfl (Nat.le_of_ble_eq_true rfl) dX9_below_44) (fun r44 => ?_)
    exact r_lret B dX9_below_47 rfl
  refine r_swc (2 : Int32) ?_ (fun h1_2 => ?_)
  · refine r_tabIn B 48 dX9_below_1 (by decide) (by decide) rfl (by decide) ?_
    refine r_aload_n B 0 dX9_below_48 rfl rfl ?_
    refine r_iload_n B 1 dX9_below_49 rfl rfl ?_
    refine r_iload_n B 2 dX9_below_50 rfl rfl ?_
    refine r_iconst B (2 : Int32) dX9_below_51 (by decide) ?_
    refine r_cL (zrunV (As := [.int a1, .int a2, .int (2 : Int32)]) (rest := []) B 3 6 (fun b hb => k_X9_sum B.2.2.1 hb) gX9_below_X9_sum rfl rfl rfl y_X9_sum ⟨Nat.le_of_ble_eq_true rfl, Nat.le_of_ble_eq_true rfl⟩ (Nat.le_of_ble_eq_true rfl) rfl (cX_6 g _) rfl rfl rfl (Nat.le_of_ble_eq_true rfl) dX9_below_52) (fun r52 => ?_)
    exact r_lret B dX9_below_55 rfl
  refine r_swc (3 : Int32) ?_ (fun h1_3 => ?_)
  · refine r_tabIn B 56 dX9_below_1 (by decide) (by decide) rfl (by decide) ?_
    refine r_aload_n B 0 dX9_below_56 rfl rfl ?_
    refine r_iload_n B 1 dX9_below_57 rfl rfl ?_
    refine r_iload_n B 2 dX9_below_58 rfl rfl ?_
    refine r_bipush B (6 : Int32) dX9_below_59 (by decide) ?_
    refine r_cL (zrunV (As := [.int a1, .int a2, .int (6 : Int32)]) (rest := []) B 3 6 (fun b hb => k_X9_sum B.2.2.1 hb) gX9_below_X9_sum rfl rfl rfl y_X9_sum ⟨Nat.le_of_ble_eq_true rfl, Nat.le_of_ble_eq_true rfl⟩ (Nat.le_of_ble_eq_true rfl) rfl (cX_6 g _) rfl rfl rfl (Nat.le_of_ble_eq_true rfl) dX9_below_61) (fun r61 => ?_)
    exact r_lret B dX9_below_64 rfl
  refine r_tabOut B 65 dX9_below_1 (by have z0 := lv_neT h1_0 (a := 0) (by decide); have z1 := lv_neT h1_1 (a := 1) (by decide); have z2 := lv_neT h1_2 (a := 2) (by decide); have z3 := lv_neT h1_3 (a := 3) (by decide); omega) (by decide) ?_
  refine r_iload_n B 2 dX9_below_65 rfl rfl ?_
  refine r_iload_n B 1 dX9_below_66 rfl rfl ?_
  refine r_isub B dX9_below_67 ?_
  refine r_iconst B (1 : Int32) dX9_below_68 (by decide) ?_
  refine r_iadd B dX9_below_69 ?_
  refine r_i2l B dX9_below_70 ?_
  exact r_lret B dX9_below_71 rfl
set_option maxRecDepth 20000 in
theorem k_X9_below {l : Launch} {D : va_G} {g : zGx} (hz : zin (WX g)) {S : zSt} {a1 : Int32} {a2 : Int32} {a3 : Int32} {b : Int64} (h : F_X9_below S a1 a2 a3 = some b) : zMet l D (WX g) (zT g) yX9_below wsX9_below rm_X9_below S [.ref (g.1 6), .int a1, .int a2, .int a3] ((eL S) b) := zmet_of (by decide +kernel) rfl hz (Nat.le_of_ble_eq_true rfl) rfl (fun E _ _ hE B => x_X9_below B hE S a1 a2 a3) h
abbrev rm_X9_lyingOn : Room := { frames := 3, cells := 0, slots := 0, locals := 74 }
theorem y_X9_lyingOn : yX9_lyingOn.cls = RX9 ∧ yX9_lyingOn.cls ≠ "java/lang/invoke/MethodHandle" ∧ yX9_lyingOn.cls ≠ "java/lang/invoke/VarHandle" ∧ (parseMethodDescriptor yX9_lyingOn.desc).map (fun d => d.parameters.length) = some 1 := by decide +kernel
set_option maxRecDepth 100000 in
set_option maxHeartbeats 4000000 in
theorem x_X9_lyingOn {E : zCx} {g : zGx} (B : zGood E (WX g) (zT g) cX9_lyingOn RX9 wsX9_lyingOn (some .int) rm_X9_lyingOn) (hE : E.2.2 = 2) (S : zSt) (a1 : Int32) : Xo E (WX g) (eI S) S 0 [(0, .ref (g.1 6)), (1, .int a1)] [] (F_X9_lyingOn S a1) := by
  unfold F_X9_lyingOn
  refine r_aload_n B 0 dX9_lyingOn_0 rfl rfl ?_
  refine r_iload_n B 1 dX9_lyingOn_1 rfl rfl ?_
  refine r_iload_n B 1 dX9_lyingOn_2 rfl rfl ?_
  refine r_iconst B (1 : Int32) dX9_lyingOn_3 (by decide) ?_
  refine r_cL (zrunV (As := [.int a1, .int a1, .int (1 : Int32)]) (rest := []) B 3 6 (fun b hb => k_X9_sum B.2.2.1 hb) gX9_lyingOn_X9_sum rfl rfl rfl y_X9_sum ⟨Nat.le_of_ble_eq_true rfl, Nat.le_of_ble_eq_true rfl⟩ (Nat.le_of_ble_eq_true rfl) rfl (cX_6 g _) rfl rfl rfl (Nat.le_of_ble_eq_true rfl) dX9_lyingOn_4) (fun r4 => ?_)
  refine r_l2i B dX9_lyingOn_7 ?_
  exact r_iret B dX9_lyingOn_8 rfl
set_option maxRecDepth 20000 in
theorem k_X9_lyingOn {l : Launch} {D : va_G} {g : zGx} (hz : zin (WX g)) {S : zSt} {a1 : Int32} {b : Int32} (h : F_X9_lyingOn S a1 = some b) : zMet l D (WX g) (zT g) yX9_lyingOn wsX9_lyingOn rm_X9_lyingOn S [.ref (g.1 6), .int a1] ((eI S) b) := zmet_of (by decide +kernel) rfl hz (Nat.le_of_ble_eq_true rfl) rfl (fun E _ _ hE B => x_X9_lyingOn B hE S a1) h
abbrev rm_X9_fullestDay : Room := { frames := 4, cells := 0, slots := 0, locals := 95 }
theorem y_X9_fullestDay : yX9_fullestDay.cls = RX9 ∧ yX9_fullestDay.cls ≠ "java/lang/invoke/MethodHandle" ∧ yX9_fullestDay.cls ≠ "java/lang/invoke/VarHandle" ∧ (parseMethodDescriptor yX9_fullestDay.desc).map (fun d => d.parameters.length) = some 0 := by decide +kernel
set_option maxRecDepth 100000 in
set_option maxHeartbeats 4000000 in
theorem xL_X9_fullestDay_6 {E : zCx} {g : zGx} (B : zGood E (WX g) (zT g) cX9_fullestDay RX9 wsX9_fullestDay (some .int) rm_X9_fullestDay) (hE : E.2.2 = 5) (S : zSt) (k : Int32 → Option Int32) (hk : ∀ (w1 : Int32), Xo E (WX g) (eI S) S 36 [(1, .int w1)] [] (k w1)) : ∀ (n : Nat) (v1_6 : Int32) (v2_6 : Int32) (v3_6 : Int32), Xo E (WX g) (eI S) S 6 [(0, .ref (g.1 6)), (1, .int v1_6), (2, .int v2_6), (3, .int v3_6)] [] (L_X9_fullestDay_6 S k n v1_6 v2_6 v3_6) := by
  have n1 : 1 < E.2.2 := by rw [hE]; decide
  have n2 : 2 < E.2.2 := by rw [hE]; decide
  have n3 : 3 < E.2.2 := by rw [hE]; decide
  have n4 : 4 < E.2.2 := by rw [hE]; decide
  intro n
  induction n with
  | zero =>
    intro _ _ _
    exact r_none
  | succ n ih =>
    intro v1_6 v2_6 v3_6
    rw [L_X9_fullestDay_6]
    refine r_iload_n B 3 dX9_fullestDay_6 rfl rfl ?_
    refine r_bipush B (99 : Int32) dX9_fullestDay_7 (by decide) ?_
    refine r_icmp_gt B 36 dX9_fullestDay_9 (by decide) (fun _ => ?_) (fun _ => ?_)
    · refine r_sub [1] rfl ?_
      exact hk v1_6
    · refine r_aload_n B 0 dX9_fullestDay_12 rfl rfl ?_
      refine r_iload_n B 3 dX9_fullestDay_13 rfl rfl ?_
      refine r_cI (zrunV (As := [.int v3_6]) (rest := []) B 1 6 (fun b hb => k_X9_lyingOn B.2.2.1 hb) gX9_fullestDay_X9_lyingOn rfl rfl rfl y_X9_lyingOn ⟨Nat.le_of_ble_eq_true rfl, Nat.le_of_ble_eq_true rfl⟩ (Nat.le_of_ble_eq_true rfl) rfl (cX_6 g _) rfl rfl rfl (Nat.le_of_ble_eq_true rfl) dX9_fullestDay_14) (fun r14 => ?_)
      refine r_istore (lv' := fun x4_17 => [(4, .int x4_17), (0, .ref (g.1 6)), (1, .int v1_6), (2, .int v2_6), (3, .int v3_6)]) B dX9_fullestDay_17 n4 (fun _ => rfl) (fun x4_17 => ?_)
      refine r_iload B 0 dX9_fullestDay_19 rfl ?_
      refine r_iload_n B 3 dX9_fullestDay_21 rfl rfl ?_
      refine r_icmp_le B 30 dX9_fullestDay_22 (by decide) (fun _ => ?_) (fun _ => ?_)
      · refine r_iinc (lv' := fun x3_30 => [(3, .int x3_30), (4, .int x4_17), (0, .ref (g.1 6)), (1, .int v1_6), (2, .int v2_6)]) B 4 (1 : Int32) dX9_fullestDay_30 rfl (by decide) n3 (fun _ => rfl) (fun x3_30 => ?_)
        refine r_goto B 6 dX9_fullestDay_33 (by decide) ?_
        refine r_sub [2, 3, 4, 0] rfl ?_
        exact ih v1_6 v2_6 x3_30
      · refine r_iload_n B 4 dX9_fullestDay_25 rfl rfl ?_
        refine r_istore_n (lv' := fun x1_26 => [(1, .int x1_26), (4, .int x4_17), (0, .ref (g.1 6)), (2, .int v2_6), (3, .int v3_6)]) B dX9_fullestDay_26 rfl n1 (fun _ => rfl) (fun x1_26 => ?_)
        refine r_iload B 1 dX9_fullestDay_27 rfl ?_
        refine r_istore_n (lv' := fun x2_29 => [(2, .int x2_29), (1, .int x1_26), (4, .int x4_17), (0, .ref (g.1 6)), (3, .int v3_6)]) B dX9_fullestDay_29 rfl n2 (fun _ => rfl) (fun x2_29 => ?_)
        refine r_iinc (lv' := fun x3_30 => [(3, .int x3_30), (2, .int x2_29), (1, .int x1_26), (4, .int x4_17), (0, .ref (g.1 6))]) B 4 (1 : Int32) dX9_fullestDay_30 rfl (by decide) n3 (fun _ => rfl) (fun x3_30 => ?_)
        refine r_goto B 6 dX9_fullestDay_33 (by decide) ?_
        refine r_sub [4, 2, 1, 0] rfl ?_
        exact ih x1_26 x2_29 x3_30
set_option maxRecDepth 100000 in
set_option maxHeartbeats 4000000 in
theorem x_X9_fullestDay {E : zCx} {g : zGx} (B : zGood E (WX g) (zT g) cX9_fullestDay RX9 wsX9_fullestDay (some .int) rm_X9_fullestDay) (hE : E.2.2 = 5) (S : zSt) : Xo E (WX g) (eI S) S 0 [(0, .ref (g.1 6))] [] (F_X9_fullestDay S) := by
  have n1 : 1 < E.2.2 := by rw [hE]; decide
  have n2 : 2 < E.2.2 := by rw [hE]; decide
  have n3 : 3 < E.2.2 := by rw [hE]; decide
  have n4 : 4 < E.2.2 := by rw [hE]; decide
  unfold F_X9_fullestDay
  refine r_iconst B (0 : Int32) dX9_fullestDay_0 (by decide) ?_
  refine r_istore_n (lv' := fun x1_1 => [(1, .int x1_1), (0, .ref (g.1 6))]) B dX9_fullestDay_1 rfl n1 (fun _ => rfl) (fun x1_1 => ?_)
  refine r_iconst B (0 : Int32) dX9_fullestDay_2 (by decide) ?_
  refine r_istore_n (lv' := fun x2_3 => [(2, .int x2_3), (1, .int x1_1), (0, .ref (g.1 6))]) B dX9_fullestDay_3 rfl n2 (fun _ => rfl) (fun x2_3 => ?_)
  refine r_iconst B (0 : Int32) dX9_fullestDay_4 (by decide) ?_
  refine r_istore_n (lv' := fun x3_5 => [(3, .int x3_5), (2, .int x2_3), (1, .int x1_1), (0, .ref (g.1 6))]) B dX9_fullestDay_5 rfl n3 (fun _ => rfl) (fun x3_5 => ?_)
  refine r_sub [3, 2, 1, 0] rfl ?_
  refine xL_X9_fullestDay_6 B hE S _ ?_ 1000 x1_1 x2_3 x3_5
  intro w1_6
  refine r_iload_n B 0 dX9_fullestDay_36 rfl rfl ?_
  exact r_iret B dX9_fullestDay_37 rfl
set_option maxRecDepth 20000 in
theorem k_X9_fullestDay {l : Launch} {D : va_G} {g : zGx} (hz : zin (WX g)) {S : zSt} {b : Int32} (h : F_X9_fullestDay S = some b) : zMet l D (WX g) (zT g) yX9_fullestDay wsX9_fullestDay rm_X9_fullestDay S [.ref (g.1 6)] ((eI S) b) := zmet_of (by decide +kernel) rfl hz (Nat.le_of_ble_eq_true rfl) rfl (fun E _ _ hE B => x_X9_fullestDay B hE S) h
abbrev rm_X9_firstEnd : Room := { frames := 0, cells := 0, slots := 0, locals := 0 }
theorem y_X9_firstEnd : yX9_firstEnd.cls = RX9 ∧ yX9_firstEnd.cls ≠ "java/lang/invoke/MethodHandle" ∧ yX9_firstEnd.cls ≠ "java/lang/invoke/VarHandle" ∧ (parseMethodDescriptor yX9_firstEnd.desc).map (fun d => d.parameters.length) = some 1 := by decide +kernel
theorem m_X9_firstEnd_f18 : Cond.fieldLink RX9 18 "LongestMet$Ward" "stays" "I" ∈ wsX9_firstEnd := List.mem_cons_of_mem _ (List.mem_append_left _ (List.mem_of_getElem? (i := 0) rfl))
theorem m_X9_firstEnd_inX9 : ∀ x ∈ u_ws RX9 TX9 3, x ∈ wsX9_firstEnd := fun _ h => List.mem_cons_of_mem _ (List.mem_append_right _ h)
theorem m_X9_firstEnd_f11 : Cond.fieldLink RX9 11 "LongestMet$Ward" "first" "[I" ∈ wsX9_firstEnd := List.mem_cons_of_mem _ (List.mem_append_left _ (List.mem_of_getElem? (i := 1) rfl))
theorem m_X9_firstEnd_f15 : Cond.fieldLink RX9 15 "LongestMet$Ward" "last" "[I" ∈ wsX9_firstEnd := List.mem_cons_of_mem _ (List.mem_append_left _ (List.mem_of_getElem? (i := 2) rfl))
set_option maxRecDepth 100000 in
set_option maxHeartbeats 4000000 in
theorem xL_X9_firstEnd_4 {E : zCx} {g : zGx} (B : zGood E (WX g) (zT g) cX9_firstEnd RX9 wsX9_firstEnd (some .int) rm_X9_firstEnd) (hE : E.2.2 = 4) (S : zSt) (a1 : Int32) (k : Int32 → Option Int32) (hk : ∀ (w2 : Int32), Xo E (WX g) (eI S) S 50 [(2, .int w2)] [] (k w2)) : ∀ (n : Nat) (v2_4 : Int32) (v3_4 : Int32), Xo E (WX g) (eI S) S 4 [(0, .ref (g.1 6)), (1, .int a1), (2, .int v2_4), (3, .int v3_4)] [] (L_X9_firstEnd_4 S a1 k n v2_4 v3_4) := by
  have n2 : 2 < E.2.2 := by rw [hE]; decide
  have n3 : 3 < E.2.2 := by rw [hE]; decide
  intro n
  induction n with
  | zero =>
    intro _ _
    exact r_none
  | succ n ih =>
    intro v2_4 v3_4
    rw [L_X9_firstEnd_4]
    refine r_iload_n B 3 dX9_firstEnd_4 rfl rfl ?_
    refine r_aload_n B 0 dX9_firstEnd_5 rfl rfl ?_
    refine r_get B 6 8 2 (Nat.le_of_ble_eq_true rfl) rfl (cX_6 g _) rfl m_X9_firstEnd_inX9 (Nat.le_of_ble_eq_true rfl) m_X9_firstEnd_f18 rfl dX9_firstEnd_6 ?_
    refine r_icmp_ge B 50 dX9_firstEnd_9 (by decide) (fun _ => ?_) (fun _ => ?_)
    · refine r_sub [2] rfl ?_
      exact hk v2_4
    · refine r_aload_n B 0 dX9_firstEnd_12 rfl rfl ?_
      refine r_get B 6 8 0 (Nat.le_of_ble_eq_true rfl) rfl (cX_6 g _) rfl m_X9_firstEnd_inX9 (Nat.le_of_ble_eq_true rfl) m_X9_firstEnd_f11 rfl dX9_firstEnd_13 ?_
      refine r_iload_n B 3 dX9_firstEnd_16 rfl rfl ?_
      refine r_iald B 19 0 (Nat.le_of_ble_eq_true rfl) rfl (cX_19 g _) rfl dX9_firstEnd_17 ?_
      refine r_iload_n B 1 dX9_firstEnd_18 rfl rfl ?_
      refine r_icmp_lt B 44 dX9_firstEnd_19 (by decide) (fun _ => ?_) (fun _ => ?_)
      · refine r_iinc (lv' := fun x3_44 => [(3, .int x3_44), (0, .ref (g.1 6)), (1, .int a1), (2, .int v2_4)]) B 3 (1 : Int32) dX9_firstEnd_44 rfl (by decide) n3 (fun _ => rfl) (fun x3_44 => ?_)
        refine r_goto B 4 dX9_firstEnd_47 (by decide) ?_
        refine r_sub [1, 2, 3, 0] rfl ?_
        exact ih v2_4 x3_44
      · refine r_iload_n B 2 dX9_firstEnd_22 rfl rfl ?_
        refine r_iconst B (-1 : Int32) dX9_firstEnd_23 (by decide) ?_
        refine r_icmp_eq B 37 dX9_firstEnd_24 (by decide) (fun _ => ?_) (fun _ => ?_)
        · refine r_aload_n B 0 dX9_firstEnd_37 rfl rfl ?_
          refine r_get B 6 8 1 (Nat.le_of_ble_eq_true rfl) rfl (cX_6 g _) rfl m_X9_firstEnd_inX9 (Nat.le_of_ble_eq_true rfl) m_X9_firstEnd_f15 rfl dX9_firstEnd_38 ?_
          refine r_iload_n B 3 dX9_firstEnd_41 rfl rfl ?_
          refine r_iald B 20 0 (Nat.le_of_ble_eq_true rfl) rfl (cX_20 g _) rfl dX9_firstEnd_42 ?_
          refine r_istore_n (lv' := fun x2_43 => [(2, .int x2_43), (0, .ref (g.1 6)), (1, .int a1), (3, .int v3_4)]) B dX9_firstEnd_43 rfl n2 (fun _ => rfl) (fun x2_43 => ?_)
          refine r_iinc (lv' := fun x3_44 => [(3, .int x3_44), (2, .int x2_43), (0, .ref (g.1 6)), (1, .int a1)]) B 3 (1 : Int32) dX9_firstEnd_44 rfl (by decide) n3 (fun _ => rfl) (fun x3_44 => ?_)
          refine r_goto B 4 dX9_firstEnd_47 (by decide) ?_
          refine r_sub [2, 3, 1, 0] rfl ?_
          exact ih x2_43 x3_44
        · refine r_aload_n B 0 dX9_firstEnd_27 rfl rfl ?_
          refine r_get B 6 8 1 (Nat.le_of_ble_eq_true rfl) rfl (cX_6 g _) rfl m_X9_firstEnd_inX9 (Nat.le_of_ble_eq_true rfl) m_X9_firstEnd_f15 rfl dX9_firstEnd_28 ?_
          refine r_iload_n B 3 dX9_firstEnd_31 rfl rfl ?_
          refine r_iald B 20 0 (Nat.le_of_ble_eq_true rfl) rfl (cX_20 g _) rfl dX9_firstEnd_32 ?_
          refine r_iload_n B 2 dX9_firstEnd_33 rfl rfl ?_
          refine r_icmp_ge B 44 dX9_firstEnd_34 (by decide) (fun _ => ?_) (fun _ => ?_)
          · refine r_iinc (lv' := fun x3_44 => [(3, .int x3_44), (0, .ref (g.1 6)), (1, .int a1), (2, .int v2_4)]) B 3 (1 : Int32) dX9_firstEnd_44 rfl (by decide) n3 (fun _ => rfl) (fun x3_44 => ?_)
            refine r_goto B 4 dX9_firstEnd_47 (by decide) ?_
            refine r_sub [1, 2, 3, 0] rfl ?_
            exact ih v2_4 x3_44
          · refine r_aload_n B 0 dX9_firstEnd_37 rfl rfl ?_
            refine r_get B 6 8 1 (Nat.le_of_ble_eq_true rfl) rfl (cX_6 g _) rfl m_X9_firstEnd_inX9 (Nat.le_of_ble_eq_true rfl) m_X9_firstEnd_f15 rfl dX9_firstEnd_38 ?_
            refine r_iload_n B 3 dX9_firstEnd_41 rfl rfl ?_
            refine r_iald B 20 0 (Nat.le_of_ble_eq_true rfl) rfl (cX_20 g _) rfl dX9_firstEnd_42 ?_
            refine r_istore_n (lv' := fun x2_43 => [(2, .int x2_43), (0, .ref (g.1 6)), (1, .int a1), (3, .int v3_4)]) B dX9_firstEnd_43 rfl n2 (fun _ => rfl) (fun x2_43 => ?_)
            refine r_iinc (lv' := fun x3_44 => [(3, .int x3_44), (2, .int x2_43), (0, .ref (g.1 6)), (1, .int a1)]) B 3 (1 : Int32) dX9_firstEnd_44 rfl (by decide) n3 (fun _ => rfl) (fun x3_44 => ?_)
            refine r_goto B 4 dX9_firstEnd_47 (by decide) ?_
            refine r_sub [2, 3, 1, 0] rfl ?_
            exact ih x2_43 x3_44
set_option maxRecDepth 100000 in
set_option maxHeartbeats 4000000 in
theorem x_X9_firstEnd {E : zCx} {g : zGx} (B : zGood E (WX g) (zT g) cX9_firstEnd RX9 wsX9_firstEnd (some .int) rm_X9_firstEnd) (hE : E.2.2 = 4) (S : zSt) (a1 : Int32) : Xo E (WX g) (eI S) S 0 [(0, .ref (g.1 6)), (1, .int a1)] [] (F_X9_firstEnd S a1) := by
  have n2 : 2 < E.2.2 := by rw [hE]; decide
  have n3 : 3 < E.2.2 := by rw [hE]; decide
  unfold F_X9_firstEnd
  refine r_iconst B (-1 : Int32) dX9_firstEnd_0 (by decide) ?_
  refine r_istore_n (lv' := fun x2_1 => [(2, .int x2_1), (0, .ref (g.1 6)), (1, .int a1)]) B dX9_firstEnd_1 rfl n2 (fun _ => rfl) (fun x2_1 => ?_)
  refine r_iconst B (0 : Int32) dX9_firstEnd_2 (by decide) ?_
  refine r_istore_n (lv' := fun x3_3 => [(3, .int x3_3), (2, .int x2_1), (0, .ref (g.1 6)), (1, .int a1)]) B dX9_firstEnd_3 rfl n3 (fun _ => rfl) (fun x3_3 => ?_)
  refine r_sub [2, 3, 1, 0] rfl ?_
  refine xL_X9_firstEnd_4 B hE S a1 _ ?_ 1000 x2_1 x3_3
  intro w2_4
  refine r_iload_n B 0 dX9_firstEnd_50 rfl rfl ?_
  exact r_iret B dX9_firstEnd_51 rfl
set_option maxRecDepth 20000 in
theorem k_X9_firstEnd {l : Launch} {D : va_G} {g : zGx} (hz : zin (WX g)) {S : zSt} {a1 : Int32} {b : Int32} (h : F_X9_firstEnd S a1 = some b) : zMet l D (WX g) (zT g) yX9_firstEnd wsX9_firstEnd rm_X9_firstEnd S [.ref (g.1 6), .int a1] ((eI S) b) := zmet_of (by decide +kernel) rfl hz (Nat.le_of_ble_eq_true rfl) rfl (fun E _ _ hE B => x_X9_firstEnd B hE S a1) h
abbrev rm_X9_mostApart : Room := { frames := 1, cells := 0, slots := 0, locals := 23 }
theorem y_X9_mostApart : yX9_mostApart.cls = RX9 ∧ yX9_mostApart.cls ≠ "java/lang/invoke/MethodHandle" ∧ yX9_mostApart.cls ≠ "java/lang/invoke/VarHandle" ∧ (parseMethodDescriptor yX9_mostApart.desc).map (fun d => d.parameters.length) = some 0 := by decide +kernel
set_option maxRecDepth 100000 in
set_option maxHeartbeats 4000000 in
theorem xL_X9_mostApart_6 {E : zCx} {g : zGx} (B : zGood E (WX g) (zT g) cX9_mostApart RX9 wsX9_mostApart (some .int) rm_X9_mostApart) (hE : E.2.2 = 5) (S : zSt) (k : Int32 → Option Int32) (hk : ∀ (w1 : Int32), Xo E (WX g) (eI S) S 41 [(1, .int w1)] [] (k w1)) : ∀ (n : Nat) (v1_6 : Int32) (v2_6 : Int32) (v3_6 : Int32), Xo E (WX g) (eI S) S 6 [(0, .ref (g.1 6)), (1, .int v1_6), (2, .int v2_6), (3, .int v3_6)] [] (L_X9_mostApart_6 S k n v1_6 v2_6 v3_6) := by
  have n1 : 1 < E.2.2 := by rw [hE]; decide
  have n2 : 2 < E.2.2 := by rw [hE]; decide
  have n3 : 3 < E.2.2 := by rw [hE]; decide
  have n4 : 4 < E.2.2 := by rw [hE]; decide
  intro n
  induction n with
  | zero =>
    intro _ _ _
    exact r_none
  | succ n ih =>
    intro v1_6 v2_6 v3_6
    rw [L_X9_mostApart_6]
    refine r_iload_n B 3 dX9_mostApart_6 rfl rfl ?_
    refine r_bipush B (24 : Int32) dX9_mostApart_7 (by decide) ?_
    refine r_icmp_ge B 41 dX9_mostApart_9 (by decide) (fun _ => ?_) (fun _ => ?_)
    · refine r_sub [1] rfl ?_
      exact hk v1_6
    · refine r_aload_n B 0 dX9_mostApart_12 rfl rfl ?_
      refine r_iload_n B 2 dX9_mostApart_13 rfl rfl ?_
      refine r_cI (zrunV (As := [.int v2_6]) (rest := []) B 1 6 (fun b hb => k_X9_firstEnd B.2.2.1 hb) gX9_mostApart_X9_firstEnd rfl rfl rfl y_X9_firstEnd ⟨Nat.le_of_ble_eq_true rfl, Nat.le_of_ble_eq_true rfl⟩ (Nat.le_of_ble_eq_true rfl) rfl (cX_6 g _) rfl rfl rfl (Nat.le_of_ble_eq_true rfl) dX9_mostApart_14) (fun r14 => ?_)
      refine r_istore (lv' := fun x4_17 => [(4, .int x4_17), (0, .ref (g.1 6)), (1, .int v1_6), (2, .int v2_6), (3, .int v3_6)]) B dX9_mostApart_17 n4 (fun _ => rfl) (fun x4_17 => ?_)
      refine r_iload B 0 dX9_mostApart_19 rfl ?_
      refine r_iconst B (-1 : Int32) dX9_mostApart_21 (by decide) ?_
      refine r_icmp_ne B 27 dX9_mostApart_22 (by decide) (fun _ => ?_) (fun _ => ?_)
      · refine r_iinc (lv' := fun x1_27 => [(1, .int x1_27), (4, .int x4_17), (0, .ref (g.1 6)), (2, .int v2_6), (3, .int v3_6)]) B 2 (1 : Int32) dX9_mostApart_27 rfl (by decide) n1 (fun _ => rfl) (fun x1_27 => ?_)
        refine r_iload B 1 dX9_mostApart_30 rfl ?_
        refine r_iconst B (1 : Int32) dX9_mostApart_32 (by decide) ?_
        refine r_iadd B dX9_mostApart_33 ?_
        refine r_istore_n (lv' := fun x2_34 => [(2, .int x2_34), (1, .int x1_27), (4, .int x4_17), (0, .ref (g.1 6)), (3, .int v3_6)]) B dX9_mostApart_34 rfl n2 (fun _ => rfl) (fun x2_34 => ?_)
        refine r_iinc (lv' := fun x3_35 => [(3, .int x3_35), (2, .int x2_34), (1, .int x1_27), (4, .int x4_17), (0, .ref (g.1 6))]) B 4 (1 : Int32) dX9_mostApart_35 rfl (by decide) n3 (fun _ => rfl) (fun x3_35 => ?_)
        refine r_goto B 6 dX9_mostApart_38 (by decide) ?_
        refine r_sub [4, 2, 1, 0] rfl ?_
        exact ih x1_27 x2_34 x3_35
      · refine r_iload_n B 2 dX9_mostApart_25 rfl rfl ?_
        exact r_iret B dX9_mostApart_26 rfl
set_option maxRecDepth 100000 in
set_option maxHeartbeats 4000000 in
theorem x_X9_mostApart {E : zCx} {g : zGx} (B : zGood E (WX g) (zT g) cX9_mostApart RX9 wsX9_mostApart (some .int) rm_X9_mostApart) (hE : E.2.2 = 5) (S : zSt) : Xo E (WX g) (eI S) S 0 [(0, .ref (g.1 6))] [] (F_X9_mostApart S) := by
  have n1 : 1 < E.2.2 := by rw [hE]; decide
  have n2 : 2 < E.2.2 := by rw [hE]; decide
  have n3 : 3 < E.2.2 := by rw [hE]; decide
  have n4 : 4 < E.2.2 := by rw [hE]; decide
  unfold F_X9_mostApart
  refine r_iconst B (0 : Int32) dX9_mostApart_0 (by decide) ?_
  refine r_istore_n (lv' := fun x1_1 => [(1, .int x1_1), (0, .ref (g.1 6))]) B dX9_mostApart_1 rfl n1 (fun _ => rfl) (fun x1_1 => ?_)
  refine r_iconst B (0 : Int32) dX9_mostApart_2 (by decide) ?_
  refine r_istore_n (lv' := fun x2_3 => [(2, .int x2_3), (1, .int x1_1), (0, .ref (g.1 6))]) B dX9_mostApart_3 rfl n2 (fun _ => rfl) (fun x2_3 => ?_)
  refine r_iconst B (0 : Int32) dX9_mostApart_4 (by decide) ?_
  refine r_istore_n (lv' := fun x3_5 => [(3, .int x3_5), (2, .int x2_3), (1, .int x1_1), (0, .ref (g.1 6))]) B dX9_mostApart_5 rfl n3 (fun _ => rfl) (fun x3_5 => ?_)
  refine r_sub [3, 2, 1, 0] rfl ?_
  refine xL_X9_mostApart_6 B hE S _ ?_ 1000 x1_1 x2_3 x3_5
  intro w1_6
  refine r_iload_n B 0 dX9_mostApart_41 rfl rfl ?_
  exact r_iret B dX9_mostApart_42 rfl
set_option maxRecDepth 20000 in
theorem k_X9_mostApart {l : Launch} {D : va_G} {g : zGx} (hz : zin (WX g)) {S : zSt} {b : Int32} (h : F_X9_mostApart S = some b) : zMet l D (WX g) (zT g) yX9_mostApart wsX9_mostApart rm_X9_mostApart S [.ref (g.1 6)] ((eI S) b) := zmet_of (by decide +kernel) rfl hz (Nat.le_of_ble_eq_true rfl) rfl (fun E _ _ hE B => x_X9_mostApart B hE S) h
